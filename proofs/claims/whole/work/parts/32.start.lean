theorem zw_Nof {w : Cond} (h : zw_isN w = true) {A : Array Value} {U : State} (hb : w.before A U = true) : va_Nw w U := by
  unfold zw_isN at h
  split at h
  · exact va_Nw.of rfl hb
  · exact va_Nw.of rfl hb
  · exact va_AO.of hb
  · cases h
set_option maxHeartbeats 4000000 in
set_option maxRecDepth 100000 in
theorem whole_start {p : Program} {e : Env} {s : State} {m : MethodId} {below : List Frame} {meth : Method} {c : Code} (l : Launch) {b L : Nat} {xs : Nat → Int32} (hL : L ≤ 2560) (C0 : lw_At p s m meth c b L xs) : W p l e room_1 s m #[Value.ref b] below meth c s.heap [] 0 0 (lw_Z below #[Value.ref b] s) (entryFrame m ([Value.ref b] : List Value).toArray 4) := by
  obtain ⟨hx, hb, hr, hml, hown, hts, hX, hbl, hlocks, hgv⟩ := id C0
  have hown : s.vm.findClass RzW = some m.cls := hown
  have hz : ∀ w ∈ zw_T, w.before #[Value.ref b] s = true := fun w h => hts w (zw_sub w h)
  have hA : ∀ q : Nat, s.heap.size ≤ q → (fun q : Nat => s.heap.size ≤ q) q := fun _ h => h
  have hN : zw_N zw_ns s := fun w hw => zw_Nof (zw_ns_ok w hw) (hts w (zw_nsub w hw))
  obtain ⟨k0, iS0, hKn0⟩ := u_known (C := RzB) (T := TzB) (N := 9) (n := 9) hz inzB (hz _ zi_82)
  obtain ⟨k1, iS1, hKn1⟩ := u_known (C := RzT) (T := TzT) (N := 2) (n := 2) hz inzT (hz _ zi_48)
  obtain ⟨k2, iS2, hKn2⟩ := u_known (C := RzL) (T := TzL) (N := 9) (n := 9) hz inzL (hz _ zi_39)
  obtain ⟨k3, iS3, hKn3⟩ := u_known (C := RzM) (T := TzM) (N := 18) (n := 18) hz inzM (hz _ zi_231)
  obtain ⟨dC, dI, hKc⟩ : ∃ (dC : Nat → ClassId) (dI : Nat → Nat → Nat), ∀ (k : Nat) (q : vw_C), vwCl[k]? = some q → u_Kn s q.1 q.2.1 q.2.2 (dC k) (dI k) := by
    refine ⟨fun k => if k = 0 then k0 else if k = 1 then k1 else if k = 2 then k2 else k3, fun k => if k = 0 then iS0 else if k = 1 then iS1 else if k = 2 then iS2 else iS3, ?_⟩
    intro k q hq
    match k, hq with
    | 0, hq => cases hq; exact hKn0
    | 1, hq => cases hq; exact hKn1
    | 2, hq => cases hq; exact hKn2
    | 3, hq => cases hq; exact hKn3
    | k + 4, hq => simp [vwCl] at hq
  have hS : va_S (fun q : Nat => s.heap.size ≤ q) s.heap s.heap [] := va_S.rf
  have hK : va_K (dC, dI) vwCl [] s := ⟨hKc, fun k q h => by simp at h⟩
  have hP : va_P (dC, dI) vwCl [] s.heap := fun k q h => by simp at h
  have hD : va_D (fun q : Nat => s.heap.size ≤ q) [] := ⟨fun i j p q h => by simp at h, fun k q h => by simp at h⟩
  have hl := lv_entry ([.ref b]) (n := 4) (Nat.le_of_ble_eq_true rfl)
  rw [lg_entry_eq]
  generalize (lg_sl ([.ref b]) ++ List.replicate (4 - (lg_sl ([.ref b])).length) Slot.unset).toArray = ls at hl ⊢
  have hl : lv_has ls 4 [(0, .ref b)] := hl
  refine va_new (ci := 2) (fs := [.null, .int 0, .null, .null, .int 0, .long 0, .int 0, .int 0, .long 0]) (C := RzL) (T := TzL) (N := 9) hx hb hz inzL tyzL tyzL_ok hown (hz _ zi_38) (hz _ zi_39) (hz _ zi_33) hK hP hD hS hA rfl (fun j hj => by rcases (show j = 0 ∨ j = 1 ∨ j = 2 ∨ j = 3 ∨ j = 4 ∨ j = 5 ∨ j = 6 ∨ j = 7 ∨ j = 8 by omega) with rfl | rfl | rfl | rfl | rfl | rfl | rfl | rfl | rfl <;> rfl) (Nat.le_of_ble_eq_true rfl) (Nat.le_of_ble_eq_true rfl) dz_W_law_0 (fun h0 H hP hD hS => ?_)
  have hP : va_P (dC, dI) vwCl [(h0, .inr (2, [.null, .int 0, .null, .null, .int 0, .long 0, .int 0, .int 0, .long 0]))] H := hP
  have hD : va_D (fun q : Nat => s.heap.size ≤ q) [(h0, .inr (2, [.null, .int 0, .null, .null, .int 0, .long 0, .int 0, .int 0, .long 0]))] := hD
  refine W.widen (k := 1) (n := 9) (by omega) (by omega) ?_
  refine lv_dup hx hb dz_W_law_3 rfl ?_
  have hFc := zw_free hS hA hD
  refine va_callv (va_runI (As := []) (rest := [.ref h0]) ⟨hx, hb, hml, hown, hz⟩ (ct_L_init l dC dI h0 H.size) (cwI 0 hz (zw_g1 zi_42) rfl rfl rfl (hz _ zi_33) (hz _ zi_40) (hz _ zi_41) rfl (by decide +kernel) ⟨Nat.le_of_ble_eq_true rfl, Nat.le_of_ble_eq_true rfl⟩) (zw_preU zw_ns_ok hP hD hK hN) rfl rfl hl.1 rfl (lv_room (Nat.le_of_ble_eq_true rfl)) dz_W_law_4 ⟨Nat.le_of_ble_eq_true rfl, Nat.le_of_ble_eq_true rfl⟩) hS (fun q _ h => hFc q h) hFc (fun u t H locs ht hvm hw hB hz1 hk1 hS => ?_)
  obtain ⟨a, cq, ci⟩ := u
  obtain ⟨hP1, hK1, hD1⟩ := hB
  rw [ht] at hP1
  have hP : va_P (dC, dI) vwCl (zl_W cq ci h0 a zl_new) H := hP1
  have hD : va_D (fun q : Nat => s.heap.size ≤ q) (zl_W cq ci h0 a zl_new) := hD1.weaken (fun _ q _ h => hFc q.1 h)
  have hKl : va_K (dC, dI) vwCl (zl_tys cq ci) s := va_K.moved hvm.symm hK1
  refine W.widen (k := 5) (n := 371) (by omega) (by omega) ?_
  refine lv_astore_n (lv' := [(1, .ref h0), (0, .ref b)]) hx hb dz_W_law_7 rfl hl (by decide) rfl (fun ls hl => ?_)
  refine va_new (ci := 3) (fs := [.int 0, .null, .null, .null, .null, .null, .null, .null, .null, .null, .long 0, .int 0, .int 0, .long 0, .int 0, .null, .int 0, .null]) (C := RzM) (T := TzM) (N := 18) hx hb hz inzM tyzM tyzM_ok hown (hz _ zi_230) (hz _ zi_231) (hz _ zi_35) hK hP hD hS hA rfl (fun j hj => by rcases (show j = 0 ∨ j = 1 ∨ j = 2 ∨ j = 3 ∨ j = 4 ∨ j = 5 ∨ j = 6 ∨ j = 7 ∨ j = 8 ∨ j = 9 ∨ j = 10 ∨ j = 11 ∨ j = 12 ∨ j = 13 ∨ j = 14 ∨ j = 15 ∨ j = 16 ∨ j = 17 by omega) with rfl | rfl | rfl | rfl | rfl | rfl | rfl | rfl | rfl | rfl | rfl | rfl | rfl | rfl | rfl | rfl | rfl | rfl <;> rfl) (Nat.le_of_ble_eq_true rfl) (Nat.le_of_ble_eq_true rfl) dz_W_law_8 (fun g0 H hP hD hS => ?_)
  refine W.widen (k := 6) (n := 389) (by omega) (by omega) ?_
  refine lv_dup hx hb dz_W_law_11 rfl ?_
  obtain ⟨hPs, hDs⟩ := zw_swap ⟨hP, hD⟩
  have hPc : va_P (dC, dI) vwCl [(g0, .inr (3, [.int 0, .null, .null, .null, .null, .null, .null, .null, .null, .null, .long 0, .int 0, .int 0, .long 0, .int 0, .null, .int 0, .null]))] H := zw_left hPs
  have hDc : va_D (fun q : Nat => s.heap.size ≤ q) [(g0, .inr (3, [.int 0, .null, .null, .null, .null, .null, .null, .null, .null, .null, .long 0, .int 0, .int 0, .long 0, .int 0, .null, .int 0, .null]))] := zw_leftD hDs
  have hFc := zw_free hS hA hDc
  refine va_callv (va_runI (As := []) (rest := [.ref g0]) ⟨hx, hb, hml, hown, hz⟩ (ct_M_init l dC dI g0 H.size) (cwI 0 hz (zw_g1 zi_234) rfl rfl rfl (hz _ zi_35) (hz _ zi_232) (hz _ zi_233) rfl (by decide +kernel) ⟨Nat.le_of_ble_eq_true rfl, Nat.le_of_ble_eq_true rfl⟩) (zw_preU zw_ns_ok hPc hDc hK hN) rfl rfl hl.1 rfl (lv_room (Nat.le_of_ble_eq_true rfl)) dz_W_law_12 ⟨Nat.le_of_ble_eq_true rfl, Nat.le_of_ble_eq_true rfl⟩) hS (fun q _ h => hFc q h) hFc (fun u t H locs ht hvm hw hB hz1 hk1 hS => ?_)
  obtain ⟨am, c1, cj, cz⟩ := u
  obtain ⟨hP1, hK1, hD1⟩ := hB
  rw [ht] at hP1
  have hP1 : va_P (dC, dI) vwCl (zm_W c1 cj cz g0 am zm_new) H := hP1
  have hKm : va_K (dC, dI) vwCl (zm_tys c1 cj cz) s := va_K.moved hvm.symm hK1
  obtain ⟨hP, hD⟩ := zw_joinL hPs hDs hk1 hFc hP1 hD1
  obtain ⟨hP, hD⟩ := zw_swap ⟨hP, hD⟩
  refine W.widen (k := 17) (n := 1238) (by omega) (by omega) ?_
  refine lv_astore_n (lv' := [(2, .ref g0), (1, .ref h0), (0, .ref b)]) hx hb dz_W_law_15 rfl hl (by decide) rfl (fun ls hl => ?_)
  refine lv_iconst (v := nI (5 * 0)) hx hb dz_W_law_16 (by decide) ?_
  refine lv_istore_n (lv' := [(3, .int (nI (5 * 0))), (2, .ref g0), (1, .ref h0), (0, .ref b)]) hx hb dz_W_law_17 rfl hl (by decide) rfl (fun ls hl => ?_)
  exact law_loop hL C0 hKl hKm hN (L + 1) 0 zl_new zm_new a H locs ls (by omega) (by omega) zr_new hP hD hS (lv_sub hl [3, 2, 1, 0] rfl)

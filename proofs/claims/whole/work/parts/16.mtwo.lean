set_option maxHeartbeats 4000000 in
set_option maxRecDepth 100000 in
theorem ct_M_code (l : Launch) (dC : Nat → ClassId) (dI : Nat → Nat → Nat) (ci cj cz : ClassId) (h0 : Nat) (a : zm_Ad) (M : zm_S) (hok : zm_ok M) (p1 : Int32) : Met l yz_M_code wz_M_code (zw_room 1 0 0) (zw_R zw_ns (dC, dI) vwCl (zm_tys ci cj cz) [.ref h0, .int p1] (zm_W ci cj cz h0 a M)) (vp_Si (fun r => r = zm_code M p1)) 0 0 (fun _ => False) := by
  refine Met.ofW (cc := cz_M_code) (maxL := 3) (ret := (some .int)) (by decide) rfl ?_
  intro p e s m args below meth c s₁ B hml hv
  obtain ⟨rfl, hP, hK, hN⟩ := hv
  have hx := B.exec
  have hb := B.bytes
  have hr := B.returns
  have hts := atoms_spec (ws := wz_M_code) B.pre
  have hz : ∀ w ∈ zw_T, w.before ([.ref h0, .int p1] : List Value).toArray s = true := fun w h => hts w (List.mem_cons_of_mem _ h)
  have hown : s.vm.findClass RzM = some m.cls := findClass_of_methodNamed B.named
  have hlocks := B.notSynchronized
  have hok0 := hok
  have hl := lv_entry ([.ref h0, .int p1]) (n := 3) (Nat.le_of_ble_eq_true rfl)
  rw [lg_entry_eq]
  generalize (lg_sl ([.ref h0, .int p1]) ++ List.replicate (3 - (lg_sl ([.ref h0, .int p1])).length) Slot.unset).toArray = ls at hl ⊢
  have hl : lv_has ls 3 [(0, .ref h0), (1, .int p1)] := hl
  refine lv_iload_n hx hb dz_M_code_0 rfl (lv_at hl 1 rfl) ?_
  refine lv_i2l (v := p1.toInt64) hx hb dz_M_code_1 rfl ?_
  refine lv_lconst (v := 1) hx hb dz_M_code_2 (by decide) ?_
  refine lv_ldc2 (v := 9999) hx hb hown (hz _ zi_299) dz_M_code_3 ?_
  refine vp_callSi (va_Run.run (va_runS (As := [.long p1.toInt64, .long 1, .long 9999]) (rest := []) ⟨hx, hb, hml, hown, hz⟩ (ct_M_within l dC dI ci cj cz p1.toInt64 1 9999) (cwS 3 hz (zw_gS zi_279 zi_280 zi_35 zi_281) rfl rfl rfl (by decide +kernel) ⟨Nat.le_of_ble_eq_true rfl, Nat.le_of_ble_eq_true rfl⟩) (zw_preR zw_ns_ok (ws := []) (fun k q h => by simp at h) hK hN) rfl rfl hl.1 rfl (lv_room (Nat.le_of_ble_eq_true rfl)) dz_M_code_6 ⟨Nat.le_of_ble_eq_true rfl, Nat.le_of_ble_eq_true rfl⟩)) (fun r_1 hr_1 => ?_)
  have hr_1 : r_1 = zm_within p1.toInt64 1 9999 := hr_1
  subst hr_1
  refine lv_if_ne (tgt := 15) hx hb dz_M_code_9 (by decide) (fun c_2 => ?_) (fun c_2 => ?_)
  · refine lv_iconst (v := nI (0 + 1)) hx hb dz_M_code_15 (by decide) ?_
    refine lv_istore_n (lv' := [(2, .int (nI (0 + 1))), (0, .ref h0), (1, .int p1)]) hx hb dz_M_code_16 rfl hl (by decide) rfl (fun ls hl => ?_)
    have loop : ∀ (k j : Nat) (ls : Array Slot), j + k = zm_nb M → zm_cd M p1 (zm_nb M) 0 = zm_cd M p1 k j → lv_has ls 3 [(2, .int (nI (j + 1))), (0, .ref h0), (1, .int p1)] → W p l e (headSpec wz_M_code (zw_room 1 0 0)).room s m ([.ref h0, .int p1] : List Value).toArray below meth c s.heap [] 0 0 (MQ below (vp_Si (fun r => r = zm_code M p1)) ([.ref h0, .int p1] : List Value).toArray s 0 0 (fun _ => False)) (F0 m 17 ls []) := by
      intro k
      induction k with
      | zero =>
        intro j ls hjk hinv hl
        refine lv_iload_n hx hb dz_M_code_17 rfl (lv_at hl 0 rfl) ?_
        refine lv_aload_n hx hb dz_M_code_18 rfl (lv_at hl 1 rfl) ?_
        refine va_get (D := (dC, dI)) (ci := 3) (v := .int (nI (zm_nb M))) (C := RzM) (T := TzM) (N := 18) hx hb hz inzM hown hK hP 0 rfl rfl 0 (by decide) (hz _ zi_236) (fun _ h9 => h9) rfl dz_M_code_19 ?_
        refine lv_icmp_gt (tgt := 48) hx hb dz_M_code_22 (by decide) (fun c_3 => ?_) (fun c_3 => ?_)
        · refine lv_iconst (v := -1) hx hb dz_M_code_48 (by decide) ?_
          exact W.iret (v := (-1)) hx hb hr (fun t ht hW => ⟨_, rfl, by simp only [zm_code, if_neg c_2]; rw [hinv]; rfl, ht⟩) (fun _ h => by cases h) dz_M_code_49
        · exact absurd (nI_lt (by omega) (by have := hok.1; omega)) c_3
      | succ k ih =>
        intro j ls hjk hinv hl
        have hj : j < zm_nb M := by omega
        refine lv_iload_n hx hb dz_M_code_17 rfl (lv_at hl 0 rfl) ?_
        refine lv_aload_n hx hb dz_M_code_18 rfl (lv_at hl 1 rfl) ?_
        refine va_get (D := (dC, dI)) (ci := 3) (v := .int (nI (zm_nb M))) (C := RzM) (T := TzM) (N := 18) hx hb hz inzM hown hK hP 0 rfl rfl 0 (by decide) (hz _ zi_236) (fun _ h9 => h9) rfl dz_M_code_19 ?_
        refine lv_icmp_gt (tgt := 48) hx hb dz_M_code_22 (by decide) (fun c_4 => ?_) (fun c_4 => ?_)
        · exact absurd c_4 (nI_nlt (by omega) (by have := hok.1; omega))
        · refine lv_aload_n hx hb dz_M_code_25 rfl (lv_at hl 1 rfl) ?_
          refine va_get (D := (dC, dI)) (ci := 3) (v := .ref a.2.2.2.2.1) (C := RzM) (T := TzM) (N := 18) hx hb hz inzM hown hK hP 0 rfl rfl 5 (by decide) (hz _ zi_241) (fun _ h9 => h9) rfl dz_M_code_26 ?_
          refine lv_iload_n hx hb dz_M_code_29 rfl (lv_at hl 0 rfl) ?_
          have hin_5 : vp_in (nI (j + 1)) 61 := vp_in_nI (by have := hok.1; omega) (by decide)
          refine va_iald hx hb hK hP 5 0 rfl rfl hin_5 dz_M_code_30 ?_
          refine W.eq (g2 := F0 m 31 ls [.int (zm_it M (j + 1))]) (congrArg (fun z => F0 m 31 ls (.int ((zm_it M) z) :: [])) (nI_clamp (by have := hok.1; have := hok.2.1; have := hok.2.2; omega))) ?_
          refine lv_iload_n hx hb dz_M_code_31 rfl (lv_at hl 2 rfl) ?_
          refine lv_icmp_ne (tgt := 42) hx hb dz_M_code_32 (by decide) (fun c_6 => ?_) (fun c_6 => ?_)
          · refine lv_iinc (v := nI (j + 1 + 1)) (lv' := [(2, .int (nI (j + 1 + 1))), (0, .ref h0), (1, .int p1)]) hx hb dz_M_code_42 hl (k := 0) rfl (nI_1 _) (by decide) rfl (fun ls hl => ?_)
            refine lv_goto (tgt := 17) hx hb dz_M_code_45 (by decide) ?_
            exact ih (j + 1) ls (by omega) (by rw [hinv]; simp only [zm_cd, if_neg c_6]) (lv_sub hl [0, 1, 2] rfl)
          · refine lv_aload_n hx hb dz_M_code_35 rfl (lv_at hl 1 rfl) ?_
            refine va_get (D := (dC, dI)) (ci := 3) (v := .ref a.2.2.2.2.2.1) (C := RzM) (T := TzM) (N := 18) hx hb hz inzM hown hK hP 0 rfl rfl 6 (by decide) (hz _ zi_242) (fun _ h9 => h9) rfl dz_M_code_36 ?_
            refine lv_iload_n hx hb dz_M_code_39 rfl (lv_at hl 0 rfl) ?_
            have hin_7 : vp_in (nI (j + 1)) 61 := vp_in_nI (by have := hok.1; omega) (by decide)
            refine va_iald hx hb hK hP 6 0 rfl rfl hin_7 dz_M_code_40 ?_
            refine W.eq (g2 := F0 m 41 ls [.int (zm_co M (j + 1))]) (congrArg (fun z => F0 m 41 ls (.int ((zm_co M) z) :: [])) (nI_clamp (by have := hok.1; have := hok.2.1; have := hok.2.2; omega))) ?_
            exact W.iret (v := zm_co M (j + 1)) hx hb hr (fun t ht hW => ⟨_, rfl, by simp only [zm_code, if_neg c_2]; rw [hinv]; simp only [zm_cd, if_pos c_6], ht⟩) (fun _ h => by cases h) dz_M_code_41
    exact loop (zm_nb M) 0 ls (by omega) rfl (lv_sub hl [0, 1, 2] rfl)
  · refine lv_bipush (v := -12) hx hb dz_M_code_12 (by decide) ?_
    exact W.iret (v := (-12)) hx hb hr (fun t ht hW => ⟨_, rfl, by simp only [zm_code, if_pos c_2], ht⟩) (fun _ h => by cases h) dz_M_code_14
set_option maxHeartbeats 4000000 in
set_option maxRecDepth 100000 in
theorem ct_M_put (l : Launch) (dC : Nat → ClassId) (dI : Nat → Nat → Nat) (ci cj cz : ClassId) (h0 : Nat) (a : zm_Ad) (M : zm_S) (hok : zm_ok M) (sz : Nat) (p1 : Int32) (p2 : Int32) (p3 : Int64) : Met l yz_M_put wz_M_put (zw_room 2 0 0) (zw_U zw_ns (dC, dI) vwCl (zm_tys ci cj cz) [.ref h0, .int p1, .int p2, .long p3] (zm_W ci cj cz h0 a M) sz) (va_Qi (fun (r : Int32) (_ : Unit) => r = (zm_put M p1 p2 p3).1) (fun (_ : Unit) (t : State) => va_P (dC, dI) vwCl (zm_W ci cj cz h0 a ((zm_put M p1 p2 p3).2)) t.heap ∧ va_D (va_A (zm_W ci cj cz h0 a M) sz) (zm_W ci cj cz h0 a ((zm_put M p1 p2 p3).2))) (va_A (zm_W ci cj cz h0 a M) sz)) 0 0 (va_A (zm_W ci cj cz h0 a M) sz) := by
  refine Met.ofW (cc := cz_M_put) (maxL := 7) (ret := (some .int)) (by decide) rfl ?_
  intro p e s m args below meth c s₁ B hml hv
  obtain ⟨rfl, hsz, hP, hK, hD0, hN⟩ := hv
  have hx := B.exec
  have hb := B.bytes
  have hr := B.returns
  have hts := atoms_spec (ws := wz_M_put) B.pre
  have hz : ∀ w ∈ zw_T, w.before ([.ref h0, .int p1, .int p2, .long p3] : List Value).toArray s = true := fun w h => hts w (List.mem_cons_of_mem _ h)
  have hown : s.vm.findClass RzM = some m.cls := findClass_of_methodNamed B.named
  have hlocks := B.notSynchronized
  have hok0 := hok
  subst hsz
  have hD := hD0.self (sz := s.heap.size)
  generalize hAe : va_A (zm_W ci cj cz h0 a M) s.heap.size = A at hD ⊢
  have hA : ∀ q : Nat, s.heap.size ≤ q → A q := fun q h => by rw [← hAe]; exact Or.inr h
  have hS : va_S A s.heap s.heap [] := va_S.rf
  have hl := lv_entry ([.ref h0, .int p1, .int p2, .long p3]) (n := 7) (Nat.le_of_ble_eq_true rfl)
  rw [lg_entry_eq]
  generalize (lg_sl ([.ref h0, .int p1, .int p2, .long p3]) ++ List.replicate (7 - (lg_sl ([.ref h0, .int p1, .int p2, .long p3])).length) Slot.unset).toArray = ls at hl ⊢
  have hl : lv_has ls 7 [(0, .ref h0), (1, .int p1), (2, .int p2), (3, .long p3)] := hl
  refine lv_aload_n hx hb dz_M_put_0 rfl (lv_at hl 0 rfl) ?_
  refine lv_iload_n hx hb dz_M_put_1 rfl (lv_at hl 1 rfl) ?_
  refine vp_callSi (va_Run.run (va_runV (As := [.int p1]) (rest := []) ⟨hx, hb, hml, hown, hz⟩ (ct_M_isBox l dC dI ci cj cz h0 a M hok p1) (cwV 1 hz (zw_gV zi_296 zi_297 zi_26 zi_35 zi_298) rfl rfl rfl (by decide +kernel) ⟨Nat.le_of_ble_eq_true rfl, Nat.le_of_ble_eq_true rfl⟩) (zw_preRV zw_ns_ok hP hK hN (ci := 3) rfl (k := 0) rfl) rfl rfl hl.1 rfl (lv_room (Nat.le_of_ble_eq_true rfl)) dz_M_put_2 ⟨Nat.le_of_ble_eq_true rfl, Nat.le_of_ble_eq_true rfl⟩)) (fun r_1 hr_1 => ?_)
  have hr_1 : r_1 = zm_isBox M p1 := hr_1
  subst hr_1
  refine lv_if_ne (tgt := 11) hx hb dz_M_put_5 (by decide) (fun c_2 => ?_) (fun c_2 => ?_)
  · refine lv_iload_n hx hb dz_M_put_11 rfl (lv_at hl 2 rfl) ?_
    refine lv_i2l (v := p2.toInt64) hx hb dz_M_put_12 rfl ?_
    refine lv_lconst (v := 1) hx hb dz_M_put_13 (by decide) ?_
    refine lv_ldc2 (v := 9999) hx hb hown (hz _ zi_299) dz_M_put_14 ?_
    refine vp_callSi (va_Run.run (va_runS (As := [.long p2.toInt64, .long 1, .long 9999]) (rest := []) ⟨hx, hb, hml, hown, hz⟩ (ct_M_within l dC dI ci cj cz p2.toInt64 1 9999) (cwS 3 hz (zw_gS zi_279 zi_280 zi_35 zi_281) rfl rfl rfl (by decide +kernel) ⟨Nat.le_of_ble_eq_true rfl, Nat.le_of_ble_eq_true rfl⟩) (zw_preR zw_ns_ok (ws := []) (fun k q h => by simp at h) hK hN) rfl rfl hl.1 rfl (lv_room (Nat.le_of_ble_eq_true rfl)) dz_M_put_17 ⟨Nat.le_of_ble_eq_true rfl, Nat.le_of_ble_eq_true rfl⟩)) (fun r_3 hr_3 => ?_)
    have hr_3 : r_3 = zm_within p2.toInt64 1 9999 := hr_3
    subst hr_3
    refine lv_if_eq (tgt := 31) hx hb dz_M_put_20 (by decide) (fun c_4 => ?_) (fun c_4 => ?_)
    · refine lv_bipush (v := -12) hx hb dz_M_put_31 (by decide) ?_
      have hE_5 : zm_put M p1 p2 p3 = ((-12), M) := by simp only [zm_put, if_neg c_2, if_pos c_4]
      exact W.iret (v := (-12)) hx hb hr (fun t ht hW => ⟨⟨_, (), rfl, by show (-12) = (zm_put M p1 p2 p3).1; rw [hE_5], by show va_P (dC, dI) vwCl (zm_W ci cj cz h0 a ((zm_put M p1 p2 p3).2)) t.heap; rw [ht, hE_5]; exact hP, by show va_D A (zm_W ci cj cz h0 a ((zm_put M p1 p2 p3).2)); rw [hE_5]; exact hD⟩, hS.F ht⟩) hS.2.2 dz_M_put_33
    · refine lv_aload_n hx hb dz_M_put_23 rfl (lv_at hl 0 rfl) ?_
      refine lv_lload_n hx hb dz_M_put_24 rfl (lv_at hl 3 rfl) ?_
      refine vp_callSi (va_Run.run (va_runV (As := [.long p3]) (rest := []) ⟨hx, hb, hml, hown, hz⟩ (ct_M_isNoTime l dC dI ci cj cz h0 a M hok p3) (cwV 1 hz (zw_gV zi_300 zi_301 zi_27 zi_35 zi_302) rfl rfl rfl (by decide +kernel) ⟨Nat.le_of_ble_eq_true rfl, Nat.le_of_ble_eq_true rfl⟩) (zw_preRV zw_ns_ok hP hK hN (ci := 3) rfl (k := 0) rfl) rfl rfl hl.1 rfl (lv_room (Nat.le_of_ble_eq_true rfl)) dz_M_put_25 ⟨Nat.le_of_ble_eq_true rfl, Nat.le_of_ble_eq_true rfl⟩)) (fun r_6 hr_6 => ?_)
      have hr_6 : r_6 = zm_isNo M p3 := hr_6
      subst hr_6
      refine lv_if_eq (tgt := 34) hx hb dz_M_put_28 (by decide) (fun c_7 => ?_) (fun c_7 => ?_)
      · refine lv_aload_n hx hb dz_M_put_34 rfl (lv_at hl 0 rfl) ?_
        refine lv_lload_n hx hb dz_M_put_35 rfl (lv_at hl 3 rfl) ?_
        have hFc := zw_free hS hA hD
        refine va_callv (va_runV (As := [.long p3]) (rest := []) ⟨hx, hb, hml, hown, hz⟩ (ct_M_pass l dC dI ci cj cz h0 a M hok s.heap.size p3) (cwV 1 hz (zw_gV zi_303 zi_304 zi_28 zi_35 zi_305) rfl rfl rfl (by decide +kernel) ⟨Nat.le_of_ble_eq_true rfl, Nat.le_of_ble_eq_true rfl⟩) (zw_preUV zw_ns_ok hP hD hK hN (ci := 3) rfl (k := 0) rfl) rfl rfl hl.1 rfl (lv_room (Nat.le_of_ble_eq_true rfl)) dz_M_put_36 ⟨Nat.le_of_ble_eq_true rfl, Nat.le_of_ble_eq_true rfl⟩) hS (fun q _ h => hFc q h) hFc (fun u_8 t_8 H locs ht hvm hw hB hz1 hk1 hS => ?_)
        obtain ⟨hP, hD⟩ := hB
        rw [ht] at hP
        have hD := hD.weaken (fun _ q _ h => hFc q.1 h)
        obtain ⟨S_9, eS_9⟩ : ∃ z, z = (zm_pass M p3) := ⟨_, rfl⟩
        rw [← eS_9] at hP hD
        have hok : zm_ok S_9 := by rw [eS_9]; exact zm_ok_pass hok
        refine lv_iconst (v := 0) hx hb dz_M_put_39 (by decide) ?_
        refine lv_istore (lv' := [(5, .int 0), (0, .ref h0), (1, .int p1), (2, .int p2), (3, .long p3)]) hx hb dz_M_put_40 hl (by decide) rfl (fun ls hl => ?_)
        refine lv_iconst (v := nI (0 + 1)) hx hb dz_M_put_42 (by decide) ?_
        refine lv_istore (lv' := [(6, .int (nI (0 + 1))), (5, .int 0), (0, .ref h0), (1, .int p1), (2, .int p2), (3, .long p3)]) hx hb dz_M_put_43 hl (by decide) rfl (fun ls hl => ?_)
        have loop : ∀ (k j : Nat) (iv : Int32) (ls : Array Slot), j + k = zm_nb S_9 → zm_in S_9 p2 (zm_nb S_9) 0 0 = zm_in S_9 p2 k j iv → lv_has ls 7 [(6, .int (nI (j + 1))), (5, .int iv), (0, .ref h0), (1, .int p1), (2, .int p2), (3, .long p3)] → W p l e (headSpec wz_M_put (zw_room 2 0 0)).room s m ([.ref h0, .int p1, .int p2, .long p3] : List Value).toArray below meth c H locs 0 0 (MQ below (va_Qi (fun (r : Int32) (_ : Unit) => r = (zm_put M p1 p2 p3).1) (fun (_ : Unit) (t : State) => va_P (dC, dI) vwCl (zm_W ci cj cz h0 a ((zm_put M p1 p2 p3).2)) t.heap ∧ va_D A (zm_W ci cj cz h0 a ((zm_put M p1 p2 p3).2))) A) ([.ref h0, .int p1, .int p2, .long p3] : List Value).toArray s 0 0 A) (F0 m 45 ls []) := by
          intro k
          induction k with
          | zero =>
            intro j iv ls hjk hinv hl
            refine lv_iload hx hb dz_M_put_45 (lv_at hl 0 rfl) ?_
            refine lv_aload_n hx hb dz_M_put_47 rfl (lv_at hl 2 rfl) ?_
            refine va_get (D := (dC, dI)) (ci := 3) (v := .int (nI (zm_nb S_9))) (C := RzM) (T := TzM) (N := 18) hx hb hz inzM hown hK hP 0 rfl rfl 0 (by decide) (hz _ zi_236) (fun _ h9 => h9) rfl dz_M_put_48 ?_
            refine lv_icmp_gt (tgt := 83) hx hb dz_M_put_51 (by decide) (fun c_10 => ?_) (fun c_10 => ?_)
            · have hinv : zm_in S_9 p2 (zm_nb S_9) 0 0 = iv := hinv
              subst hinv
              refine lv_aload_n hx hb dz_M_put_83 rfl (lv_at hl 2 rfl) ?_
              refine va_get (D := (dC, dI)) (ci := 3) (v := .ref a.2.1) (C := RzM) (T := TzM) (N := 18) hx hb hz inzM hown hK hP 0 rfl rfl 2 (by decide) (hz _ zi_238) (fun _ h9 => h9) rfl dz_M_put_84 ?_
              refine lv_iload_n hx hb dz_M_put_87 rfl (lv_at hl 3 rfl) ?_
              have hin_11 : vp_in p1 61 := zm_isBox_in hok0 c_2
              refine va_iald hx hb hK hP 2 0 rfl rfl hin_11 dz_M_put_88 ?_
              refine lv_iconst (v := 1) hx hb dz_M_put_89 (by decide) ?_
              refine lv_icmp_ne (tgt := 107) hx hb dz_M_put_90 (by decide) (fun c_12 => ?_) (fun c_12 => ?_)
              · refine lv_iconst (v := 0) hx hb dz_M_put_107 (by decide) ?_
                have hE_13 : zm_put M p1 p2 p3 = (0, S_9) := by subst eS_9; simp only [zm_put, if_neg c_2, if_neg c_4, if_pos c_7, if_neg c_12]
                exact W.iret (v := 0) hx hb hr (fun t ht hW => ⟨⟨_, (), rfl, by show 0 = (zm_put M p1 p2 p3).1; rw [hE_13], by show va_P (dC, dI) vwCl (zm_W ci cj cz h0 a ((zm_put M p1 p2 p3).2)) t.heap; rw [ht, hE_13]; exact hP, by show va_D A (zm_W ci cj cz h0 a ((zm_put M p1 p2 p3).2)); rw [hE_13]; exact hD⟩, hS.F ht⟩) hS.2.2 dz_M_put_108
              · refine lv_aload_n hx hb dz_M_put_93 rfl (lv_at hl 2 rfl) ?_
                refine va_get (D := (dC, dI)) (ci := 3) (v := .ref a.2.2.2.2.1) (C := RzM) (T := TzM) (N := 18) hx hb hz inzM hown hK hP 0 rfl rfl 5 (by decide) (hz _ zi_241) (fun _ h9 => h9) rfl dz_M_put_94 ?_
                refine lv_iload_n hx hb dz_M_put_97 rfl (lv_at hl 3 rfl) ?_
                have hin_14 : vp_in p1 61 := zm_isBox_in hok0 c_2
                refine va_iald hx hb hK hP 5 0 rfl rfl hin_14 dz_M_put_98 ?_
                refine lv_if_gt (tgt := 107) hx hb dz_M_put_99 (by decide) (fun c_15 => ?_) (fun c_15 => ?_)
                · refine lv_iconst (v := 0) hx hb dz_M_put_107 (by decide) ?_
                  have hE_16 : zm_put M p1 p2 p3 = (0, S_9) := by subst eS_9; simp only [zm_put, if_neg c_2, if_neg c_4, if_pos c_7, if_pos c_12, if_pos c_15]
                  exact W.iret (v := 0) hx hb hr (fun t ht hW => ⟨⟨_, (), rfl, by show 0 = (zm_put M p1 p2 p3).1; rw [hE_16], by show va_P (dC, dI) vwCl (zm_W ci cj cz h0 a ((zm_put M p1 p2 p3).2)) t.heap; rw [ht, hE_16]; exact hP, by show va_D A (zm_W ci cj cz h0 a ((zm_put M p1 p2 p3).2)); rw [hE_16]; exact hD⟩, hS.F ht⟩) hS.2.2 dz_M_put_108
                · refine lv_iload hx hb dz_M_put_102 (lv_at hl 1 rfl) ?_
                  refine lv_if_eq (tgt := 109) hx hb dz_M_put_104 (by decide) (fun c_17 => ?_) (fun c_17 => ?_)
                  · refine lv_aload_n hx hb dz_M_put_109 rfl (lv_at hl 2 rfl) ?_
                    refine va_get (D := (dC, dI)) (ci := 3) (v := .ref a.2.2.2.2.1) (C := RzM) (T := TzM) (N := 18) hx hb hz inzM hown hK hP 0 rfl rfl 5 (by decide) (hz _ zi_241) (fun _ h9 => h9) rfl dz_M_put_110 ?_
                    refine lv_iload_n hx hb dz_M_put_113 rfl (lv_at hl 3 rfl) ?_
                    refine lv_iload_n hx hb dz_M_put_114 rfl (lv_at hl 4 rfl) ?_
                    have hin_18 : vp_in p1 61 := zm_isBox_in hok0 c_2
                    refine va_iast hx hb hK hP hD hS 5 0 rfl rfl hin_18 dz_M_put_115 (fun H locs hP hD hS => ?_)
                    obtain ⟨S_19, eS_19⟩ : ∃ z, z = zm_sit S_9 (upd (zm_it S_9) p1.toNatClampNeg p2) := ⟨_, rfl⟩
                    have hP : va_P (dC, dI) vwCl (zm_W ci cj cz h0 a S_19) H := by rw [eS_19]; exact hP
                    have hD : va_D A (zm_W ci cj cz h0 a S_19) := by rw [eS_19]; exact hD
                    have hok : zm_ok S_19 := by rw [eS_19]; exact hok
                    refine lv_aload_n hx hb dz_M_put_116 rfl (lv_at hl 2 rfl) ?_
                    refine va_get (D := (dC, dI)) (ci := 3) (v := .ref a.2.2.2.2.2.2.2.2.1) (C := RzM) (T := TzM) (N := 18) hx hb hz inzM hown hK hP 0 rfl rfl 9 (by decide) (hz _ zi_245) (fun _ h9 => h9) rfl dz_M_put_117 ?_
                    refine lv_iload_n hx hb dz_M_put_120 rfl (lv_at hl 3 rfl) ?_
                    refine lv_lconst (v := 0) hx hb dz_M_put_121 (by decide) ?_
                    have hin_20 : vp_in p1 61 := zm_isBox_in hok0 c_2
                    refine va_last hx hb hK hP hD hS 9 1 rfl rfl hin_20 dz_M_put_122 (fun H locs hP hD hS => ?_)
                    obtain ⟨S_21, eS_21⟩ : ∃ z, z = zm_ske S_19 (vp_updL (zm_ke S_19) p1.toNatClampNeg 0) := ⟨_, rfl⟩
                    have hP : va_P (dC, dI) vwCl (zm_W ci cj cz h0 a S_21) H := by rw [eS_21]; exact hP
                    have hD : va_D A (zm_W ci cj cz h0 a S_21) := by rw [eS_21]; exact hD
                    have hok : zm_ok S_21 := by rw [eS_21]; exact hok
                    refine lv_iconst (v := 1) hx hb dz_M_put_123 (by decide) ?_
                    have hE_22 : zm_put M p1 p2 p3 = (1, S_21) := by subst eS_9 eS_19 eS_21; simp only [zm_put, if_neg c_2, if_neg c_4, if_pos c_7, if_pos c_12, if_neg c_15, if_pos c_17]
                    exact W.iret (v := 1) hx hb hr (fun t ht hW => ⟨⟨_, (), rfl, by show 1 = (zm_put M p1 p2 p3).1; rw [hE_22], by show va_P (dC, dI) vwCl (zm_W ci cj cz h0 a ((zm_put M p1 p2 p3).2)) t.heap; rw [ht, hE_22]; exact hP, by show va_D A (zm_W ci cj cz h0 a ((zm_put M p1 p2 p3).2)); rw [hE_22]; exact hD⟩, hS.F ht⟩) hS.2.2 dz_M_put_124
                  · refine lv_iconst (v := 0) hx hb dz_M_put_107 (by decide) ?_
                    have hE_23 : zm_put M p1 p2 p3 = (0, S_9) := by subst eS_9; simp only [zm_put, if_neg c_2, if_neg c_4, if_pos c_7, if_pos c_12, if_neg c_15, if_neg c_17]
                    exact W.iret (v := 0) hx hb hr (fun t ht hW => ⟨⟨_, (), rfl, by show 0 = (zm_put M p1 p2 p3).1; rw [hE_23], by show va_P (dC, dI) vwCl (zm_W ci cj cz h0 a ((zm_put M p1 p2 p3).2)) t.heap; rw [ht, hE_23]; exact hP, by show va_D A (zm_W ci cj cz h0 a ((zm_put M p1 p2 p3).2)); rw [hE_23]; exact hD⟩, hS.F ht⟩) hS.2.2 dz_M_put_108
            · exact absurd (nI_lt (by omega) (by have := hok.1; omega)) c_10
          | succ k ih =>
            intro j iv ls hjk hinv hl
            have hj : j < zm_nb S_9 := by omega
            refine lv_iload hx hb dz_M_put_45 (lv_at hl 0 rfl) ?_
            refine lv_aload_n hx hb dz_M_put_47 rfl (lv_at hl 2 rfl) ?_
            refine va_get (D := (dC, dI)) (ci := 3) (v := .int (nI (zm_nb S_9))) (C := RzM) (T := TzM) (N := 18) hx hb hz inzM hown hK hP 0 rfl rfl 0 (by decide) (hz _ zi_236) (fun _ h9 => h9) rfl dz_M_put_48 ?_
            refine lv_icmp_gt (tgt := 83) hx hb dz_M_put_51 (by decide) (fun c_24 => ?_) (fun c_24 => ?_)
            · exact absurd c_24 (nI_nlt (by omega) (by have := hok.1; omega))
            · refine lv_iload hx hb dz_M_put_54 (lv_at hl 1 rfl) ?_
              refine lv_if_ne (tgt := 70) hx hb dz_M_put_56 (by decide) (fun c_25 => ?_) (fun c_25 => ?_)
              · refine lv_iconst (v := 1) hx hb dz_M_put_70 (by decide) ?_
                refine lv_goto (tgt := 75) hx hb dz_M_put_71 (by decide) ?_
                refine lv_istore (lv' := [(5, .int 1), (6, .int (nI (j + 1))), (0, .ref h0), (1, .int p1), (2, .int p2), (3, .long p3)]) hx hb dz_M_put_75 hl (by decide) rfl (fun ls hl => ?_)
                refine lv_iinc (v := nI (j + 1 + 1)) (lv' := [(6, .int (nI (j + 1 + 1))), (5, .int 1), (0, .ref h0), (1, .int p1), (2, .int p2), (3, .long p3)]) hx hb dz_M_put_77 hl (k := 1) rfl (nI_1 _) (by decide) rfl (fun ls hl => ?_)
                refine lv_goto (tgt := 45) hx hb dz_M_put_80 (by decide) ?_
                exact ih (j + 1) 1 ls (by omega) (by rw [hinv]; simp only [zm_in, if_neg c_25]) (lv_sub hl [0, 1, 2, 3, 4, 5] rfl)
              · refine lv_aload_n hx hb dz_M_put_59 rfl (lv_at hl 2 rfl) ?_
                refine va_get (D := (dC, dI)) (ci := 3) (v := .ref a.2.2.2.2.1) (C := RzM) (T := TzM) (N := 18) hx hb hz inzM hown hK hP 0 rfl rfl 5 (by decide) (hz _ zi_241) (fun _ h9 => h9) rfl dz_M_put_60 ?_
                refine lv_iload hx hb dz_M_put_63 (lv_at hl 0 rfl) ?_
                have hin_26 : vp_in (nI (j + 1)) 61 := vp_in_nI (by have := hok.1; omega) (by decide)
                refine va_iald hx hb hK hP 5 0 rfl rfl hin_26 dz_M_put_65 ?_
                refine W.eq (g2 := F0 m 66 ls [.int (zm_it S_9 (j + 1))]) (congrArg (fun z => F0 m 66 ls (.int ((zm_it S_9) z) :: [])) (nI_clamp (by have := hok.1; have := hok.2.1; have := hok.2.2; omega))) ?_
                refine lv_iload_n hx hb dz_M_put_66 rfl (lv_at hl 4 rfl) ?_
                refine lv_icmp_ne (tgt := 74) hx hb dz_M_put_67 (by decide) (fun c_27 => ?_) (fun c_27 => ?_)
                · refine lv_iconst (v := 0) hx hb dz_M_put_74 (by decide) ?_
                  refine lv_istore (lv' := [(5, .int 0), (6, .int (nI (j + 1))), (0, .ref h0), (1, .int p1), (2, .int p2), (3, .long p3)]) hx hb dz_M_put_75 hl (by decide) rfl (fun ls hl => ?_)
                  refine lv_iinc (v := nI (j + 1 + 1)) (lv' := [(6, .int (nI (j + 1 + 1))), (5, .int 0), (0, .ref h0), (1, .int p1), (2, .int p2), (3, .long p3)]) hx hb dz_M_put_77 hl (k := 1) rfl (nI_1 _) (by decide) rfl (fun ls hl => ?_)
                  refine lv_goto (tgt := 45) hx hb dz_M_put_80 (by decide) ?_
                  exact ih (j + 1) 0 ls (by omega) (by rw [hinv]; simp only [zm_in, if_pos c_25, if_neg c_27]) (lv_sub hl [0, 1, 2, 3, 4, 5] rfl)
                · refine lv_iconst (v := 1) hx hb dz_M_put_70 (by decide) ?_
                  refine lv_goto (tgt := 75) hx hb dz_M_put_71 (by decide) ?_
                  refine lv_istore (lv' := [(5, .int 1), (6, .int (nI (j + 1))), (0, .ref h0), (1, .int p1), (2, .int p2), (3, .long p3)]) hx hb dz_M_put_75 hl (by decide) rfl (fun ls hl => ?_)
                  refine lv_iinc (v := nI (j + 1 + 1)) (lv' := [(6, .int (nI (j + 1 + 1))), (5, .int 1), (0, .ref h0), (1, .int p1), (2, .int p2), (3, .long p3)]) hx hb dz_M_put_77 hl (k := 1) rfl (nI_1 _) (by decide) rfl (fun ls hl => ?_)
                  refine lv_goto (tgt := 45) hx hb dz_M_put_80 (by decide) ?_
                  exact ih (j + 1) 1 ls (by omega) (by rw [hinv]; simp only [zm_in, if_pos c_25, if_pos c_27]) (lv_sub hl [0, 1, 2, 3, 4, 5] rfl)
        exact loop (zm_nb S_9) 0 0 ls (by omega) rfl (lv_sub hl [0, 1, 2, 3, 4, 5] rfl)
      · refine lv_bipush (v := -12) hx hb dz_M_put_31 (by decide) ?_
        have hE_28 : zm_put M p1 p2 p3 = ((-12), M) := by simp only [zm_put, if_neg c_2, if_neg c_4, if_neg c_7]
        exact W.iret (v := (-12)) hx hb hr (fun t ht hW => ⟨⟨_, (), rfl, by show (-12) = (zm_put M p1 p2 p3).1; rw [hE_28], by show va_P (dC, dI) vwCl (zm_W ci cj cz h0 a ((zm_put M p1 p2 p3).2)) t.heap; rw [ht, hE_28]; exact hP, by show va_D A (zm_W ci cj cz h0 a ((zm_put M p1 p2 p3).2)); rw [hE_28]; exact hD⟩, hS.F ht⟩) hS.2.2 dz_M_put_33
  · refine lv_bipush (v := -11) hx hb dz_M_put_8 (by decide) ?_
    have hE_29 : zm_put M p1 p2 p3 = ((-11), M) := by simp only [zm_put, if_pos c_2]
    exact W.iret (v := (-11)) hx hb hr (fun t ht hW => ⟨⟨_, (), rfl, by show (-11) = (zm_put M p1 p2 p3).1; rw [hE_29], by show va_P (dC, dI) vwCl (zm_W ci cj cz h0 a ((zm_put M p1 p2 p3).2)) t.heap; rw [ht, hE_29]; exact hP, by show va_D A (zm_W ci cj cz h0 a ((zm_put M p1 p2 p3).2)); rw [hE_29]; exact hD⟩, hS.F ht⟩) hS.2.2 dz_M_put_10
set_option maxHeartbeats 4000000 in
set_option maxRecDepth 100000 in
theorem ct_M_type (l : Launch) (dC : Nat → ClassId) (dI : Nat → Nat → Nat) (ci cj cz : ClassId) (h0 : Nat) (a : zm_Ad) (M : zm_S) (hok : zm_ok M) (sz : Nat) (p1 : Int32) (p2 : Int64) : Met l yz_M_type wz_M_type (zw_room 1 0 0) (zw_U zw_ns (dC, dI) vwCl (zm_tys ci cj cz) [.ref h0, .int p1, .long p2] (zm_W ci cj cz h0 a M) sz) (va_Qi (fun (r : Int32) (_ : Unit) => r = (zm_type M p1 p2).1) (fun (_ : Unit) (t : State) => va_P (dC, dI) vwCl (zm_W ci cj cz h0 a ((zm_type M p1 p2).2)) t.heap ∧ va_D (va_A (zm_W ci cj cz h0 a M) sz) (zm_W ci cj cz h0 a ((zm_type M p1 p2).2))) (va_A (zm_W ci cj cz h0 a M) sz)) 0 0 (va_A (zm_W ci cj cz h0 a M) sz) := by
  refine Met.ofW (cc := cz_M_type) (maxL := 5) (ret := (some .int)) (by decide) rfl ?_
  intro p e s m args below meth c s₁ B hml hv
  obtain ⟨rfl, hsz, hP, hK, hD0, hN⟩ := hv
  have hx := B.exec
  have hb := B.bytes
  have hr := B.returns
  have hts := atoms_spec (ws := wz_M_type) B.pre
  have hz : ∀ w ∈ zw_T, w.before ([.ref h0, .int p1, .long p2] : List Value).toArray s = true := fun w h => hts w (List.mem_cons_of_mem _ h)
  have hown : s.vm.findClass RzM = some m.cls := findClass_of_methodNamed B.named
  have hlocks := B.notSynchronized
  have hok0 := hok
  subst hsz
  have hD := hD0.self (sz := s.heap.size)
  generalize hAe : va_A (zm_W ci cj cz h0 a M) s.heap.size = A at hD ⊢
  have hA : ∀ q : Nat, s.heap.size ≤ q → A q := fun q h => by rw [← hAe]; exact Or.inr h
  have hS : va_S A s.heap s.heap [] := va_S.rf
  have hl := lv_entry ([.ref h0, .int p1, .long p2]) (n := 5) (Nat.le_of_ble_eq_true rfl)
  rw [lg_entry_eq]
  generalize (lg_sl ([.ref h0, .int p1, .long p2]) ++ List.replicate (5 - (lg_sl ([.ref h0, .int p1, .long p2])).length) Slot.unset).toArray = ls at hl ⊢
  have hl : lv_has ls 5 [(0, .ref h0), (1, .int p1), (2, .long p2)] := hl
  refine lv_iload_n hx hb dz_M_type_0 rfl (lv_at hl 1 rfl) ?_
  refine lv_i2l (v := p1.toInt64) hx hb dz_M_type_1 rfl ?_
  refine lv_lconst (v := 0) hx hb dz_M_type_2 (by decide) ?_
  refine lv_ldc2 (v := 999999) hx hb hown (hz _ zi_286) dz_M_type_3 ?_
  refine vp_callSi (va_Run.run (va_runS (As := [.long p1.toInt64, .long 0, .long 999999]) (rest := []) ⟨hx, hb, hml, hown, hz⟩ (ct_M_within l dC dI ci cj cz p1.toInt64 0 999999) (cwS 3 hz (zw_gS zi_279 zi_280 zi_35 zi_281) rfl rfl rfl (by decide +kernel) ⟨Nat.le_of_ble_eq_true rfl, Nat.le_of_ble_eq_true rfl⟩) (zw_preR zw_ns_ok (ws := []) (fun k q h => by simp at h) hK hN) rfl rfl hl.1 rfl (lv_room (Nat.le_of_ble_eq_true rfl)) dz_M_type_6 ⟨Nat.le_of_ble_eq_true rfl, Nat.le_of_ble_eq_true rfl⟩)) (fun r_1 hr_1 => ?_)
  have hr_1 : r_1 = zm_within p1.toInt64 0 999999 := hr_1
  subst hr_1
  refine lv_if_eq (tgt := 20) hx hb dz_M_type_9 (by decide) (fun c_2 => ?_) (fun c_2 => ?_)
  · refine lv_bipush (v := -12) hx hb dz_M_type_20 (by decide) ?_
    have hE_3 : zm_type M p1 p2 = ((-12), M) := by simp only [zm_type, if_pos c_2]
    exact W.iret (v := (-12)) hx hb hr (fun t ht hW => ⟨⟨_, (), rfl, by show (-12) = (zm_type M p1 p2).1; rw [hE_3], by show va_P (dC, dI) vwCl (zm_W ci cj cz h0 a ((zm_type M p1 p2).2)) t.heap; rw [ht, hE_3]; exact hP, by show va_D A (zm_W ci cj cz h0 a ((zm_type M p1 p2).2)); rw [hE_3]; exact hD⟩, hS.F ht⟩) hS.2.2 dz_M_type_22
  · refine lv_aload_n hx hb dz_M_type_12 rfl (lv_at hl 0 rfl) ?_
    refine lv_lload_n hx hb dz_M_type_13 rfl (lv_at hl 2 rfl) ?_
    refine vp_callSi (va_Run.run (va_runV (As := [.long p2]) (rest := []) ⟨hx, hb, hml, hown, hz⟩ (ct_M_isNoTime l dC dI ci cj cz h0 a M hok p2) (cwV 1 hz (zw_gV zi_300 zi_301 zi_27 zi_35 zi_302) rfl rfl rfl (by decide +kernel) ⟨Nat.le_of_ble_eq_true rfl, Nat.le_of_ble_eq_true rfl⟩) (zw_preRV zw_ns_ok hP hK hN (ci := 3) rfl (k := 0) rfl) rfl rfl hl.1 rfl (lv_room (Nat.le_of_ble_eq_true rfl)) dz_M_type_14 ⟨Nat.le_of_ble_eq_true rfl, Nat.le_of_ble_eq_true rfl⟩)) (fun r_4 hr_4 => ?_)
    have hr_4 : r_4 = zm_isNo M p2 := hr_4
    subst hr_4
    refine lv_if_eq (tgt := 23) hx hb dz_M_type_17 (by decide) (fun c_5 => ?_) (fun c_5 => ?_)
    · refine lv_aload_n hx hb dz_M_type_23 rfl (lv_at hl 0 rfl) ?_
      refine lv_lload_n hx hb dz_M_type_24 rfl (lv_at hl 2 rfl) ?_
      have hFc := zw_free hS hA hD
      refine va_callv (va_runV (As := [.long p2]) (rest := []) ⟨hx, hb, hml, hown, hz⟩ (ct_M_pass l dC dI ci cj cz h0 a M hok s.heap.size p2) (cwV 1 hz (zw_gV zi_303 zi_304 zi_28 zi_35 zi_305) rfl rfl rfl (by decide +kernel) ⟨Nat.le_of_ble_eq_true rfl, Nat.le_of_ble_eq_true rfl⟩) (zw_preUV zw_ns_ok hP hD hK hN (ci := 3) rfl (k := 0) rfl) rfl rfl hl.1 rfl (lv_room (Nat.le_of_ble_eq_true rfl)) dz_M_type_25 ⟨Nat.le_of_ble_eq_true rfl, Nat.le_of_ble_eq_true rfl⟩) hS (fun q _ h => hFc q h) hFc (fun u_6 t_6 H locs ht hvm hw hB hz1 hk1 hS => ?_)
      obtain ⟨hP, hD⟩ := hB
      rw [ht] at hP
      have hD := hD.weaken (fun _ q _ h => hFc q.1 h)
      obtain ⟨S_7, eS_7⟩ : ∃ z, z = (zm_pass M p2) := ⟨_, rfl⟩
      rw [← eS_7] at hP hD
      have hok : zm_ok S_7 := by rw [eS_7]; exact zm_ok_pass hok
      refine lv_lload_n hx hb dz_M_type_28 rfl (lv_at hl 2 rfl) ?_
      refine lv_aload_n hx hb dz_M_type_29 rfl (lv_at hl 0 rfl) ?_
      refine va_get (D := (dC, dI)) (ci := 3) (v := .long (zm_K S_7)) (C := RzM) (T := TzM) (N := 18) hx hb hz inzM hown hK hP 0 rfl rfl 13 (by decide) (hz _ zi_249) (fun _ h9 => h9) rfl dz_M_type_30 ?_
      refine W.lcmp hx hb dz_M_type_33 ?_
      refine lv_if_ge (tgt := 39) hx hb dz_M_type_34 (by decide) (fun c_8 => ?_) (fun c_8 => ?_)
      · refine lv_iconst (v := nI (0 + 1)) hx hb dz_M_type_39 (by decide) ?_
        refine lv_istore (lv' := [(4, .int (nI (0 + 1))), (0, .ref h0), (1, .int p1), (2, .long p2)]) hx hb dz_M_type_40 hl (by decide) rfl (fun ls hl => ?_)
        have loop : ∀ (k j : Nat) (ls : Array Slot), j + k = zm_nb S_7 → zm_ty S_7 p1 p2 (zm_nb S_7) 0 = zm_ty S_7 p1 p2 k j → lv_has ls 5 [(4, .int (nI (j + 1))), (0, .ref h0), (1, .int p1), (2, .long p2)] → W p l e (headSpec wz_M_type (zw_room 1 0 0)).room s m ([.ref h0, .int p1, .long p2] : List Value).toArray below meth c H locs 0 0 (MQ below (va_Qi (fun (r : Int32) (_ : Unit) => r = (zm_type M p1 p2).1) (fun (_ : Unit) (t : State) => va_P (dC, dI) vwCl (zm_W ci cj cz h0 a ((zm_type M p1 p2).2)) t.heap ∧ va_D A (zm_W ci cj cz h0 a ((zm_type M p1 p2).2))) A) ([.ref h0, .int p1, .long p2] : List Value).toArray s 0 0 A) (F0 m 42 ls []) := by
          intro k
          induction k with
          | zero =>
            intro j ls hjk hinv hl
            refine lv_iload hx hb dz_M_type_42 (lv_at hl 0 rfl) ?_
            refine lv_aload_n hx hb dz_M_type_44 rfl (lv_at hl 1 rfl) ?_
            refine va_get (D := (dC, dI)) (ci := 3) (v := .int (nI (zm_nb S_7))) (C := RzM) (T := TzM) (N := 18) hx hb hz inzM hown hK hP 0 rfl rfl 0 (by decide) (hz _ zi_236) (fun _ h9 => h9) rfl dz_M_type_45 ?_
            refine lv_icmp_gt (tgt := 100) hx hb dz_M_type_48 (by decide) (fun c_9 => ?_) (fun c_9 => ?_)
            · refine lv_aload_n hx hb dz_M_type_100 rfl (lv_at hl 1 rfl) ?_
              refine lv_dup hx hb dz_M_type_101 rfl ?_
              refine va_get (D := (dC, dI)) (ci := 3) (v := .int (zm_R S_7)) (C := RzM) (T := TzM) (N := 18) hx hb hz inzM hown hK hP 0 rfl rfl 12 (by decide) (hz _ zi_248) (fun _ h9 => h9) rfl dz_M_type_102 ?_
              refine lv_iconst (v := 1) hx hb dz_M_type_105 (by decide) ?_
              refine lv_iadd hx hb dz_M_type_106 ?_
              refine va_put (D := (dC, dI)) (ci := 3) (v := .int ((zm_R S_7) + 1)) (ty := .int) (C := RzM) (T := TzM) (N := 18) hx hb hz inzM tyzM tyzM_ok nmzM hown hK hP hD hS 0 rfl rfl 12 (by decide) (hz _ zi_248) (fun _ h9 => h9) rfl (by decide +kernel) rfl rfl (Nat.le_of_ble_eq_true rfl) dz_M_type_107 (fun H locs hP hD hS => ?_)
              obtain ⟨S_10, eS_10⟩ : ∃ z, z = zm_sR S_7 ((zm_R S_7) + 1) := ⟨_, rfl⟩
              have hP : va_P (dC, dI) vwCl (zm_W ci cj cz h0 a S_10) H := by rw [eS_10]; exact hP
              have hD : va_D A (zm_W ci cj cz h0 a S_10) := by rw [eS_10]; exact hD
              have hok : zm_ok S_10 := by rw [eS_10]; exact hok
              refine lv_aload_n hx hb dz_M_type_110 rfl (lv_at hl 1 rfl) ?_
              refine va_get (D := (dC, dI)) (ci := 3) (v := .int (zm_R S_10)) (C := RzM) (T := TzM) (N := 18) hx hb hz inzM hown hK hP 0 rfl rfl 12 (by decide) (hz _ zi_248) (fun _ h9 => h9) rfl dz_M_type_111 ?_
              refine lv_iconst (v := 3) hx hb dz_M_type_114 (by decide) ?_
              refine lv_icmp_ne (tgt := 132) hx hb dz_M_type_115 (by decide) (fun c_11 => ?_) (fun c_11 => ?_)
              · refine lv_iconst (v := 0) hx hb dz_M_type_132 (by decide) ?_
                have hE_12 : zm_type M p1 p2 = (0, S_10) := by subst eS_7 eS_10; simp only [zm_type, if_neg c_2, if_pos c_5, if_pos c_8]; rw [hinv]; simp only [zm_ty, zm_wr, if_neg c_11]
                exact W.iret (v := 0) hx hb hr (fun t ht hW => ⟨⟨_, (), rfl, by show 0 = (zm_type M p1 p2).1; rw [hE_12], by show va_P (dC, dI) vwCl (zm_W ci cj cz h0 a ((zm_type M p1 p2).2)) t.heap; rw [ht, hE_12]; exact hP, by show va_D A (zm_W ci cj cz h0 a ((zm_type M p1 p2).2)); rw [hE_12]; exact hD⟩, hS.F ht⟩) hS.2.2 dz_M_type_133
              · refine lv_aload_n hx hb dz_M_type_118 rfl (lv_at hl 1 rfl) ?_
                refine lv_iconst (v := 0) hx hb dz_M_type_119 (by decide) ?_
                refine va_put (D := (dC, dI)) (ci := 3) (v := .int 0) (ty := .int) (C := RzM) (T := TzM) (N := 18) hx hb hz inzM tyzM tyzM_ok nmzM hown hK hP hD hS 0 rfl rfl 12 (by decide) (hz _ zi_248) (fun _ h9 => h9) rfl (by decide +kernel) rfl rfl (Nat.le_of_ble_eq_true rfl) dz_M_type_120 (fun H locs hP hD hS => ?_)
                obtain ⟨S_13, eS_13⟩ : ∃ z, z = zm_sR S_10 0 := ⟨_, rfl⟩
                have hP : va_P (dC, dI) vwCl (zm_W ci cj cz h0 a S_13) H := by rw [eS_13]; exact hP
                have hD : va_D A (zm_W ci cj cz h0 a S_13) := by rw [eS_13]; exact hD
                have hok : zm_ok S_13 := by rw [eS_13]; exact hok
                refine lv_aload_n hx hb dz_M_type_123 rfl (lv_at hl 1 rfl) ?_
                refine lv_lload_n hx hb dz_M_type_124 rfl (lv_at hl 3 rfl) ?_
                refine lv_ldc2 (v := 300) hx hb hown (hz _ zi_325) dz_M_type_125 ?_
                refine lv_ladd hx hb dz_M_type_128 ?_
                refine va_put (D := (dC, dI)) (ci := 3) (v := .long (p2 + 300)) (ty := .long) (C := RzM) (T := TzM) (N := 18) hx hb hz inzM tyzM tyzM_ok nmzM hown hK hP hD hS 0 rfl rfl 13 (by decide) (hz _ zi_249) (fun _ h9 => h9) rfl (by decide +kernel) rfl rfl (Nat.le_of_ble_eq_true rfl) dz_M_type_129 (fun H locs hP hD hS => ?_)
                obtain ⟨S_14, eS_14⟩ : ∃ z, z = zm_sK S_13 (p2 + 300) := ⟨_, rfl⟩
                have hP : va_P (dC, dI) vwCl (zm_W ci cj cz h0 a S_14) H := by rw [eS_14]; exact hP
                have hD : va_D A (zm_W ci cj cz h0 a S_14) := by rw [eS_14]; exact hD
                have hok : zm_ok S_14 := by rw [eS_14]; exact hok
                refine lv_iconst (v := 0) hx hb dz_M_type_132 (by decide) ?_
                have hE_15 : zm_type M p1 p2 = (0, S_14) := by subst eS_7 eS_10 eS_13 eS_14; simp only [zm_type, if_neg c_2, if_pos c_5, if_pos c_8]; rw [hinv]; simp only [zm_ty, zm_wr, if_pos c_11]
                exact W.iret (v := 0) hx hb hr (fun t ht hW => ⟨⟨_, (), rfl, by show 0 = (zm_type M p1 p2).1; rw [hE_15], by show va_P (dC, dI) vwCl (zm_W ci cj cz h0 a ((zm_type M p1 p2).2)) t.heap; rw [ht, hE_15]; exact hP, by show va_D A (zm_W ci cj cz h0 a ((zm_type M p1 p2).2)); rw [hE_15]; exact hD⟩, hS.F ht⟩) hS.2.2 dz_M_type_133
            · exact absurd (nI_lt (by omega) (by have := hok.1; omega)) c_9
          | succ k ih =>
            intro j ls hjk hinv hl
            have hj : j < zm_nb S_7 := by omega
            refine lv_iload hx hb dz_M_type_42 (lv_at hl 0 rfl) ?_
            refine lv_aload_n hx hb dz_M_type_44 rfl (lv_at hl 1 rfl) ?_
            refine va_get (D := (dC, dI)) (ci := 3) (v := .int (nI (zm_nb S_7))) (C := RzM) (T := TzM) (N := 18) hx hb hz inzM hown hK hP 0 rfl rfl 0 (by decide) (hz _ zi_236) (fun _ h9 => h9) rfl dz_M_type_45 ?_
            refine lv_icmp_gt (tgt := 100) hx hb dz_M_type_48 (by decide) (fun c_16 => ?_) (fun c_16 => ?_)
            · exact absurd c_16 (nI_nlt (by omega) (by have := hok.1; omega))
            · refine lv_aload_n hx hb dz_M_type_51 rfl (lv_at hl 1 rfl) ?_
              refine va_get (D := (dC, dI)) (ci := 3) (v := .ref a.2.2.2.2.2.1) (C := RzM) (T := TzM) (N := 18) hx hb hz inzM hown hK hP 0 rfl rfl 6 (by decide) (hz _ zi_242) (fun _ h9 => h9) rfl dz_M_type_52 ?_
              refine lv_iload hx hb dz_M_type_55 (lv_at hl 0 rfl) ?_
              have hin_17 : vp_in (nI (j + 1)) 61 := vp_in_nI (by have := hok.1; omega) (by decide)
              refine va_iald hx hb hK hP 6 0 rfl rfl hin_17 dz_M_type_57 ?_
              refine W.eq (g2 := F0 m 58 ls [.int (zm_co S_7 (j + 1))]) (congrArg (fun z => F0 m 58 ls (.int ((zm_co S_7) z) :: [])) (nI_clamp (by have := hok.1; have := hok.2.1; have := hok.2.2; omega))) ?_
              refine lv_iload_n hx hb dz_M_type_58 rfl (lv_at hl 2 rfl) ?_
              refine lv_icmp_ne (tgt := 94) hx hb dz_M_type_59 (by decide) (fun c_18 => ?_) (fun c_18 => ?_)
              · refine lv_iinc (v := nI (j + 1 + 1)) (lv' := [(4, .int (nI (j + 1 + 1))), (0, .ref h0), (1, .int p1), (2, .long p2)]) hx hb dz_M_type_94 hl (k := 0) rfl (nI_1 _) (by decide) rfl (fun ls hl => ?_)
                refine lv_goto (tgt := 42) hx hb dz_M_type_97 (by decide) ?_
                exact ih (j + 1) ls (by omega) (by rw [hinv]; simp only [zm_ty, if_neg c_18]) (lv_sub hl [0, 1, 2, 3] rfl)
              · refine lv_aload_n hx hb dz_M_type_62 rfl (lv_at hl 1 rfl) ?_
                refine va_get (D := (dC, dI)) (ci := 3) (v := .ref a.2.1) (C := RzM) (T := TzM) (N := 18) hx hb hz inzM hown hK hP 0 rfl rfl 2 (by decide) (hz _ zi_238) (fun _ h9 => h9) rfl dz_M_type_63 ?_
                refine lv_iload hx hb dz_M_type_66 (lv_at hl 0 rfl) ?_
                have hin_19 : vp_in (nI (j + 1)) 61 := vp_in_nI (by have := hok.1; omega) (by decide)
                refine va_iald hx hb hK hP 2 0 rfl rfl hin_19 dz_M_type_68 ?_
                refine W.eq (g2 := F0 m 69 ls [.int (zm_dr S_7 (j + 1))]) (congrArg (fun z => F0 m 69 ls (.int ((zm_dr S_7) z) :: [])) (nI_clamp (by have := hok.1; have := hok.2.1; have := hok.2.2; omega))) ?_
                refine lv_if_ne (tgt := 94) hx hb dz_M_type_69 (by decide) (fun c_20 => ?_) (fun c_20 => ?_)
                · refine lv_iinc (v := nI (j + 1 + 1)) (lv' := [(4, .int (nI (j + 1 + 1))), (0, .ref h0), (1, .int p1), (2, .long p2)]) hx hb dz_M_type_94 hl (k := 0) rfl (nI_1 _) (by decide) rfl (fun ls hl => ?_)
                  refine lv_goto (tgt := 42) hx hb dz_M_type_97 (by decide) ?_
                  exact ih (j + 1) ls (by omega) (by rw [hinv]; simp only [zm_ty, if_pos c_18, if_neg c_20]) (lv_sub hl [0, 1, 2, 3] rfl)
                · have hjin : vp_in (nI (j + 1)) 61 := vp_in_nI (by have := hok.1; omega) (by decide)
                  refine lv_aload_n hx hb dz_M_type_72 rfl (lv_at hl 1 rfl) ?_
                  refine lv_iload hx hb dz_M_type_73 (lv_at hl 0 rfl) ?_
                  have hFc := zw_free hS hA hD
                  refine va_calli (va_runV (As := [.int (nI (j + 1))]) (rest := []) ⟨hx, hb, hml, hown, hz⟩ (ct_M_out l dC dI ci cj cz h0 a S_7 hok H.size (nI (j + 1)) (vp_in_nI (by have := hok.1; omega) (by decide))) (cwV 1 hz (zw_gV zi_319 zi_320 zi_30 zi_35 zi_321) rfl rfl rfl (by decide +kernel) ⟨Nat.le_of_ble_eq_true rfl, Nat.le_of_ble_eq_true rfl⟩) (zw_preUV zw_ns_ok hP hD hK hN (ci := 3) rfl (k := 0) rfl) rfl rfl hl.1 rfl (lv_room (Nat.le_of_ble_eq_true rfl)) dz_M_type_75 ⟨Nat.le_of_ble_eq_true rfl, Nat.le_of_ble_eq_true rfl⟩) hS (fun q _ h => hFc q h) hFc (fun r_21 u_21 t_21 H locs ht hvm hw hB hz1 hk1 hS => ?_)
                  have hw : r_21 = (zm_out S_7 (nI (j + 1))).1 := hw
                  subst hw
                  obtain ⟨hP, hD⟩ := hB
                  rw [ht] at hP
                  have hD := hD.weaken (fun _ q _ h => hFc q.1 h)
                  obtain ⟨S_22, eS_22⟩ : ∃ z, z = (zm_out S_7 (nI (j + 1))).2 := ⟨_, rfl⟩
                  rw [← eS_22] at hP hD
                  have hok : zm_ok S_22 := by rw [eS_22]; exact zm_ok_out hok
                  refine lv_pop hx hb dz_M_type_78 rfl ?_
                  refine lv_aload_n hx hb dz_M_type_79 rfl (lv_at hl 1 rfl) ?_
                  refine lv_iload hx hb dz_M_type_80 (lv_at hl 0 rfl) ?_
                  refine lv_iconst (v := 1) hx hb dz_M_type_82 (by decide) ?_
                  have hFc := zw_free hS hA hD
                  refine va_callv (va_runV (As := [.int (nI (j + 1)), .int 1]) (rest := []) ⟨hx, hb, hml, hown, hz⟩ (ct_M_open l dC dI ci cj cz h0 a S_22 hok H.size (nI (j + 1)) 1 hjin) (cwV 2 hz (zw_gV zi_322 zi_323 zi_31 zi_35 zi_324) rfl rfl rfl (by decide +kernel) ⟨Nat.le_of_ble_eq_true rfl, Nat.le_of_ble_eq_true rfl⟩) (zw_preUV zw_ns_ok hP hD hK hN (ci := 3) rfl (k := 0) rfl) rfl rfl hl.1 rfl (lv_room (Nat.le_of_ble_eq_true rfl)) dz_M_type_83 ⟨Nat.le_of_ble_eq_true rfl, Nat.le_of_ble_eq_true rfl⟩) hS (fun q _ h => hFc q h) hFc (fun u_23 t_23 H locs ht hvm hw hB hz1 hk1 hS => ?_)
                  obtain ⟨hP, hD⟩ := hB
                  rw [ht] at hP
                  have hD := hD.weaken (fun _ q _ h => hFc q.1 h)
                  obtain ⟨S_24, eS_24⟩ : ∃ z, z = (zm_open S_22 (nI (j + 1)) 1) := ⟨_, rfl⟩
                  rw [← eS_24] at hP hD
                  have hok : zm_ok S_24 := by rw [eS_24]; exact zm_ok_open hok
                  refine lv_aload_n hx hb dz_M_type_86 rfl (lv_at hl 1 rfl) ?_
                  refine lv_iconst (v := 0) hx hb dz_M_type_87 (by decide) ?_
                  refine va_put (D := (dC, dI)) (ci := 3) (v := .int 0) (ty := .int) (C := RzM) (T := TzM) (N := 18) hx hb hz inzM tyzM tyzM_ok nmzM hown hK hP hD hS 0 rfl rfl 12 (by decide) (hz _ zi_248) (fun _ h9 => h9) rfl (by decide +kernel) rfl rfl (Nat.le_of_ble_eq_true rfl) dz_M_type_88 (fun H locs hP hD hS => ?_)
                  obtain ⟨S_25, eS_25⟩ : ∃ z, z = zm_sR S_24 0 := ⟨_, rfl⟩
                  have hP : va_P (dC, dI) vwCl (zm_W ci cj cz h0 a S_25) H := by rw [eS_25]; exact hP
                  have hD : va_D A (zm_W ci cj cz h0 a S_25) := by rw [eS_25]; exact hD
                  have hok : zm_ok S_25 := by rw [eS_25]; exact hok
                  refine lv_iload hx hb dz_M_type_91 (lv_at hl 0 rfl) ?_
                  have hE_26 : zm_type M p1 p2 = (nI (j + 1), S_25) := by subst eS_7 eS_22 eS_24 eS_25; simp only [zm_type, if_neg c_2, if_pos c_5, if_pos c_8]; rw [hinv]; simp only [zm_ty, if_pos c_18, if_pos c_20]
                  exact W.iret (v := nI (j + 1)) hx hb hr (fun t ht hW => ⟨⟨_, (), rfl, by show nI (j + 1) = (zm_type M p1 p2).1; rw [hE_26], by show va_P (dC, dI) vwCl (zm_W ci cj cz h0 a ((zm_type M p1 p2).2)) t.heap; rw [ht, hE_26]; exact hP, by show va_D A (zm_W ci cj cz h0 a ((zm_type M p1 p2).2)); rw [hE_26]; exact hD⟩, hS.F ht⟩) hS.2.2 dz_M_type_93
        exact loop (zm_nb S_7) 0 ls (by omega) rfl (lv_sub hl [0, 1, 2, 3] rfl)
      · refine lv_iconst (v := -1) hx hb dz_M_type_37 (by decide) ?_
        have hE_27 : zm_type M p1 p2 = ((-1), S_7) := by subst eS_7; simp only [zm_type, if_neg c_2, if_pos c_5, if_neg c_8]
        exact W.iret (v := (-1)) hx hb hr (fun t ht hW => ⟨⟨_, (), rfl, by show (-1) = (zm_type M p1 p2).1; rw [hE_27], by show va_P (dC, dI) vwCl (zm_W ci cj cz h0 a ((zm_type M p1 p2).2)) t.heap; rw [ht, hE_27]; exact hP, by show va_D A (zm_W ci cj cz h0 a ((zm_type M p1 p2).2)); rw [hE_27]; exact hD⟩, hS.F ht⟩) hS.2.2 dz_M_type_38
    · refine lv_bipush (v := -12) hx hb dz_M_type_20 (by decide) ?_
      have hE_28 : zm_type M p1 p2 = ((-12), M) := by simp only [zm_type, if_neg c_2, if_neg c_5]
      exact W.iret (v := (-12)) hx hb hr (fun t ht hW => ⟨⟨_, (), rfl, by show (-12) = (zm_type M p1 p2).1; rw [hE_28], by show va_P (dC, dI) vwCl (zm_W ci cj cz h0 a ((zm_type M p1 p2).2)) t.heap; rw [ht, hE_28]; exact hP, by show va_D A (zm_W ci cj cz h0 a ((zm_type M p1 p2).2)); rw [hE_28]; exact hD⟩, hS.F ht⟩) hS.2.2 dz_M_type_22
set_option maxHeartbeats 4000000 in
set_option maxRecDepth 100000 in
theorem ct_M_tick (l : Launch) (dC : Nat → ClassId) (dI : Nat → Nat → Nat) (ci cj cz : ClassId) (h0 : Nat) (a : zm_Ad) (M : zm_S) (hok : zm_ok M) (sz : Nat) (p1 : Int64) : Met l yz_M_tick wz_M_tick (zw_room 1 0 0) (zw_U zw_ns (dC, dI) vwCl (zm_tys ci cj cz) [.ref h0, .long p1] (zm_W ci cj cz h0 a M) sz) (va_Qi (fun (r : Int32) (_ : Unit) => r = (zm_tick M p1).1) (fun (_ : Unit) (t : State) => va_P (dC, dI) vwCl (zm_W ci cj cz h0 a ((zm_tick M p1).2)) t.heap ∧ va_D (va_A (zm_W ci cj cz h0 a M) sz) (zm_W ci cj cz h0 a ((zm_tick M p1).2))) (va_A (zm_W ci cj cz h0 a M) sz)) 0 0 (va_A (zm_W ci cj cz h0 a M) sz) := by
  refine Met.ofW (cc := cz_M_tick) (maxL := 4) (ret := (some .int)) (by decide) rfl ?_
  intro p e s m args below meth c s₁ B hml hv
  obtain ⟨rfl, hsz, hP, hK, hD0, hN⟩ := hv
  have hx := B.exec
  have hb := B.bytes
  have hr := B.returns
  have hts := atoms_spec (ws := wz_M_tick) B.pre
  have hz : ∀ w ∈ zw_T, w.before ([.ref h0, .long p1] : List Value).toArray s = true := fun w h => hts w (List.mem_cons_of_mem _ h)
  have hown : s.vm.findClass RzM = some m.cls := findClass_of_methodNamed B.named
  have hlocks := B.notSynchronized
  have hok0 := hok
  subst hsz
  have hD := hD0.self (sz := s.heap.size)
  generalize hAe : va_A (zm_W ci cj cz h0 a M) s.heap.size = A at hD ⊢
  have hA : ∀ q : Nat, s.heap.size ≤ q → A q := fun q h => by rw [← hAe]; exact Or.inr h
  have hS : va_S A s.heap s.heap [] := va_S.rf
  have hl := lv_entry ([.ref h0, .long p1]) (n := 4) (Nat.le_of_ble_eq_true rfl)
  rw [lg_entry_eq]
  generalize (lg_sl ([.ref h0, .long p1]) ++ List.replicate (4 - (lg_sl ([.ref h0, .long p1])).length) Slot.unset).toArray = ls at hl ⊢
  have hl : lv_has ls 4 [(0, .ref h0), (1, .long p1)] := hl
  refine lv_aload_n hx hb dz_M_tick_0 rfl (lv_at hl 0 rfl) ?_
  refine lv_lload_n hx hb dz_M_tick_1 rfl (lv_at hl 1 rfl) ?_
  refine vp_callSi (va_Run.run (va_runV (As := [.long p1]) (rest := []) ⟨hx, hb, hml, hown, hz⟩ (ct_M_isNoTime l dC dI ci cj cz h0 a M hok p1) (cwV 1 hz (zw_gV zi_300 zi_301 zi_27 zi_35 zi_302) rfl rfl rfl (by decide +kernel) ⟨Nat.le_of_ble_eq_true rfl, Nat.le_of_ble_eq_true rfl⟩) (zw_preRV zw_ns_ok hP hK hN (ci := 3) rfl (k := 0) rfl) rfl rfl hl.1 rfl (lv_room (Nat.le_of_ble_eq_true rfl)) dz_M_tick_2 ⟨Nat.le_of_ble_eq_true rfl, Nat.le_of_ble_eq_true rfl⟩)) (fun r_1 hr_1 => ?_)
  have hr_1 : r_1 = zm_isNo M p1 := hr_1
  subst hr_1
  refine lv_if_eq (tgt := 11) hx hb dz_M_tick_5 (by decide) (fun c_2 => ?_) (fun c_2 => ?_)
  · refine lv_aload_n hx hb dz_M_tick_11 rfl (lv_at hl 0 rfl) ?_
    refine lv_lload_n hx hb dz_M_tick_12 rfl (lv_at hl 1 rfl) ?_
    have hFc := zw_free hS hA hD
    refine va_callv (va_runV (As := [.long p1]) (rest := []) ⟨hx, hb, hml, hown, hz⟩ (ct_M_pass l dC dI ci cj cz h0 a M hok s.heap.size p1) (cwV 1 hz (zw_gV zi_303 zi_304 zi_28 zi_35 zi_305) rfl rfl rfl (by decide +kernel) ⟨Nat.le_of_ble_eq_true rfl, Nat.le_of_ble_eq_true rfl⟩) (zw_preUV zw_ns_ok hP hD hK hN (ci := 3) rfl (k := 0) rfl) rfl rfl hl.1 rfl (lv_room (Nat.le_of_ble_eq_true rfl)) dz_M_tick_13 ⟨Nat.le_of_ble_eq_true rfl, Nat.le_of_ble_eq_true rfl⟩) hS (fun q _ h => hFc q h) hFc (fun u_3 t_3 H locs ht hvm hw hB hz1 hk1 hS => ?_)
    obtain ⟨hP, hD⟩ := hB
    rw [ht] at hP
    have hD := hD.weaken (fun _ q _ h => hFc q.1 h)
    obtain ⟨S_4, eS_4⟩ : ∃ z, z = (zm_pass M p1) := ⟨_, rfl⟩
    rw [← eS_4] at hP hD
    have hok : zm_ok S_4 := by rw [eS_4]; exact zm_ok_pass hok
    refine lv_aload_n hx hb dz_M_tick_16 rfl (lv_at hl 0 rfl) ?_
    refine va_get (D := (dC, dI)) (ci := 3) (v := .int (zm_A S_4)) (C := RzM) (T := TzM) (N := 18) hx hb hz inzM hown hK hP 0 rfl rfl 11 (by decide) (hz _ zi_247) (fun _ h9 => h9) rfl dz_M_tick_17 ?_
    refine lv_istore_n (lv' := [(3, .int (zm_A S_4)), (0, .ref h0), (1, .long p1)]) hx hb dz_M_tick_20 rfl hl (by decide) rfl (fun ls hl => ?_)
    refine lv_aload_n hx hb dz_M_tick_21 rfl (lv_at hl 1 rfl) ?_
    refine lv_iconst (v := 0) hx hb dz_M_tick_22 (by decide) ?_
    refine va_put (D := (dC, dI)) (ci := 3) (v := .int 0) (ty := .int) (C := RzM) (T := TzM) (N := 18) hx hb hz inzM tyzM tyzM_ok nmzM hown hK hP hD hS 0 rfl rfl 11 (by decide) (hz _ zi_247) (fun _ h9 => h9) rfl (by decide +kernel) rfl rfl (Nat.le_of_ble_eq_true rfl) dz_M_tick_23 (fun H locs hP hD hS => ?_)
    obtain ⟨S_5, eS_5⟩ : ∃ z, z = zm_sA S_4 0 := ⟨_, rfl⟩
    have hP : va_P (dC, dI) vwCl (zm_W ci cj cz h0 a S_5) H := by rw [eS_5]; exact hP
    have hD : va_D A (zm_W ci cj cz h0 a S_5) := by rw [eS_5]; exact hD
    have hok : zm_ok S_5 := by rw [eS_5]; exact hok
    refine lv_iload_n hx hb dz_M_tick_26 rfl (lv_at hl 0 rfl) ?_
    have hE_6 : zm_tick M p1 = (zm_A S_4, S_5) := by subst eS_4 eS_5; simp only [zm_tick, if_pos c_2]
    exact W.iret (v := zm_A S_4) hx hb hr (fun t ht hW => ⟨⟨_, (), rfl, by show zm_A S_4 = (zm_tick M p1).1; rw [hE_6], by show va_P (dC, dI) vwCl (zm_W ci cj cz h0 a ((zm_tick M p1).2)) t.heap; rw [ht, hE_6]; exact hP, by show va_D A (zm_W ci cj cz h0 a ((zm_tick M p1).2)); rw [hE_6]; exact hD⟩, hS.F ht⟩) hS.2.2 dz_M_tick_27
  · refine lv_bipush (v := -12) hx hb dz_M_tick_8 (by decide) ?_
    have hE_7 : zm_tick M p1 = ((-12), M) := by simp only [zm_tick, if_neg c_2]
    exact W.iret (v := (-12)) hx hb hr (fun t ht hW => ⟨⟨_, (), rfl, by show (-12) = (zm_tick M p1).1; rw [hE_7], by show va_P (dC, dI) vwCl (zm_W ci cj cz h0 a ((zm_tick M p1).2)) t.heap; rw [ht, hE_7]; exact hP, by show va_D A (zm_W ci cj cz h0 a ((zm_tick M p1).2)); rw [hE_7]; exact hD⟩, hS.F ht⟩) hS.2.2 dz_M_tick_10
set_option maxHeartbeats 4000000 in
set_option maxRecDepth 100000 in
theorem ct_M_take (l : Launch) (dC : Nat → ClassId) (dI : Nat → Nat → Nat) (ci cj cz : ClassId) (h0 : Nat) (a : zm_Ad) (M : zm_S) (hok : zm_ok M) (sz : Nat) (p1 : Int32) (p2 : Int32) : Met l yz_M_take wz_M_take (zw_room 2 0 0) (zw_U zw_ns (dC, dI) vwCl (zm_tys ci cj cz) [.ref h0, .int p1, .int p2] (zm_W ci cj cz h0 a M) sz) (va_Qi (fun (r : Int32) (_ : Unit) => r = (zm_take M p1 p2).1) (fun (_ : Unit) (t : State) => va_P (dC, dI) vwCl (zm_W ci cj cz h0 a ((zm_take M p1 p2).2)) t.heap ∧ va_D (va_A (zm_W ci cj cz h0 a M) sz) (zm_W ci cj cz h0 a ((zm_take M p1 p2).2))) (va_A (zm_W ci cj cz h0 a M) sz)) 0 0 (va_A (zm_W ci cj cz h0 a M) sz) := by
  refine Met.ofW (cc := cz_M_take) (maxL := 3) (ret := (some .int)) (by decide) rfl ?_
  intro p e s m args below meth c s₁ B hml hv
  obtain ⟨rfl, hsz, hP, hK, hD0, hN⟩ := hv
  have hx := B.exec
  have hb := B.bytes
  have hr := B.returns
  have hts := atoms_spec (ws := wz_M_take) B.pre
  have hz : ∀ w ∈ zw_T, w.before ([.ref h0, .int p1, .int p2] : List Value).toArray s = true := fun w h => hts w (List.mem_cons_of_mem _ h)
  have hown : s.vm.findClass RzM = some m.cls := findClass_of_methodNamed B.named
  have hlocks := B.notSynchronized
  have hok0 := hok
  subst hsz
  have hD := hD0.self (sz := s.heap.size)
  generalize hAe : va_A (zm_W ci cj cz h0 a M) s.heap.size = A at hD ⊢
  have hA : ∀ q : Nat, s.heap.size ≤ q → A q := fun q h => by rw [← hAe]; exact Or.inr h
  have hS : va_S A s.heap s.heap [] := va_S.rf
  have hl := lv_entry ([.ref h0, .int p1, .int p2]) (n := 3) (Nat.le_of_ble_eq_true rfl)
  rw [lg_entry_eq]
  generalize (lg_sl ([.ref h0, .int p1, .int p2]) ++ List.replicate (3 - (lg_sl ([.ref h0, .int p1, .int p2])).length) Slot.unset).toArray = ls at hl ⊢
  have hl : lv_has ls 3 [(0, .ref h0), (1, .int p1), (2, .int p2)] := hl
  refine lv_aload_n hx hb dz_M_take_0 rfl (lv_at hl 0 rfl) ?_
  refine lv_iload_n hx hb dz_M_take_1 rfl (lv_at hl 1 rfl) ?_
  refine vp_callSi (va_Run.run (va_runV (As := [.int p1]) (rest := []) ⟨hx, hb, hml, hown, hz⟩ (ct_M_isBox l dC dI ci cj cz h0 a M hok p1) (cwV 1 hz (zw_gV zi_296 zi_297 zi_26 zi_35 zi_298) rfl rfl rfl (by decide +kernel) ⟨Nat.le_of_ble_eq_true rfl, Nat.le_of_ble_eq_true rfl⟩) (zw_preRV zw_ns_ok hP hK hN (ci := 3) rfl (k := 0) rfl) rfl rfl hl.1 rfl (lv_room (Nat.le_of_ble_eq_true rfl)) dz_M_take_2 ⟨Nat.le_of_ble_eq_true rfl, Nat.le_of_ble_eq_true rfl⟩)) (fun r_1 hr_1 => ?_)
  have hr_1 : r_1 = zm_isBox M p1 := hr_1
  subst hr_1
  refine lv_if_ne (tgt := 11) hx hb dz_M_take_5 (by decide) (fun c_2 => ?_) (fun c_2 => ?_)
  · refine lv_iload_n hx hb dz_M_take_11 rfl (lv_at hl 2 rfl) ?_
    refine lv_i2l (v := p2.toInt64) hx hb dz_M_take_12 rfl ?_
    refine lv_lconst (v := 0) hx hb dz_M_take_13 (by decide) ?_
    refine lv_ldc2 (v := 9) hx hb hown (hz _ zi_343) dz_M_take_14 ?_
    refine vp_callSi (va_Run.run (va_runS (As := [.long p2.toInt64, .long 0, .long 9]) (rest := []) ⟨hx, hb, hml, hown, hz⟩ (ct_M_within l dC dI ci cj cz p2.toInt64 0 9) (cwS 3 hz (zw_gS zi_279 zi_280 zi_35 zi_281) rfl rfl rfl (by decide +kernel) ⟨Nat.le_of_ble_eq_true rfl, Nat.le_of_ble_eq_true rfl⟩) (zw_preR zw_ns_ok (ws := []) (fun k q h => by simp at h) hK hN) rfl rfl hl.1 rfl (lv_room (Nat.le_of_ble_eq_true rfl)) dz_M_take_17 ⟨Nat.le_of_ble_eq_true rfl, Nat.le_of_ble_eq_true rfl⟩)) (fun r_3 hr_3 => ?_)
    have hr_3 : r_3 = zm_within p2.toInt64 0 9 := hr_3
    subst hr_3
    refine lv_if_ne (tgt := 26) hx hb dz_M_take_20 (by decide) (fun c_4 => ?_) (fun c_4 => ?_)
    · refine lv_aload_n hx hb dz_M_take_26 rfl (lv_at hl 0 rfl) ?_
      refine va_get (D := (dC, dI)) (ci := 3) (v := .ref a.2.1) (C := RzM) (T := TzM) (N := 18) hx hb hz inzM hown hK hP 0 rfl rfl 2 (by decide) (hz _ zi_238) (fun _ h9 => h9) rfl dz_M_take_27 ?_
      refine lv_iload_n hx hb dz_M_take_30 rfl (lv_at hl 1 rfl) ?_
      have hin_5 : vp_in p1 61 := zm_isBox_in hok0 c_2
      refine va_iald hx hb hK hP 2 0 rfl rfl hin_5 dz_M_take_31 ?_
      refine lv_iconst (v := 1) hx hb dz_M_take_32 (by decide) ?_
      refine lv_icmp_eq (tgt := 46) hx hb dz_M_take_33 (by decide) (fun c_6 => ?_) (fun c_6 => ?_)
      · refine lv_aload_n hx hb dz_M_take_46 rfl (lv_at hl 0 rfl) ?_
        refine lv_iload_n hx hb dz_M_take_47 rfl (lv_at hl 1 rfl) ?_
        have hFc := zw_free hS hA hD
        refine va_calli (va_runV (As := [.int p1]) (rest := []) ⟨hx, hb, hml, hown, hz⟩ (ct_M_out l dC dI ci cj cz h0 a M hok s.heap.size p1 (zm_isBox_in hok0 c_2)) (cwV 1 hz (zw_gV zi_319 zi_320 zi_30 zi_35 zi_321) rfl rfl rfl (by decide +kernel) ⟨Nat.le_of_ble_eq_true rfl, Nat.le_of_ble_eq_true rfl⟩) (zw_preUV zw_ns_ok hP hD hK hN (ci := 3) rfl (k := 0) rfl) rfl rfl hl.1 rfl (lv_room (Nat.le_of_ble_eq_true rfl)) dz_M_take_48 ⟨Nat.le_of_ble_eq_true rfl, Nat.le_of_ble_eq_true rfl⟩) hS (fun q _ h => hFc q h) hFc (fun r_7 u_7 t_7 H locs ht hvm hw hB hz1 hk1 hS => ?_)
        have hw : r_7 = (zm_out M p1).1 := hw
        subst hw
        obtain ⟨hP, hD⟩ := hB
        rw [ht] at hP
        have hD := hD.weaken (fun _ q _ h => hFc q.1 h)
        obtain ⟨S_8, eS_8⟩ : ∃ z, z = (zm_out M p1).2 := ⟨_, rfl⟩
        rw [← eS_8] at hP hD
        have hok : zm_ok S_8 := by rw [eS_8]; exact zm_ok_out hok
        refine lv_goto (tgt := 55) hx hb dz_M_take_51 (by decide) ?_
        have hE_9 : zm_take M p1 p2 = ((zm_out M p1).1, S_8) := by subst eS_8; simp only [zm_take, if_neg c_2, if_neg c_4, if_pos c_6]
        exact W.iret (v := (zm_out M p1).1) hx hb hr (fun t ht hW => ⟨⟨_, (), rfl, by show (zm_out M p1).1 = (zm_take M p1 p2).1; rw [hE_9], by show va_P (dC, dI) vwCl (zm_W ci cj cz h0 a ((zm_take M p1 p2).2)) t.heap; rw [ht, hE_9]; exact hP, by show va_D A (zm_W ci cj cz h0 a ((zm_take M p1 p2).2)); rw [hE_9]; exact hD⟩, hS.F ht⟩) hS.2.2 dz_M_take_55
      · refine lv_aload_n hx hb dz_M_take_36 rfl (lv_at hl 0 rfl) ?_
        refine va_get (D := (dC, dI)) (ci := 3) (v := .ref a.2.1) (C := RzM) (T := TzM) (N := 18) hx hb hz inzM hown hK hP 0 rfl rfl 2 (by decide) (hz _ zi_238) (fun _ h9 => h9) rfl dz_M_take_37 ?_
        refine lv_iload_n hx hb dz_M_take_40 rfl (lv_at hl 1 rfl) ?_
        have hin_10 : vp_in p1 61 := zm_isBox_in hok0 c_2
        refine va_iald hx hb hK hP 2 0 rfl rfl hin_10 dz_M_take_41 ?_
        refine lv_iconst (v := 2) hx hb dz_M_take_42 (by decide) ?_
        refine lv_icmp_ne (tgt := 54) hx hb dz_M_take_43 (by decide) (fun c_11 => ?_) (fun c_11 => ?_)
        · refine lv_iconst (v := 0) hx hb dz_M_take_54 (by decide) ?_
          have hE_12 : zm_take M p1 p2 = (0, M) := by simp only [zm_take, if_neg c_2, if_neg c_4, if_neg c_6, if_neg c_11]
          exact W.iret (v := 0) hx hb hr (fun t ht hW => ⟨⟨_, (), rfl, by show 0 = (zm_take M p1 p2).1; rw [hE_12], by show va_P (dC, dI) vwCl (zm_W ci cj cz h0 a ((zm_take M p1 p2).2)) t.heap; rw [ht, hE_12]; exact hP, by show va_D A (zm_W ci cj cz h0 a ((zm_take M p1 p2).2)); rw [hE_12]; exact hD⟩, hS.F ht⟩) hS.2.2 dz_M_take_55
        · refine lv_aload_n hx hb dz_M_take_46 rfl (lv_at hl 0 rfl) ?_
          refine lv_iload_n hx hb dz_M_take_47 rfl (lv_at hl 1 rfl) ?_
          have hFc := zw_free hS hA hD
          refine va_calli (va_runV (As := [.int p1]) (rest := []) ⟨hx, hb, hml, hown, hz⟩ (ct_M_out l dC dI ci cj cz h0 a M hok s.heap.size p1 (zm_isBox_in hok0 c_2)) (cwV 1 hz (zw_gV zi_319 zi_320 zi_30 zi_35 zi_321) rfl rfl rfl (by decide +kernel) ⟨Nat.le_of_ble_eq_true rfl, Nat.le_of_ble_eq_true rfl⟩) (zw_preUV zw_ns_ok hP hD hK hN (ci := 3) rfl (k := 0) rfl) rfl rfl hl.1 rfl (lv_room (Nat.le_of_ble_eq_true rfl)) dz_M_take_48 ⟨Nat.le_of_ble_eq_true rfl, Nat.le_of_ble_eq_true rfl⟩) hS (fun q _ h => hFc q h) hFc (fun r_13 u_13 t_13 H locs ht hvm hw hB hz1 hk1 hS => ?_)
          have hw : r_13 = (zm_out M p1).1 := hw
          subst hw
          obtain ⟨hP, hD⟩ := hB
          rw [ht] at hP
          have hD := hD.weaken (fun _ q _ h => hFc q.1 h)
          obtain ⟨S_14, eS_14⟩ : ∃ z, z = (zm_out M p1).2 := ⟨_, rfl⟩
          rw [← eS_14] at hP hD
          have hok : zm_ok S_14 := by rw [eS_14]; exact zm_ok_out hok
          refine lv_goto (tgt := 55) hx hb dz_M_take_51 (by decide) ?_
          have hE_15 : zm_take M p1 p2 = ((zm_out M p1).1, S_14) := by subst eS_14; simp only [zm_take, if_neg c_2, if_neg c_4, if_neg c_6, if_pos c_11]
          exact W.iret (v := (zm_out M p1).1) hx hb hr (fun t ht hW => ⟨⟨_, (), rfl, by show (zm_out M p1).1 = (zm_take M p1 p2).1; rw [hE_15], by show va_P (dC, dI) vwCl (zm_W ci cj cz h0 a ((zm_take M p1 p2).2)) t.heap; rw [ht, hE_15]; exact hP, by show va_D A (zm_W ci cj cz h0 a ((zm_take M p1 p2).2)); rw [hE_15]; exact hD⟩, hS.F ht⟩) hS.2.2 dz_M_take_55
    · refine lv_bipush (v := -12) hx hb dz_M_take_23 (by decide) ?_
      have hE_16 : zm_take M p1 p2 = ((-12), M) := by simp only [zm_take, if_neg c_2, if_pos c_4]
      exact W.iret (v := (-12)) hx hb hr (fun t ht hW => ⟨⟨_, (), rfl, by show (-12) = (zm_take M p1 p2).1; rw [hE_16], by show va_P (dC, dI) vwCl (zm_W ci cj cz h0 a ((zm_take M p1 p2).2)) t.heap; rw [ht, hE_16]; exact hP, by show va_D A (zm_W ci cj cz h0 a ((zm_take M p1 p2).2)); rw [hE_16]; exact hD⟩, hS.F ht⟩) hS.2.2 dz_M_take_25
  · refine lv_bipush (v := -11) hx hb dz_M_take_8 (by decide) ?_
    have hE_17 : zm_take M p1 p2 = ((-11), M) := by simp only [zm_take, if_pos c_2]
    exact W.iret (v := (-11)) hx hb hr (fun t ht hW => ⟨⟨_, (), rfl, by show (-11) = (zm_take M p1 p2).1; rw [hE_17], by show va_P (dC, dI) vwCl (zm_W ci cj cz h0 a ((zm_take M p1 p2).2)) t.heap; rw [ht, hE_17]; exact hP, by show va_D A (zm_W ci cj cz h0 a ((zm_take M p1 p2).2)); rw [hE_17]; exact hD⟩, hS.F ht⟩) hS.2.2 dz_M_take_10
set_option maxHeartbeats 4000000 in
set_option maxRecDepth 100000 in
theorem ct_M_item (l : Launch) (dC : Nat → ClassId) (dI : Nat → Nat → Nat) (ci cj cz : ClassId) (h0 : Nat) (a : zm_Ad) (M : zm_S) (hok : zm_ok M) (p1 : Int32) : Met l yz_M_item wz_M_item (zw_room 2 0 0) (zw_R zw_ns (dC, dI) vwCl (zm_tys ci cj cz) [.ref h0, .int p1] (zm_W ci cj cz h0 a M)) (vp_Si (fun r => r = zm_item M p1)) 0 0 (fun _ => False) := by
  refine Met.ofW (cc := cz_M_item) (maxL := 2) (ret := (some .int)) (by decide) rfl ?_
  intro p e s m args below meth c s₁ B hml hv
  obtain ⟨rfl, hP, hK, hN⟩ := hv
  have hx := B.exec
  have hb := B.bytes
  have hr := B.returns
  have hts := atoms_spec (ws := wz_M_item) B.pre
  have hz : ∀ w ∈ zw_T, w.before ([.ref h0, .int p1] : List Value).toArray s = true := fun w h => hts w (List.mem_cons_of_mem _ h)
  have hown : s.vm.findClass RzM = some m.cls := findClass_of_methodNamed B.named
  have hlocks := B.notSynchronized
  have hok0 := hok
  have hl := lv_entry ([.ref h0, .int p1]) (n := 2) (Nat.le_of_ble_eq_true rfl)
  rw [lg_entry_eq]
  generalize (lg_sl ([.ref h0, .int p1]) ++ List.replicate (2 - (lg_sl ([.ref h0, .int p1])).length) Slot.unset).toArray = ls at hl ⊢
  have hl : lv_has ls 2 [(0, .ref h0), (1, .int p1)] := hl
  refine lv_aload_n hx hb dz_M_item_0 rfl (lv_at hl 0 rfl) ?_
  refine lv_iload_n hx hb dz_M_item_1 rfl (lv_at hl 1 rfl) ?_
  refine vp_callSi (va_Run.run (va_runV (As := [.int p1]) (rest := []) ⟨hx, hb, hml, hown, hz⟩ (ct_M_isBox l dC dI ci cj cz h0 a M hok p1) (cwV 1 hz (zw_gV zi_296 zi_297 zi_26 zi_35 zi_298) rfl rfl rfl (by decide +kernel) ⟨Nat.le_of_ble_eq_true rfl, Nat.le_of_ble_eq_true rfl⟩) (zw_preRV zw_ns_ok hP hK hN (ci := 3) rfl (k := 0) rfl) rfl rfl hl.1 rfl (lv_room (Nat.le_of_ble_eq_true rfl)) dz_M_item_2 ⟨Nat.le_of_ble_eq_true rfl, Nat.le_of_ble_eq_true rfl⟩)) (fun r_1 hr_1 => ?_)
  have hr_1 : r_1 = zm_isBox M p1 := hr_1
  subst hr_1
  refine lv_if_ne (tgt := 13) hx hb dz_M_item_5 (by decide) (fun c_2 => ?_) (fun c_2 => ?_)
  · refine lv_aload_n hx hb dz_M_item_13 rfl (lv_at hl 0 rfl) ?_
    refine va_get (D := (dC, dI)) (ci := 3) (v := .ref a.2.2.2.2.2.2.2.1) (C := RzM) (T := TzM) (N := 18) hx hb hz inzM hown hK hP 0 rfl rfl 8 (by decide) (hz _ zi_244) (fun _ h9 => h9) rfl dz_M_item_14 ?_
    refine lv_iload_n hx hb dz_M_item_17 rfl (lv_at hl 1 rfl) ?_
    have hin_3 : vp_in p1 61 := zm_isBox_in hok0 c_2
    refine va_zald hx hb hK hP 8 2 rfl rfl hin_3 dz_M_item_18 ?_
    refine lv_if_eq (tgt := 32) hx hb dz_M_item_19 (by decide) (fun c_4 => ?_) (fun c_4 => ?_)
    · refine lv_aload_n hx hb dz_M_item_32 rfl (lv_at hl 0 rfl) ?_
      refine va_get (D := (dC, dI)) (ci := 3) (v := .ref a.2.2.2.2.1) (C := RzM) (T := TzM) (N := 18) hx hb hz inzM hown hK hP 0 rfl rfl 5 (by decide) (hz _ zi_241) (fun _ h9 => h9) rfl dz_M_item_33 ?_
      refine lv_iload_n hx hb dz_M_item_36 rfl (lv_at hl 1 rfl) ?_
      have hin_5 : vp_in p1 61 := zm_isBox_in hok0 c_2
      refine va_iald hx hb hK hP 5 0 rfl rfl hin_5 dz_M_item_37 ?_
      exact W.iret (v := zm_it M p1.toNatClampNeg) hx hb hr (fun t ht hW => ⟨_, rfl, by simp only [zm_item, if_neg c_2, if_pos c_4], ht⟩) (fun _ h => by cases h) dz_M_item_38
    · refine lv_aload_n hx hb dz_M_item_22 rfl (lv_at hl 0 rfl) ?_
      refine va_get (D := (dC, dI)) (ci := 3) (v := .ref a.2.2.2.2.1) (C := RzM) (T := TzM) (N := 18) hx hb hz inzM hown hK hP 0 rfl rfl 5 (by decide) (hz _ zi_241) (fun _ h9 => h9) rfl dz_M_item_23 ?_
      refine lv_iload_n hx hb dz_M_item_26 rfl (lv_at hl 1 rfl) ?_
      have hin_6 : vp_in p1 61 := zm_isBox_in hok0 c_2
      refine va_iald hx hb hK hP 5 0 rfl rfl hin_6 dz_M_item_27 ?_
      refine lv_ineg hx hb dz_M_item_28 ?_
      refine lv_goto (tgt := 38) hx hb dz_M_item_29 (by decide) ?_
      exact W.iret (v := -(zm_it M p1.toNatClampNeg)) hx hb hr (fun t ht hW => ⟨_, rfl, by simp only [zm_item, if_neg c_2, if_neg c_4], ht⟩) (fun _ h => by cases h) dz_M_item_38
  · refine lv_bipush (v := -11) hx hb dz_M_item_8 (by decide) ?_
    refine lv_goto (tgt := 38) hx hb dz_M_item_10 (by decide) ?_
    exact W.iret (v := (-11)) hx hb hr (fun t ht hW => ⟨_, rfl, by simp only [zm_item, if_pos c_2], ht⟩) (fun _ h => by cases h) dz_M_item_38
set_option maxHeartbeats 4000000 in
set_option maxRecDepth 100000 in
theorem ct_M_freed (l : Launch) (dC : Nat → ClassId) (dI : Nat → Nat → Nat) (ci cj cz : ClassId) (h0 : Nat) (a : zm_Ad) (M : zm_S) (hok : zm_ok M) (p1 : Int32) : Met l yz_M_freed wz_M_freed (zw_room 1 0 0) (zw_R zw_ns (dC, dI) vwCl (zm_tys ci cj cz) [.ref h0, .int p1] (zm_W ci cj cz h0 a M)) (vp_Si (fun r => r = zm_freed M p1)) 0 0 (fun _ => False) := by
  refine Met.ofW (cc := cz_M_freed) (maxL := 2) (ret := (some .int)) (by decide) rfl ?_
  intro p e s m args below meth c s₁ B hml hv
  obtain ⟨rfl, hP, hK, hN⟩ := hv
  have hx := B.exec
  have hb := B.bytes
  have hr := B.returns
  have hts := atoms_spec (ws := wz_M_freed) B.pre
  have hz : ∀ w ∈ zw_T, w.before ([.ref h0, .int p1] : List Value).toArray s = true := fun w h => hts w (List.mem_cons_of_mem _ h)
  have hown : s.vm.findClass RzM = some m.cls := findClass_of_methodNamed B.named
  have hlocks := B.notSynchronized
  have hok0 := hok
  have hl := lv_entry ([.ref h0, .int p1]) (n := 2) (Nat.le_of_ble_eq_true rfl)
  rw [lg_entry_eq]
  generalize (lg_sl ([.ref h0, .int p1]) ++ List.replicate (2 - (lg_sl ([.ref h0, .int p1])).length) Slot.unset).toArray = ls at hl ⊢
  have hl : lv_has ls 2 [(0, .ref h0), (1, .int p1)] := hl
  refine lv_iload_n hx hb dz_M_freed_0 rfl (lv_at hl 1 rfl) ?_
  refine lv_i2l (v := p1.toInt64) hx hb dz_M_freed_1 rfl ?_
  refine lv_lconst (v := 0) hx hb dz_M_freed_2 (by decide) ?_
  refine lv_aload_n hx hb dz_M_freed_3 rfl (lv_at hl 0 rfl) ?_
  refine va_get (D := (dC, dI)) (ci := 3) (v := .int (nI (zm_fn M))) (C := RzM) (T := TzM) (N := 18) hx hb hz inzM hown hK hP 0 rfl rfl 16 (by decide) (hz _ zi_252) (fun _ h9 => h9) rfl dz_M_freed_4 ?_
  refine lv_iconst (v := 1) hx hb dz_M_freed_7 (by decide) ?_
  refine lv_isub hx hb dz_M_freed_8 ?_
  refine lv_i2l (v := ((nI (zm_fn M)) - 1).toInt64) hx hb dz_M_freed_9 rfl ?_
  refine vp_callSi (va_Run.run (va_runS (As := [.long p1.toInt64, .long 0, .long (((nI (zm_fn M)) - 1).toInt64)]) (rest := []) ⟨hx, hb, hml, hown, hz⟩ (ct_M_within l dC dI ci cj cz p1.toInt64 0 (((nI (zm_fn M)) - 1).toInt64)) (cwS 3 hz (zw_gS zi_279 zi_280 zi_35 zi_281) rfl rfl rfl (by decide +kernel) ⟨Nat.le_of_ble_eq_true rfl, Nat.le_of_ble_eq_true rfl⟩) (zw_preR zw_ns_ok (ws := []) (fun k q h => by simp at h) hK hN) rfl rfl hl.1 rfl (lv_room (Nat.le_of_ble_eq_true rfl)) dz_M_freed_10 ⟨Nat.le_of_ble_eq_true rfl, Nat.le_of_ble_eq_true rfl⟩)) (fun r_1 hr_1 => ?_)
  have hr_1 : r_1 = zm_within p1.toInt64 0 (((nI (zm_fn M)) - 1).toInt64) := hr_1
  subst hr_1
  refine lv_if_eq (tgt := 25) hx hb dz_M_freed_13 (by decide) (fun c_2 => ?_) (fun c_2 => ?_)
  · refine lv_iconst (v := 0) hx hb dz_M_freed_25 (by decide) ?_
    exact W.iret (v := 0) hx hb hr (fun t ht hW => ⟨_, rfl, by simp only [zm_freed, if_pos c_2], ht⟩) (fun _ h => by cases h) dz_M_freed_26
  · refine lv_aload_n hx hb dz_M_freed_16 rfl (lv_at hl 0 rfl) ?_
    refine va_get (D := (dC, dI)) (ci := 3) (v := .ref a.2.2.2.2.2.2.2.2.2.2) (C := RzM) (T := TzM) (N := 18) hx hb hz inzM hown hK hP 0 rfl rfl 17 (by decide) (hz _ zi_253) (fun _ h9 => h9) rfl dz_M_freed_17 ?_
    refine lv_iload_n hx hb dz_M_freed_20 rfl (lv_at hl 1 rfl) ?_
    have hin_3 : vp_in p1 100 := zm_free_in hok0 c_2
    refine va_iald hx hb hK hP 11 0 rfl rfl hin_3 dz_M_freed_21 ?_
    refine lv_goto (tgt := 26) hx hb dz_M_freed_22 (by decide) ?_
    exact W.iret (v := zm_fr M p1.toNatClampNeg) hx hb hr (fun t ht hW => ⟨_, rfl, by simp only [zm_freed, if_neg c_2], ht⟩) (fun _ h => by cases h) dz_M_freed_26

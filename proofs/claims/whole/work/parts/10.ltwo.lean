set_option maxHeartbeats 4000000 in
set_option maxRecDepth 100000 in
theorem ct_L_wantedCode (l : Launch) (dC : Nat → ClassId) (dI : Nat → Nat → Nat) (cq ci : ClassId) (h0 : Nat) (a : zl_Ad) (S : zl_S) (hok : zl_ok S) (sz : Nat) : Met l yz_L_wantedCode wz_L_wantedCode (zw_room 2 0 0) (zw_U zw_ns (dC, dI) vwCl (zl_tys cq ci) [.ref h0] (zl_W cq ci h0 a S) sz) (va_Qi (fun (r : Int32) (_ : Unit) => r = (zl_wanted S).1) (fun (_ : Unit) (t : State) => va_P (dC, dI) vwCl (zl_W cq ci h0 a ((zl_wanted S).2)) t.heap ∧ va_D (va_A (zl_W cq ci h0 a S) sz) (zl_W cq ci h0 a ((zl_wanted S).2))) (va_A (zl_W cq ci h0 a S) sz)) 0 0 (va_A (zl_W cq ci h0 a S) sz) := by
  refine Met.ofW (cc := cz_L_wantedCode) (maxL := 3) (ret := (some .int)) (by decide) rfl ?_
  intro p e s m args below meth c s₁ B hml hv
  obtain ⟨rfl, hsz, hP, hK, hD0, hN⟩ := hv
  have hx := B.exec
  have hb := B.bytes
  have hr := B.returns
  have hts := atoms_spec (ws := wz_L_wantedCode) B.pre
  have hz : ∀ w ∈ zw_T, w.before ([.ref h0] : List Value).toArray s = true := fun w h => hts w (List.mem_cons_of_mem _ h)
  have hown : s.vm.findClass RzL = some m.cls := findClass_of_methodNamed B.named
  have hlocks := B.notSynchronized
  subst hsz
  have hD := hD0.self (sz := s.heap.size)
  generalize hAe : va_A (zl_W cq ci h0 a S) s.heap.size = A at hD ⊢
  have hA : ∀ q : Nat, s.heap.size ≤ q → A q := fun q h => by rw [← hAe]; exact Or.inr h
  have hS : va_S A s.heap s.heap [] := va_S.rf
  have hl := lv_entry ([.ref h0]) (n := 3) (Nat.le_of_ble_eq_true rfl)
  rw [lg_entry_eq]
  generalize (lg_sl ([.ref h0]) ++ List.replicate (3 - (lg_sl ([.ref h0])).length) Slot.unset).toArray = ls at hl ⊢
  have hl : lv_has ls 3 [(0, .ref h0)] := hl
  refine lv_iconst (v := nI 0) hx hb dz_L_wantedCode_0 (by decide) ?_
  refine lv_istore_n (lv' := [(1, .int (nI 0)), (0, .ref h0)]) hx hb dz_L_wantedCode_1 rfl hl (by decide) rfl (fun ls hl => ?_)
  have loop : ∀ (k j : Nat) (ls : Array Slot), j + k = (zl_P S).2 → zl_wc S (zl_P S).2 0 = zl_wc S k j → lv_has ls 3 [(1, .int (nI j)), (0, .ref h0)] → W p l e (headSpec wz_L_wantedCode (zw_room 2 0 0)).room s m ([.ref h0] : List Value).toArray below meth c s.heap [] 0 0 (MQ below (va_Qi (fun (r : Int32) (_ : Unit) => r = (zl_wanted S).1) (fun (_ : Unit) (t : State) => va_P (dC, dI) vwCl (zl_W cq ci h0 a ((zl_wanted S).2)) t.heap ∧ va_D A (zl_W cq ci h0 a ((zl_wanted S).2))) A) ([.ref h0] : List Value).toArray s 0 0 A) (F0 m 2 ls []) := by
    intro k
    induction k with
    | zero =>
      intro j ls hjk hinv hl
      refine lv_iload_n hx hb dz_L_wantedCode_2 rfl (lv_at hl 0 rfl) ?_
      refine lv_aload_n hx hb dz_L_wantedCode_3 rfl (lv_at hl 1 rfl) ?_
      refine va_get (D := (dC, dI)) (ci := 2) (v := .ref a.2.1) (C := RzL) (T := TzL) (N := 9) hx hb hz inzL hown hK hP 0 rfl rfl 2 (by decide) (hz _ zi_59) (fun _ h9 => h9) rfl dz_L_wantedCode_4 ?_
      refine vp_callSi (va_Run.run (va_runVN (As := []) (rest := [.int (nI j)]) ⟨hx, hb, hml, hown, hz⟩ (ct_T_length l dC dI cq ci a.2.1 a.2.2.1 (zl_P S) hok.2.1) ⟨va_cnB 0 hz (zw_g1 zi_115) rfl rfl rfl (hN _ zn_10) (hz _ zi_34) (by decide +kernel) ⟨Nat.le_of_ble_eq_true rfl, Nat.le_of_ble_eq_true rfl⟩, hz _ zi_114, hz _ zi_1⟩ (zw_preRV zw_ns_ok (hP.sub (ws' := zt_W ci a.2.1 a.2.2.1 (zl_P S)) [2, 3] rfl) hK hN (ci := 1) rfl (k := 0) rfl) rfl rfl hl.1 rfl (lv_room (Nat.le_of_ble_eq_true rfl)) dz_L_wantedCode_7 ⟨Nat.le_of_ble_eq_true rfl, Nat.le_of_ble_eq_true rfl⟩)) (fun r_1 hr_1 => ?_)
      have hr_1 : r_1 = zt_length (zl_P S) := hr_1
      subst hr_1
      refine lv_icmp_ge (tgt := 48) hx hb dz_L_wantedCode_10 (by decide) (fun c_2 => ?_) (fun c_2 => ?_)
      · refine lv_iconst (v := -1) hx hb dz_L_wantedCode_48 (by decide) ?_
        have hE_3 : zl_wanted S = ((-1), S) := by rw [zl_wanted, hinv]; rfl
        exact W.iret (v := (-1)) hx hb hr (fun t ht hW => ⟨⟨_, (), rfl, by show (-1) = (zl_wanted S).1; rw [hE_3], by show va_P (dC, dI) vwCl (zl_W cq ci h0 a ((zl_wanted S).2)) t.heap; rw [ht, hE_3]; exact hP, by show va_D A (zl_W cq ci h0 a ((zl_wanted S).2)); rw [hE_3]; exact hD⟩, hS.F ht⟩) hS.2.2 dz_L_wantedCode_49
      · exact absurd (nI_le (by omega) (by have := hok.2.1; omega)) c_2
    | succ k ih =>
      intro j ls hjk hinv hl
      have hj : j < (zl_P S).2 := by omega
      refine lv_iload_n hx hb dz_L_wantedCode_2 rfl (lv_at hl 0 rfl) ?_
      refine lv_aload_n hx hb dz_L_wantedCode_3 rfl (lv_at hl 1 rfl) ?_
      refine va_get (D := (dC, dI)) (ci := 2) (v := .ref a.2.1) (C := RzL) (T := TzL) (N := 9) hx hb hz inzL hown hK hP 0 rfl rfl 2 (by decide) (hz _ zi_59) (fun _ h9 => h9) rfl dz_L_wantedCode_4 ?_
      refine vp_callSi (va_Run.run (va_runVN (As := []) (rest := [.int (nI j)]) ⟨hx, hb, hml, hown, hz⟩ (ct_T_length l dC dI cq ci a.2.1 a.2.2.1 (zl_P S) hok.2.1) ⟨va_cnB 0 hz (zw_g1 zi_115) rfl rfl rfl (hN _ zn_10) (hz _ zi_34) (by decide +kernel) ⟨Nat.le_of_ble_eq_true rfl, Nat.le_of_ble_eq_true rfl⟩, hz _ zi_114, hz _ zi_1⟩ (zw_preRV zw_ns_ok (hP.sub (ws' := zt_W ci a.2.1 a.2.2.1 (zl_P S)) [2, 3] rfl) hK hN (ci := 1) rfl (k := 0) rfl) rfl rfl hl.1 rfl (lv_room (Nat.le_of_ble_eq_true rfl)) dz_L_wantedCode_7 ⟨Nat.le_of_ble_eq_true rfl, Nat.le_of_ble_eq_true rfl⟩)) (fun r_4 hr_4 => ?_)
      have hr_4 : r_4 = zt_length (zl_P S) := hr_4
      subst hr_4
      refine lv_icmp_ge (tgt := 48) hx hb dz_L_wantedCode_10 (by decide) (fun c_5 => ?_) (fun c_5 => ?_)
      · exact absurd c_5 (nI_ge hj (by have := hok.2.1; omega))
      · refine lv_aload_n hx hb dz_L_wantedCode_13 rfl (lv_at hl 1 rfl) ?_
        refine va_get (D := (dC, dI)) (ci := 2) (v := .ref a.2.1) (C := RzL) (T := TzL) (N := 9) hx hb hz inzL hown hK hP 0 rfl rfl 2 (by decide) (hz _ zi_59) (fun _ h9 => h9) rfl dz_L_wantedCode_14 ?_
        refine lv_iload_n hx hb dz_L_wantedCode_17 rfl (lv_at hl 0 rfl) ?_
        refine vp_callSi (va_Run.run (va_runVN (As := [.int (nI j)]) (rest := []) ⟨hx, hb, hml, hown, hz⟩ (ct_T_at l dC dI cq ci a.2.1 a.2.2.1 (zl_P S) hok.2.1 (nI j)) ⟨va_cnB 1 hz (zw_g1 zi_175) rfl rfl rfl (hN _ zn_17) (hz _ zi_34) (by decide +kernel) ⟨Nat.le_of_ble_eq_true rfl, Nat.le_of_ble_eq_true rfl⟩, hz _ zi_174, hz _ zi_17⟩ (zw_preRV zw_ns_ok (hP.sub (ws' := zt_W ci a.2.1 a.2.2.1 (zl_P S)) [2, 3] rfl) hK hN (ci := 1) rfl (k := 0) rfl) rfl rfl hl.1 rfl (lv_room (Nat.le_of_ble_eq_true rfl)) dz_L_wantedCode_18 ⟨Nat.le_of_ble_eq_true rfl, Nat.le_of_ble_eq_true rfl⟩)) (fun r_6 hr_6 => ?_)
        have hr_6 : r_6 = zt_at (zl_P S) (nI j) := hr_6
        subst hr_6
        refine lv_istore_n (lv' := [(2, .int (zt_at (zl_P S) (nI j))), (1, .int (nI j)), (0, .ref h0)]) hx hb dz_L_wantedCode_21 rfl hl (by decide) rfl (fun ls hl => ?_)
        refine lv_aload_n hx hb dz_L_wantedCode_22 rfl (lv_at hl 2 rfl) ?_
        refine lv_iload_n hx hb dz_L_wantedCode_23 rfl (lv_at hl 0 rfl) ?_
        refine vp_callSi (va_Run.run (va_runV (As := [.int (zt_at (zl_P S) (nI j))]) (rest := []) ⟨hx, hb, hml, hown, hz⟩ (ct_L_boxNumberOfCode l dC dI cq ci h0 a S hok (zt_at (zl_P S) (nI j))) (cwV 1 hz (zw_gV zi_176 zi_177 zi_18 zi_33 zi_178) rfl rfl rfl (by decide +kernel) ⟨Nat.le_of_ble_eq_true rfl, Nat.le_of_ble_eq_true rfl⟩) (zw_preRV zw_ns_ok hP hK hN (ci := 2) rfl (k := 0) rfl) rfl rfl hl.1 rfl (lv_room (Nat.le_of_ble_eq_true rfl)) dz_L_wantedCode_24 ⟨Nat.le_of_ble_eq_true rfl, Nat.le_of_ble_eq_true rfl⟩)) (fun r_7 hr_7 => ?_)
        have hr_7 : r_7 = zl_boxNumberOfCode S (zt_at (zl_P S) (nI j)) := hr_7
        subst hr_7
        refine lv_if_ne (tgt := 42) hx hb dz_L_wantedCode_27 (by decide) (fun c_8 => ?_) (fun c_8 => ?_)
        · refine lv_iinc (v := nI (j + 1)) (lv' := [(1, .int (nI (j + 1))), (2, .int (zt_at (zl_P S) (nI j))), (0, .ref h0)]) hx hb dz_L_wantedCode_42 hl (k := 1) rfl (nI_1 _) (by decide) rfl (fun ls hl => ?_)
          refine lv_goto (tgt := 2) hx hb dz_L_wantedCode_45 (by decide) ?_
          exact ih (j + 1) ls (by omega) (by rw [hinv]; simp only [zl_wc, if_neg c_8]) (lv_sub hl [0, 2] rfl)
        · refine lv_aload_n hx hb dz_L_wantedCode_30 rfl (lv_at hl 2 rfl) ?_
          refine va_get (D := (dC, dI)) (ci := 2) (v := .ref a.2.1) (C := RzL) (T := TzL) (N := 9) hx hb hz inzL hown hK hP 0 rfl rfl 2 (by decide) (hz _ zi_59) (fun _ h9 => h9) rfl dz_L_wantedCode_31 ?_
          refine lv_iload_n hx hb dz_L_wantedCode_34 rfl (lv_at hl 1 rfl) ?_
          refine lv_iconst (v := 1) hx hb dz_L_wantedCode_35 (by decide) ?_
          refine lv_iadd hx hb dz_L_wantedCode_36 ?_
          have hFc := zw_free hS hA (hD.sub (ws' := zt_W ci a.2.1 a.2.2.1 (zl_P S)) [2, 3] (by decide) rfl)
          refine va_callv (va_runVN (As := [.int ((nI j) + 1)]) (rest := []) ⟨hx, hb, hml, hown, hz⟩ (ct_T_dropFirst l dC dI cq ci a.2.1 a.2.2.1 (zl_P S) hok.2.1 s.heap.size ((nI j) + 1)) ⟨va_cnB 1 hz (zw_g1 zi_180) rfl rfl rfl (hN _ zn_19) (hz _ zi_34) (by decide +kernel) ⟨Nat.le_of_ble_eq_true rfl, Nat.le_of_ble_eq_true rfl⟩, hz _ zi_179, hz _ zi_19⟩ (zw_preUV zw_ns_ok (hP.sub (ws' := zt_W ci a.2.1 a.2.2.1 (zl_P S)) [2, 3] rfl) (hD.sub (ws' := zt_W ci a.2.1 a.2.2.1 (zl_P S)) [2, 3] (by decide) rfl) hK hN (ci := 1) rfl (k := 0) rfl) rfl rfl hl.1 rfl (lv_room (Nat.le_of_ble_eq_true rfl)) dz_L_wantedCode_37 ⟨Nat.le_of_ble_eq_true rfl, Nat.le_of_ble_eq_true rfl⟩) hS (fun q _ h => hFc q h) hFc (fun u_9 t_9 H locs ht hvm hw hB hz1 hk1 hS => ?_)
          have hB : va_P (dC, dI) vwCl (zt_W ci a.2.1 a.2.2.1 (zt_drop (zl_P S) ((nI j) + 1))) t_9.heap := hB
          rw [ht] at hB
          obtain ⟨hP, hD⟩ := zl_joinT hP hD hk1 hB
          obtain ⟨S_10, eS_10⟩ : ∃ z, z = zl_sP S (zt_drop (zl_P S) ((nI j) + 1)) := ⟨_, rfl⟩
          rw [← eS_10] at hP hD
          have hok : zl_ok S_10 := by rw [eS_10]; exact zl_ok_drop hok
          refine lv_iload_n hx hb dz_L_wantedCode_40 rfl (lv_at hl 0 rfl) ?_
          subst eS_10
          have hE_11 : zl_wanted S = (zt_at (zl_P S) (nI j), zl_sP S (zt_drop (zl_P S) ((nI j) + 1))) := by rw [zl_wanted, hinv]; simp only [zl_wc, if_pos c_8]
          exact W.iret (v := zt_at (zl_P S) (nI j)) hx hb hr (fun t ht hW => ⟨⟨_, (), rfl, by show zt_at (zl_P S) (nI j) = (zl_wanted S).1; rw [hE_11], by show va_P (dC, dI) vwCl (zl_W cq ci h0 a ((zl_wanted S).2)) t.heap; rw [ht, hE_11]; exact hP, by show va_D A (zl_W cq ci h0 a ((zl_wanted S).2)); rw [hE_11]; exact hD⟩, hS.F ht⟩) hS.2.2 dz_L_wantedCode_41
  exact loop (zl_P S).2 0 ls (by omega) rfl (lv_sub hl [0, 1] rfl)
set_option maxHeartbeats 4000000 in
set_option maxRecDepth 100000 in
theorem ct_L_countWrongTry (l : Launch) (dC : Nat → ClassId) (dI : Nat → Nat → Nat) (cq ci : ClassId) (h0 : Nat) (a : zl_Ad) (S : zl_S) (hok : zl_ok S) (sz : Nat) (p1 : Int64) : Met l yz_L_countWrongTry wz_L_countWrongTry (zw_room 0 0 0) (zw_U zw_ns (dC, dI) vwCl (zl_tys cq ci) [.ref h0, .long p1] (zl_W cq ci h0 a S) sz) (va_Qv (fun _ : Unit => True) (fun (_ : Unit) (t : State) => va_P (dC, dI) vwCl (zl_W cq ci h0 a (zl_wrong S p1)) t.heap ∧ va_D (va_A (zl_W cq ci h0 a S) sz) (zl_W cq ci h0 a (zl_wrong S p1))) (va_A (zl_W cq ci h0 a S) sz)) 0 0 (va_A (zl_W cq ci h0 a S) sz) := by
  refine Met.ofW (cc := cz_L_countWrongTry) (maxL := 3) (ret := none) (by decide) rfl ?_
  intro p e s m args below meth c s₁ B hml hv
  obtain ⟨rfl, hsz, hP, hK, hD0, hN⟩ := hv
  have hx := B.exec
  have hb := B.bytes
  have hr := B.returns
  have hts := atoms_spec (ws := wz_L_countWrongTry) B.pre
  have hz : ∀ w ∈ zw_T, w.before ([.ref h0, .long p1] : List Value).toArray s = true := fun w h => hts w (List.mem_cons_of_mem _ h)
  have hown : s.vm.findClass RzL = some m.cls := findClass_of_methodNamed B.named
  have hlocks := B.notSynchronized
  subst hsz
  have hD := hD0.self (sz := s.heap.size)
  generalize hAe : va_A (zl_W cq ci h0 a S) s.heap.size = A at hD ⊢
  have hA : ∀ q : Nat, s.heap.size ≤ q → A q := fun q h => by rw [← hAe]; exact Or.inr h
  have hS : va_S A s.heap s.heap [] := va_S.rf
  have hl := lv_entry ([.ref h0, .long p1]) (n := 3) (Nat.le_of_ble_eq_true rfl)
  rw [lg_entry_eq]
  generalize (lg_sl ([.ref h0, .long p1]) ++ List.replicate (3 - (lg_sl ([.ref h0, .long p1])).length) Slot.unset).toArray = ls at hl ⊢
  have hl : lv_has ls 3 [(0, .ref h0), (1, .long p1)] := hl
  refine lv_aload_n hx hb dz_L_countWrongTry_0 rfl (lv_at hl 0 rfl) ?_
  refine lv_dup hx hb dz_L_countWrongTry_1 rfl ?_
  refine va_get (D := (dC, dI)) (ci := 2) (v := .int (zl_R S)) (C := RzL) (T := TzL) (N := 9) hx hb hz inzL hown hK hP 0 rfl rfl 7 (by decide) (hz _ zi_64) (fun _ h9 => h9) rfl dz_L_countWrongTry_2 ?_
  refine lv_iconst (v := 1) hx hb dz_L_countWrongTry_5 (by decide) ?_
  refine lv_iadd hx hb dz_L_countWrongTry_6 ?_
  refine va_put (D := (dC, dI)) (ci := 2) (v := .int ((zl_R S) + 1)) (ty := .int) (C := RzL) (T := TzL) (N := 9) hx hb hz inzL tyzL tyzL_ok nmzL hown hK hP hD hS 0 rfl rfl 7 (by decide) (hz _ zi_64) (fun _ h9 => h9) rfl (by decide +kernel) rfl rfl (Nat.le_of_ble_eq_true rfl) dz_L_countWrongTry_7 (fun H locs hP hD hS => ?_)
  obtain ⟨S_1, eS_1⟩ : ∃ z, z = zl_sR S ((zl_R S) + 1) := ⟨_, rfl⟩
  have hP : va_P (dC, dI) vwCl (zl_W cq ci h0 a S_1) H := by rw [eS_1]; exact hP
  have hD : va_D A (zl_W cq ci h0 a S_1) := by rw [eS_1]; exact hD
  have hok : zl_ok S_1 := by rw [eS_1]; exact hok
  refine lv_aload_n hx hb dz_L_countWrongTry_10 rfl (lv_at hl 0 rfl) ?_
  refine va_get (D := (dC, dI)) (ci := 2) (v := .int (zl_R S_1)) (C := RzL) (T := TzL) (N := 9) hx hb hz inzL hown hK hP 0 rfl rfl 7 (by decide) (hz _ zi_64) (fun _ h9 => h9) rfl dz_L_countWrongTry_11 ?_
  refine lv_iconst (v := 3) hx hb dz_L_countWrongTry_14 (by decide) ?_
  refine lv_icmp_lt (tgt := 32) hx hb dz_L_countWrongTry_15 (by decide) (fun c_2 => ?_) (fun c_2 => ?_)
  · subst eS_1
    have hE_3 : zl_wrong S p1 = zl_sR S ((zl_R S) + 1) := by simp only [zl_wrong, if_pos c_2]
    exact W.vret hx hb hr (fun t ht hW => ⟨⟨(), rfl, trivial, by show va_P (dC, dI) vwCl (zl_W cq ci h0 a (zl_wrong S p1)) t.heap; rw [ht, hE_3]; exact hP, by show va_D A (zl_W cq ci h0 a (zl_wrong S p1)); rw [hE_3]; exact hD⟩, hS.F ht⟩) hS.2.2 dz_L_countWrongTry_32
  · refine lv_aload_n hx hb dz_L_countWrongTry_18 rfl (lv_at hl 0 rfl) ?_
    refine lv_iconst (v := 0) hx hb dz_L_countWrongTry_19 (by decide) ?_
    refine va_put (D := (dC, dI)) (ci := 2) (v := .int 0) (ty := .int) (C := RzL) (T := TzL) (N := 9) hx hb hz inzL tyzL tyzL_ok nmzL hown hK hP hD hS 0 rfl rfl 7 (by decide) (hz _ zi_64) (fun _ h9 => h9) rfl (by decide +kernel) rfl rfl (Nat.le_of_ble_eq_true rfl) dz_L_countWrongTry_20 (fun H locs hP hD hS => ?_)
    obtain ⟨S_4, eS_4⟩ : ∃ z, z = zl_sR S_1 0 := ⟨_, rfl⟩
    have hP : va_P (dC, dI) vwCl (zl_W cq ci h0 a S_4) H := by rw [eS_4]; exact hP
    have hD : va_D A (zl_W cq ci h0 a S_4) := by rw [eS_4]; exact hD
    have hok : zl_ok S_4 := by rw [eS_4]; exact hok
    refine lv_aload_n hx hb dz_L_countWrongTry_23 rfl (lv_at hl 0 rfl) ?_
    refine lv_lload_n hx hb dz_L_countWrongTry_24 rfl (lv_at hl 1 rfl) ?_
    refine lv_ldc2 (v := 300) hx hb hown (hz _ zi_193) dz_L_countWrongTry_25 ?_
    refine lv_ladd hx hb dz_L_countWrongTry_28 ?_
    refine va_put (D := (dC, dI)) (ci := 2) (v := .long (p1 + 300)) (ty := .long) (C := RzL) (T := TzL) (N := 9) hx hb hz inzL tyzL tyzL_ok nmzL hown hK hP hD hS 0 rfl rfl 8 (by decide) (hz _ zi_65) (fun _ h9 => h9) rfl (by decide +kernel) rfl rfl (Nat.le_of_ble_eq_true rfl) dz_L_countWrongTry_29 (fun H locs hP hD hS => ?_)
    obtain ⟨S_5, eS_5⟩ : ∃ z, z = zl_sK S_4 (p1 + 300) := ⟨_, rfl⟩
    have hP : va_P (dC, dI) vwCl (zl_W cq ci h0 a S_5) H := by rw [eS_5]; exact hP
    have hD : va_D A (zl_W cq ci h0 a S_5) := by rw [eS_5]; exact hD
    have hok : zl_ok S_5 := by rw [eS_5]; exact hok
    subst eS_1 eS_4 eS_5
    have hE_6 : zl_wrong S p1 = zl_sK (zl_sR (zl_sR S ((zl_R S) + 1)) 0) (p1 + 300) := by simp only [zl_wrong, if_neg c_2]
    exact W.vret hx hb hr (fun t ht hW => ⟨⟨(), rfl, trivial, by show va_P (dC, dI) vwCl (zl_W cq ci h0 a (zl_wrong S p1)) t.heap; rw [ht, hE_6]; exact hP, by show va_D A (zl_W cq ci h0 a (zl_wrong S p1)); rw [hE_6]; exact hD⟩, hS.F ht⟩) hS.2.2 dz_L_countWrongTry_32
set_option maxHeartbeats 4000000 in
set_option maxRecDepth 100000 in
theorem ct_L_noteFreed (l : Launch) (dC : Nat → ClassId) (dI : Nat → Nat → Nat) (cq ci : ClassId) (h0 : Nat) (a : zl_Ad) (S : zl_S) (hok : zl_ok S) (sz : Nat) (p1 : Int32) : Met l yz_L_noteFreed wz_L_noteFreed (zw_room 0 0 0) (zw_U zw_ns (dC, dI) vwCl (zl_tys cq ci) [.ref h0, .int p1] (zl_W cq ci h0 a S) sz) (va_Qv (fun _ : Unit => True) (fun (_ : Unit) (t : State) => va_P (dC, dI) vwCl (zl_W cq ci h0 a (zl_note S p1)) t.heap ∧ va_D (va_A (zl_W cq ci h0 a S) sz) (zl_W cq ci h0 a (zl_note S p1))) (va_A (zl_W cq ci h0 a S) sz)) 0 0 (va_A (zl_W cq ci h0 a S) sz) := by
  refine Met.ofW (cc := cz_L_noteFreed) (maxL := 2) (ret := none) (by decide) rfl ?_
  intro p e s m args below meth c s₁ B hml hv
  obtain ⟨rfl, hsz, hP, hK, hD0, hN⟩ := hv
  have hx := B.exec
  have hb := B.bytes
  have hr := B.returns
  have hts := atoms_spec (ws := wz_L_noteFreed) B.pre
  have hz : ∀ w ∈ zw_T, w.before ([.ref h0, .int p1] : List Value).toArray s = true := fun w h => hts w (List.mem_cons_of_mem _ h)
  have hown : s.vm.findClass RzL = some m.cls := findClass_of_methodNamed B.named
  have hlocks := B.notSynchronized
  subst hsz
  have hD := hD0.self (sz := s.heap.size)
  generalize hAe : va_A (zl_W cq ci h0 a S) s.heap.size = A at hD ⊢
  have hA : ∀ q : Nat, s.heap.size ≤ q → A q := fun q h => by rw [← hAe]; exact Or.inr h
  have hS : va_S A s.heap s.heap [] := va_S.rf
  have hl := lv_entry ([.ref h0, .int p1]) (n := 2) (Nat.le_of_ble_eq_true rfl)
  rw [lg_entry_eq]
  generalize (lg_sl ([.ref h0, .int p1]) ++ List.replicate (2 - (lg_sl ([.ref h0, .int p1])).length) Slot.unset).toArray = ls at hl ⊢
  have hl : lv_has ls 2 [(0, .ref h0), (1, .int p1)] := hl
  refine lv_aload_n hx hb dz_L_noteFreed_0 rfl (lv_at hl 0 rfl) ?_
  refine va_get (D := (dC, dI)) (ci := 2) (v := .int (nI (zl_k S))) (C := RzL) (T := TzL) (N := 9) hx hb hz inzL hown hK hP 0 rfl rfl 4 (by decide) (hz _ zi_61) (fun _ h9 => h9) rfl dz_L_noteFreed_1 ?_
  refine lv_bipush (v := 100) hx hb dz_L_noteFreed_4 (by decide) ?_
  refine lv_icmp_ge (tgt := 29) hx hb dz_L_noteFreed_6 (by decide) (fun c_1 => ?_) (fun c_1 => ?_)
  · have hE_2 : zl_note S p1 = S := by simp only [zl_note, if_pos c_1]
    exact W.vret hx hb hr (fun t ht hW => ⟨⟨(), rfl, trivial, by show va_P (dC, dI) vwCl (zl_W cq ci h0 a (zl_note S p1)) t.heap; rw [ht, hE_2]; exact hP, by show va_D A (zl_W cq ci h0 a (zl_note S p1)); rw [hE_2]; exact hD⟩, hS.F ht⟩) hS.2.2 dz_L_noteFreed_29
  · refine lv_aload_n hx hb dz_L_noteFreed_9 rfl (lv_at hl 0 rfl) ?_
    refine va_get (D := (dC, dI)) (ci := 2) (v := .ref a.2.2.2.1) (C := RzL) (T := TzL) (N := 9) hx hb hz inzL hown hK hP 0 rfl rfl 3 (by decide) (hz _ zi_60) (fun _ h9 => h9) rfl dz_L_noteFreed_10 ?_
    refine lv_aload_n hx hb dz_L_noteFreed_13 rfl (lv_at hl 0 rfl) ?_
    refine va_get (D := (dC, dI)) (ci := 2) (v := .int (nI (zl_k S))) (C := RzL) (T := TzL) (N := 9) hx hb hz inzL hown hK hP 0 rfl rfl 4 (by decide) (hz _ zi_61) (fun _ h9 => h9) rfl dz_L_noteFreed_14 ?_
    refine lv_iload_n hx hb dz_L_noteFreed_17 rfl (lv_at hl 1 rfl) ?_
    have hin_3 : vp_in (nI (zl_k S)) 100 := vp_in_nI (zl_lt100 hok c_1) (by omega)
    refine va_iast hx hb hK hP hD hS 4 1 rfl rfl hin_3 dz_L_noteFreed_18 (fun H locs hP hD hS => ?_)
    obtain ⟨S_4, eS_4⟩ : ∃ z, z = zl_sF S (upd (zl_F S) (nI (zl_k S)).toNatClampNeg p1) := ⟨_, rfl⟩
    have hP : va_P (dC, dI) vwCl (zl_W cq ci h0 a S_4) H := by rw [eS_4]; exact hP
    have hD : va_D A (zl_W cq ci h0 a S_4) := by rw [eS_4]; exact hD
    have hok : zl_ok S_4 := by rw [eS_4]; exact hok
    refine lv_aload_n hx hb dz_L_noteFreed_19 rfl (lv_at hl 0 rfl) ?_
    refine lv_dup hx hb dz_L_noteFreed_20 rfl ?_
    refine va_get (D := (dC, dI)) (ci := 2) (v := .int (nI (zl_k S_4))) (C := RzL) (T := TzL) (N := 9) hx hb hz inzL hown hK hP 0 rfl rfl 4 (by decide) (hz _ zi_61) (fun _ h9 => h9) rfl dz_L_noteFreed_21 ?_
    refine lv_iconst (v := 1) hx hb dz_L_noteFreed_24 (by decide) ?_
    refine lv_iadd hx hb dz_L_noteFreed_25 ?_
    refine W.eq (g2 := F0 m 26 ls [.int (nI (zl_k S_4 + 1)), .ref h0]) (congrArg (fun z => F0 m 26 ls (.int z :: [.ref h0])) (nI_1 _)) ?_
    refine va_put (D := (dC, dI)) (ci := 2) (v := .int (nI (zl_k S_4 + 1))) (ty := .int) (C := RzL) (T := TzL) (N := 9) hx hb hz inzL tyzL tyzL_ok nmzL hown hK hP hD hS 0 rfl rfl 4 (by decide) (hz _ zi_61) (fun _ h9 => h9) rfl (by decide +kernel) rfl rfl (Nat.le_of_ble_eq_true rfl) dz_L_noteFreed_26 (fun H locs hP hD hS => ?_)
    obtain ⟨S_5, eS_5⟩ : ∃ z, z = zl_sk S_4 (zl_k S_4 + 1) := ⟨_, rfl⟩
    have hP : va_P (dC, dI) vwCl (zl_W cq ci h0 a S_5) H := by rw [eS_5]; exact hP
    have hD : va_D A (zl_W cq ci h0 a S_5) := by rw [eS_5]; exact hD
    subst eS_4 eS_5
    have hE_6 : zl_note S p1 = zl_sk (zl_sF S (upd (zl_F S) (nI (zl_k S)).toNatClampNeg p1)) (zl_k (zl_sF S (upd (zl_F S) (nI (zl_k S)).toNatClampNeg p1)) + 1) := by simp only [zl_note, if_neg c_1]
    exact W.vret hx hb hr (fun t ht hW => ⟨⟨(), rfl, trivial, by show va_P (dC, dI) vwCl (zl_W cq ci h0 a (zl_note S p1)) t.heap; rw [ht, hE_6]; exact hP, by show va_D A (zl_W cq ci h0 a (zl_note S p1)); rw [hE_6]; exact hD⟩, hS.F ht⟩) hS.2.2 dz_L_noteFreed_29
set_option maxHeartbeats 4000000 in
set_option maxRecDepth 100000 in
theorem ct_L_passTo (l : Launch) (dC : Nat → ClassId) (dI : Nat → Nat → Nat) (cq ci : ClassId) (h0 : Nat) (a : zl_Ad) (S : zl_S) (hok : zl_ok S) (sz : Nat) (p1 : Int64) : Met l yz_L_passTo wz_L_passTo (zw_room 2 0 0) (zw_U zw_ns (dC, dI) vwCl (zl_tys cq ci) [.ref h0, .long p1] (zl_W cq ci h0 a S) sz) (va_Qv (fun _ : Unit => True) (fun (_ : Unit) (t : State) => va_P (dC, dI) vwCl (zl_W cq ci h0 a (zl_passTo S p1)) t.heap ∧ va_D (va_A (zl_W cq ci h0 a S) sz) (zl_W cq ci h0 a (zl_passTo S p1))) (va_A (zl_W cq ci h0 a S) sz)) 0 0 (va_A (zl_W cq ci h0 a S) sz) := by
  refine Met.ofW (cc := cz_L_passTo) (maxL := 5) (ret := none) (by decide) rfl ?_
  intro p e s m args below meth c s₁ B hml hv
  obtain ⟨rfl, hsz, hP, hK, hD0, hN⟩ := hv
  have hx := B.exec
  have hb := B.bytes
  have hr := B.returns
  have hts := atoms_spec (ws := wz_L_passTo) B.pre
  have hz : ∀ w ∈ zw_T, w.before ([.ref h0, .long p1] : List Value).toArray s = true := fun w h => hts w (List.mem_cons_of_mem _ h)
  have hown : s.vm.findClass RzL = some m.cls := findClass_of_methodNamed B.named
  have hlocks := B.notSynchronized
  subst hsz
  have hD := hD0.self (sz := s.heap.size)
  generalize hAe : va_A (zl_W cq ci h0 a S) s.heap.size = A at hD ⊢
  have hA : ∀ q : Nat, s.heap.size ≤ q → A q := fun q h => by rw [← hAe]; exact Or.inr h
  have hS : va_S A s.heap s.heap [] := va_S.rf
  have hl := lv_entry ([.ref h0, .long p1]) (n := 5) (Nat.le_of_ble_eq_true rfl)
  rw [lg_entry_eq]
  generalize (lg_sl ([.ref h0, .long p1]) ++ List.replicate (5 - (lg_sl ([.ref h0, .long p1])).length) Slot.unset).toArray = ls at hl ⊢
  have hl : lv_has ls 5 [(0, .ref h0), (1, .long p1)] := hl
  refine lv_aload_n hx hb dz_L_passTo_0 rfl (lv_at hl 0 rfl) ?_
  refine lv_lload_n hx hb dz_L_passTo_1 rfl (lv_at hl 1 rfl) ?_
  refine va_put (D := (dC, dI)) (ci := 2) (v := .long p1) (ty := .long) (C := RzL) (T := TzL) (N := 9) hx hb hz inzL tyzL tyzL_ok nmzL hown hK hP hD hS 0 rfl rfl 5 (by decide) (hz _ zi_62) (fun _ h9 => h9) rfl (by decide +kernel) rfl rfl (Nat.le_of_ble_eq_true rfl) dz_L_passTo_2 (fun H locs hP hD hS => ?_)
  obtain ⟨S_1, eS_1⟩ : ∃ z, z = zl_sT S p1 := ⟨_, rfl⟩
  have hP : va_P (dC, dI) vwCl (zl_W cq ci h0 a S_1) H := by rw [eS_1]; exact hP
  have hD : va_D A (zl_W cq ci h0 a S_1) := by rw [eS_1]; exact hD
  have hok : zl_ok S_1 := by rw [eS_1]; exact hok
  refine lv_iconst (v := nI (0 + 1)) hx hb dz_L_passTo_5 (by decide) ?_
  refine lv_istore_n (lv' := [(3, .int (nI (0 + 1))), (0, .ref h0), (1, .long p1)]) hx hb dz_L_passTo_6 rfl hl (by decide) rfl (fun ls hl => ?_)
  have loop : ∀ (k j : Nat) (S1 : zl_S) (H : Heap) (locs : List Loc) (ls : Array Slot), j + k = zl_n S1 → zl_ok S1 → zl_passTo S p1 = zl_pass p1 k j S1 → va_P (dC, dI) vwCl (zl_W cq ci h0 a S1) H → va_D A (zl_W cq ci h0 a S1) → va_S A s.heap H locs → lv_has ls 5 [(3, .int (nI (j + 1))), (0, .ref h0), (1, .long p1)] → W p l e (headSpec wz_L_passTo (zw_room 2 0 0)).room s m ([.ref h0, .long p1] : List Value).toArray below meth c H locs 0 0 (MQ below (va_Qv (fun _ : Unit => True) (fun (_ : Unit) (t : State) => va_P (dC, dI) vwCl (zl_W cq ci h0 a (zl_passTo S p1)) t.heap ∧ va_D A (zl_W cq ci h0 a (zl_passTo S p1))) A) ([.ref h0, .long p1] : List Value).toArray s 0 0 A) (F0 m 7 ls []) := by
    intro k
    induction k with
    | zero =>
      intro j S1 H locs ls hjk hok hinv hP hD hS hl
      refine lv_iload_n hx hb dz_L_passTo_7 rfl (lv_at hl 0 rfl) ?_
      refine lv_aload_n hx hb dz_L_passTo_8 rfl (lv_at hl 1 rfl) ?_
      refine va_get (D := (dC, dI)) (ci := 2) (v := .int (nI (zl_n S1))) (C := RzL) (T := TzL) (N := 9) hx hb hz inzL hown hK hP 0 rfl rfl 1 (by decide) (hz _ zi_58) (fun _ h9 => h9) rfl dz_L_passTo_9 ?_
      refine lv_icmp_gt (tgt := 62) hx hb dz_L_passTo_12 (by decide) (fun c_2 => ?_) (fun c_2 => ?_)
      · have hE_3 : zl_passTo S p1 = S1 := by rw [hinv]; rfl
        exact W.vret hx hb hr (fun t ht hW => ⟨⟨(), rfl, trivial, by show va_P (dC, dI) vwCl (zl_W cq ci h0 a (zl_passTo S p1)) t.heap; rw [ht, hE_3]; exact hP, by show va_D A (zl_W cq ci h0 a (zl_passTo S p1)); rw [hE_3]; exact hD⟩, hS.F ht⟩) hS.2.2 dz_L_passTo_62
      · exact absurd (nI_lt (by omega) (by have := hok.1; omega)) c_2
    | succ k ih =>
      intro j S1 H locs ls hjk hok hinv hP hD hS hl
      have hj : j < zl_n S1 := by omega
      refine lv_iload_n hx hb dz_L_passTo_7 rfl (lv_at hl 0 rfl) ?_
      refine lv_aload_n hx hb dz_L_passTo_8 rfl (lv_at hl 1 rfl) ?_
      refine va_get (D := (dC, dI)) (ci := 2) (v := .int (nI (zl_n S1))) (C := RzL) (T := TzL) (N := 9) hx hb hz inzL hown hK hP 0 rfl rfl 1 (by decide) (hz _ zi_58) (fun _ h9 => h9) rfl dz_L_passTo_9 ?_
      refine lv_icmp_gt (tgt := 62) hx hb dz_L_passTo_12 (by decide) (fun c_4 => ?_) (fun c_4 => ?_)
      · exact absurd c_4 (nI_nlt (by omega) (by have := hok.1; omega))
      · refine lv_aload_n hx hb dz_L_passTo_15 rfl (lv_at hl 1 rfl) ?_
        refine lv_iload_n hx hb dz_L_passTo_16 rfl (lv_at hl 0 rfl) ?_
        refine va_csq (va_Run.run (va_runV (As := [.int (nI (j + 1))]) (rest := []) ⟨hx, hb, hml, hown, hz⟩ (ct_L_boxAt l dC dI cq ci h0 a S1 hok (nI (j + 1))) (cwV 1 hz (zw_gV zi_124 zi_125 zi_3 zi_33 zi_126) rfl rfl rfl (by decide +kernel) ⟨Nat.le_of_ble_eq_true rfl, Nat.le_of_ble_eq_true rfl⟩) (zw_preRV zw_ns_ok hP hK hN (ci := 2) rfl (k := 0) rfl) rfl rfl hl.1 rfl (lv_room (Nat.le_of_ble_eq_true rfl)) dz_L_passTo_17 ⟨Nat.le_of_ble_eq_true rfl, Nat.le_of_ble_eq_true rfl⟩)) (fun r_5 hr_5 => ?_)
        have hr_5 : r_5 = Option.map (zl_ab a) (zl_boxAt S1 (nI (j + 1))) := hr_5
        rw [zl_boxAt_nI hok hj] at hr_5
        subst hr_5
        refine W.eq (g2 := F0 m 20 ls [.ref (zl_ab a j)]) rfl ?_
        refine lv_astore (lv' := [(4, .ref (zl_ab a j)), (3, .int (nI (j + 1))), (0, .ref h0), (1, .long p1)]) hx hb dz_L_passTo_20 hl (by decide) rfl (fun ls hl => ?_)
        refine lv_aload hx hb dz_L_passTo_22 (lv_at hl 0 rfl) ?_
        refine lv_ifnull hx hb dz_L_passTo_24 ?_
        refine lv_aload hx hb dz_L_passTo_27 (lv_at hl 0 rfl) ?_
        refine lv_lload_n hx hb dz_L_passTo_29 rfl (lv_at hl 3 rfl) ?_
        have hFc := zw_free hS hA (show va_D A (zb_W (zl_ab a j) (zl_B S1 j)) from zw_D1 hD (zl_box hj))
        refine va_calli (va_runVN (As := [.long p1]) (rest := []) ⟨hx, hb, hml, hown, hz⟩ (ct_B_freeIfDue l dC dI cq ci (zl_ab a j) (zl_B S1 j) H.size p1) ⟨va_cnB 1 hz (zw_g1 zi_146) rfl rfl rfl (hN _ zn_12) (hz _ zi_36) (by decide +kernel) ⟨Nat.le_of_ble_eq_true rfl, Nat.le_of_ble_eq_true rfl⟩, hz _ zi_145, hz _ zi_8⟩ (zw_preUV zw_ns_ok (show va_P (dC, dI) vwCl (zb_W (zl_ab a j) (zl_B S1 j)) H from zw_P1 hP (zl_box hj)) (show va_D A (zb_W (zl_ab a j) (zl_B S1 j)) from zw_D1 hD (zl_box hj)) hK hN (ci := 0) rfl (k := 0) rfl) rfl rfl hl.1 rfl (lv_room (Nat.le_of_ble_eq_true rfl)) dz_L_passTo_30 ⟨Nat.le_of_ble_eq_true rfl, Nat.le_of_ble_eq_true rfl⟩) hS (fun q _ h => hFc q h) hFc (fun r_6 u_6 t_6 H locs ht hvm hw hB hz1 hk1 hS => ?_)
        have hw : r_6 = (zb_free (zl_B S1 j) p1).1 := hw
        subst hw
        have hB : va_P (dC, dI) vwCl (zb_W (zl_ab a j) ((zb_free (zl_B S1 j) p1).2)) t_6.heap := hB
        rw [ht] at hB
        obtain ⟨hP, hD⟩ := zl_joinB hj hP hD hk1 hB
        obtain ⟨S_7, eS_7⟩ : ∃ z, z = zl_sB S1 j ((zb_free (zl_B S1 j) p1).2) := ⟨_, rfl⟩
        rw [← eS_7] at hP hD
        have hok : zl_ok S_7 := by rw [eS_7]; exact hok
        have hj : j < zl_n S_7 := by rw [eS_7]; exact hj
        have hjk : j + (k + 1) = zl_n S_7 := by rw [eS_7]; exact hjk
        refine lv_if_eq (tgt := 41) hx hb dz_L_passTo_33 (by decide) (fun c_8 => ?_) (fun c_8 => ?_)
        · refine lv_aload_n hx hb dz_L_passTo_41 rfl (lv_at hl 2 rfl) ?_
          refine lv_dup hx hb dz_L_passTo_42 rfl ?_
          refine va_get (D := (dC, dI)) (ci := 2) (v := .int (zl_A S_7)) (C := RzL) (T := TzL) (N := 9) hx hb hz inzL hown hK hP 0 rfl rfl 6 (by decide) (hz _ zi_63) (fun _ h9 => h9) rfl dz_L_passTo_43 ?_
          refine lv_aload hx hb dz_L_passTo_46 (lv_at hl 0 rfl) ?_
          refine lv_lload_n hx hb dz_L_passTo_48 rfl (lv_at hl 3 rfl) ?_
          have hFc := zw_free hS hA (show va_D A (zb_W (zl_ab a j) (zl_B S_7 j)) from zw_D1 hD (zl_box hj))
          refine va_calli (va_runVN (As := [.long p1]) (rest := [.int (zl_A S_7), .ref h0]) ⟨hx, hb, hml, hown, hz⟩ (ct_B_tellAlarms l dC dI cq ci (zl_ab a j) (zl_B S_7 j) H.size p1) ⟨va_cnB 1 hz (zw_g1 zi_151) rfl rfl rfl (hN _ zn_13) (hz _ zi_36) (by decide +kernel) ⟨Nat.le_of_ble_eq_true rfl, Nat.le_of_ble_eq_true rfl⟩, hz _ zi_150, hz _ zi_10⟩ (zw_preUV zw_ns_ok (show va_P (dC, dI) vwCl (zb_W (zl_ab a j) (zl_B S_7 j)) H from zw_P1 hP (zl_box hj)) (show va_D A (zb_W (zl_ab a j) (zl_B S_7 j)) from zw_D1 hD (zl_box hj)) hK hN (ci := 0) rfl (k := 0) rfl) rfl rfl hl.1 rfl (lv_room (Nat.le_of_ble_eq_true rfl)) dz_L_passTo_49 ⟨Nat.le_of_ble_eq_true rfl, Nat.le_of_ble_eq_true rfl⟩) hS (fun q _ h => hFc q h) hFc (fun r_9 u_9 t_9 H locs ht hvm hw hB hz1 hk1 hS => ?_)
          have hw : r_9 = (zb_tell (zl_B S_7 j) p1).1 := hw
          subst hw
          have hB : va_P (dC, dI) vwCl (zb_W (zl_ab a j) ((zb_tell (zl_B S_7 j) p1).2)) t_9.heap := hB
          rw [ht] at hB
          obtain ⟨hP, hD⟩ := zl_joinB hj hP hD hk1 hB
          obtain ⟨S_10, eS_10⟩ : ∃ z, z = zl_sB S_7 j ((zb_tell (zl_B S_7 j) p1).2) := ⟨_, rfl⟩
          rw [← eS_10] at hP hD
          have hok : zl_ok S_10 := by rw [eS_10]; exact hok
          have hj : j < zl_n S_10 := by rw [eS_10]; exact hj
          have hjk : j + (k + 1) = zl_n S_10 := by rw [eS_10]; exact hjk
          refine lv_iadd hx hb dz_L_passTo_52 ?_
          refine va_put (D := (dC, dI)) (ci := 2) (v := .int ((zl_A S_7) + ((zb_tell (zl_B S_7 j) p1).1))) (ty := .int) (C := RzL) (T := TzL) (N := 9) hx hb hz inzL tyzL tyzL_ok nmzL hown hK hP hD hS 0 rfl rfl 6 (by decide) (hz _ zi_63) (fun _ h9 => h9) rfl (by decide +kernel) rfl rfl (Nat.le_of_ble_eq_true rfl) dz_L_passTo_53 (fun H locs hP hD hS => ?_)
          obtain ⟨S_11, eS_11⟩ : ∃ z, z = zl_sA S_10 ((zl_A S_7) + ((zb_tell (zl_B S_7 j) p1).1)) := ⟨_, rfl⟩
          have hP : va_P (dC, dI) vwCl (zl_W cq ci h0 a S_11) H := by rw [eS_11]; exact hP
          have hD : va_D A (zl_W cq ci h0 a S_11) := by rw [eS_11]; exact hD
          have hok : zl_ok S_11 := by rw [eS_11]; exact hok
          have hj : j < zl_n S_11 := by rw [eS_11]; exact hj
          have hjk : j + (k + 1) = zl_n S_11 := by rw [eS_11]; exact hjk
          refine lv_iinc (v := nI (j + 1 + 1)) (lv' := [(3, .int (nI (j + 1 + 1))), (4, .ref (zl_ab a j)), (0, .ref h0), (1, .long p1)]) hx hb dz_L_passTo_56 hl (k := 1) rfl (nI_1 _) (by decide) rfl (fun ls hl => ?_)
          refine lv_goto (tgt := 7) hx hb dz_L_passTo_59 (by decide) ?_
          exact ih (j + 1) S_11 H locs ls (by have h9 : j + (k + 1) = zl_n S_11 := hjk; omega) hok (by subst eS_7 eS_10 eS_11; rw [hinv]; simp only [zl_pass, zl_step, if_pos c_8]) hP hD hS (lv_sub hl [0, 2, 3] rfl)
        · refine lv_aload_n hx hb dz_L_passTo_36 rfl (lv_at hl 2 rfl) ?_
          refine lv_iload_n hx hb dz_L_passTo_37 rfl (lv_at hl 1 rfl) ?_
          have hFc := zw_free hS hA hD
          refine va_callv (va_runV (As := [.int (nI (j + 1))]) (rest := []) ⟨hx, hb, hml, hown, hz⟩ (ct_L_noteFreed l dC dI cq ci h0 a S_7 hok H.size (nI (j + 1))) (cwV 1 hz (zw_gV zi_147 zi_148 zi_9 zi_33 zi_149) rfl rfl rfl (by decide +kernel) ⟨Nat.le_of_ble_eq_true rfl, Nat.le_of_ble_eq_true rfl⟩) (zw_preUV zw_ns_ok hP hD hK hN (ci := 2) rfl (k := 0) rfl) rfl rfl hl.1 rfl (lv_room (Nat.le_of_ble_eq_true rfl)) dz_L_passTo_38 ⟨Nat.le_of_ble_eq_true rfl, Nat.le_of_ble_eq_true rfl⟩) hS (fun q _ h => hFc q h) hFc (fun u_12 t_12 H locs ht hvm hw hB hz1 hk1 hS => ?_)
          obtain ⟨hP, hD⟩ := hB
          rw [ht] at hP
          have hD := hD.weaken (fun _ q _ h => hFc q.1 h)
          obtain ⟨S_13, eS_13⟩ : ∃ z, z = (zl_note S_7 (nI (j + 1))) := ⟨_, rfl⟩
          rw [← eS_13] at hP hD
          have hok : zl_ok S_13 := by rw [eS_13]; exact zl_ok_note hok
          have hj : j < zl_n S_13 := by rw [eS_13, zl_n_note]; exact hj
          have hjk : j + (k + 1) = zl_n S_13 := by rw [eS_13, zl_n_note]; exact hjk
          refine lv_aload_n hx hb dz_L_passTo_41 rfl (lv_at hl 2 rfl) ?_
          refine lv_dup hx hb dz_L_passTo_42 rfl ?_
          refine va_get (D := (dC, dI)) (ci := 2) (v := .int (zl_A S_13)) (C := RzL) (T := TzL) (N := 9) hx hb hz inzL hown hK hP 0 rfl rfl 6 (by decide) (hz _ zi_63) (fun _ h9 => h9) rfl dz_L_passTo_43 ?_
          refine lv_aload hx hb dz_L_passTo_46 (lv_at hl 0 rfl) ?_
          refine lv_lload_n hx hb dz_L_passTo_48 rfl (lv_at hl 3 rfl) ?_
          have hFc := zw_free hS hA (show va_D A (zb_W (zl_ab a j) (zl_B S_13 j)) from zw_D1 hD (zl_box hj))
          refine va_calli (va_runVN (As := [.long p1]) (rest := [.int (zl_A S_13), .ref h0]) ⟨hx, hb, hml, hown, hz⟩ (ct_B_tellAlarms l dC dI cq ci (zl_ab a j) (zl_B S_13 j) H.size p1) ⟨va_cnB 1 hz (zw_g1 zi_151) rfl rfl rfl (hN _ zn_13) (hz _ zi_36) (by decide +kernel) ⟨Nat.le_of_ble_eq_true rfl, Nat.le_of_ble_eq_true rfl⟩, hz _ zi_150, hz _ zi_10⟩ (zw_preUV zw_ns_ok (show va_P (dC, dI) vwCl (zb_W (zl_ab a j) (zl_B S_13 j)) H from zw_P1 hP (zl_box hj)) (show va_D A (zb_W (zl_ab a j) (zl_B S_13 j)) from zw_D1 hD (zl_box hj)) hK hN (ci := 0) rfl (k := 0) rfl) rfl rfl hl.1 rfl (lv_room (Nat.le_of_ble_eq_true rfl)) dz_L_passTo_49 ⟨Nat.le_of_ble_eq_true rfl, Nat.le_of_ble_eq_true rfl⟩) hS (fun q _ h => hFc q h) hFc (fun r_14 u_14 t_14 H locs ht hvm hw hB hz1 hk1 hS => ?_)
          have hw : r_14 = (zb_tell (zl_B S_13 j) p1).1 := hw
          subst hw
          have hB : va_P (dC, dI) vwCl (zb_W (zl_ab a j) ((zb_tell (zl_B S_13 j) p1).2)) t_14.heap := hB
          rw [ht] at hB
          obtain ⟨hP, hD⟩ := zl_joinB hj hP hD hk1 hB
          obtain ⟨S_15, eS_15⟩ : ∃ z, z = zl_sB S_13 j ((zb_tell (zl_B S_13 j) p1).2) := ⟨_, rfl⟩
          rw [← eS_15] at hP hD
          have hok : zl_ok S_15 := by rw [eS_15]; exact hok
          have hj : j < zl_n S_15 := by rw [eS_15]; exact hj
          have hjk : j + (k + 1) = zl_n S_15 := by rw [eS_15]; exact hjk
          refine lv_iadd hx hb dz_L_passTo_52 ?_
          refine va_put (D := (dC, dI)) (ci := 2) (v := .int ((zl_A S_13) + ((zb_tell (zl_B S_13 j) p1).1))) (ty := .int) (C := RzL) (T := TzL) (N := 9) hx hb hz inzL tyzL tyzL_ok nmzL hown hK hP hD hS 0 rfl rfl 6 (by decide) (hz _ zi_63) (fun _ h9 => h9) rfl (by decide +kernel) rfl rfl (Nat.le_of_ble_eq_true rfl) dz_L_passTo_53 (fun H locs hP hD hS => ?_)
          obtain ⟨S_16, eS_16⟩ : ∃ z, z = zl_sA S_15 ((zl_A S_13) + ((zb_tell (zl_B S_13 j) p1).1)) := ⟨_, rfl⟩
          have hP : va_P (dC, dI) vwCl (zl_W cq ci h0 a S_16) H := by rw [eS_16]; exact hP
          have hD : va_D A (zl_W cq ci h0 a S_16) := by rw [eS_16]; exact hD
          have hok : zl_ok S_16 := by rw [eS_16]; exact hok
          have hj : j < zl_n S_16 := by rw [eS_16]; exact hj
          have hjk : j + (k + 1) = zl_n S_16 := by rw [eS_16]; exact hjk
          refine lv_iinc (v := nI (j + 1 + 1)) (lv' := [(3, .int (nI (j + 1 + 1))), (4, .ref (zl_ab a j)), (0, .ref h0), (1, .long p1)]) hx hb dz_L_passTo_56 hl (k := 1) rfl (nI_1 _) (by decide) rfl (fun ls hl => ?_)
          refine lv_goto (tgt := 7) hx hb dz_L_passTo_59 (by decide) ?_
          exact ih (j + 1) S_16 H locs ls (by have h9 : j + (k + 1) = zl_n S_16 := hjk; omega) hok (by subst eS_7 eS_13 eS_15 eS_16; rw [hinv]; simp only [zl_pass, zl_step, if_neg c_8]) hP hD hS (lv_sub hl [0, 2, 3] rfl)
  exact loop (zl_n S) 0 S_1 H locs ls (by rw [eS_1]; show 0 + zl_n S = zl_n S; omega) hok (by rw [eS_1]; rfl) hP hD hS (lv_sub hl [0, 1, 2] rfl)

set_option maxHeartbeats 4000000 in
set_option maxRecDepth 100000 in
theorem ct_L_tape (l : Launch) (dC : Nat → ClassId) (dI : Nat → Nat → Nat) (cq ci : ClassId) (h0 : Nat) (a : zl_Ad) (S : zl_S) (hok : zl_ok S) (sz : Nat) (p1 : Int32) : Met l yz_L_tape wz_L_tape (zw_room 1 0 0) (zw_U zw_ns (dC, dI) vwCl (zl_tys cq ci) [.ref h0, .int p1] (zl_W cq ci h0 a S) sz) (va_Qi (fun (r : Int32) (_ : Unit) => r = (zl_tape S p1).1) (fun (_ : Unit) (t : State) => va_P (dC, dI) vwCl (zl_W cq ci h0 a ((zl_tape S p1).2)) t.heap ∧ va_D (va_A (zl_W cq ci h0 a S) sz) (zl_W cq ci h0 a ((zl_tape S p1).2))) (va_A (zl_W cq ci h0 a S) sz)) 0 0 (va_A (zl_W cq ci h0 a S) sz) := by
  refine Met.ofW (cc := cz_L_tape) (maxL := 2) (ret := (some .int)) (by decide) rfl ?_
  intro p e s m args below meth c s₁ B hml hv
  obtain ⟨rfl, hsz, hP, hK, hD0, hN⟩ := hv
  have hx := B.exec
  have hb := B.bytes
  have hr := B.returns
  have hts := atoms_spec (ws := wz_L_tape) B.pre
  have hz : ∀ w ∈ zw_T, w.before ([.ref h0, .int p1] : List Value).toArray s = true := fun w h => hts w (List.mem_cons_of_mem _ h)
  have hown : s.vm.findClass RzL = some m.cls := findClass_of_methodNamed B.named
  have hlocks := B.notSynchronized
  subst hsz
  have hD := hD0.self (sz := s.heap.size)
  generalize hAe : va_A (zl_W cq ci h0 a S) s.heap.size = A at hD ⊢
  have hA : ∀ q : Nat, s.heap.size ≤ q → A q := fun q h => by rw [← hAe]; exact Or.inr h
  have hS : va_S A s.heap s.heap [] := va_S.rf
  have hl := lv_entry ([.ref h0, .int p1]) (n := 2) (Nat.le_of_ble_eq_true rfl)
  rw [lg_entry_eq]
  generalize (lg_sl ([.ref h0, .int p1]) ++ List.replicate (2 - (lg_sl ([.ref h0, .int p1])).length) Slot.unset).toArray = ls at hl ⊢
  have hl : lv_has ls 2 [(0, .ref h0), (1, .int p1)] := hl
  refine lv_iload_n hx hb dz_L_tape_0 rfl (lv_at hl 1 rfl) ?_
  refine vp_callSi (va_Run.run (va_runS (As := [.int p1]) (rest := []) ⟨hx, hb, hml, hown, hz⟩ (ct_L_isCode l dC dI cq ci p1) (cwS 1 hz (zw_gS zi_108 zi_109 zi_33 zi_110) rfl rfl rfl (by decide +kernel) ⟨Nat.le_of_ble_eq_true rfl, Nat.le_of_ble_eq_true rfl⟩) (zw_preR zw_ns_ok (ws := []) (fun k q h => by simp at h) hK hN) rfl rfl hl.1 rfl (lv_room (Nat.le_of_ble_eq_true rfl)) dz_L_tape_1 ⟨Nat.le_of_ble_eq_true rfl, Nat.le_of_ble_eq_true rfl⟩)) (fun r_1 hr_1 => ?_)
  have hr_1 : r_1 = zl_isCode p1 := hr_1
  subst hr_1
  refine lv_if_ne (tgt := 10) hx hb dz_L_tape_4 (by decide) (fun c_2 => ?_) (fun c_2 => ?_)
  · refine lv_aload_n hx hb dz_L_tape_10 rfl (lv_at hl 0 rfl) ?_
    refine va_get (D := (dC, dI)) (ci := 2) (v := .ref a.2.1) (C := RzL) (T := TzL) (N := 9) hx hb hz inzL hown hK hP 0 rfl rfl 2 (by decide) (hz _ zi_59) (fun _ h9 => h9) rfl dz_L_tape_11 ?_
    refine lv_iload_n hx hb dz_L_tape_14 rfl (lv_at hl 1 rfl) ?_
    have hFc := zw_free hS hA (hD.sub (ws' := zt_W ci a.2.1 a.2.2.1 (zl_P S)) [2, 3] (by decide) rfl)
    refine va_calli (va_runVN (As := [.int p1]) (rest := []) ⟨hx, hb, hml, hown, hz⟩ (ct_T_append l dC dI cq ci a.2.1 a.2.2.1 (zl_P S) hok.2.1 s.heap.size p1) ⟨va_cnB 1 hz (zw_g1 zi_113) rfl rfl rfl (hN _ zn_9) (hz _ zi_34) (by decide +kernel) ⟨Nat.le_of_ble_eq_true rfl, Nat.le_of_ble_eq_true rfl⟩, hz _ zi_112, hz _ zi_0⟩ (zw_preUV zw_ns_ok (hP.sub (ws' := zt_W ci a.2.1 a.2.2.1 (zl_P S)) [2, 3] rfl) (hD.sub (ws' := zt_W ci a.2.1 a.2.2.1 (zl_P S)) [2, 3] (by decide) rfl) hK hN (ci := 1) rfl (k := 0) rfl) rfl rfl hl.1 rfl (lv_room (Nat.le_of_ble_eq_true rfl)) dz_L_tape_15 ⟨Nat.le_of_ble_eq_true rfl, Nat.le_of_ble_eq_true rfl⟩) hS (fun q _ h => hFc q h) hFc (fun r_3 u_3 t_3 H locs ht hvm hw hB hz1 hk1 hS => ?_)
    have hw : r_3 = (zt_append (zl_P S) p1).1 := hw
    subst hw
    have hB : va_P (dC, dI) vwCl (zt_W ci a.2.1 a.2.2.1 ((zt_append (zl_P S) p1).2)) t_3.heap := hB
    rw [ht] at hB
    obtain ⟨hP, hD⟩ := zl_joinT hP hD hk1 hB
    obtain ⟨S_4, eS_4⟩ : ∃ z, z = zl_sP S ((zt_append (zl_P S) p1).2) := ⟨_, rfl⟩
    rw [← eS_4] at hP hD
    have hok : zl_ok S_4 := by rw [eS_4]; exact zl_ok_append hok
    refine lv_if_eq (tgt := 31) hx hb dz_L_tape_18 (by decide) (fun c_5 => ?_) (fun c_5 => ?_)
    · refine lv_bipush (v := -14) hx hb dz_L_tape_31 (by decide) ?_
      subst eS_4
      have hE_6 : zl_tape S p1 = ((-14), zl_sP S ((zt_append (zl_P S) p1).2)) := by simp only [zl_tape, if_neg c_2, if_pos c_5]
      exact W.iret (v := (-14)) hx hb hr (fun t ht hW => ⟨⟨_, (), rfl, by show (-14) = (zl_tape S p1).1; rw [hE_6], by show va_P (dC, dI) vwCl (zl_W cq ci h0 a ((zl_tape S p1).2)) t.heap; rw [ht, hE_6]; exact hP, by show va_D A (zl_W cq ci h0 a ((zl_tape S p1).2)); rw [hE_6]; exact hD⟩, hS.F ht⟩) hS.2.2 dz_L_tape_33
    · refine lv_aload_n hx hb dz_L_tape_21 rfl (lv_at hl 0 rfl) ?_
      refine va_get (D := (dC, dI)) (ci := 2) (v := .ref a.2.1) (C := RzL) (T := TzL) (N := 9) hx hb hz inzL hown hK hP 0 rfl rfl 2 (by decide) (hz _ zi_59) (fun _ h9 => h9) rfl dz_L_tape_22 ?_
      refine vp_callSi (va_Run.run (va_runVN (As := []) (rest := []) ⟨hx, hb, hml, hown, hz⟩ (ct_T_length l dC dI cq ci a.2.1 a.2.2.1 (zl_P S_4) hok.2.1) ⟨va_cnB 0 hz (zw_g1 zi_115) rfl rfl rfl (hN _ zn_10) (hz _ zi_34) (by decide +kernel) ⟨Nat.le_of_ble_eq_true rfl, Nat.le_of_ble_eq_true rfl⟩, hz _ zi_114, hz _ zi_1⟩ (zw_preRV zw_ns_ok (hP.sub (ws' := zt_W ci a.2.1 a.2.2.1 (zl_P S_4)) [2, 3] rfl) hK hN (ci := 1) rfl (k := 0) rfl) rfl rfl hl.1 rfl (lv_room (Nat.le_of_ble_eq_true rfl)) dz_L_tape_25 ⟨Nat.le_of_ble_eq_true rfl, Nat.le_of_ble_eq_true rfl⟩)) (fun r_7 hr_7 => ?_)
      have hr_7 : r_7 = zt_length (zl_P S_4) := hr_7
      subst hr_7
      refine lv_goto (tgt := 33) hx hb dz_L_tape_28 (by decide) ?_
      subst eS_4
      have hE_8 : zl_tape S p1 = (zt_length (zl_P (zl_sP S ((zt_append (zl_P S) p1).2))), zl_sP S ((zt_append (zl_P S) p1).2)) := by simp only [zl_tape, if_neg c_2, if_neg c_5]
      exact W.iret (v := zt_length (zl_P (zl_sP S ((zt_append (zl_P S) p1).2)))) hx hb hr (fun t ht hW => ⟨⟨_, (), rfl, by show zt_length (zl_P (zl_sP S ((zt_append (zl_P S) p1).2))) = (zl_tape S p1).1; rw [hE_8], by show va_P (dC, dI) vwCl (zl_W cq ci h0 a ((zl_tape S p1).2)) t.heap; rw [ht, hE_8]; exact hP, by show va_D A (zl_W cq ci h0 a ((zl_tape S p1).2)); rw [hE_8]; exact hD⟩, hS.F ht⟩) hS.2.2 dz_L_tape_33
  · refine lv_bipush (v := -12) hx hb dz_L_tape_7 (by decide) ?_
    have hE_9 : zl_tape S p1 = ((-12), S) := by simp only [zl_tape, if_pos c_2]
    exact W.iret (v := (-12)) hx hb hr (fun t ht hW => ⟨⟨_, (), rfl, by show (-12) = (zl_tape S p1).1; rw [hE_9], by show va_P (dC, dI) vwCl (zl_W cq ci h0 a ((zl_tape S p1).2)) t.heap; rw [ht, hE_9]; exact hP, by show va_D A (zl_W cq ci h0 a ((zl_tape S p1).2)); rw [hE_9]; exact hD⟩, hS.F ht⟩) hS.2.2 dz_L_tape_9
set_option maxHeartbeats 4000000 in
set_option maxRecDepth 100000 in
theorem ct_L_reserve (l : Launch) (dC : Nat → ClassId) (dI : Nat → Nat → Nat) (cq ci : ClassId) (h0 : Nat) (a : zl_Ad) (S : zl_S) (hok : zl_ok S) (sz : Nat) (p1 : Int32) (p2 : Int64) : Met l yz_L_reserve wz_L_reserve (zw_room 3 0 0) (zw_U zw_ns (dC, dI) vwCl (zl_tys cq ci) [.ref h0, .int p1, .long p2] (zl_W cq ci h0 a S) sz) (va_Qi (fun (r : Int32) (_ : Unit) => r = (zl_reserve S p1 p2).1) (fun (_ : Unit) (t : State) => va_P (dC, dI) vwCl (zl_W cq ci h0 a ((zl_reserve S p1 p2).2)) t.heap ∧ va_D (va_A (zl_W cq ci h0 a S) sz) (zl_W cq ci h0 a ((zl_reserve S p1 p2).2))) (va_A (zl_W cq ci h0 a S) sz)) 0 0 (va_A (zl_W cq ci h0 a S) sz) := by
  refine Met.ofW (cc := cz_L_reserve) (maxL := 6) (ret := (some .int)) (by decide) rfl ?_
  intro p e s m args below meth c s₁ B hml hv
  obtain ⟨rfl, hsz, hP, hK, hD0, hN⟩ := hv
  have hx := B.exec
  have hb := B.bytes
  have hr := B.returns
  have hts := atoms_spec (ws := wz_L_reserve) B.pre
  have hz : ∀ w ∈ zw_T, w.before ([.ref h0, .int p1, .long p2] : List Value).toArray s = true := fun w h => hts w (List.mem_cons_of_mem _ h)
  have hown : s.vm.findClass RzL = some m.cls := findClass_of_methodNamed B.named
  have hlocks := B.notSynchronized
  subst hsz
  have hD := hD0.self (sz := s.heap.size)
  generalize hAe : va_A (zl_W cq ci h0 a S) s.heap.size = A at hD ⊢
  have hA : ∀ q : Nat, s.heap.size ≤ q → A q := fun q h => by rw [← hAe]; exact Or.inr h
  have hS : va_S A s.heap s.heap [] := va_S.rf
  have hl := lv_entry ([.ref h0, .int p1, .long p2]) (n := 6) (Nat.le_of_ble_eq_true rfl)
  rw [lg_entry_eq]
  generalize (lg_sl ([.ref h0, .int p1, .long p2]) ++ List.replicate (6 - (lg_sl ([.ref h0, .int p1, .long p2])).length) Slot.unset).toArray = ls at hl ⊢
  have hl : lv_has ls 6 [(0, .ref h0), (1, .int p1), (2, .long p2)] := hl
  refine lv_iload_n hx hb dz_L_reserve_0 rfl (lv_at hl 1 rfl) ?_
  refine vp_callSi (va_Run.run (va_runS (As := [.int p1]) (rest := []) ⟨hx, hb, hml, hown, hz⟩ (ct_L_isSize l dC dI cq ci p1) (cwS 1 hz (zw_gS zi_79 zi_80 zi_33 zi_81) rfl rfl rfl (by decide +kernel) ⟨Nat.le_of_ble_eq_true rfl, Nat.le_of_ble_eq_true rfl⟩) (zw_preR zw_ns_ok (ws := []) (fun k q h => by simp at h) hK hN) rfl rfl hl.1 rfl (lv_room (Nat.le_of_ble_eq_true rfl)) dz_L_reserve_1 ⟨Nat.le_of_ble_eq_true rfl, Nat.le_of_ble_eq_true rfl⟩)) (fun r_1 hr_1 => ?_)
  have hr_1 : r_1 = zl_isSize p1 := hr_1
  subst hr_1
  refine lv_if_eq (tgt := 24) hx hb dz_L_reserve_4 (by decide) (fun c_2 => ?_) (fun c_2 => ?_)
  · refine lv_bipush (v := -12) hx hb dz_L_reserve_24 (by decide) ?_
    have hE_3 : zl_reserve S p1 p2 = ((-12), S) := by simp only [zl_reserve, if_pos c_2]
    exact W.iret (v := (-12)) hx hb hr (fun t ht hW => ⟨⟨_, (), rfl, by show (-12) = (zl_reserve S p1 p2).1; rw [hE_3], by show va_P (dC, dI) vwCl (zl_W cq ci h0 a ((zl_reserve S p1 p2).2)) t.heap; rw [ht, hE_3]; exact hP, by show va_D A (zl_W cq ci h0 a ((zl_reserve S p1 p2).2)); rw [hE_3]; exact hD⟩, hS.F ht⟩) hS.2.2 dz_L_reserve_26
  · refine lv_lload_n hx hb dz_L_reserve_7 rfl (lv_at hl 2 rfl) ?_
    refine lv_aload_n hx hb dz_L_reserve_8 rfl (lv_at hl 0 rfl) ?_
    refine va_get (D := (dC, dI)) (ci := 2) (v := .long (zl_T S)) (C := RzL) (T := TzL) (N := 9) hx hb hz inzL hown hK hP 0 rfl rfl 5 (by decide) (hz _ zi_62) (fun _ h9 => h9) rfl dz_L_reserve_9 ?_
    refine W.lcmp hx hb dz_L_reserve_12 ?_
    refine lv_if_le (tgt := 24) hx hb dz_L_reserve_13 (by decide) (fun c_4 => ?_) (fun c_4 => ?_)
    · refine lv_bipush (v := -12) hx hb dz_L_reserve_24 (by decide) ?_
      have hE_5 : zl_reserve S p1 p2 = ((-12), S) := by simp only [zl_reserve, if_neg c_2, if_pos c_4]
      exact W.iret (v := (-12)) hx hb hr (fun t ht hW => ⟨⟨_, (), rfl, by show (-12) = (zl_reserve S p1 p2).1; rw [hE_5], by show va_P (dC, dI) vwCl (zl_W cq ci h0 a ((zl_reserve S p1 p2).2)) t.heap; rw [ht, hE_5]; exact hP, by show va_D A (zl_W cq ci h0 a ((zl_reserve S p1 p2).2)); rw [hE_5]; exact hD⟩, hS.F ht⟩) hS.2.2 dz_L_reserve_26
    · refine lv_lload_n hx hb dz_L_reserve_16 rfl (lv_at hl 2 rfl) ?_
      refine lv_ldc2 (v := 2000000000) hx hb hown (hz _ zi_120) dz_L_reserve_17 ?_
      refine W.lcmp hx hb dz_L_reserve_20 ?_
      refine lv_if_le (tgt := 27) hx hb dz_L_reserve_21 (by decide) (fun c_6 => ?_) (fun c_6 => ?_)
      · refine lv_aload_n hx hb dz_L_reserve_27 rfl (lv_at hl 0 rfl) ?_
        refine lv_iload_n hx hb dz_L_reserve_28 rfl (lv_at hl 1 rfl) ?_
        refine vp_callSi (va_Run.run (va_runV (As := [.int p1]) (rest := []) ⟨hx, hb, hml, hown, hz⟩ (ct_L_smallestUnused l dC dI cq ci h0 a S hok p1) (cwV 1 hz (zw_gV zi_121 zi_122 zi_2 zi_33 zi_123) rfl rfl rfl (by decide +kernel) ⟨Nat.le_of_ble_eq_true rfl, Nat.le_of_ble_eq_true rfl⟩) (zw_preRV zw_ns_ok hP hK hN (ci := 2) rfl (k := 0) rfl) rfl rfl hl.1 rfl (lv_room (Nat.le_of_ble_eq_true rfl)) dz_L_reserve_29 ⟨Nat.le_of_ble_eq_true rfl, Nat.le_of_ble_eq_true rfl⟩)) (fun r_7 hr_7 => ?_)
        have hr_7 : r_7 = zl_smallest S p1 := hr_7
        subst hr_7
        refine lv_istore (lv' := [(4, .int (zl_smallest S p1)), (0, .ref h0), (1, .int p1), (2, .long p2)]) hx hb dz_L_reserve_32 hl (by decide) rfl (fun ls hl => ?_)
        refine lv_aload_n hx hb dz_L_reserve_34 rfl (lv_at hl 1 rfl) ?_
        refine lv_iload hx hb dz_L_reserve_35 (lv_at hl 0 rfl) ?_
        refine va_csq (va_Run.run (va_runV (As := [.int (zl_smallest S p1)]) (rest := []) ⟨hx, hb, hml, hown, hz⟩ (ct_L_boxAt l dC dI cq ci h0 a S hok (zl_smallest S p1)) (cwV 1 hz (zw_gV zi_124 zi_125 zi_3 zi_33 zi_126) rfl rfl rfl (by decide +kernel) ⟨Nat.le_of_ble_eq_true rfl, Nat.le_of_ble_eq_true rfl⟩) (zw_preRV zw_ns_ok hP hK hN (ci := 2) rfl (k := 0) rfl) rfl rfl hl.1 rfl (lv_room (Nat.le_of_ble_eq_true rfl)) dz_L_reserve_37 ⟨Nat.le_of_ble_eq_true rfl, Nat.le_of_ble_eq_true rfl⟩)) (fun r_8 hr_8 => ?_)
        have hr_8 : r_8 = Option.map (zl_ab a) (zl_boxAt S (zl_smallest S p1)) := hr_8
        obtain ⟨o_8, ho_8⟩ : ∃ o, o = zl_boxAt S (zl_smallest S p1) := ⟨_, rfl⟩
        rw [← ho_8] at hr_8
        rcases o_8 with _ | i8
        · have hi_8 : zl_boxAt S (zl_smallest S p1) = none := ho_8.symm
          subst hr_8
          refine W.eq (g2 := F0 m 40 ls [.null]) rfl ?_
          refine lv_astoreN (lv' := [(5, .null), (4, .int (zl_smallest S p1)), (0, .ref h0), (1, .int p1), (2, .long p2)]) hx hb dz_L_reserve_40 hl (by decide) rfl (fun ls hl => ?_)
          refine lv_aloadN hx hb dz_L_reserve_42 (lv_at hl 0 rfl) ?_
          refine lv_ifnonnullN hx hb dz_L_reserve_44 ?_
          refine lv_iconst (v := 0) hx hb dz_L_reserve_47 (by decide) ?_
          have hE_9 : zl_reserve S p1 p2 = (0, S) := by simp only [zl_reserve, if_neg c_2, if_neg c_4, if_pos c_6, hi_8]
          exact W.iret (v := 0) hx hb hr (fun t ht hW => ⟨⟨_, (), rfl, by show 0 = (zl_reserve S p1 p2).1; rw [hE_9], by show va_P (dC, dI) vwCl (zl_W cq ci h0 a ((zl_reserve S p1 p2).2)) t.heap; rw [ht, hE_9]; exact hP, by show va_D A (zl_W cq ci h0 a ((zl_reserve S p1 p2).2)); rw [hE_9]; exact hD⟩, hS.F ht⟩) hS.2.2 dz_L_reserve_48
        · have hi_8 : zl_boxAt S (zl_smallest S p1) = some i8 := ho_8.symm
          have hlt_8 := zl_boxAt_lt hok hi_8
          subst hr_8
          refine W.eq (g2 := F0 m 40 ls [.ref (zl_ab a i8)]) rfl ?_
          refine lv_astore (lv' := [(5, .ref (zl_ab a i8)), (4, .int (zl_smallest S p1)), (0, .ref h0), (1, .int p1), (2, .long p2)]) hx hb dz_L_reserve_40 hl (by decide) rfl (fun ls hl => ?_)
          refine lv_aload hx hb dz_L_reserve_42 (lv_at hl 0 rfl) ?_
          refine lv_ifnonnull (tgt := 49) hx hb dz_L_reserve_44 (by decide) ?_
          refine lv_aload hx hb dz_L_reserve_49 (lv_at hl 0 rfl) ?_
          refine lv_lload_n hx hb dz_L_reserve_51 rfl (lv_at hl 4 rfl) ?_
          refine va_putN (D := (dC, dI)) (ci := 0) (v := .long p2) (ty := .long) (C := RzB) (T := TzB) (N := 9) hx hb hz inzB tyzB tyzB_ok nmzB hown hK hP hD hS (i8 + 5) (zl_box hlt_8) rfl 8 (by decide) (va_Nw.use rfl (hN _ zn_8)) (fun _ h9 => h9) rfl (by decide +kernel) rfl rfl (Nat.le_of_ble_eq_true rfl) dz_L_reserve_52 (fun H locs hP hD hS => ?_)
          obtain ⟨S_10, eS_10⟩ : ∃ z, z = zl_sB S i8 (zb_sKe (zl_B S i8) p2) := ⟨_, rfl⟩
          have hP : va_P (dC, dI) vwCl (zl_W cq ci h0 a S_10) H := by rw [eS_10, ← zl_box_set (zb_sKe (zl_B S i8) p2) hlt_8]; exact hP
          have hD : va_D A (zl_W cq ci h0 a S_10) := by rw [eS_10, ← zl_box_set (zb_sKe (zl_B S i8) p2) hlt_8]; exact hD
          have hok : zl_ok S_10 := by rw [eS_10]; exact hok
          have hlt_8 : i8 < zl_n S_10 := by rw [eS_10]; exact hlt_8
          refine lv_iload hx hb dz_L_reserve_55 (lv_at hl 1 rfl) ?_
          subst eS_10
          have hE_11 : zl_reserve S p1 p2 = (zl_smallest S p1, zl_sB S i8 (zb_sKe (zl_B S i8) p2)) := by simp only [zl_reserve, if_neg c_2, if_neg c_4, if_pos c_6, hi_8]
          exact W.iret (v := zl_smallest S p1) hx hb hr (fun t ht hW => ⟨⟨_, (), rfl, by show zl_smallest S p1 = (zl_reserve S p1 p2).1; rw [hE_11], by show va_P (dC, dI) vwCl (zl_W cq ci h0 a ((zl_reserve S p1 p2).2)) t.heap; rw [ht, hE_11]; exact hP, by show va_D A (zl_W cq ci h0 a ((zl_reserve S p1 p2).2)); rw [hE_11]; exact hD⟩, hS.F ht⟩) hS.2.2 dz_L_reserve_57
      · refine lv_bipush (v := -12) hx hb dz_L_reserve_24 (by decide) ?_
        have hE_12 : zl_reserve S p1 p2 = ((-12), S) := by simp only [zl_reserve, if_neg c_2, if_neg c_4, if_neg c_6]
        exact W.iret (v := (-12)) hx hb hr (fun t ht hW => ⟨⟨_, (), rfl, by show (-12) = (zl_reserve S p1 p2).1; rw [hE_12], by show va_P (dC, dI) vwCl (zl_W cq ci h0 a ((zl_reserve S p1 p2).2)) t.heap; rw [ht, hE_12]; exact hP, by show va_D A (zl_W cq ci h0 a ((zl_reserve S p1 p2).2)); rw [hE_12]; exact hD⟩, hS.F ht⟩) hS.2.2 dz_L_reserve_26
set_option maxHeartbeats 4000000 in
set_option maxRecDepth 100000 in
theorem ct_L_put (l : Launch) (dC : Nat → ClassId) (dI : Nat → Nat → Nat) (cq ci : ClassId) (h0 : Nat) (a : zl_Ad) (S : zl_S) (hok : zl_ok S) (sz : Nat) (p1 : Int32) (p2 : Int32) (p3 : Int64) : Met l yz_L_put wz_L_put (zw_room 3 0 0) (zw_U zw_ns (dC, dI) vwCl (zl_tys cq ci) [.ref h0, .int p1, .int p2, .long p3] (zl_W cq ci h0 a S) sz) (va_Qi (fun (r : Int32) (_ : Unit) => r = (zl_put S p1 p2 p3).1) (fun (_ : Unit) (t : State) => va_P (dC, dI) vwCl (zl_W cq ci h0 a ((zl_put S p1 p2 p3).2)) t.heap ∧ va_D (va_A (zl_W cq ci h0 a S) sz) (zl_W cq ci h0 a ((zl_put S p1 p2 p3).2))) (va_A (zl_W cq ci h0 a S) sz)) 0 0 (va_A (zl_W cq ci h0 a S) sz) := by
  refine Met.ofW (cc := cz_L_put) (maxL := 6) (ret := (some .int)) (by decide) rfl ?_
  intro p e s m args below meth c s₁ B hml hv
  obtain ⟨rfl, hsz, hP, hK, hD0, hN⟩ := hv
  have hx := B.exec
  have hb := B.bytes
  have hr := B.returns
  have hts := atoms_spec (ws := wz_L_put) B.pre
  have hz : ∀ w ∈ zw_T, w.before ([.ref h0, .int p1, .int p2, .long p3] : List Value).toArray s = true := fun w h => hts w (List.mem_cons_of_mem _ h)
  have hown : s.vm.findClass RzL = some m.cls := findClass_of_methodNamed B.named
  have hlocks := B.notSynchronized
  subst hsz
  have hD := hD0.self (sz := s.heap.size)
  generalize hAe : va_A (zl_W cq ci h0 a S) s.heap.size = A at hD ⊢
  have hA : ∀ q : Nat, s.heap.size ≤ q → A q := fun q h => by rw [← hAe]; exact Or.inr h
  have hS : va_S A s.heap s.heap [] := va_S.rf
  have hl := lv_entry ([.ref h0, .int p1, .int p2, .long p3]) (n := 6) (Nat.le_of_ble_eq_true rfl)
  rw [lg_entry_eq]
  generalize (lg_sl ([.ref h0, .int p1, .int p2, .long p3]) ++ List.replicate (6 - (lg_sl ([.ref h0, .int p1, .int p2, .long p3])).length) Slot.unset).toArray = ls at hl ⊢
  have hl : lv_has ls 6 [(0, .ref h0), (1, .int p1), (2, .int p2), (3, .long p3)] := hl
  refine lv_aload_n hx hb dz_L_put_0 rfl (lv_at hl 0 rfl) ?_
  refine lv_iload_n hx hb dz_L_put_1 rfl (lv_at hl 1 rfl) ?_
  refine va_csq (va_Run.run (va_runV (As := [.int p1]) (rest := []) ⟨hx, hb, hml, hown, hz⟩ (ct_L_boxAt l dC dI cq ci h0 a S hok p1) (cwV 1 hz (zw_gV zi_124 zi_125 zi_3 zi_33 zi_126) rfl rfl rfl (by decide +kernel) ⟨Nat.le_of_ble_eq_true rfl, Nat.le_of_ble_eq_true rfl⟩) (zw_preRV zw_ns_ok hP hK hN (ci := 2) rfl (k := 0) rfl) rfl rfl hl.1 rfl (lv_room (Nat.le_of_ble_eq_true rfl)) dz_L_put_2 ⟨Nat.le_of_ble_eq_true rfl, Nat.le_of_ble_eq_true rfl⟩)) (fun r_1 hr_1 => ?_)
  have hr_1 : r_1 = Option.map (zl_ab a) (zl_boxAt S p1) := hr_1
  obtain ⟨o_1, ho_1⟩ : ∃ o, o = zl_boxAt S p1 := ⟨_, rfl⟩
  rw [← ho_1] at hr_1
  rcases o_1 with _ | i1
  · have hi_1 : zl_boxAt S p1 = none := ho_1.symm
    subst hr_1
    refine W.eq (g2 := F0 m 5 ls [.null]) rfl ?_
    refine lv_astoreN (lv' := [(5, .null), (0, .ref h0), (1, .int p1), (2, .int p2), (3, .long p3)]) hx hb dz_L_put_5 hl (by decide) rfl (fun ls hl => ?_)
    refine lv_aloadN hx hb dz_L_put_7 (lv_at hl 0 rfl) ?_
    refine lv_ifnonnullN hx hb dz_L_put_9 ?_
    refine lv_bipush (v := -11) hx hb dz_L_put_12 (by decide) ?_
    have hE_2 : zl_put S p1 p2 p3 = ((-11), S) := by simp only [zl_put, hi_1]
    exact W.iret (v := (-11)) hx hb hr (fun t ht hW => ⟨⟨_, (), rfl, by show (-11) = (zl_put S p1 p2 p3).1; rw [hE_2], by show va_P (dC, dI) vwCl (zl_W cq ci h0 a ((zl_put S p1 p2 p3).2)) t.heap; rw [ht, hE_2]; exact hP, by show va_D A (zl_W cq ci h0 a ((zl_put S p1 p2 p3).2)); rw [hE_2]; exact hD⟩, hS.F ht⟩) hS.2.2 dz_L_put_14
  · have hi_1 : zl_boxAt S p1 = some i1 := ho_1.symm
    have hlt_1 := zl_boxAt_lt hok hi_1
    subst hr_1
    refine W.eq (g2 := F0 m 5 ls [.ref (zl_ab a i1)]) rfl ?_
    refine lv_astore (lv' := [(5, .ref (zl_ab a i1)), (0, .ref h0), (1, .int p1), (2, .int p2), (3, .long p3)]) hx hb dz_L_put_5 hl (by decide) rfl (fun ls hl => ?_)
    refine lv_aload hx hb dz_L_put_7 (lv_at hl 0 rfl) ?_
    refine lv_ifnonnull (tgt := 15) hx hb dz_L_put_9 (by decide) ?_
    refine lv_iload_n hx hb dz_L_put_15 rfl (lv_at hl 3 rfl) ?_
    refine vp_callSi (va_Run.run (va_runS (As := [.int p2]) (rest := []) ⟨hx, hb, hml, hown, hz⟩ (ct_L_isItem l dC dI cq ci p2) (cwS 1 hz (zw_gS zi_136 zi_137 zi_33 zi_138) rfl rfl rfl (by decide +kernel) ⟨Nat.le_of_ble_eq_true rfl, Nat.le_of_ble_eq_true rfl⟩) (zw_preR zw_ns_ok (ws := []) (fun k q h => by simp at h) hK hN) rfl rfl hl.1 rfl (lv_room (Nat.le_of_ble_eq_true rfl)) dz_L_put_16 ⟨Nat.le_of_ble_eq_true rfl, Nat.le_of_ble_eq_true rfl⟩)) (fun r_3 hr_3 => ?_)
    have hr_3 : r_3 = zl_isItem p2 := hr_3
    subst hr_3
    refine lv_if_eq (tgt := 30) hx hb dz_L_put_19 (by decide) (fun c_4 => ?_) (fun c_4 => ?_)
    · refine lv_bipush (v := -12) hx hb dz_L_put_30 (by decide) ?_
      have hE_5 : zl_put S p1 p2 p3 = ((-12), S) := by simp only [zl_put, hi_1, if_pos c_4]
      exact W.iret (v := (-12)) hx hb hr (fun t ht hW => ⟨⟨_, (), rfl, by show (-12) = (zl_put S p1 p2 p3).1; rw [hE_5], by show va_P (dC, dI) vwCl (zl_W cq ci h0 a ((zl_put S p1 p2 p3).2)) t.heap; rw [ht, hE_5]; exact hP, by show va_D A (zl_W cq ci h0 a ((zl_put S p1 p2 p3).2)); rw [hE_5]; exact hD⟩, hS.F ht⟩) hS.2.2 dz_L_put_32
    · refine lv_aload_n hx hb dz_L_put_22 rfl (lv_at hl 1 rfl) ?_
      refine lv_lload_n hx hb dz_L_put_23 rfl (lv_at hl 4 rfl) ?_
      refine vp_callSi (va_Run.run (va_runV (As := [.long p3]) (rest := []) ⟨hx, hb, hml, hown, hz⟩ (ct_L_isTime l dC dI cq ci h0 a S hok p3) (cwV 1 hz (zw_gV zi_139 zi_140 zi_6 zi_33 zi_141) rfl rfl rfl (by decide +kernel) ⟨Nat.le_of_ble_eq_true rfl, Nat.le_of_ble_eq_true rfl⟩) (zw_preRV zw_ns_ok hP hK hN (ci := 2) rfl (k := 0) rfl) rfl rfl hl.1 rfl (lv_room (Nat.le_of_ble_eq_true rfl)) dz_L_put_24 ⟨Nat.le_of_ble_eq_true rfl, Nat.le_of_ble_eq_true rfl⟩)) (fun r_6 hr_6 => ?_)
      have hr_6 : r_6 = zl_isTime S p3 := hr_6
      subst hr_6
      refine lv_if_ne (tgt := 33) hx hb dz_L_put_27 (by decide) (fun c_7 => ?_) (fun c_7 => ?_)
      · refine lv_aload_n hx hb dz_L_put_33 rfl (lv_at hl 1 rfl) ?_
        refine lv_lload_n hx hb dz_L_put_34 rfl (lv_at hl 4 rfl) ?_
        have hFc := zw_free hS hA hD
        refine va_callv (va_runV (As := [.long p3]) (rest := []) ⟨hx, hb, hml, hown, hz⟩ (ct_L_passTo l dC dI cq ci h0 a S hok s.heap.size p3) (cwV 1 hz (zw_gV zi_142 zi_143 zi_7 zi_33 zi_144) rfl rfl rfl (by decide +kernel) ⟨Nat.le_of_ble_eq_true rfl, Nat.le_of_ble_eq_true rfl⟩) (zw_preUV zw_ns_ok hP hD hK hN (ci := 2) rfl (k := 0) rfl) rfl rfl hl.1 rfl (lv_room (Nat.le_of_ble_eq_true rfl)) dz_L_put_35 ⟨Nat.le_of_ble_eq_true rfl, Nat.le_of_ble_eq_true rfl⟩) hS (fun q _ h => hFc q h) hFc (fun u_8 t_8 H locs ht hvm hw hB hz1 hk1 hS => ?_)
        obtain ⟨hP, hD⟩ := hB
        rw [ht] at hP
        have hD := hD.weaken (fun _ q _ h => hFc q.1 h)
        obtain ⟨S_9, eS_9⟩ : ∃ z, z = (zl_passTo S p3) := ⟨_, rfl⟩
        rw [← eS_9] at hP hD
        have hok : zl_ok S_9 := by rw [eS_9]; exact zl_ok_pass hok
        have hlt_1 : i1 < zl_n S_9 := by rw [eS_9, zl_n_pass]; exact hlt_1
        refine lv_aload hx hb dz_L_put_38 (lv_at hl 0 rfl) ?_
        refine va_getN (D := (dC, dI)) (ci := 0) (v := .int (zb_Dr (zl_B S_9 i1))) (C := RzB) (T := TzB) (N := 9) hx hb hz inzB hown hK hP (i1 + 5) (zl_box hlt_1) rfl 1 (by decide) (va_Nw.use rfl (hN _ zn_4)) (fun _ h9 => h9) rfl dz_L_put_40 ?_
        refine lv_iconst (v := 1) hx hb dz_L_put_43 (by decide) ?_
        refine lv_icmp_ne (tgt := 63) hx hb dz_L_put_44 (by decide) (fun c_10 => ?_) (fun c_10 => ?_)
        · refine lv_iconst (v := 0) hx hb dz_L_put_63 (by decide) ?_
          subst eS_9
          have hE_11 : zl_put S p1 p2 p3 = (0, zl_passTo S p3) := by simp only [zl_put, hi_1, if_neg c_4, if_neg c_7, if_neg c_10]
          exact W.iret (v := 0) hx hb hr (fun t ht hW => ⟨⟨_, (), rfl, by show 0 = (zl_put S p1 p2 p3).1; rw [hE_11], by show va_P (dC, dI) vwCl (zl_W cq ci h0 a ((zl_put S p1 p2 p3).2)) t.heap; rw [ht, hE_11]; exact hP, by show va_D A (zl_W cq ci h0 a ((zl_put S p1 p2 p3).2)); rw [hE_11]; exact hD⟩, hS.F ht⟩) hS.2.2 dz_L_put_64
        · refine lv_aload hx hb dz_L_put_47 (lv_at hl 0 rfl) ?_
          refine vp_callSi (va_Run.run (va_runVN (As := []) (rest := []) ⟨hx, hb, hml, hown, hz⟩ (ct_B_isEmpty l dC dI cq ci (zl_ab a i1) (zl_B S_9 i1)) ⟨va_cnB 0 hz (zw_g1 zi_131) rfl rfl rfl (hN _ zn_14) (hz _ zi_36) (by decide +kernel) ⟨Nat.le_of_ble_eq_true rfl, Nat.le_of_ble_eq_true rfl⟩, hz _ zi_130, hz _ zi_5⟩ (zw_preRV zw_ns_ok (show va_P (dC, dI) vwCl (zb_W (zl_ab a i1) (zl_B S_9 i1)) H from zw_P1 hP (zl_box hlt_1)) hK hN (ci := 0) rfl (k := 0) rfl) rfl rfl hl.1 rfl (lv_room (Nat.le_of_ble_eq_true rfl)) dz_L_put_49 ⟨Nat.le_of_ble_eq_true rfl, Nat.le_of_ble_eq_true rfl⟩)) (fun r_12 hr_12 => ?_)
          have hr_12 : r_12 = zb_isEmpty (zl_B S_9 i1) := hr_12
          subst hr_12
          refine lv_if_eq (tgt := 63) hx hb dz_L_put_52 (by decide) (fun c_13 => ?_) (fun c_13 => ?_)
          · refine lv_iconst (v := 0) hx hb dz_L_put_63 (by decide) ?_
            subst eS_9
            have hE_14 : zl_put S p1 p2 p3 = (0, zl_passTo S p3) := by simp only [zl_put, hi_1, if_neg c_4, if_neg c_7, if_pos c_10, if_pos c_13]
            exact W.iret (v := 0) hx hb hr (fun t ht hW => ⟨⟨_, (), rfl, by show 0 = (zl_put S p1 p2 p3).1; rw [hE_14], by show va_P (dC, dI) vwCl (zl_W cq ci h0 a ((zl_put S p1 p2 p3).2)) t.heap; rw [ht, hE_14]; exact hP, by show va_D A (zl_W cq ci h0 a ((zl_put S p1 p2 p3).2)); rw [hE_14]; exact hD⟩, hS.F ht⟩) hS.2.2 dz_L_put_64
          · refine lv_aload_n hx hb dz_L_put_55 rfl (lv_at hl 1 rfl) ?_
            refine lv_iload_n hx hb dz_L_put_56 rfl (lv_at hl 3 rfl) ?_
            refine va_csq (va_Run.run (va_runV (As := [.int p2]) (rest := []) ⟨hx, hb, hml, hown, hz⟩ (ct_L_boxOfItem l dC dI cq ci h0 a S_9 hok p2) (cwV 1 hz (zw_gV zi_160 zi_161 zi_13 zi_33 zi_162) rfl rfl rfl (by decide +kernel) ⟨Nat.le_of_ble_eq_true rfl, Nat.le_of_ble_eq_true rfl⟩) (zw_preRV zw_ns_ok hP hK hN (ci := 2) rfl (k := 0) rfl) rfl rfl hl.1 rfl (lv_room (Nat.le_of_ble_eq_true rfl)) dz_L_put_57 ⟨Nat.le_of_ble_eq_true rfl, Nat.le_of_ble_eq_true rfl⟩)) (fun r_15 hr_15 => ?_)
            have hr_15 : r_15 = Option.map (zl_ab a) (zl_boxOfItem S_9 p2) := hr_15
            obtain ⟨o_15, ho_15⟩ : ∃ o, o = zl_boxOfItem S_9 p2 := ⟨_, rfl⟩
            rw [← ho_15] at hr_15
            rcases o_15 with _ | i15
            · have hi_15 : zl_boxOfItem S_9 p2 = none := ho_15.symm
              subst hr_15
              refine W.eq (g2 := F0 m 60 ls [.null]) rfl ?_
              refine lv_ifnullN (tgt := 65) hx hb dz_L_put_60 (by decide) ?_
              refine lv_aload hx hb dz_L_put_65 (lv_at hl 0 rfl) ?_
              refine lv_iload_n hx hb dz_L_put_67 rfl (lv_at hl 3 rfl) ?_
              have hFc := zw_free hS hA (show va_D A (zb_W (zl_ab a i1) (zl_B S_9 i1)) from zw_D1 hD (zl_box hlt_1))
              refine va_callv (va_runVN (As := [.int p2]) (rest := []) ⟨hx, hb, hml, hown, hz⟩ (ct_B_receive l dC dI cq ci (zl_ab a i1) (zl_B S_9 i1) H.size p2) ⟨va_cnB 1 hz (zw_g1 zi_164) rfl rfl rfl (hN _ zn_15) (hz _ zi_36) (by decide +kernel) ⟨Nat.le_of_ble_eq_true rfl, Nat.le_of_ble_eq_true rfl⟩, hz _ zi_163, hz _ zi_14⟩ (zw_preUV zw_ns_ok (show va_P (dC, dI) vwCl (zb_W (zl_ab a i1) (zl_B S_9 i1)) H from zw_P1 hP (zl_box hlt_1)) (show va_D A (zb_W (zl_ab a i1) (zl_B S_9 i1)) from zw_D1 hD (zl_box hlt_1)) hK hN (ci := 0) rfl (k := 0) rfl) rfl rfl hl.1 rfl (lv_room (Nat.le_of_ble_eq_true rfl)) dz_L_put_68 ⟨Nat.le_of_ble_eq_true rfl, Nat.le_of_ble_eq_true rfl⟩) hS (fun q _ h => hFc q h) hFc (fun u_16 t_16 H locs ht hvm hw hB hz1 hk1 hS => ?_)
              have hB : va_P (dC, dI) vwCl (zb_W (zl_ab a i1) (zb_receive (zl_B S_9 i1) p2)) t_16.heap := hB
              rw [ht] at hB
              obtain ⟨hP, hD⟩ := zl_joinB hlt_1 hP hD hk1 hB
              obtain ⟨S_17, eS_17⟩ : ∃ z, z = zl_sB S_9 i1 (zb_receive (zl_B S_9 i1) p2) := ⟨_, rfl⟩
              rw [← eS_17] at hP hD
              have hok : zl_ok S_17 := by rw [eS_17]; exact hok
              have hlt_1 : i1 < zl_n S_17 := by rw [eS_17]; exact hlt_1
              refine lv_iconst (v := 1) hx hb dz_L_put_71 (by decide) ?_
              subst eS_9 eS_17
              have hE_18 : zl_put S p1 p2 p3 = (1, zl_sB (zl_passTo S p3) i1 (zb_receive (zl_B (zl_passTo S p3) i1) p2)) := by simp only [zl_put, hi_1, if_neg c_4, if_neg c_7, if_pos c_10, if_neg c_13, hi_15]
              exact W.iret (v := 1) hx hb hr (fun t ht hW => ⟨⟨_, (), rfl, by show 1 = (zl_put S p1 p2 p3).1; rw [hE_18], by show va_P (dC, dI) vwCl (zl_W cq ci h0 a ((zl_put S p1 p2 p3).2)) t.heap; rw [ht, hE_18]; exact hP, by show va_D A (zl_W cq ci h0 a ((zl_put S p1 p2 p3).2)); rw [hE_18]; exact hD⟩, hS.F ht⟩) hS.2.2 dz_L_put_72
            · have hi_15 : zl_boxOfItem S_9 p2 = some i15 := ho_15.symm
              have hlt_15 := zl_boxOfItem_lt hok hi_15
              subst hr_15
              refine W.eq (g2 := F0 m 60 ls [.ref (zl_ab a i15)]) rfl ?_
              refine lv_ifnull hx hb dz_L_put_60 ?_
              refine lv_iconst (v := 0) hx hb dz_L_put_63 (by decide) ?_
              subst eS_9
              have hE_19 : zl_put S p1 p2 p3 = (0, zl_passTo S p3) := by simp only [zl_put, hi_1, if_neg c_4, if_neg c_7, if_pos c_10, if_neg c_13, hi_15]
              exact W.iret (v := 0) hx hb hr (fun t ht hW => ⟨⟨_, (), rfl, by show 0 = (zl_put S p1 p2 p3).1; rw [hE_19], by show va_P (dC, dI) vwCl (zl_W cq ci h0 a ((zl_put S p1 p2 p3).2)) t.heap; rw [ht, hE_19]; exact hP, by show va_D A (zl_W cq ci h0 a ((zl_put S p1 p2 p3).2)); rw [hE_19]; exact hD⟩, hS.F ht⟩) hS.2.2 dz_L_put_64
      · refine lv_bipush (v := -12) hx hb dz_L_put_30 (by decide) ?_
        have hE_20 : zl_put S p1 p2 p3 = ((-12), S) := by simp only [zl_put, hi_1, if_neg c_4, if_pos c_7]
        exact W.iret (v := (-12)) hx hb hr (fun t ht hW => ⟨⟨_, (), rfl, by show (-12) = (zl_put S p1 p2 p3).1; rw [hE_20], by show va_P (dC, dI) vwCl (zl_W cq ci h0 a ((zl_put S p1 p2 p3).2)) t.heap; rw [ht, hE_20]; exact hP, by show va_D A (zl_W cq ci h0 a ((zl_put S p1 p2 p3).2)); rw [hE_20]; exact hD⟩, hS.F ht⟩) hS.2.2 dz_L_put_32
set_option maxHeartbeats 4000000 in
set_option maxRecDepth 100000 in
theorem ct_L_close (l : Launch) (dC : Nat → ClassId) (dI : Nat → Nat → Nat) (cq ci : ClassId) (h0 : Nat) (a : zl_Ad) (S : zl_S) (hok : zl_ok S) (sz : Nat) (p1 : Int32) (p2 : Int64) : Met l yz_L_close wz_L_close (zw_room 3 0 0) (zw_U zw_ns (dC, dI) vwCl (zl_tys cq ci) [.ref h0, .int p1, .long p2] (zl_W cq ci h0 a S) sz) (va_Qi (fun (r : Int32) (_ : Unit) => r = (zl_close S p1 p2).1) (fun (_ : Unit) (t : State) => va_P (dC, dI) vwCl (zl_W cq ci h0 a ((zl_close S p1 p2).2)) t.heap ∧ va_D (va_A (zl_W cq ci h0 a S) sz) (zl_W cq ci h0 a ((zl_close S p1 p2).2))) (va_A (zl_W cq ci h0 a S) sz)) 0 0 (va_A (zl_W cq ci h0 a S) sz) := by
  refine Met.ofW (cc := cz_L_close) (maxL := 6) (ret := (some .int)) (by decide) rfl ?_
  intro p e s m args below meth c s₁ B hml hv
  obtain ⟨rfl, hsz, hP, hK, hD0, hN⟩ := hv
  have hx := B.exec
  have hb := B.bytes
  have hr := B.returns
  have hts := atoms_spec (ws := wz_L_close) B.pre
  have hz : ∀ w ∈ zw_T, w.before ([.ref h0, .int p1, .long p2] : List Value).toArray s = true := fun w h => hts w (List.mem_cons_of_mem _ h)
  have hown : s.vm.findClass RzL = some m.cls := findClass_of_methodNamed B.named
  have hlocks := B.notSynchronized
  subst hsz
  have hD := hD0.self (sz := s.heap.size)
  generalize hAe : va_A (zl_W cq ci h0 a S) s.heap.size = A at hD ⊢
  have hA : ∀ q : Nat, s.heap.size ≤ q → A q := fun q h => by rw [← hAe]; exact Or.inr h
  have hS : va_S A s.heap s.heap [] := va_S.rf
  have hl := lv_entry ([.ref h0, .int p1, .long p2]) (n := 6) (Nat.le_of_ble_eq_true rfl)
  rw [lg_entry_eq]
  generalize (lg_sl ([.ref h0, .int p1, .long p2]) ++ List.replicate (6 - (lg_sl ([.ref h0, .int p1, .long p2])).length) Slot.unset).toArray = ls at hl ⊢
  have hl : lv_has ls 6 [(0, .ref h0), (1, .int p1), (2, .long p2)] := hl
  refine lv_aload_n hx hb dz_L_close_0 rfl (lv_at hl 0 rfl) ?_
  refine lv_iload_n hx hb dz_L_close_1 rfl (lv_at hl 1 rfl) ?_
  refine va_csq (va_Run.run (va_runV (As := [.int p1]) (rest := []) ⟨hx, hb, hml, hown, hz⟩ (ct_L_boxAt l dC dI cq ci h0 a S hok p1) (cwV 1 hz (zw_gV zi_124 zi_125 zi_3 zi_33 zi_126) rfl rfl rfl (by decide +kernel) ⟨Nat.le_of_ble_eq_true rfl, Nat.le_of_ble_eq_true rfl⟩) (zw_preRV zw_ns_ok hP hK hN (ci := 2) rfl (k := 0) rfl) rfl rfl hl.1 rfl (lv_room (Nat.le_of_ble_eq_true rfl)) dz_L_close_2 ⟨Nat.le_of_ble_eq_true rfl, Nat.le_of_ble_eq_true rfl⟩)) (fun r_1 hr_1 => ?_)
  have hr_1 : r_1 = Option.map (zl_ab a) (zl_boxAt S p1) := hr_1
  obtain ⟨o_1, ho_1⟩ : ∃ o, o = zl_boxAt S p1 := ⟨_, rfl⟩
  rw [← ho_1] at hr_1
  rcases o_1 with _ | i1
  · have hi_1 : zl_boxAt S p1 = none := ho_1.symm
    subst hr_1
    refine W.eq (g2 := F0 m 5 ls [.null]) rfl ?_
    refine lv_astoreN (lv' := [(4, .null), (0, .ref h0), (1, .int p1), (2, .long p2)]) hx hb dz_L_close_5 hl (by decide) rfl (fun ls hl => ?_)
    refine lv_aloadN hx hb dz_L_close_7 (lv_at hl 0 rfl) ?_
    refine lv_ifnonnullN hx hb dz_L_close_9 ?_
    refine lv_bipush (v := -11) hx hb dz_L_close_12 (by decide) ?_
    have hE_2 : zl_close S p1 p2 = ((-11), S) := by simp only [zl_close, hi_1]
    exact W.iret (v := (-11)) hx hb hr (fun t ht hW => ⟨⟨_, (), rfl, by show (-11) = (zl_close S p1 p2).1; rw [hE_2], by show va_P (dC, dI) vwCl (zl_W cq ci h0 a ((zl_close S p1 p2).2)) t.heap; rw [ht, hE_2]; exact hP, by show va_D A (zl_W cq ci h0 a ((zl_close S p1 p2).2)); rw [hE_2]; exact hD⟩, hS.F ht⟩) hS.2.2 dz_L_close_14
  · have hi_1 : zl_boxAt S p1 = some i1 := ho_1.symm
    have hlt_1 := zl_boxAt_lt hok hi_1
    subst hr_1
    refine W.eq (g2 := F0 m 5 ls [.ref (zl_ab a i1)]) rfl ?_
    refine lv_astore (lv' := [(4, .ref (zl_ab a i1)), (0, .ref h0), (1, .int p1), (2, .long p2)]) hx hb dz_L_close_5 hl (by decide) rfl (fun ls hl => ?_)
    refine lv_aload hx hb dz_L_close_7 (lv_at hl 0 rfl) ?_
    refine lv_ifnonnull (tgt := 15) hx hb dz_L_close_9 (by decide) ?_
    refine lv_aload_n hx hb dz_L_close_15 rfl (lv_at hl 1 rfl) ?_
    refine lv_lload_n hx hb dz_L_close_16 rfl (lv_at hl 3 rfl) ?_
    refine vp_callSi (va_Run.run (va_runV (As := [.long p2]) (rest := []) ⟨hx, hb, hml, hown, hz⟩ (ct_L_isTime l dC dI cq ci h0 a S hok p2) (cwV 1 hz (zw_gV zi_139 zi_140 zi_6 zi_33 zi_141) rfl rfl rfl (by decide +kernel) ⟨Nat.le_of_ble_eq_true rfl, Nat.le_of_ble_eq_true rfl⟩) (zw_preRV zw_ns_ok hP hK hN (ci := 2) rfl (k := 0) rfl) rfl rfl hl.1 rfl (lv_room (Nat.le_of_ble_eq_true rfl)) dz_L_close_17 ⟨Nat.le_of_ble_eq_true rfl, Nat.le_of_ble_eq_true rfl⟩)) (fun r_3 hr_3 => ?_)
    have hr_3 : r_3 = zl_isTime S p2 := hr_3
    subst hr_3
    refine lv_if_ne (tgt := 26) hx hb dz_L_close_20 (by decide) (fun c_4 => ?_) (fun c_4 => ?_)
    · refine lv_aload_n hx hb dz_L_close_26 rfl (lv_at hl 1 rfl) ?_
      refine lv_lload_n hx hb dz_L_close_27 rfl (lv_at hl 3 rfl) ?_
      have hFc := zw_free hS hA hD
      refine va_callv (va_runV (As := [.long p2]) (rest := []) ⟨hx, hb, hml, hown, hz⟩ (ct_L_passTo l dC dI cq ci h0 a S hok s.heap.size p2) (cwV 1 hz (zw_gV zi_142 zi_143 zi_7 zi_33 zi_144) rfl rfl rfl (by decide +kernel) ⟨Nat.le_of_ble_eq_true rfl, Nat.le_of_ble_eq_true rfl⟩) (zw_preUV zw_ns_ok hP hD hK hN (ci := 2) rfl (k := 0) rfl) rfl rfl hl.1 rfl (lv_room (Nat.le_of_ble_eq_true rfl)) dz_L_close_28 ⟨Nat.le_of_ble_eq_true rfl, Nat.le_of_ble_eq_true rfl⟩) hS (fun q _ h => hFc q h) hFc (fun u_5 t_5 H locs ht hvm hw hB hz1 hk1 hS => ?_)
      obtain ⟨hP, hD⟩ := hB
      rw [ht] at hP
      have hD := hD.weaken (fun _ q _ h => hFc q.1 h)
      obtain ⟨S_6, eS_6⟩ : ∃ z, z = (zl_passTo S p2) := ⟨_, rfl⟩
      rw [← eS_6] at hP hD
      have hok : zl_ok S_6 := by rw [eS_6]; exact zl_ok_pass hok
      have hlt_1 : i1 < zl_n S_6 := by rw [eS_6, zl_n_pass]; exact hlt_1
      refine lv_aload hx hb dz_L_close_31 (lv_at hl 0 rfl) ?_
      refine va_getN (D := (dC, dI)) (ci := 0) (v := .int (zb_Dr (zl_B S_6 i1))) (C := RzB) (T := TzB) (N := 9) hx hb hz inzB hown hK hP (i1 + 5) (zl_box hlt_1) rfl 1 (by decide) (va_Nw.use rfl (hN _ zn_4)) (fun _ h9 => h9) rfl dz_L_close_33 ?_
      refine lv_iconst (v := 1) hx hb dz_L_close_36 (by decide) ?_
      refine lv_icmp_eq (tgt := 43) hx hb dz_L_close_37 (by decide) (fun c_7 => ?_) (fun c_7 => ?_)
      · refine lv_aload hx hb dz_L_close_43 (lv_at hl 0 rfl) ?_
        refine vp_callSi (va_Run.run (va_runVN (As := []) (rest := []) ⟨hx, hb, hml, hown, hz⟩ (ct_B_wantsCode l dC dI cq ci (zl_ab a i1) (zl_B S_6 i1)) ⟨va_cnB 0 hz (zw_g1 zi_170) rfl rfl rfl (hN _ zn_16) (hz _ zi_36) (by decide +kernel) ⟨Nat.le_of_ble_eq_true rfl, Nat.le_of_ble_eq_true rfl⟩, hz _ zi_169, hz _ zi_15⟩ (zw_preRV zw_ns_ok (show va_P (dC, dI) vwCl (zb_W (zl_ab a i1) (zl_B S_6 i1)) H from zw_P1 hP (zl_box hlt_1)) hK hN (ci := 0) rfl (k := 0) rfl) rfl rfl hl.1 rfl (lv_room (Nat.le_of_ble_eq_true rfl)) dz_L_close_45 ⟨Nat.le_of_ble_eq_true rfl, Nat.le_of_ble_eq_true rfl⟩)) (fun r_8 hr_8 => ?_)
        have hr_8 : r_8 = zb_wantsCode (zl_B S_6 i1) := hr_8
        subst hr_8
        refine lv_if_ne (tgt := 59) hx hb dz_L_close_48 (by decide) (fun c_9 => ?_) (fun c_9 => ?_)
        · refine lv_aload_n hx hb dz_L_close_59 rfl (lv_at hl 1 rfl) ?_
          have hFc := zw_free hS hA hD
          refine va_calli (va_runV (As := []) (rest := []) ⟨hx, hb, hml, hown, hz⟩ (ct_L_wantedCode l dC dI cq ci h0 a S_6 hok H.size) (cwV 0 hz (zw_gV zi_171 zi_172 zi_16 zi_33 zi_173) rfl rfl rfl (by decide +kernel) ⟨Nat.le_of_ble_eq_true rfl, Nat.le_of_ble_eq_true rfl⟩) (zw_preUV zw_ns_ok hP hD hK hN (ci := 2) rfl (k := 0) rfl) rfl rfl hl.1 rfl (lv_room (Nat.le_of_ble_eq_true rfl)) dz_L_close_60 ⟨Nat.le_of_ble_eq_true rfl, Nat.le_of_ble_eq_true rfl⟩) hS (fun q _ h => hFc q h) hFc (fun r_10 u_10 t_10 H locs ht hvm hw hB hz1 hk1 hS => ?_)
          have hw : r_10 = (zl_wanted S_6).1 := hw
          subst hw
          obtain ⟨hP, hD⟩ := hB
          rw [ht] at hP
          have hD := hD.weaken (fun _ q _ h => hFc q.1 h)
          obtain ⟨S_11, eS_11⟩ : ∃ z, z = (zl_wanted S_6).2 := ⟨_, rfl⟩
          rw [← eS_11] at hP hD
          have hok : zl_ok S_11 := by rw [eS_11]; exact zl_ok_wanted hok
          have hlt_1 : i1 < zl_n S_11 := by rw [eS_11, zl_n_wanted]; exact hlt_1
          refine lv_istore (lv' := [(5, .int ((zl_wanted S_6).1)), (4, .ref (zl_ab a i1)), (0, .ref h0), (1, .int p1), (2, .long p2)]) hx hb dz_L_close_63 hl (by decide) rfl (fun ls hl => ?_)
          refine lv_iload hx hb dz_L_close_65 (lv_at hl 0 rfl) ?_
          refine lv_iconst (v := -1) hx hb dz_L_close_67 (by decide) ?_
          refine lv_icmp_ne (tgt := 74) hx hb dz_L_close_68 (by decide) (fun c_12 => ?_) (fun c_12 => ?_)
          · refine lv_aload hx hb dz_L_close_74 (lv_at hl 1 rfl) ?_
            refine lv_iload hx hb dz_L_close_76 (lv_at hl 0 rfl) ?_
            refine lv_lload_n hx hb dz_L_close_78 rfl (lv_at hl 4 rfl) ?_
            have hFc := zw_free hS hA (show va_D A (zb_W (zl_ab a i1) (zl_B S_11 i1)) from zw_D1 hD (zl_box hlt_1))
            refine va_callv (va_runVN (As := [.int ((zl_wanted S_6).1), .long p2]) (rest := []) ⟨hx, hb, hml, hown, hz⟩ (ct_B_layDown l dC dI cq ci (zl_ab a i1) (zl_B S_11 i1) H.size ((zl_wanted S_6).1) p2) ⟨va_cnB 2 hz (zw_g1 zi_185) rfl rfl rfl (hN _ zn_20) (hz _ zi_36) (by decide +kernel) ⟨Nat.le_of_ble_eq_true rfl, Nat.le_of_ble_eq_true rfl⟩, hz _ zi_184, hz _ zi_20⟩ (zw_preUV zw_ns_ok (show va_P (dC, dI) vwCl (zb_W (zl_ab a i1) (zl_B S_11 i1)) H from zw_P1 hP (zl_box hlt_1)) (show va_D A (zb_W (zl_ab a i1) (zl_B S_11 i1)) from zw_D1 hD (zl_box hlt_1)) hK hN (ci := 0) rfl (k := 0) rfl) rfl rfl hl.1 rfl (lv_room (Nat.le_of_ble_eq_true rfl)) dz_L_close_79 ⟨Nat.le_of_ble_eq_true rfl, Nat.le_of_ble_eq_true rfl⟩) hS (fun q _ h => hFc q h) hFc (fun u_13 t_13 H locs ht hvm hw hB hz1 hk1 hS => ?_)
            have hB : va_P (dC, dI) vwCl (zb_W (zl_ab a i1) (zb_lay (zl_B S_11 i1) ((zl_wanted S_6).1) p2)) t_13.heap := hB
            rw [ht] at hB
            obtain ⟨hP, hD⟩ := zl_joinB hlt_1 hP hD hk1 hB
            obtain ⟨S_14, eS_14⟩ : ∃ z, z = zl_sB S_11 i1 (zb_lay (zl_B S_11 i1) ((zl_wanted S_6).1) p2) := ⟨_, rfl⟩
            rw [← eS_14] at hP hD
            have hok : zl_ok S_14 := by rw [eS_14]; exact hok
            have hlt_1 : i1 < zl_n S_14 := by rw [eS_14]; exact hlt_1
            refine lv_aload hx hb dz_L_close_82 (lv_at hl 1 rfl) ?_
            refine lv_iconst (v := 0) hx hb dz_L_close_84 (by decide) ?_
            refine va_putN (D := (dC, dI)) (ci := 0) (v := .int 0) (ty := .int) (C := RzB) (T := TzB) (N := 9) hx hb hz inzB tyzB tyzB_ok nmzB hown hK hP hD hS (i1 + 5) (zl_box hlt_1) rfl 1 (by decide) (va_Nw.use rfl (hN _ zn_4)) (fun _ h9 => h9) rfl (by decide +kernel) rfl rfl (Nat.le_of_ble_eq_true rfl) dz_L_close_85 (fun H locs hP hD hS => ?_)
            obtain ⟨S_15, eS_15⟩ : ∃ z, z = zl_sB S_14 i1 (zb_sDr (zl_B S_14 i1) 0) := ⟨_, rfl⟩
            have hP : va_P (dC, dI) vwCl (zl_W cq ci h0 a S_15) H := by rw [eS_15, ← zl_box_set (zb_sDr (zl_B S_14 i1) 0) hlt_1]; exact hP
            have hD : va_D A (zl_W cq ci h0 a S_15) := by rw [eS_15, ← zl_box_set (zb_sDr (zl_B S_14 i1) 0) hlt_1]; exact hD
            have hok : zl_ok S_15 := by rw [eS_15]; exact hok
            have hlt_1 : i1 < zl_n S_15 := by rw [eS_15]; exact hlt_1
            refine lv_iload hx hb dz_L_close_88 (lv_at hl 0 rfl) ?_
            subst eS_6 eS_11 eS_14 eS_15
            have hE_16 : zl_close S p1 p2 = ((zl_wanted (zl_passTo S p2)).1, zl_sB (zl_sB ((zl_wanted (zl_passTo S p2)).2) i1 (zb_lay (zl_B ((zl_wanted (zl_passTo S p2)).2) i1) ((zl_wanted (zl_passTo S p2)).1) p2)) i1 (zb_sDr (zl_B (zl_sB ((zl_wanted (zl_passTo S p2)).2) i1 (zb_lay (zl_B ((zl_wanted (zl_passTo S p2)).2) i1) ((zl_wanted (zl_passTo S p2)).1) p2)) i1) 0)) := by simp only [zl_close, hi_1, if_neg c_4, if_pos c_7, if_neg c_9, if_neg c_12]
            exact W.iret (v := (zl_wanted (zl_passTo S p2)).1) hx hb hr (fun t ht hW => ⟨⟨_, (), rfl, by show (zl_wanted (zl_passTo S p2)).1 = (zl_close S p1 p2).1; rw [hE_16], by show va_P (dC, dI) vwCl (zl_W cq ci h0 a ((zl_close S p1 p2).2)) t.heap; rw [ht, hE_16]; exact hP, by show va_D A (zl_W cq ci h0 a ((zl_close S p1 p2).2)); rw [hE_16]; exact hD⟩, hS.F ht⟩) hS.2.2 dz_L_close_90
          · refine lv_bipush (v := -14) hx hb dz_L_close_71 (by decide) ?_
            subst eS_6 eS_11
            have hE_17 : zl_close S p1 p2 = ((-14), ((zl_wanted (zl_passTo S p2)).2)) := by simp only [zl_close, hi_1, if_neg c_4, if_pos c_7, if_neg c_9, if_pos c_12]
            exact W.iret (v := (-14)) hx hb hr (fun t ht hW => ⟨⟨_, (), rfl, by show (-14) = (zl_close S p1 p2).1; rw [hE_17], by show va_P (dC, dI) vwCl (zl_W cq ci h0 a ((zl_close S p1 p2).2)) t.heap; rw [ht, hE_17]; exact hP, by show va_D A (zl_W cq ci h0 a ((zl_close S p1 p2).2)); rw [hE_17]; exact hD⟩, hS.F ht⟩) hS.2.2 dz_L_close_73
        · refine lv_aload hx hb dz_L_close_51 (lv_at hl 0 rfl) ?_
          refine lv_iconst (v := 0) hx hb dz_L_close_53 (by decide) ?_
          refine va_putN (D := (dC, dI)) (ci := 0) (v := .int 0) (ty := .int) (C := RzB) (T := TzB) (N := 9) hx hb hz inzB tyzB tyzB_ok nmzB hown hK hP hD hS (i1 + 5) (zl_box hlt_1) rfl 1 (by decide) (va_Nw.use rfl (hN _ zn_4)) (fun _ h9 => h9) rfl (by decide +kernel) rfl rfl (Nat.le_of_ble_eq_true rfl) dz_L_close_54 (fun H locs hP hD hS => ?_)
          obtain ⟨S_18, eS_18⟩ : ∃ z, z = zl_sB S_6 i1 (zb_sDr (zl_B S_6 i1) 0) := ⟨_, rfl⟩
          have hP : va_P (dC, dI) vwCl (zl_W cq ci h0 a S_18) H := by rw [eS_18, ← zl_box_set (zb_sDr (zl_B S_6 i1) 0) hlt_1]; exact hP
          have hD : va_D A (zl_W cq ci h0 a S_18) := by rw [eS_18, ← zl_box_set (zb_sDr (zl_B S_6 i1) 0) hlt_1]; exact hD
          have hok : zl_ok S_18 := by rw [eS_18]; exact hok
          have hlt_1 : i1 < zl_n S_18 := by rw [eS_18]; exact hlt_1
          refine lv_iconst (v := -1) hx hb dz_L_close_57 (by decide) ?_
          subst eS_6 eS_18
          have hE_19 : zl_close S p1 p2 = ((-1), zl_sB (zl_passTo S p2) i1 (zb_sDr (zl_B (zl_passTo S p2) i1) 0)) := by simp only [zl_close, hi_1, if_neg c_4, if_pos c_7, if_pos c_9]
          exact W.iret (v := (-1)) hx hb hr (fun t ht hW => ⟨⟨_, (), rfl, by show (-1) = (zl_close S p1 p2).1; rw [hE_19], by show va_P (dC, dI) vwCl (zl_W cq ci h0 a ((zl_close S p1 p2).2)) t.heap; rw [ht, hE_19]; exact hP, by show va_D A (zl_W cq ci h0 a ((zl_close S p1 p2).2)); rw [hE_19]; exact hD⟩, hS.F ht⟩) hS.2.2 dz_L_close_58
      · refine lv_bipush (v := -13) hx hb dz_L_close_40 (by decide) ?_
        subst eS_6
        have hE_20 : zl_close S p1 p2 = ((-13), zl_passTo S p2) := by simp only [zl_close, hi_1, if_neg c_4, if_neg c_7]
        exact W.iret (v := (-13)) hx hb hr (fun t ht hW => ⟨⟨_, (), rfl, by show (-13) = (zl_close S p1 p2).1; rw [hE_20], by show va_P (dC, dI) vwCl (zl_W cq ci h0 a ((zl_close S p1 p2).2)) t.heap; rw [ht, hE_20]; exact hP, by show va_D A (zl_W cq ci h0 a ((zl_close S p1 p2).2)); rw [hE_20]; exact hD⟩, hS.F ht⟩) hS.2.2 dz_L_close_42
    · refine lv_bipush (v := -12) hx hb dz_L_close_23 (by decide) ?_
      have hE_21 : zl_close S p1 p2 = ((-12), S) := by simp only [zl_close, hi_1, if_pos c_4]
      exact W.iret (v := (-12)) hx hb hr (fun t ht hW => ⟨⟨_, (), rfl, by show (-12) = (zl_close S p1 p2).1; rw [hE_21], by show va_P (dC, dI) vwCl (zl_W cq ci h0 a ((zl_close S p1 p2).2)) t.heap; rw [ht, hE_21]; exact hP, by show va_D A (zl_W cq ci h0 a ((zl_close S p1 p2).2)); rw [hE_21]; exact hD⟩, hS.F ht⟩) hS.2.2 dz_L_close_25
set_option maxHeartbeats 4000000 in
set_option maxRecDepth 100000 in
theorem ct_L_type (l : Launch) (dC : Nat → ClassId) (dI : Nat → Nat → Nat) (cq ci : ClassId) (h0 : Nat) (a : zl_Ad) (S : zl_S) (hok : zl_ok S) (sz : Nat) (p1 : Int32) (p2 : Int64) : Met l yz_L_type wz_L_type (zw_room 3 0 0) (zw_U zw_ns (dC, dI) vwCl (zl_tys cq ci) [.ref h0, .int p1, .long p2] (zl_W cq ci h0 a S) sz) (va_Qi (fun (r : Int32) (_ : Unit) => r = (zl_type S p1 p2).1) (fun (_ : Unit) (t : State) => va_P (dC, dI) vwCl (zl_W cq ci h0 a ((zl_type S p1 p2).2)) t.heap ∧ va_D (va_A (zl_W cq ci h0 a S) sz) (zl_W cq ci h0 a ((zl_type S p1 p2).2))) (va_A (zl_W cq ci h0 a S) sz)) 0 0 (va_A (zl_W cq ci h0 a S) sz) := by
  refine Met.ofW (cc := cz_L_type) (maxL := 6) (ret := (some .int)) (by decide) rfl ?_
  intro p e s m args below meth c s₁ B hml hv
  obtain ⟨rfl, hsz, hP, hK, hD0, hN⟩ := hv
  have hx := B.exec
  have hb := B.bytes
  have hr := B.returns
  have hts := atoms_spec (ws := wz_L_type) B.pre
  have hz : ∀ w ∈ zw_T, w.before ([.ref h0, .int p1, .long p2] : List Value).toArray s = true := fun w h => hts w (List.mem_cons_of_mem _ h)
  have hown : s.vm.findClass RzL = some m.cls := findClass_of_methodNamed B.named
  have hlocks := B.notSynchronized
  subst hsz
  have hD := hD0.self (sz := s.heap.size)
  generalize hAe : va_A (zl_W cq ci h0 a S) s.heap.size = A at hD ⊢
  have hA : ∀ q : Nat, s.heap.size ≤ q → A q := fun q h => by rw [← hAe]; exact Or.inr h
  have hS : va_S A s.heap s.heap [] := va_S.rf
  have hl := lv_entry ([.ref h0, .int p1, .long p2]) (n := 6) (Nat.le_of_ble_eq_true rfl)
  rw [lg_entry_eq]
  generalize (lg_sl ([.ref h0, .int p1, .long p2]) ++ List.replicate (6 - (lg_sl ([.ref h0, .int p1, .long p2])).length) Slot.unset).toArray = ls at hl ⊢
  have hl : lv_has ls 6 [(0, .ref h0), (1, .int p1), (2, .long p2)] := hl
  refine lv_iload_n hx hb dz_L_type_0 rfl (lv_at hl 1 rfl) ?_
  refine vp_callSi (va_Run.run (va_runS (As := [.int p1]) (rest := []) ⟨hx, hb, hml, hown, hz⟩ (ct_L_isCode l dC dI cq ci p1) (cwS 1 hz (zw_gS zi_108 zi_109 zi_33 zi_110) rfl rfl rfl (by decide +kernel) ⟨Nat.le_of_ble_eq_true rfl, Nat.le_of_ble_eq_true rfl⟩) (zw_preR zw_ns_ok (ws := []) (fun k q h => by simp at h) hK hN) rfl rfl hl.1 rfl (lv_room (Nat.le_of_ble_eq_true rfl)) dz_L_type_1 ⟨Nat.le_of_ble_eq_true rfl, Nat.le_of_ble_eq_true rfl⟩)) (fun r_1 hr_1 => ?_)
  have hr_1 : r_1 = zl_isCode p1 := hr_1
  subst hr_1
  refine lv_if_eq (tgt := 15) hx hb dz_L_type_4 (by decide) (fun c_2 => ?_) (fun c_2 => ?_)
  · refine lv_bipush (v := -12) hx hb dz_L_type_15 (by decide) ?_
    have hE_3 : zl_type S p1 p2 = ((-12), S) := by simp only [zl_type, if_pos c_2]
    exact W.iret (v := (-12)) hx hb hr (fun t ht hW => ⟨⟨_, (), rfl, by show (-12) = (zl_type S p1 p2).1; rw [hE_3], by show va_P (dC, dI) vwCl (zl_W cq ci h0 a ((zl_type S p1 p2).2)) t.heap; rw [ht, hE_3]; exact hP, by show va_D A (zl_W cq ci h0 a ((zl_type S p1 p2).2)); rw [hE_3]; exact hD⟩, hS.F ht⟩) hS.2.2 dz_L_type_17
  · refine lv_aload_n hx hb dz_L_type_7 rfl (lv_at hl 0 rfl) ?_
    refine lv_lload_n hx hb dz_L_type_8 rfl (lv_at hl 2 rfl) ?_
    refine vp_callSi (va_Run.run (va_runV (As := [.long p2]) (rest := []) ⟨hx, hb, hml, hown, hz⟩ (ct_L_isTime l dC dI cq ci h0 a S hok p2) (cwV 1 hz (zw_gV zi_139 zi_140 zi_6 zi_33 zi_141) rfl rfl rfl (by decide +kernel) ⟨Nat.le_of_ble_eq_true rfl, Nat.le_of_ble_eq_true rfl⟩) (zw_preRV zw_ns_ok hP hK hN (ci := 2) rfl (k := 0) rfl) rfl rfl hl.1 rfl (lv_room (Nat.le_of_ble_eq_true rfl)) dz_L_type_9 ⟨Nat.le_of_ble_eq_true rfl, Nat.le_of_ble_eq_true rfl⟩)) (fun r_4 hr_4 => ?_)
    have hr_4 : r_4 = zl_isTime S p2 := hr_4
    subst hr_4
    refine lv_if_ne (tgt := 18) hx hb dz_L_type_12 (by decide) (fun c_5 => ?_) (fun c_5 => ?_)
    · refine lv_aload_n hx hb dz_L_type_18 rfl (lv_at hl 0 rfl) ?_
      refine lv_lload_n hx hb dz_L_type_19 rfl (lv_at hl 2 rfl) ?_
      have hFc := zw_free hS hA hD
      refine va_callv (va_runV (As := [.long p2]) (rest := []) ⟨hx, hb, hml, hown, hz⟩ (ct_L_passTo l dC dI cq ci h0 a S hok s.heap.size p2) (cwV 1 hz (zw_gV zi_142 zi_143 zi_7 zi_33 zi_144) rfl rfl rfl (by decide +kernel) ⟨Nat.le_of_ble_eq_true rfl, Nat.le_of_ble_eq_true rfl⟩) (zw_preUV zw_ns_ok hP hD hK hN (ci := 2) rfl (k := 0) rfl) rfl rfl hl.1 rfl (lv_room (Nat.le_of_ble_eq_true rfl)) dz_L_type_20 ⟨Nat.le_of_ble_eq_true rfl, Nat.le_of_ble_eq_true rfl⟩) hS (fun q _ h => hFc q h) hFc (fun u_6 t_6 H locs ht hvm hw hB hz1 hk1 hS => ?_)
      obtain ⟨hP, hD⟩ := hB
      rw [ht] at hP
      have hD := hD.weaken (fun _ q _ h => hFc q.1 h)
      obtain ⟨S_7, eS_7⟩ : ∃ z, z = (zl_passTo S p2) := ⟨_, rfl⟩
      rw [← eS_7] at hP hD
      have hok : zl_ok S_7 := by rw [eS_7]; exact zl_ok_pass hok
      refine lv_lload_n hx hb dz_L_type_23 rfl (lv_at hl 2 rfl) ?_
      refine lv_aload_n hx hb dz_L_type_24 rfl (lv_at hl 0 rfl) ?_
      refine va_get (D := (dC, dI)) (ci := 2) (v := .long (zl_K S_7)) (C := RzL) (T := TzL) (N := 9) hx hb hz inzL hown hK hP 0 rfl rfl 8 (by decide) (hz _ zi_65) (fun _ h9 => h9) rfl dz_L_type_25 ?_
      refine W.lcmp hx hb dz_L_type_28 ?_
      refine lv_if_ge (tgt := 34) hx hb dz_L_type_29 (by decide) (fun c_8 => ?_) (fun c_8 => ?_)
      · refine lv_aload_n hx hb dz_L_type_34 rfl (lv_at hl 0 rfl) ?_
        refine lv_iload_n hx hb dz_L_type_35 rfl (lv_at hl 1 rfl) ?_
        refine vp_callSi (va_Run.run (va_runV (As := [.int p1]) (rest := []) ⟨hx, hb, hml, hown, hz⟩ (ct_L_boxNumberOfCode l dC dI cq ci h0 a S_7 hok p1) (cwV 1 hz (zw_gV zi_176 zi_177 zi_18 zi_33 zi_178) rfl rfl rfl (by decide +kernel) ⟨Nat.le_of_ble_eq_true rfl, Nat.le_of_ble_eq_true rfl⟩) (zw_preRV zw_ns_ok hP hK hN (ci := 2) rfl (k := 0) rfl) rfl rfl hl.1 rfl (lv_room (Nat.le_of_ble_eq_true rfl)) dz_L_type_36 ⟨Nat.le_of_ble_eq_true rfl, Nat.le_of_ble_eq_true rfl⟩)) (fun r_9 hr_9 => ?_)
        have hr_9 : r_9 = zl_boxNumberOfCode S_7 p1 := hr_9
        subst hr_9
        refine lv_istore (lv' := [(4, .int (zl_boxNumberOfCode S_7 p1)), (0, .ref h0), (1, .int p1), (2, .long p2)]) hx hb dz_L_type_39 hl (by decide) rfl (fun ls hl => ?_)
        refine lv_aload_n hx hb dz_L_type_41 rfl (lv_at hl 1 rfl) ?_
        refine lv_iload hx hb dz_L_type_42 (lv_at hl 0 rfl) ?_
        refine va_csq (va_Run.run (va_runV (As := [.int (zl_boxNumberOfCode S_7 p1)]) (rest := []) ⟨hx, hb, hml, hown, hz⟩ (ct_L_boxAt l dC dI cq ci h0 a S_7 hok (zl_boxNumberOfCode S_7 p1)) (cwV 1 hz (zw_gV zi_124 zi_125 zi_3 zi_33 zi_126) rfl rfl rfl (by decide +kernel) ⟨Nat.le_of_ble_eq_true rfl, Nat.le_of_ble_eq_true rfl⟩) (zw_preRV zw_ns_ok hP hK hN (ci := 2) rfl (k := 0) rfl) rfl rfl hl.1 rfl (lv_room (Nat.le_of_ble_eq_true rfl)) dz_L_type_44 ⟨Nat.le_of_ble_eq_true rfl, Nat.le_of_ble_eq_true rfl⟩)) (fun r_10 hr_10 => ?_)
        have hr_10 : r_10 = Option.map (zl_ab a) (zl_boxAt S_7 (zl_boxNumberOfCode S_7 p1)) := hr_10
        obtain ⟨o_10, ho_10⟩ : ∃ o, o = zl_boxAt S_7 (zl_boxNumberOfCode S_7 p1) := ⟨_, rfl⟩
        rw [← ho_10] at hr_10
        rcases o_10 with _ | i10
        · have hi_10 : zl_boxAt S_7 (zl_boxNumberOfCode S_7 p1) = none := ho_10.symm
          subst hr_10
          refine W.eq (g2 := F0 m 47 ls [.null]) rfl ?_
          refine lv_astoreN (lv' := [(5, .null), (4, .int (zl_boxNumberOfCode S_7 p1)), (0, .ref h0), (1, .int p1), (2, .long p2)]) hx hb dz_L_type_47 hl (by decide) rfl (fun ls hl => ?_)
          refine lv_aloadN hx hb dz_L_type_49 (lv_at hl 0 rfl) ?_
          refine lv_ifnullN (tgt := 62) hx hb dz_L_type_51 (by decide) ?_
          refine lv_aload_n hx hb dz_L_type_62 rfl (lv_at hl 2 rfl) ?_
          refine lv_lload_n hx hb dz_L_type_63 rfl (lv_at hl 4 rfl) ?_
          have hFc := zw_free hS hA hD
          refine va_callv (va_runV (As := [.long p2]) (rest := []) ⟨hx, hb, hml, hown, hz⟩ (ct_L_countWrongTry l dC dI cq ci h0 a S_7 hok H.size p2) (cwV 1 hz (zw_gV zi_190 zi_191 zi_21 zi_33 zi_192) rfl rfl rfl (by decide +kernel) ⟨Nat.le_of_ble_eq_true rfl, Nat.le_of_ble_eq_true rfl⟩) (zw_preUV zw_ns_ok hP hD hK hN (ci := 2) rfl (k := 0) rfl) rfl rfl hl.1 rfl (lv_room (Nat.le_of_ble_eq_true rfl)) dz_L_type_64 ⟨Nat.le_of_ble_eq_true rfl, Nat.le_of_ble_eq_true rfl⟩) hS (fun q _ h => hFc q h) hFc (fun u_11 t_11 H locs ht hvm hw hB hz1 hk1 hS => ?_)
          obtain ⟨hP, hD⟩ := hB
          rw [ht] at hP
          have hD := hD.weaken (fun _ q _ h => hFc q.1 h)
          obtain ⟨S_12, eS_12⟩ : ∃ z, z = (zl_wrong S_7 p2) := ⟨_, rfl⟩
          rw [← eS_12] at hP hD
          have hok : zl_ok S_12 := by rw [eS_12]; exact zl_ok_wrong hok
          refine lv_iconst (v := 0) hx hb dz_L_type_67 (by decide) ?_
          subst eS_7 eS_12
          have hE_13 : zl_type S p1 p2 = (0, zl_wrong (zl_passTo S p2) p2) := by simp only [zl_type, if_neg c_2, if_neg c_5, if_pos c_8, hi_10]
          exact W.iret (v := 0) hx hb hr (fun t ht hW => ⟨⟨_, (), rfl, by show 0 = (zl_type S p1 p2).1; rw [hE_13], by show va_P (dC, dI) vwCl (zl_W cq ci h0 a ((zl_type S p1 p2).2)) t.heap; rw [ht, hE_13]; exact hP, by show va_D A (zl_W cq ci h0 a ((zl_type S p1 p2).2)); rw [hE_13]; exact hD⟩, hS.F ht⟩) hS.2.2 dz_L_type_68
        · have hi_10 : zl_boxAt S_7 (zl_boxNumberOfCode S_7 p1) = some i10 := ho_10.symm
          have hlt_10 := zl_boxAt_lt hok hi_10
          subst hr_10
          refine W.eq (g2 := F0 m 47 ls [.ref (zl_ab a i10)]) rfl ?_
          refine lv_astore (lv' := [(5, .ref (zl_ab a i10)), (4, .int (zl_boxNumberOfCode S_7 p1)), (0, .ref h0), (1, .int p1), (2, .long p2)]) hx hb dz_L_type_47 hl (by decide) rfl (fun ls hl => ?_)
          refine lv_aload hx hb dz_L_type_49 (lv_at hl 0 rfl) ?_
          refine lv_ifnull hx hb dz_L_type_51 ?_
          refine lv_aload hx hb dz_L_type_54 (lv_at hl 0 rfl) ?_
          refine va_getN (D := (dC, dI)) (ci := 0) (v := .int (zb_Dr (zl_B S_7 i10))) (C := RzB) (T := TzB) (N := 9) hx hb hz inzB hown hK hP (i10 + 5) (zl_box hlt_10) rfl 1 (by decide) (va_Nw.use rfl (hN _ zn_4)) (fun _ h9 => h9) rfl dz_L_type_56 ?_
          refine lv_if_eq (tgt := 69) hx hb dz_L_type_59 (by decide) (fun c_14 => ?_) (fun c_14 => ?_)
          · refine lv_aload_n hx hb dz_L_type_69 rfl (lv_at hl 2 rfl) ?_
            refine lv_iconst (v := 0) hx hb dz_L_type_70 (by decide) ?_
            refine va_put (D := (dC, dI)) (ci := 2) (v := .int 0) (ty := .int) (C := RzL) (T := TzL) (N := 9) hx hb hz inzL tyzL tyzL_ok nmzL hown hK hP hD hS 0 rfl rfl 7 (by decide) (hz _ zi_64) (fun _ h9 => h9) rfl (by decide +kernel) rfl rfl (Nat.le_of_ble_eq_true rfl) dz_L_type_71 (fun H locs hP hD hS => ?_)
            obtain ⟨S_15, eS_15⟩ : ∃ z, z = zl_sR S_7 0 := ⟨_, rfl⟩
            have hP : va_P (dC, dI) vwCl (zl_W cq ci h0 a S_15) H := by rw [eS_15]; exact hP
            have hD : va_D A (zl_W cq ci h0 a S_15) := by rw [eS_15]; exact hD
            have hok : zl_ok S_15 := by rw [eS_15]; exact hok
            have hlt_10 : i10 < zl_n S_15 := by rw [eS_15]; exact hlt_10
            refine lv_aload hx hb dz_L_type_74 (lv_at hl 0 rfl) ?_
            have hFc := zw_free hS hA (show va_D A (zb_W (zl_ab a i10) (zl_B S_15 i10)) from zw_D1 hD (zl_box hlt_10))
            refine va_callv (va_runVN (As := []) (rest := []) ⟨hx, hb, hml, hown, hz⟩ (ct_B_clear l dC dI cq ci (zl_ab a i10) (zl_B S_15 i10) H.size) ⟨va_cnB 0 hz (zw_g1 zi_195) rfl rfl rfl (hN _ zn_21) (hz _ zi_36) (by decide +kernel) ⟨Nat.le_of_ble_eq_true rfl, Nat.le_of_ble_eq_true rfl⟩, hz _ zi_194, hz _ zi_22⟩ (zw_preUV zw_ns_ok (show va_P (dC, dI) vwCl (zb_W (zl_ab a i10) (zl_B S_15 i10)) H from zw_P1 hP (zl_box hlt_10)) (show va_D A (zb_W (zl_ab a i10) (zl_B S_15 i10)) from zw_D1 hD (zl_box hlt_10)) hK hN (ci := 0) rfl (k := 0) rfl) rfl rfl hl.1 rfl (lv_room (Nat.le_of_ble_eq_true rfl)) dz_L_type_76 ⟨Nat.le_of_ble_eq_true rfl, Nat.le_of_ble_eq_true rfl⟩) hS (fun q _ h => hFc q h) hFc (fun u_16 t_16 H locs ht hvm hw hB hz1 hk1 hS => ?_)
            have hB : va_P (dC, dI) vwCl (zb_W (zl_ab a i10) (zb_clear (zl_B S_15 i10))) t_16.heap := hB
            rw [ht] at hB
            obtain ⟨hP, hD⟩ := zl_joinB hlt_10 hP hD hk1 hB
            obtain ⟨S_17, eS_17⟩ : ∃ z, z = zl_sB S_15 i10 (zb_clear (zl_B S_15 i10)) := ⟨_, rfl⟩
            rw [← eS_17] at hP hD
            have hok : zl_ok S_17 := by rw [eS_17]; exact hok
            have hlt_10 : i10 < zl_n S_17 := by rw [eS_17]; exact hlt_10
            refine lv_aload hx hb dz_L_type_79 (lv_at hl 0 rfl) ?_
            refine lv_iconst (v := 1) hx hb dz_L_type_81 (by decide) ?_
            refine lv_lload_n hx hb dz_L_type_82 rfl (lv_at hl 4 rfl) ?_
            have hFc := zw_free hS hA (show va_D A (zb_W (zl_ab a i10) (zl_B S_17 i10)) from zw_D1 hD (zl_box hlt_10))
            refine va_callv (va_runVN (As := [.int 1, .long p2]) (rest := []) ⟨hx, hb, hml, hown, hz⟩ (ct_B_beginOpening l dC dI cq ci (zl_ab a i10) (zl_B S_17 i10) H.size 1 p2) ⟨va_cnB 2 hz (zw_g1 zi_197) rfl rfl rfl (hN _ zn_22) (hz _ zi_36) (by decide +kernel) ⟨Nat.le_of_ble_eq_true rfl, Nat.le_of_ble_eq_true rfl⟩, hz _ zi_196, hz _ zi_23⟩ (zw_preUV zw_ns_ok (show va_P (dC, dI) vwCl (zb_W (zl_ab a i10) (zl_B S_17 i10)) H from zw_P1 hP (zl_box hlt_10)) (show va_D A (zb_W (zl_ab a i10) (zl_B S_17 i10)) from zw_D1 hD (zl_box hlt_10)) hK hN (ci := 0) rfl (k := 0) rfl) rfl rfl hl.1 rfl (lv_room (Nat.le_of_ble_eq_true rfl)) dz_L_type_83 ⟨Nat.le_of_ble_eq_true rfl, Nat.le_of_ble_eq_true rfl⟩) hS (fun q _ h => hFc q h) hFc (fun u_18 t_18 H locs ht hvm hw hB hz1 hk1 hS => ?_)
            have hB : va_P (dC, dI) vwCl (zb_W (zl_ab a i10) (zb_begin (zl_B S_17 i10) 1 p2)) t_18.heap := hB
            rw [ht] at hB
            obtain ⟨hP, hD⟩ := zl_joinB hlt_10 hP hD hk1 hB
            obtain ⟨S_19, eS_19⟩ : ∃ z, z = zl_sB S_17 i10 (zb_begin (zl_B S_17 i10) 1 p2) := ⟨_, rfl⟩
            rw [← eS_19] at hP hD
            have hok : zl_ok S_19 := by rw [eS_19]; exact hok
            have hlt_10 : i10 < zl_n S_19 := by rw [eS_19]; exact hlt_10
            refine lv_iload hx hb dz_L_type_86 (lv_at hl 1 rfl) ?_
            subst eS_7 eS_15 eS_17 eS_19
            have hE_20 : zl_type S p1 p2 = (zl_boxNumberOfCode (zl_passTo S p2) p1, zl_sB (zl_sB (zl_sR (zl_passTo S p2) 0) i10 (zb_clear (zl_B (zl_sR (zl_passTo S p2) 0) i10))) i10 (zb_begin (zl_B (zl_sB (zl_sR (zl_passTo S p2) 0) i10 (zb_clear (zl_B (zl_sR (zl_passTo S p2) 0) i10))) i10) 1 p2)) := by simp only [zl_type, if_neg c_2, if_neg c_5, if_pos c_8, hi_10, if_pos c_14]
            exact W.iret (v := zl_boxNumberOfCode (zl_passTo S p2) p1) hx hb hr (fun t ht hW => ⟨⟨_, (), rfl, by show zl_boxNumberOfCode (zl_passTo S p2) p1 = (zl_type S p1 p2).1; rw [hE_20], by show va_P (dC, dI) vwCl (zl_W cq ci h0 a ((zl_type S p1 p2).2)) t.heap; rw [ht, hE_20]; exact hP, by show va_D A (zl_W cq ci h0 a ((zl_type S p1 p2).2)); rw [hE_20]; exact hD⟩, hS.F ht⟩) hS.2.2 dz_L_type_88
          · refine lv_aload_n hx hb dz_L_type_62 rfl (lv_at hl 2 rfl) ?_
            refine lv_lload_n hx hb dz_L_type_63 rfl (lv_at hl 4 rfl) ?_
            have hFc := zw_free hS hA hD
            refine va_callv (va_runV (As := [.long p2]) (rest := []) ⟨hx, hb, hml, hown, hz⟩ (ct_L_countWrongTry l dC dI cq ci h0 a S_7 hok H.size p2) (cwV 1 hz (zw_gV zi_190 zi_191 zi_21 zi_33 zi_192) rfl rfl rfl (by decide +kernel) ⟨Nat.le_of_ble_eq_true rfl, Nat.le_of_ble_eq_true rfl⟩) (zw_preUV zw_ns_ok hP hD hK hN (ci := 2) rfl (k := 0) rfl) rfl rfl hl.1 rfl (lv_room (Nat.le_of_ble_eq_true rfl)) dz_L_type_64 ⟨Nat.le_of_ble_eq_true rfl, Nat.le_of_ble_eq_true rfl⟩) hS (fun q _ h => hFc q h) hFc (fun u_21 t_21 H locs ht hvm hw hB hz1 hk1 hS => ?_)
            obtain ⟨hP, hD⟩ := hB
            rw [ht] at hP
            have hD := hD.weaken (fun _ q _ h => hFc q.1 h)
            obtain ⟨S_22, eS_22⟩ : ∃ z, z = (zl_wrong S_7 p2) := ⟨_, rfl⟩
            rw [← eS_22] at hP hD
            have hok : zl_ok S_22 := by rw [eS_22]; exact zl_ok_wrong hok
            have hlt_10 : i10 < zl_n S_22 := by rw [eS_22, zl_n_wrong]; exact hlt_10
            refine lv_iconst (v := 0) hx hb dz_L_type_67 (by decide) ?_
            subst eS_7 eS_22
            have hE_23 : zl_type S p1 p2 = (0, zl_wrong (zl_passTo S p2) p2) := by simp only [zl_type, if_neg c_2, if_neg c_5, if_pos c_8, hi_10, if_neg c_14]
            exact W.iret (v := 0) hx hb hr (fun t ht hW => ⟨⟨_, (), rfl, by show 0 = (zl_type S p1 p2).1; rw [hE_23], by show va_P (dC, dI) vwCl (zl_W cq ci h0 a ((zl_type S p1 p2).2)) t.heap; rw [ht, hE_23]; exact hP, by show va_D A (zl_W cq ci h0 a ((zl_type S p1 p2).2)); rw [hE_23]; exact hD⟩, hS.F ht⟩) hS.2.2 dz_L_type_68
      · refine lv_iconst (v := -1) hx hb dz_L_type_32 (by decide) ?_
        subst eS_7
        have hE_24 : zl_type S p1 p2 = ((-1), zl_passTo S p2) := by simp only [zl_type, if_neg c_2, if_neg c_5, if_neg c_8]
        exact W.iret (v := (-1)) hx hb hr (fun t ht hW => ⟨⟨_, (), rfl, by show (-1) = (zl_type S p1 p2).1; rw [hE_24], by show va_P (dC, dI) vwCl (zl_W cq ci h0 a ((zl_type S p1 p2).2)) t.heap; rw [ht, hE_24]; exact hP, by show va_D A (zl_W cq ci h0 a ((zl_type S p1 p2).2)); rw [hE_24]; exact hD⟩, hS.F ht⟩) hS.2.2 dz_L_type_33
    · refine lv_bipush (v := -12) hx hb dz_L_type_15 (by decide) ?_
      have hE_25 : zl_type S p1 p2 = ((-12), S) := by simp only [zl_type, if_neg c_2, if_pos c_5]
      exact W.iret (v := (-12)) hx hb hr (fun t ht hW => ⟨⟨_, (), rfl, by show (-12) = (zl_type S p1 p2).1; rw [hE_25], by show va_P (dC, dI) vwCl (zl_W cq ci h0 a ((zl_type S p1 p2).2)) t.heap; rw [ht, hE_25]; exact hP, by show va_D A (zl_W cq ci h0 a ((zl_type S p1 p2).2)); rw [hE_25]; exact hD⟩, hS.F ht⟩) hS.2.2 dz_L_type_17
set_option maxHeartbeats 4000000 in
set_option maxRecDepth 100000 in
theorem ct_L_code (l : Launch) (dC : Nat → ClassId) (dI : Nat → Nat → Nat) (cq ci : ClassId) (h0 : Nat) (a : zl_Ad) (S : zl_S) (hok : zl_ok S) (p1 : Int32) : Met l yz_L_code wz_L_code (zw_room 2 0 0) (zw_R zw_ns (dC, dI) vwCl (zl_tys cq ci) [.ref h0, .int p1] (zl_W cq ci h0 a S)) (vp_Si (fun r => r = zl_code S p1)) 0 0 (fun _ => False) := by
  refine Met.ofW (cc := cz_L_code) (maxL := 3) (ret := (some .int)) (by decide) rfl ?_
  intro p e s m args below meth c s₁ B hml hv
  obtain ⟨rfl, hP, hK, hN⟩ := hv
  have hx := B.exec
  have hb := B.bytes
  have hr := B.returns
  have hts := atoms_spec (ws := wz_L_code) B.pre
  have hz : ∀ w ∈ zw_T, w.before ([.ref h0, .int p1] : List Value).toArray s = true := fun w h => hts w (List.mem_cons_of_mem _ h)
  have hown : s.vm.findClass RzL = some m.cls := findClass_of_methodNamed B.named
  have hlocks := B.notSynchronized
  have hl := lv_entry ([.ref h0, .int p1]) (n := 3) (Nat.le_of_ble_eq_true rfl)
  rw [lg_entry_eq]
  generalize (lg_sl ([.ref h0, .int p1]) ++ List.replicate (3 - (lg_sl ([.ref h0, .int p1])).length) Slot.unset).toArray = ls at hl ⊢
  have hl : lv_has ls 3 [(0, .ref h0), (1, .int p1)] := hl
  refine lv_iload_n hx hb dz_L_code_0 rfl (lv_at hl 1 rfl) ?_
  refine vp_callSi (va_Run.run (va_runS (As := [.int p1]) (rest := []) ⟨hx, hb, hml, hown, hz⟩ (ct_L_isItem l dC dI cq ci p1) (cwS 1 hz (zw_gS zi_136 zi_137 zi_33 zi_138) rfl rfl rfl (by decide +kernel) ⟨Nat.le_of_ble_eq_true rfl, Nat.le_of_ble_eq_true rfl⟩) (zw_preR zw_ns_ok (ws := []) (fun k q h => by simp at h) hK hN) rfl rfl hl.1 rfl (lv_room (Nat.le_of_ble_eq_true rfl)) dz_L_code_1 ⟨Nat.le_of_ble_eq_true rfl, Nat.le_of_ble_eq_true rfl⟩)) (fun r_1 hr_1 => ?_)
  have hr_1 : r_1 = zl_isItem p1 := hr_1
  subst hr_1
  refine lv_if_ne (tgt := 10) hx hb dz_L_code_4 (by decide) (fun c_2 => ?_) (fun c_2 => ?_)
  · refine lv_aload_n hx hb dz_L_code_10 rfl (lv_at hl 0 rfl) ?_
    refine lv_iload_n hx hb dz_L_code_11 rfl (lv_at hl 1 rfl) ?_
    refine va_csq (va_Run.run (va_runV (As := [.int p1]) (rest := []) ⟨hx, hb, hml, hown, hz⟩ (ct_L_boxOfItem l dC dI cq ci h0 a S hok p1) (cwV 1 hz (zw_gV zi_160 zi_161 zi_13 zi_33 zi_162) rfl rfl rfl (by decide +kernel) ⟨Nat.le_of_ble_eq_true rfl, Nat.le_of_ble_eq_true rfl⟩) (zw_preRV zw_ns_ok hP hK hN (ci := 2) rfl (k := 0) rfl) rfl rfl hl.1 rfl (lv_room (Nat.le_of_ble_eq_true rfl)) dz_L_code_12 ⟨Nat.le_of_ble_eq_true rfl, Nat.le_of_ble_eq_true rfl⟩)) (fun r_3 hr_3 => ?_)
    have hr_3 : r_3 = Option.map (zl_ab a) (zl_boxOfItem S p1) := hr_3
    obtain ⟨o_3, ho_3⟩ : ∃ o, o = zl_boxOfItem S p1 := ⟨_, rfl⟩
    rw [← ho_3] at hr_3
    rcases o_3 with _ | i3
    · have hi_3 : zl_boxOfItem S p1 = none := ho_3.symm
      subst hr_3
      refine W.eq (g2 := F0 m 15 ls [.null]) rfl ?_
      refine lv_astore_nN (lv' := [(2, .null), (0, .ref h0), (1, .int p1)]) hx hb dz_L_code_15 rfl hl (by decide) rfl (fun ls hl => ?_)
      refine lv_aload_nN hx hb dz_L_code_16 rfl (lv_at hl 0 rfl) ?_
      refine lv_ifnonnullN hx hb dz_L_code_17 ?_
      refine lv_iconst (v := -1) hx hb dz_L_code_20 (by decide) ?_
      refine lv_goto (tgt := 28) hx hb dz_L_code_21 (by decide) ?_
      exact W.iret (v := (-1)) hx hb hr (fun t ht hW => ⟨_, rfl, by simp only [zl_code, if_neg c_2, hi_3], ht⟩) (fun _ h => by cases h) dz_L_code_28
    · have hi_3 : zl_boxOfItem S p1 = some i3 := ho_3.symm
      have hlt_3 := zl_boxOfItem_lt hok hi_3
      subst hr_3
      refine W.eq (g2 := F0 m 15 ls [.ref (zl_ab a i3)]) rfl ?_
      refine lv_astore_n (lv' := [(2, .ref (zl_ab a i3)), (0, .ref h0), (1, .int p1)]) hx hb dz_L_code_15 rfl hl (by decide) rfl (fun ls hl => ?_)
      refine lv_aload_n hx hb dz_L_code_16 rfl (lv_at hl 0 rfl) ?_
      refine lv_ifnonnull (tgt := 24) hx hb dz_L_code_17 (by decide) ?_
      refine lv_aload_n hx hb dz_L_code_24 rfl (lv_at hl 0 rfl) ?_
      refine va_getN (D := (dC, dI)) (ci := 0) (v := .int (zb_Co (zl_B S i3))) (C := RzB) (T := TzB) (N := 9) hx hb hz inzB hown hK hP (i3 + 5) (zl_box hlt_3) rfl 5 (by decide) (va_Nw.use rfl (hN _ zn_6)) (fun _ h9 => h9) rfl dz_L_code_25 ?_
      exact W.iret (v := zb_Co (zl_B S i3)) hx hb hr (fun t ht hW => ⟨_, rfl, by simp only [zl_code, if_neg c_2, hi_3], ht⟩) (fun _ h => by cases h) dz_L_code_28
  · refine lv_bipush (v := -12) hx hb dz_L_code_7 (by decide) ?_
    exact W.iret (v := (-12)) hx hb hr (fun t ht hW => ⟨_, rfl, by simp only [zl_code, if_pos c_2], ht⟩) (fun _ h => by cases h) dz_L_code_9
set_option maxHeartbeats 4000000 in
set_option maxRecDepth 100000 in
theorem ct_L_door (l : Launch) (dC : Nat → ClassId) (dI : Nat → Nat → Nat) (cq ci : ClassId) (h0 : Nat) (a : zl_Ad) (S : zl_S) (hok : zl_ok S) (sz : Nat) (p1 : Int32) (p2 : Int32) (p3 : Int64) : Met l yz_L_door wz_L_door (zw_room 3 0 0) (zw_U zw_ns (dC, dI) vwCl (zl_tys cq ci) [.ref h0, .int p1, .int p2, .long p3] (zl_W cq ci h0 a S) sz) (va_Qi (fun (r : Int32) (_ : Unit) => r = (zl_door S p1 p2 p3).1) (fun (_ : Unit) (t : State) => va_P (dC, dI) vwCl (zl_W cq ci h0 a ((zl_door S p1 p2 p3).2)) t.heap ∧ va_D (va_A (zl_W cq ci h0 a S) sz) (zl_W cq ci h0 a ((zl_door S p1 p2 p3).2))) (va_A (zl_W cq ci h0 a S) sz)) 0 0 (va_A (zl_W cq ci h0 a S) sz) := by
  refine Met.ofW (cc := cz_L_door) (maxL := 6) (ret := (some .int)) (by decide) rfl ?_
  intro p e s m args below meth c s₁ B hml hv
  obtain ⟨rfl, hsz, hP, hK, hD0, hN⟩ := hv
  have hx := B.exec
  have hb := B.bytes
  have hr := B.returns
  have hts := atoms_spec (ws := wz_L_door) B.pre
  have hz : ∀ w ∈ zw_T, w.before ([.ref h0, .int p1, .int p2, .long p3] : List Value).toArray s = true := fun w h => hts w (List.mem_cons_of_mem _ h)
  have hown : s.vm.findClass RzL = some m.cls := findClass_of_methodNamed B.named
  have hlocks := B.notSynchronized
  subst hsz
  have hD := hD0.self (sz := s.heap.size)
  generalize hAe : va_A (zl_W cq ci h0 a S) s.heap.size = A at hD ⊢
  have hA : ∀ q : Nat, s.heap.size ≤ q → A q := fun q h => by rw [← hAe]; exact Or.inr h
  have hS : va_S A s.heap s.heap [] := va_S.rf
  have hl := lv_entry ([.ref h0, .int p1, .int p2, .long p3]) (n := 6) (Nat.le_of_ble_eq_true rfl)
  rw [lg_entry_eq]
  generalize (lg_sl ([.ref h0, .int p1, .int p2, .long p3]) ++ List.replicate (6 - (lg_sl ([.ref h0, .int p1, .int p2, .long p3])).length) Slot.unset).toArray = ls at hl ⊢
  have hl : lv_has ls 6 [(0, .ref h0), (1, .int p1), (2, .int p2), (3, .long p3)] := hl
  refine lv_aload_n hx hb dz_L_door_0 rfl (lv_at hl 0 rfl) ?_
  refine lv_iload_n hx hb dz_L_door_1 rfl (lv_at hl 1 rfl) ?_
  refine va_csq (va_Run.run (va_runV (As := [.int p1]) (rest := []) ⟨hx, hb, hml, hown, hz⟩ (ct_L_boxAt l dC dI cq ci h0 a S hok p1) (cwV 1 hz (zw_gV zi_124 zi_125 zi_3 zi_33 zi_126) rfl rfl rfl (by decide +kernel) ⟨Nat.le_of_ble_eq_true rfl, Nat.le_of_ble_eq_true rfl⟩) (zw_preRV zw_ns_ok hP hK hN (ci := 2) rfl (k := 0) rfl) rfl rfl hl.1 rfl (lv_room (Nat.le_of_ble_eq_true rfl)) dz_L_door_2 ⟨Nat.le_of_ble_eq_true rfl, Nat.le_of_ble_eq_true rfl⟩)) (fun r_1 hr_1 => ?_)
  have hr_1 : r_1 = Option.map (zl_ab a) (zl_boxAt S p1) := hr_1
  obtain ⟨o_1, ho_1⟩ : ∃ o, o = zl_boxAt S p1 := ⟨_, rfl⟩
  rw [← ho_1] at hr_1
  rcases o_1 with _ | i1
  · have hi_1 : zl_boxAt S p1 = none := ho_1.symm
    subst hr_1
    refine W.eq (g2 := F0 m 5 ls [.null]) rfl ?_
    refine lv_astoreN (lv' := [(5, .null), (0, .ref h0), (1, .int p1), (2, .int p2), (3, .long p3)]) hx hb dz_L_door_5 hl (by decide) rfl (fun ls hl => ?_)
    refine lv_aloadN hx hb dz_L_door_7 (lv_at hl 0 rfl) ?_
    refine lv_ifnonnullN hx hb dz_L_door_9 ?_
    refine lv_bipush (v := -11) hx hb dz_L_door_12 (by decide) ?_
    have hE_2 : zl_door S p1 p2 p3 = ((-11), S) := by simp only [zl_door, hi_1]
    exact W.iret (v := (-11)) hx hb hr (fun t ht hW => ⟨⟨_, (), rfl, by show (-11) = (zl_door S p1 p2 p3).1; rw [hE_2], by show va_P (dC, dI) vwCl (zl_W cq ci h0 a ((zl_door S p1 p2 p3).2)) t.heap; rw [ht, hE_2]; exact hP, by show va_D A (zl_W cq ci h0 a ((zl_door S p1 p2 p3).2)); rw [hE_2]; exact hD⟩, hS.F ht⟩) hS.2.2 dz_L_door_14
  · have hi_1 : zl_boxAt S p1 = some i1 := ho_1.symm
    have hlt_1 := zl_boxAt_lt hok hi_1
    subst hr_1
    refine W.eq (g2 := F0 m 5 ls [.ref (zl_ab a i1)]) rfl ?_
    refine lv_astore (lv' := [(5, .ref (zl_ab a i1)), (0, .ref h0), (1, .int p1), (2, .int p2), (3, .long p3)]) hx hb dz_L_door_5 hl (by decide) rfl (fun ls hl => ?_)
    refine lv_aload hx hb dz_L_door_7 (lv_at hl 0 rfl) ?_
    refine lv_ifnonnull (tgt := 15) hx hb dz_L_door_9 (by decide) ?_
    refine lv_iload_n hx hb dz_L_door_15 rfl (lv_at hl 3 rfl) ?_
    refine vp_callSi (va_Run.run (va_runSN (As := [.int p2]) (rest := []) ⟨hx, hb, hml, hown, hz⟩ (ct_B_isEvent l dC dI cq ci p2) ⟨va_cnB 1 hz (zw_g1 zi_207) rfl rfl rfl (hN _ zn_23) (hz _ zi_36) (by decide +kernel) ⟨Nat.le_of_ble_eq_true rfl, Nat.le_of_ble_eq_true rfl⟩, hz _ zi_206, trivial⟩ (zw_preR zw_ns_ok (ws := []) (fun k q h => by simp at h) hK hN) rfl rfl hl.1 rfl (lv_room (Nat.le_of_ble_eq_true rfl)) dz_L_door_16 ⟨Nat.le_of_ble_eq_true rfl, Nat.le_of_ble_eq_true rfl⟩)) (fun r_3 hr_3 => ?_)
    have hr_3 : r_3 = zb_isEvent p2 := hr_3
    subst hr_3
    refine lv_if_eq (tgt := 30) hx hb dz_L_door_19 (by decide) (fun c_4 => ?_) (fun c_4 => ?_)
    · refine lv_bipush (v := -12) hx hb dz_L_door_30 (by decide) ?_
      have hE_5 : zl_door S p1 p2 p3 = ((-12), S) := by simp only [zl_door, hi_1, if_pos c_4]
      exact W.iret (v := (-12)) hx hb hr (fun t ht hW => ⟨⟨_, (), rfl, by show (-12) = (zl_door S p1 p2 p3).1; rw [hE_5], by show va_P (dC, dI) vwCl (zl_W cq ci h0 a ((zl_door S p1 p2 p3).2)) t.heap; rw [ht, hE_5]; exact hP, by show va_D A (zl_W cq ci h0 a ((zl_door S p1 p2 p3).2)); rw [hE_5]; exact hD⟩, hS.F ht⟩) hS.2.2 dz_L_door_32
    · refine lv_aload_n hx hb dz_L_door_22 rfl (lv_at hl 1 rfl) ?_
      refine lv_lload_n hx hb dz_L_door_23 rfl (lv_at hl 4 rfl) ?_
      refine vp_callSi (va_Run.run (va_runV (As := [.long p3]) (rest := []) ⟨hx, hb, hml, hown, hz⟩ (ct_L_isTime l dC dI cq ci h0 a S hok p3) (cwV 1 hz (zw_gV zi_139 zi_140 zi_6 zi_33 zi_141) rfl rfl rfl (by decide +kernel) ⟨Nat.le_of_ble_eq_true rfl, Nat.le_of_ble_eq_true rfl⟩) (zw_preRV zw_ns_ok hP hK hN (ci := 2) rfl (k := 0) rfl) rfl rfl hl.1 rfl (lv_room (Nat.le_of_ble_eq_true rfl)) dz_L_door_24 ⟨Nat.le_of_ble_eq_true rfl, Nat.le_of_ble_eq_true rfl⟩)) (fun r_6 hr_6 => ?_)
      have hr_6 : r_6 = zl_isTime S p3 := hr_6
      subst hr_6
      refine lv_if_ne (tgt := 33) hx hb dz_L_door_27 (by decide) (fun c_7 => ?_) (fun c_7 => ?_)
      · refine lv_aload_n hx hb dz_L_door_33 rfl (lv_at hl 1 rfl) ?_
        refine lv_lload_n hx hb dz_L_door_34 rfl (lv_at hl 4 rfl) ?_
        have hFc := zw_free hS hA hD
        refine va_callv (va_runV (As := [.long p3]) (rest := []) ⟨hx, hb, hml, hown, hz⟩ (ct_L_passTo l dC dI cq ci h0 a S hok s.heap.size p3) (cwV 1 hz (zw_gV zi_142 zi_143 zi_7 zi_33 zi_144) rfl rfl rfl (by decide +kernel) ⟨Nat.le_of_ble_eq_true rfl, Nat.le_of_ble_eq_true rfl⟩) (zw_preUV zw_ns_ok hP hD hK hN (ci := 2) rfl (k := 0) rfl) rfl rfl hl.1 rfl (lv_room (Nat.le_of_ble_eq_true rfl)) dz_L_door_35 ⟨Nat.le_of_ble_eq_true rfl, Nat.le_of_ble_eq_true rfl⟩) hS (fun q _ h => hFc q h) hFc (fun u_8 t_8 H locs ht hvm hw hB hz1 hk1 hS => ?_)
        obtain ⟨hP, hD⟩ := hB
        rw [ht] at hP
        have hD := hD.weaken (fun _ q _ h => hFc q.1 h)
        obtain ⟨S_9, eS_9⟩ : ∃ z, z = (zl_passTo S p3) := ⟨_, rfl⟩
        rw [← eS_9] at hP hD
        have hok : zl_ok S_9 := by rw [eS_9]; exact zl_ok_pass hok
        have hlt_1 : i1 < zl_n S_9 := by rw [eS_9, zl_n_pass]; exact hlt_1
        refine lv_aload hx hb dz_L_door_38 (lv_at hl 0 rfl) ?_
        refine lv_iload_n hx hb dz_L_door_40 rfl (lv_at hl 3 rfl) ?_
        refine vp_callSi (va_Run.run (va_runVN (As := [.int p2]) (rest := []) ⟨hx, hb, hml, hown, hz⟩ (ct_B_admits l dC dI cq ci (zl_ab a i1) (zl_B S_9 i1) p2) ⟨va_cnB 1 hz (zw_g1 zi_209) rfl rfl rfl (hN _ zn_24) (hz _ zi_36) (by decide +kernel) ⟨Nat.le_of_ble_eq_true rfl, Nat.le_of_ble_eq_true rfl⟩, hz _ zi_208, hz _ zi_24⟩ (zw_preRV zw_ns_ok (show va_P (dC, dI) vwCl (zb_W (zl_ab a i1) (zl_B S_9 i1)) H from zw_P1 hP (zl_box hlt_1)) hK hN (ci := 0) rfl (k := 0) rfl) rfl rfl hl.1 rfl (lv_room (Nat.le_of_ble_eq_true rfl)) dz_L_door_41 ⟨Nat.le_of_ble_eq_true rfl, Nat.le_of_ble_eq_true rfl⟩)) (fun r_10 hr_10 => ?_)
        have hr_10 : r_10 = zb_admits (zl_B S_9 i1) p2 := hr_10
        subst hr_10
        refine lv_if_ne (tgt := 50) hx hb dz_L_door_44 (by decide) (fun c_11 => ?_) (fun c_11 => ?_)
        · refine lv_aload hx hb dz_L_door_50 (lv_at hl 0 rfl) ?_
          refine lv_iload_n hx hb dz_L_door_52 rfl (lv_at hl 3 rfl) ?_
          refine lv_lload_n hx hb dz_L_door_53 rfl (lv_at hl 4 rfl) ?_
          have hFc := zw_free hS hA (show va_D A (zb_W (zl_ab a i1) (zl_B S_9 i1)) from zw_D1 hD (zl_box hlt_1))
          refine va_callv (va_runVN (As := [.int p2, .long p3]) (rest := []) ⟨hx, hb, hml, hown, hz⟩ (ct_B_undergo l dC dI cq ci (zl_ab a i1) (zl_B S_9 i1) H.size p2 p3) ⟨va_cnB 2 hz (zw_g1 zi_212) rfl rfl rfl (hN _ zn_25) (hz _ zi_36) (by decide +kernel) ⟨Nat.le_of_ble_eq_true rfl, Nat.le_of_ble_eq_true rfl⟩, hz _ zi_211, hz _ zi_25⟩ (zw_preUV zw_ns_ok (show va_P (dC, dI) vwCl (zb_W (zl_ab a i1) (zl_B S_9 i1)) H from zw_P1 hP (zl_box hlt_1)) (show va_D A (zb_W (zl_ab a i1) (zl_B S_9 i1)) from zw_D1 hD (zl_box hlt_1)) hK hN (ci := 0) rfl (k := 0) rfl) rfl rfl hl.1 rfl (lv_room (Nat.le_of_ble_eq_true rfl)) dz_L_door_54 ⟨Nat.le_of_ble_eq_true rfl, Nat.le_of_ble_eq_true rfl⟩) hS (fun q _ h => hFc q h) hFc (fun u_12 t_12 H locs ht hvm hw hB hz1 hk1 hS => ?_)
          have hB : va_P (dC, dI) vwCl (zb_W (zl_ab a i1) (zb_undergo (zl_B S_9 i1) p2 p3)) t_12.heap := hB
          rw [ht] at hB
          obtain ⟨hP, hD⟩ := zl_joinB hlt_1 hP hD hk1 hB
          obtain ⟨S_13, eS_13⟩ : ∃ z, z = zl_sB S_9 i1 (zb_undergo (zl_B S_9 i1) p2 p3) := ⟨_, rfl⟩
          rw [← eS_13] at hP hD
          have hok : zl_ok S_13 := by rw [eS_13]; exact hok
          have hlt_1 : i1 < zl_n S_13 := by rw [eS_13]; exact hlt_1
          refine lv_aload hx hb dz_L_door_57 (lv_at hl 0 rfl) ?_
          refine va_getN (D := (dC, dI)) (ci := 0) (v := .int (zb_Dr (zl_B S_13 i1))) (C := RzB) (T := TzB) (N := 9) hx hb hz inzB hown hK hP (i1 + 5) (zl_box hlt_1) rfl 1 (by decide) (va_Nw.use rfl (hN _ zn_4)) (fun _ h9 => h9) rfl dz_L_door_59 ?_
          subst eS_9 eS_13
          have hE_14 : zl_door S p1 p2 p3 = (zb_Dr (zl_B (zl_sB (zl_passTo S p3) i1 (zb_undergo (zl_B (zl_passTo S p3) i1) p2 p3)) i1), zl_sB (zl_passTo S p3) i1 (zb_undergo (zl_B (zl_passTo S p3) i1) p2 p3)) := by simp only [zl_door, hi_1, if_neg c_4, if_neg c_7, if_neg c_11]
          exact W.iret (v := zb_Dr (zl_B (zl_sB (zl_passTo S p3) i1 (zb_undergo (zl_B (zl_passTo S p3) i1) p2 p3)) i1)) hx hb hr (fun t ht hW => ⟨⟨_, (), rfl, by show zb_Dr (zl_B (zl_sB (zl_passTo S p3) i1 (zb_undergo (zl_B (zl_passTo S p3) i1) p2 p3)) i1) = (zl_door S p1 p2 p3).1; rw [hE_14], by show va_P (dC, dI) vwCl (zl_W cq ci h0 a ((zl_door S p1 p2 p3).2)) t.heap; rw [ht, hE_14]; exact hP, by show va_D A (zl_W cq ci h0 a ((zl_door S p1 p2 p3).2)); rw [hE_14]; exact hD⟩, hS.F ht⟩) hS.2.2 dz_L_door_62
        · refine lv_bipush (v := -13) hx hb dz_L_door_47 (by decide) ?_
          subst eS_9
          have hE_15 : zl_door S p1 p2 p3 = ((-13), zl_passTo S p3) := by simp only [zl_door, hi_1, if_neg c_4, if_neg c_7, if_pos c_11]
          exact W.iret (v := (-13)) hx hb hr (fun t ht hW => ⟨⟨_, (), rfl, by show (-13) = (zl_door S p1 p2 p3).1; rw [hE_15], by show va_P (dC, dI) vwCl (zl_W cq ci h0 a ((zl_door S p1 p2 p3).2)) t.heap; rw [ht, hE_15]; exact hP, by show va_D A (zl_W cq ci h0 a ((zl_door S p1 p2 p3).2)); rw [hE_15]; exact hD⟩, hS.F ht⟩) hS.2.2 dz_L_door_49
      · refine lv_bipush (v := -12) hx hb dz_L_door_30 (by decide) ?_
        have hE_16 : zl_door S p1 p2 p3 = ((-12), S) := by simp only [zl_door, hi_1, if_neg c_4, if_pos c_7]
        exact W.iret (v := (-12)) hx hb hr (fun t ht hW => ⟨⟨_, (), rfl, by show (-12) = (zl_door S p1 p2 p3).1; rw [hE_16], by show va_P (dC, dI) vwCl (zl_W cq ci h0 a ((zl_door S p1 p2 p3).2)) t.heap; rw [ht, hE_16]; exact hP, by show va_D A (zl_W cq ci h0 a ((zl_door S p1 p2 p3).2)); rw [hE_16]; exact hD⟩, hS.F ht⟩) hS.2.2 dz_L_door_32
set_option maxHeartbeats 4000000 in
set_option maxRecDepth 100000 in
theorem ct_L_tick (l : Launch) (dC : Nat → ClassId) (dI : Nat → Nat → Nat) (cq ci : ClassId) (h0 : Nat) (a : zl_Ad) (S : zl_S) (hok : zl_ok S) (sz : Nat) (p1 : Int64) : Met l yz_L_tick wz_L_tick (zw_room 3 0 0) (zw_U zw_ns (dC, dI) vwCl (zl_tys cq ci) [.ref h0, .long p1] (zl_W cq ci h0 a S) sz) (va_Qi (fun (r : Int32) (_ : Unit) => r = (zl_tick S p1).1) (fun (_ : Unit) (t : State) => va_P (dC, dI) vwCl (zl_W cq ci h0 a ((zl_tick S p1).2)) t.heap ∧ va_D (va_A (zl_W cq ci h0 a S) sz) (zl_W cq ci h0 a ((zl_tick S p1).2))) (va_A (zl_W cq ci h0 a S) sz)) 0 0 (va_A (zl_W cq ci h0 a S) sz) := by
  refine Met.ofW (cc := cz_L_tick) (maxL := 4) (ret := (some .int)) (by decide) rfl ?_
  intro p e s m args below meth c s₁ B hml hv
  obtain ⟨rfl, hsz, hP, hK, hD0, hN⟩ := hv
  have hx := B.exec
  have hb := B.bytes
  have hr := B.returns
  have hts := atoms_spec (ws := wz_L_tick) B.pre
  have hz : ∀ w ∈ zw_T, w.before ([.ref h0, .long p1] : List Value).toArray s = true := fun w h => hts w (List.mem_cons_of_mem _ h)
  have hown : s.vm.findClass RzL = some m.cls := findClass_of_methodNamed B.named
  have hlocks := B.notSynchronized
  subst hsz
  have hD := hD0.self (sz := s.heap.size)
  generalize hAe : va_A (zl_W cq ci h0 a S) s.heap.size = A at hD ⊢
  have hA : ∀ q : Nat, s.heap.size ≤ q → A q := fun q h => by rw [← hAe]; exact Or.inr h
  have hS : va_S A s.heap s.heap [] := va_S.rf
  have hl := lv_entry ([.ref h0, .long p1]) (n := 4) (Nat.le_of_ble_eq_true rfl)
  rw [lg_entry_eq]
  generalize (lg_sl ([.ref h0, .long p1]) ++ List.replicate (4 - (lg_sl ([.ref h0, .long p1])).length) Slot.unset).toArray = ls at hl ⊢
  have hl : lv_has ls 4 [(0, .ref h0), (1, .long p1)] := hl
  refine lv_aload_n hx hb dz_L_tick_0 rfl (lv_at hl 0 rfl) ?_
  refine lv_lload_n hx hb dz_L_tick_1 rfl (lv_at hl 1 rfl) ?_
  refine vp_callSi (va_Run.run (va_runV (As := [.long p1]) (rest := []) ⟨hx, hb, hml, hown, hz⟩ (ct_L_isTime l dC dI cq ci h0 a S hok p1) (cwV 1 hz (zw_gV zi_139 zi_140 zi_6 zi_33 zi_141) rfl rfl rfl (by decide +kernel) ⟨Nat.le_of_ble_eq_true rfl, Nat.le_of_ble_eq_true rfl⟩) (zw_preRV zw_ns_ok hP hK hN (ci := 2) rfl (k := 0) rfl) rfl rfl hl.1 rfl (lv_room (Nat.le_of_ble_eq_true rfl)) dz_L_tick_2 ⟨Nat.le_of_ble_eq_true rfl, Nat.le_of_ble_eq_true rfl⟩)) (fun r_1 hr_1 => ?_)
  have hr_1 : r_1 = zl_isTime S p1 := hr_1
  subst hr_1
  refine lv_if_ne (tgt := 11) hx hb dz_L_tick_5 (by decide) (fun c_2 => ?_) (fun c_2 => ?_)
  · refine lv_aload_n hx hb dz_L_tick_11 rfl (lv_at hl 0 rfl) ?_
    refine lv_lload_n hx hb dz_L_tick_12 rfl (lv_at hl 1 rfl) ?_
    have hFc := zw_free hS hA hD
    refine va_callv (va_runV (As := [.long p1]) (rest := []) ⟨hx, hb, hml, hown, hz⟩ (ct_L_passTo l dC dI cq ci h0 a S hok s.heap.size p1) (cwV 1 hz (zw_gV zi_142 zi_143 zi_7 zi_33 zi_144) rfl rfl rfl (by decide +kernel) ⟨Nat.le_of_ble_eq_true rfl, Nat.le_of_ble_eq_true rfl⟩) (zw_preUV zw_ns_ok hP hD hK hN (ci := 2) rfl (k := 0) rfl) rfl rfl hl.1 rfl (lv_room (Nat.le_of_ble_eq_true rfl)) dz_L_tick_13 ⟨Nat.le_of_ble_eq_true rfl, Nat.le_of_ble_eq_true rfl⟩) hS (fun q _ h => hFc q h) hFc (fun u_3 t_3 H locs ht hvm hw hB hz1 hk1 hS => ?_)
    obtain ⟨hP, hD⟩ := hB
    rw [ht] at hP
    have hD := hD.weaken (fun _ q _ h => hFc q.1 h)
    obtain ⟨S_4, eS_4⟩ : ∃ z, z = (zl_passTo S p1) := ⟨_, rfl⟩
    rw [← eS_4] at hP hD
    have hok : zl_ok S_4 := by rw [eS_4]; exact zl_ok_pass hok
    refine lv_aload_n hx hb dz_L_tick_16 rfl (lv_at hl 0 rfl) ?_
    refine va_get (D := (dC, dI)) (ci := 2) (v := .int (zl_A S_4)) (C := RzL) (T := TzL) (N := 9) hx hb hz inzL hown hK hP 0 rfl rfl 6 (by decide) (hz _ zi_63) (fun _ h9 => h9) rfl dz_L_tick_17 ?_
    refine lv_istore_n (lv' := [(3, .int (zl_A S_4)), (0, .ref h0), (1, .long p1)]) hx hb dz_L_tick_20 rfl hl (by decide) rfl (fun ls hl => ?_)
    refine lv_aload_n hx hb dz_L_tick_21 rfl (lv_at hl 1 rfl) ?_
    refine lv_iconst (v := 0) hx hb dz_L_tick_22 (by decide) ?_
    refine va_put (D := (dC, dI)) (ci := 2) (v := .int 0) (ty := .int) (C := RzL) (T := TzL) (N := 9) hx hb hz inzL tyzL tyzL_ok nmzL hown hK hP hD hS 0 rfl rfl 6 (by decide) (hz _ zi_63) (fun _ h9 => h9) rfl (by decide +kernel) rfl rfl (Nat.le_of_ble_eq_true rfl) dz_L_tick_23 (fun H locs hP hD hS => ?_)
    obtain ⟨S_5, eS_5⟩ : ∃ z, z = zl_sA S_4 0 := ⟨_, rfl⟩
    have hP : va_P (dC, dI) vwCl (zl_W cq ci h0 a S_5) H := by rw [eS_5]; exact hP
    have hD : va_D A (zl_W cq ci h0 a S_5) := by rw [eS_5]; exact hD
    have hok : zl_ok S_5 := by rw [eS_5]; exact hok
    refine lv_iload_n hx hb dz_L_tick_26 rfl (lv_at hl 0 rfl) ?_
    subst eS_4 eS_5
    have hE_6 : zl_tick S p1 = (zl_A (zl_passTo S p1), zl_sA (zl_passTo S p1) 0) := by simp only [zl_tick, if_neg c_2]
    exact W.iret (v := zl_A (zl_passTo S p1)) hx hb hr (fun t ht hW => ⟨⟨_, (), rfl, by show zl_A (zl_passTo S p1) = (zl_tick S p1).1; rw [hE_6], by show va_P (dC, dI) vwCl (zl_W cq ci h0 a ((zl_tick S p1).2)) t.heap; rw [ht, hE_6]; exact hP, by show va_D A (zl_W cq ci h0 a ((zl_tick S p1).2)); rw [hE_6]; exact hD⟩, hS.F ht⟩) hS.2.2 dz_L_tick_27
  · refine lv_bipush (v := -12) hx hb dz_L_tick_8 (by decide) ?_
    have hE_7 : zl_tick S p1 = ((-12), S) := by simp only [zl_tick, if_pos c_2]
    exact W.iret (v := (-12)) hx hb hr (fun t ht hW => ⟨⟨_, (), rfl, by show (-12) = (zl_tick S p1).1; rw [hE_7], by show va_P (dC, dI) vwCl (zl_W cq ci h0 a ((zl_tick S p1).2)) t.heap; rw [ht, hE_7]; exact hP, by show va_D A (zl_W cq ci h0 a ((zl_tick S p1).2)); rw [hE_7]; exact hD⟩, hS.F ht⟩) hS.2.2 dz_L_tick_10
set_option maxHeartbeats 4000000 in
set_option maxRecDepth 100000 in
theorem ct_L_take (l : Launch) (dC : Nat → ClassId) (dI : Nat → Nat → Nat) (cq ci : ClassId) (h0 : Nat) (a : zl_Ad) (S : zl_S) (hok : zl_ok S) (sz : Nat) (p1 : Int32) (p2 : Int32) : Met l yz_L_take wz_L_take (zw_room 1 0 0) (zw_U zw_ns (dC, dI) vwCl (zl_tys cq ci) [.ref h0, .int p1, .int p2] (zl_W cq ci h0 a S) sz) (va_Qi (fun (r : Int32) (_ : Unit) => r = (zl_take S p1 p2).1) (fun (_ : Unit) (t : State) => va_P (dC, dI) vwCl (zl_W cq ci h0 a ((zl_take S p1 p2).2)) t.heap ∧ va_D (va_A (zl_W cq ci h0 a S) sz) (zl_W cq ci h0 a ((zl_take S p1 p2).2))) (va_A (zl_W cq ci h0 a S) sz)) 0 0 (va_A (zl_W cq ci h0 a S) sz) := by
  refine Met.ofW (cc := cz_L_take) (maxL := 5) (ret := (some .int)) (by decide) rfl ?_
  intro p e s m args below meth c s₁ B hml hv
  obtain ⟨rfl, hsz, hP, hK, hD0, hN⟩ := hv
  have hx := B.exec
  have hb := B.bytes
  have hr := B.returns
  have hts := atoms_spec (ws := wz_L_take) B.pre
  have hz : ∀ w ∈ zw_T, w.before ([.ref h0, .int p1, .int p2] : List Value).toArray s = true := fun w h => hts w (List.mem_cons_of_mem _ h)
  have hown : s.vm.findClass RzL = some m.cls := findClass_of_methodNamed B.named
  have hlocks := B.notSynchronized
  subst hsz
  have hD := hD0.self (sz := s.heap.size)
  generalize hAe : va_A (zl_W cq ci h0 a S) s.heap.size = A at hD ⊢
  have hA : ∀ q : Nat, s.heap.size ≤ q → A q := fun q h => by rw [← hAe]; exact Or.inr h
  have hS : va_S A s.heap s.heap [] := va_S.rf
  have hl := lv_entry ([.ref h0, .int p1, .int p2]) (n := 5) (Nat.le_of_ble_eq_true rfl)
  rw [lg_entry_eq]
  generalize (lg_sl ([.ref h0, .int p1, .int p2]) ++ List.replicate (5 - (lg_sl ([.ref h0, .int p1, .int p2])).length) Slot.unset).toArray = ls at hl ⊢
  have hl : lv_has ls 5 [(0, .ref h0), (1, .int p1), (2, .int p2)] := hl
  refine lv_aload_n hx hb dz_L_take_0 rfl (lv_at hl 0 rfl) ?_
  refine lv_iload_n hx hb dz_L_take_1 rfl (lv_at hl 1 rfl) ?_
  refine va_csq (va_Run.run (va_runV (As := [.int p1]) (rest := []) ⟨hx, hb, hml, hown, hz⟩ (ct_L_boxAt l dC dI cq ci h0 a S hok p1) (cwV 1 hz (zw_gV zi_124 zi_125 zi_3 zi_33 zi_126) rfl rfl rfl (by decide +kernel) ⟨Nat.le_of_ble_eq_true rfl, Nat.le_of_ble_eq_true rfl⟩) (zw_preRV zw_ns_ok hP hK hN (ci := 2) rfl (k := 0) rfl) rfl rfl hl.1 rfl (lv_room (Nat.le_of_ble_eq_true rfl)) dz_L_take_2 ⟨Nat.le_of_ble_eq_true rfl, Nat.le_of_ble_eq_true rfl⟩)) (fun r_1 hr_1 => ?_)
  have hr_1 : r_1 = Option.map (zl_ab a) (zl_boxAt S p1) := hr_1
  obtain ⟨o_1, ho_1⟩ : ∃ o, o = zl_boxAt S p1 := ⟨_, rfl⟩
  rw [← ho_1] at hr_1
  rcases o_1 with _ | i1
  · have hi_1 : zl_boxAt S p1 = none := ho_1.symm
    subst hr_1
    refine W.eq (g2 := F0 m 5 ls [.null]) rfl ?_
    refine lv_astore_nN (lv' := [(3, .null), (0, .ref h0), (1, .int p1), (2, .int p2)]) hx hb dz_L_take_5 rfl hl (by decide) rfl (fun ls hl => ?_)
    refine lv_aload_nN hx hb dz_L_take_6 rfl (lv_at hl 0 rfl) ?_
    refine lv_ifnonnullN hx hb dz_L_take_7 ?_
    refine lv_bipush (v := -11) hx hb dz_L_take_10 (by decide) ?_
    have hE_2 : zl_take S p1 p2 = ((-11), S) := by simp only [zl_take, hi_1]
    exact W.iret (v := (-11)) hx hb hr (fun t ht hW => ⟨⟨_, (), rfl, by show (-11) = (zl_take S p1 p2).1; rw [hE_2], by show va_P (dC, dI) vwCl (zl_W cq ci h0 a ((zl_take S p1 p2).2)) t.heap; rw [ht, hE_2]; exact hP, by show va_D A (zl_W cq ci h0 a ((zl_take S p1 p2).2)); rw [hE_2]; exact hD⟩, hS.F ht⟩) hS.2.2 dz_L_take_12
  · have hi_1 : zl_boxAt S p1 = some i1 := ho_1.symm
    have hlt_1 := zl_boxAt_lt hok hi_1
    subst hr_1
    refine W.eq (g2 := F0 m 5 ls [.ref (zl_ab a i1)]) rfl ?_
    refine lv_astore_n (lv' := [(3, .ref (zl_ab a i1)), (0, .ref h0), (1, .int p1), (2, .int p2)]) hx hb dz_L_take_5 rfl hl (by decide) rfl (fun ls hl => ?_)
    refine lv_aload_n hx hb dz_L_take_6 rfl (lv_at hl 0 rfl) ?_
    refine lv_ifnonnull (tgt := 13) hx hb dz_L_take_7 (by decide) ?_
    refine lv_iload_n hx hb dz_L_take_13 rfl (lv_at hl 3 rfl) ?_
    refine lv_if_lt (tgt := 23) hx hb dz_L_take_14 (by decide) (fun c_3 => ?_) (fun c_3 => ?_)
    · refine lv_bipush (v := -12) hx hb dz_L_take_23 (by decide) ?_
      have hE_4 : zl_take S p1 p2 = ((-12), S) := by simp only [zl_take, hi_1, if_pos c_3]
      exact W.iret (v := (-12)) hx hb hr (fun t ht hW => ⟨⟨_, (), rfl, by show (-12) = (zl_take S p1 p2).1; rw [hE_4], by show va_P (dC, dI) vwCl (zl_W cq ci h0 a ((zl_take S p1 p2).2)) t.heap; rw [ht, hE_4]; exact hP, by show va_D A (zl_W cq ci h0 a ((zl_take S p1 p2).2)); rw [hE_4]; exact hD⟩, hS.F ht⟩) hS.2.2 dz_L_take_25
    · refine lv_iload_n hx hb dz_L_take_17 rfl (lv_at hl 3 rfl) ?_
      refine lv_bipush (v := 9) hx hb dz_L_take_18 (by decide) ?_
      refine lv_icmp_le (tgt := 26) hx hb dz_L_take_20 (by decide) (fun c_5 => ?_) (fun c_5 => ?_)
      · refine lv_aload_n hx hb dz_L_take_26 rfl (lv_at hl 0 rfl) ?_
        refine vp_callSi (va_Run.run (va_runVN (As := []) (rest := []) ⟨hx, hb, hml, hown, hz⟩ (ct_B_isOpenOrForced l dC dI cq ci (zl_ab a i1) (zl_B S i1)) ⟨va_cnB 0 hz (zw_g1 zi_154) rfl rfl rfl (hN _ zn_26) (hz _ zi_36) (by decide +kernel) ⟨Nat.le_of_ble_eq_true rfl, Nat.le_of_ble_eq_true rfl⟩, hz _ zi_153, hz _ zi_11⟩ (zw_preRV zw_ns_ok (show va_P (dC, dI) vwCl (zb_W (zl_ab a i1) (zl_B S i1)) s.heap from zw_P1 hP (zl_box hlt_1)) hK hN (ci := 0) rfl (k := 0) rfl) rfl rfl hl.1 rfl (lv_room (Nat.le_of_ble_eq_true rfl)) dz_L_take_27 ⟨Nat.le_of_ble_eq_true rfl, Nat.le_of_ble_eq_true rfl⟩)) (fun r_6 hr_6 => ?_)
        have hr_6 : r_6 = zb_isOpen (zl_B S i1) := hr_6
        subst hr_6
        refine lv_if_ne (tgt := 35) hx hb dz_L_take_30 (by decide) (fun c_7 => ?_) (fun c_7 => ?_)
        · refine lv_aload_n hx hb dz_L_take_35 rfl (lv_at hl 0 rfl) ?_
          refine va_getN (D := (dC, dI)) (ci := 0) (v := .int (zb_It (zl_B S i1))) (C := RzB) (T := TzB) (N := 9) hx hb hz inzB hown hK hP (i1 + 5) (zl_box hlt_1) rfl 4 (by decide) (va_Nw.use rfl (hN _ zn_5)) (fun _ h9 => h9) rfl dz_L_take_36 ?_
          refine lv_istore (lv' := [(4, .int (zb_It (zl_B S i1))), (3, .ref (zl_ab a i1)), (0, .ref h0), (1, .int p1), (2, .int p2)]) hx hb dz_L_take_39 hl (by decide) rfl (fun ls hl => ?_)
          refine lv_aload_n hx hb dz_L_take_41 rfl (lv_at hl 1 rfl) ?_
          have hFc := zw_free hS hA (show va_D A (zb_W (zl_ab a i1) (zl_B S i1)) from zw_D1 hD (zl_box hlt_1))
          refine va_callv (va_runVN (As := []) (rest := []) ⟨hx, hb, hml, hown, hz⟩ (ct_B_clear l dC dI cq ci (zl_ab a i1) (zl_B S i1) s.heap.size) ⟨va_cnB 0 hz (zw_g1 zi_195) rfl rfl rfl (hN _ zn_21) (hz _ zi_36) (by decide +kernel) ⟨Nat.le_of_ble_eq_true rfl, Nat.le_of_ble_eq_true rfl⟩, hz _ zi_194, hz _ zi_22⟩ (zw_preUV zw_ns_ok (show va_P (dC, dI) vwCl (zb_W (zl_ab a i1) (zl_B S i1)) s.heap from zw_P1 hP (zl_box hlt_1)) (show va_D A (zb_W (zl_ab a i1) (zl_B S i1)) from zw_D1 hD (zl_box hlt_1)) hK hN (ci := 0) rfl (k := 0) rfl) rfl rfl hl.1 rfl (lv_room (Nat.le_of_ble_eq_true rfl)) dz_L_take_42 ⟨Nat.le_of_ble_eq_true rfl, Nat.le_of_ble_eq_true rfl⟩) hS (fun q _ h => hFc q h) hFc (fun u_8 t_8 H locs ht hvm hw hB hz1 hk1 hS => ?_)
          have hB : va_P (dC, dI) vwCl (zb_W (zl_ab a i1) (zb_clear (zl_B S i1))) t_8.heap := hB
          rw [ht] at hB
          obtain ⟨hP, hD⟩ := zl_joinB hlt_1 hP hD hk1 hB
          obtain ⟨S_9, eS_9⟩ : ∃ z, z = zl_sB S i1 (zb_clear (zl_B S i1)) := ⟨_, rfl⟩
          rw [← eS_9] at hP hD
          have hok : zl_ok S_9 := by rw [eS_9]; exact hok
          have hlt_1 : i1 < zl_n S_9 := by rw [eS_9]; exact hlt_1
          refine lv_iload hx hb dz_L_take_45 (lv_at hl 0 rfl) ?_
          subst eS_9
          have hE_10 : zl_take S p1 p2 = (zb_It (zl_B S i1), zl_sB S i1 (zb_clear (zl_B S i1))) := by simp only [zl_take, hi_1, if_neg c_3, if_pos c_5, if_neg c_7]
          exact W.iret (v := zb_It (zl_B S i1)) hx hb hr (fun t ht hW => ⟨⟨_, (), rfl, by show zb_It (zl_B S i1) = (zl_take S p1 p2).1; rw [hE_10], by show va_P (dC, dI) vwCl (zl_W cq ci h0 a ((zl_take S p1 p2).2)) t.heap; rw [ht, hE_10]; exact hP, by show va_D A (zl_W cq ci h0 a ((zl_take S p1 p2).2)); rw [hE_10]; exact hD⟩, hS.F ht⟩) hS.2.2 dz_L_take_47
        · refine lv_iconst (v := 0) hx hb dz_L_take_33 (by decide) ?_
          have hE_11 : zl_take S p1 p2 = (0, S) := by simp only [zl_take, hi_1, if_neg c_3, if_pos c_5, if_pos c_7]
          exact W.iret (v := 0) hx hb hr (fun t ht hW => ⟨⟨_, (), rfl, by show 0 = (zl_take S p1 p2).1; rw [hE_11], by show va_P (dC, dI) vwCl (zl_W cq ci h0 a ((zl_take S p1 p2).2)) t.heap; rw [ht, hE_11]; exact hP, by show va_D A (zl_W cq ci h0 a ((zl_take S p1 p2).2)); rw [hE_11]; exact hD⟩, hS.F ht⟩) hS.2.2 dz_L_take_34
      · refine lv_bipush (v := -12) hx hb dz_L_take_23 (by decide) ?_
        have hE_12 : zl_take S p1 p2 = ((-12), S) := by simp only [zl_take, hi_1, if_neg c_3, if_neg c_5]
        exact W.iret (v := (-12)) hx hb hr (fun t ht hW => ⟨⟨_, (), rfl, by show (-12) = (zl_take S p1 p2).1; rw [hE_12], by show va_P (dC, dI) vwCl (zl_W cq ci h0 a ((zl_take S p1 p2).2)) t.heap; rw [ht, hE_12]; exact hP, by show va_D A (zl_W cq ci h0 a ((zl_take S p1 p2).2)); rw [hE_12]; exact hD⟩, hS.F ht⟩) hS.2.2 dz_L_take_25
set_option maxHeartbeats 4000000 in
set_option maxRecDepth 100000 in
theorem ct_L_item (l : Launch) (dC : Nat → ClassId) (dI : Nat → Nat → Nat) (cq ci : ClassId) (h0 : Nat) (a : zl_Ad) (S : zl_S) (hok : zl_ok S) (p1 : Int32) : Met l yz_L_item wz_L_item (zw_room 1 0 0) (zw_R zw_ns (dC, dI) vwCl (zl_tys cq ci) [.ref h0, .int p1] (zl_W cq ci h0 a S)) (vp_Si (fun r => r = zl_item S p1)) 0 0 (fun _ => False) := by
  refine Met.ofW (cc := cz_L_item) (maxL := 3) (ret := (some .int)) (by decide) rfl ?_
  intro p e s m args below meth c s₁ B hml hv
  obtain ⟨rfl, hP, hK, hN⟩ := hv
  have hx := B.exec
  have hb := B.bytes
  have hr := B.returns
  have hts := atoms_spec (ws := wz_L_item) B.pre
  have hz : ∀ w ∈ zw_T, w.before ([.ref h0, .int p1] : List Value).toArray s = true := fun w h => hts w (List.mem_cons_of_mem _ h)
  have hown : s.vm.findClass RzL = some m.cls := findClass_of_methodNamed B.named
  have hlocks := B.notSynchronized
  have hl := lv_entry ([.ref h0, .int p1]) (n := 3) (Nat.le_of_ble_eq_true rfl)
  rw [lg_entry_eq]
  generalize (lg_sl ([.ref h0, .int p1]) ++ List.replicate (3 - (lg_sl ([.ref h0, .int p1])).length) Slot.unset).toArray = ls at hl ⊢
  have hl : lv_has ls 3 [(0, .ref h0), (1, .int p1)] := hl
  refine lv_aload_n hx hb dz_L_item_0 rfl (lv_at hl 0 rfl) ?_
  refine lv_iload_n hx hb dz_L_item_1 rfl (lv_at hl 1 rfl) ?_
  refine va_csq (va_Run.run (va_runV (As := [.int p1]) (rest := []) ⟨hx, hb, hml, hown, hz⟩ (ct_L_boxAt l dC dI cq ci h0 a S hok p1) (cwV 1 hz (zw_gV zi_124 zi_125 zi_3 zi_33 zi_126) rfl rfl rfl (by decide +kernel) ⟨Nat.le_of_ble_eq_true rfl, Nat.le_of_ble_eq_true rfl⟩) (zw_preRV zw_ns_ok hP hK hN (ci := 2) rfl (k := 0) rfl) rfl rfl hl.1 rfl (lv_room (Nat.le_of_ble_eq_true rfl)) dz_L_item_2 ⟨Nat.le_of_ble_eq_true rfl, Nat.le_of_ble_eq_true rfl⟩)) (fun r_1 hr_1 => ?_)
  have hr_1 : r_1 = Option.map (zl_ab a) (zl_boxAt S p1) := hr_1
  obtain ⟨o_1, ho_1⟩ : ∃ o, o = zl_boxAt S p1 := ⟨_, rfl⟩
  rw [← ho_1] at hr_1
  rcases o_1 with _ | i1
  · have hi_1 : zl_boxAt S p1 = none := ho_1.symm
    subst hr_1
    refine W.eq (g2 := F0 m 5 ls [.null]) rfl ?_
    refine lv_astore_nN (lv' := [(2, .null), (0, .ref h0), (1, .int p1)]) hx hb dz_L_item_5 rfl hl (by decide) rfl (fun ls hl => ?_)
    refine lv_aload_nN hx hb dz_L_item_6 rfl (lv_at hl 0 rfl) ?_
    refine lv_ifnonnullN hx hb dz_L_item_7 ?_
    refine lv_bipush (v := -11) hx hb dz_L_item_10 (by decide) ?_
    exact W.iret (v := (-11)) hx hb hr (fun t ht hW => ⟨_, rfl, by simp only [zl_item, hi_1], ht⟩) (fun _ h => by cases h) dz_L_item_12
  · have hi_1 : zl_boxAt S p1 = some i1 := ho_1.symm
    have hlt_1 := zl_boxAt_lt hok hi_1
    subst hr_1
    refine W.eq (g2 := F0 m 5 ls [.ref (zl_ab a i1)]) rfl ?_
    refine lv_astore_n (lv' := [(2, .ref (zl_ab a i1)), (0, .ref h0), (1, .int p1)]) hx hb dz_L_item_5 rfl hl (by decide) rfl (fun ls hl => ?_)
    refine lv_aload_n hx hb dz_L_item_6 rfl (lv_at hl 0 rfl) ?_
    refine lv_ifnonnull (tgt := 13) hx hb dz_L_item_7 (by decide) ?_
    refine lv_aload_n hx hb dz_L_item_13 rfl (lv_at hl 0 rfl) ?_
    refine va_getN (D := (dC, dI)) (ci := 0) (v := .int (zb_La (zl_B S i1))) (C := RzB) (T := TzB) (N := 9) hx hb hz inzB hown hK hP (i1 + 5) (zl_box hlt_1) rfl 7 (by decide) (va_Nw.use rfl (hN _ zn_7)) (fun _ h9 => h9) rfl dz_L_item_14 ?_
    refine lv_if_eq (tgt := 28) hx hb dz_L_item_17 (by decide) (fun c_2 => ?_) (fun c_2 => ?_)
    · refine lv_aload_n hx hb dz_L_item_28 rfl (lv_at hl 0 rfl) ?_
      refine va_getN (D := (dC, dI)) (ci := 0) (v := .int (zb_It (zl_B S i1))) (C := RzB) (T := TzB) (N := 9) hx hb hz inzB hown hK hP (i1 + 5) (zl_box hlt_1) rfl 4 (by decide) (va_Nw.use rfl (hN _ zn_5)) (fun _ h9 => h9) rfl dz_L_item_29 ?_
      exact W.iret (v := zb_It (zl_B S i1)) hx hb hr (fun t ht hW => ⟨_, rfl, by simp only [zl_item, hi_1, if_pos c_2], ht⟩) (fun _ h => by cases h) dz_L_item_32
    · refine lv_aload_n hx hb dz_L_item_20 rfl (lv_at hl 0 rfl) ?_
      refine va_getN (D := (dC, dI)) (ci := 0) (v := .int (zb_It (zl_B S i1))) (C := RzB) (T := TzB) (N := 9) hx hb hz inzB hown hK hP (i1 + 5) (zl_box hlt_1) rfl 4 (by decide) (va_Nw.use rfl (hN _ zn_5)) (fun _ h9 => h9) rfl dz_L_item_21 ?_
      refine lv_ineg hx hb dz_L_item_24 ?_
      refine lv_goto (tgt := 32) hx hb dz_L_item_25 (by decide) ?_
      exact W.iret (v := -(zb_It (zl_B S i1))) hx hb hr (fun t ht hW => ⟨_, rfl, by simp only [zl_item, hi_1, if_neg c_2], ht⟩) (fun _ h => by cases h) dz_L_item_32
set_option maxHeartbeats 4000000 in
set_option maxRecDepth 100000 in
theorem ct_L_freed (l : Launch) (dC : Nat → ClassId) (dI : Nat → Nat → Nat) (cq ci : ClassId) (h0 : Nat) (a : zl_Ad) (S : zl_S) (hok : zl_ok S) (p1 : Int32) : Met l yz_L_freed wz_L_freed (zw_room 0 0 0) (zw_R zw_ns (dC, dI) vwCl (zl_tys cq ci) [.ref h0, .int p1] (zl_W cq ci h0 a S)) (vp_Si (fun r => r = zl_freed S p1)) 0 0 (fun _ => False) := by
  refine Met.ofW (cc := cz_L_freed) (maxL := 2) (ret := (some .int)) (by decide) rfl ?_
  intro p e s m args below meth c s₁ B hml hv
  obtain ⟨rfl, hP, hK, hN⟩ := hv
  have hx := B.exec
  have hb := B.bytes
  have hr := B.returns
  have hts := atoms_spec (ws := wz_L_freed) B.pre
  have hz : ∀ w ∈ zw_T, w.before ([.ref h0, .int p1] : List Value).toArray s = true := fun w h => hts w (List.mem_cons_of_mem _ h)
  have hown : s.vm.findClass RzL = some m.cls := findClass_of_methodNamed B.named
  have hlocks := B.notSynchronized
  have hl := lv_entry ([.ref h0, .int p1]) (n := 2) (Nat.le_of_ble_eq_true rfl)
  rw [lg_entry_eq]
  generalize (lg_sl ([.ref h0, .int p1]) ++ List.replicate (2 - (lg_sl ([.ref h0, .int p1])).length) Slot.unset).toArray = ls at hl ⊢
  have hl : lv_has ls 2 [(0, .ref h0), (1, .int p1)] := hl
  refine lv_iload_n hx hb dz_L_freed_0 rfl (lv_at hl 1 rfl) ?_
  refine lv_if_lt (tgt := 27) hx hb dz_L_freed_1 (by decide) (fun c_1 => ?_) (fun c_1 => ?_)
  · refine lv_iconst (v := 0) hx hb dz_L_freed_27 (by decide) ?_
    exact W.iret (v := 0) hx hb hr (fun t ht hW => ⟨_, rfl, by simp only [zl_freed, if_pos c_1], ht⟩) (fun _ h => by cases h) dz_L_freed_28
  · refine lv_iload_n hx hb dz_L_freed_4 rfl (lv_at hl 1 rfl) ?_
    refine lv_aload_n hx hb dz_L_freed_5 rfl (lv_at hl 0 rfl) ?_
    refine va_get (D := (dC, dI)) (ci := 2) (v := .int (nI (zl_k S))) (C := RzL) (T := TzL) (N := 9) hx hb hz inzL hown hK hP 0 rfl rfl 4 (by decide) (hz _ zi_61) (fun _ h9 => h9) rfl dz_L_freed_6 ?_
    refine lv_icmp_ge (tgt := 27) hx hb dz_L_freed_9 (by decide) (fun c_2 => ?_) (fun c_2 => ?_)
    · refine lv_iconst (v := 0) hx hb dz_L_freed_27 (by decide) ?_
      exact W.iret (v := 0) hx hb hr (fun t ht hW => ⟨_, rfl, by simp only [zl_freed, if_neg c_1, if_pos c_2], ht⟩) (fun _ h => by cases h) dz_L_freed_28
    · refine lv_iload_n hx hb dz_L_freed_12 rfl (lv_at hl 1 rfl) ?_
      refine lv_bipush (v := 100) hx hb dz_L_freed_13 (by decide) ?_
      refine lv_icmp_ge (tgt := 27) hx hb dz_L_freed_15 (by decide) (fun c_3 => ?_) (fun c_3 => ?_)
      · refine lv_iconst (v := 0) hx hb dz_L_freed_27 (by decide) ?_
        exact W.iret (v := 0) hx hb hr (fun t ht hW => ⟨_, rfl, by simp only [zl_freed, if_neg c_1, if_neg c_2, if_pos c_3], ht⟩) (fun _ h => by cases h) dz_L_freed_28
      · refine lv_aload_n hx hb dz_L_freed_18 rfl (lv_at hl 0 rfl) ?_
        refine va_get (D := (dC, dI)) (ci := 2) (v := .ref a.2.2.2.1) (C := RzL) (T := TzL) (N := 9) hx hb hz inzL hown hK hP 0 rfl rfl 3 (by decide) (hz _ zi_60) (fun _ h9 => h9) rfl dz_L_freed_19 ?_
        refine lv_iload_n hx hb dz_L_freed_22 rfl (lv_at hl 1 rfl) ?_
        have hin_4 : vp_in p1 100 := zl_in100 c_1 c_3
        refine va_iald hx hb hK hP 4 1 rfl rfl hin_4 dz_L_freed_23 ?_
        refine lv_goto (tgt := 28) hx hb dz_L_freed_24 (by decide) ?_
        exact W.iret (v := (zl_F S) p1.toNatClampNeg) hx hb hr (fun t ht hW => ⟨_, rfl, by simp only [zl_freed, if_neg c_1, if_neg c_2, if_neg c_3], ht⟩) (fun _ h => by cases h) dz_L_freed_28

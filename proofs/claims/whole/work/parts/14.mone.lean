set_option maxHeartbeats 4000000 in
set_option maxRecDepth 100000 in
theorem ct_M_within (l : Launch) (dC : Nat → ClassId) (dI : Nat → Nat → Nat) (ci cj cz : ClassId) (p1 : Int64) (p2 : Int64) (p3 : Int64) : Met l yz_M_within wz_M_within (zw_room 0 0 0) (zw_R zw_ns (dC, dI) vwCl (zm_tys ci cj cz) [.long p1, .long p2, .long p3] []) (vp_Si (fun r => r = zm_within p1 p2 p3)) 0 0 (fun _ => False) := by
  refine Met.ofW (cc := cz_M_within) (maxL := 6) (ret := (some .boolean)) (by decide) rfl ?_
  intro p e s m args below meth c s₁ B hml hv
  obtain ⟨rfl, hP, hK, hN⟩ := hv
  have hx := B.exec
  have hb := B.bytes
  have hr := B.returns
  have hts := atoms_spec (ws := wz_M_within) B.pre
  have hz : ∀ w ∈ zw_T, w.before ([.long p1, .long p2, .long p3] : List Value).toArray s = true := fun w h => hts w (List.mem_cons_of_mem _ h)
  have hown : s.vm.findClass RzM = some m.cls := findClass_of_methodNamed B.named
  have hlocks := B.notSynchronized
  have hl := lv_entry ([.long p1, .long p2, .long p3]) (n := 6) (Nat.le_of_ble_eq_true rfl)
  rw [lg_entry_eq]
  generalize (lg_sl ([.long p1, .long p2, .long p3]) ++ List.replicate (6 - (lg_sl ([.long p1, .long p2, .long p3])).length) Slot.unset).toArray = ls at hl ⊢
  have hl : lv_has ls 6 [(0, .long p1), (2, .long p2), (4, .long p3)] := hl
  refine lv_lload_n hx hb dz_M_within_0 rfl (lv_at hl 0 rfl) ?_
  refine lv_lload_n hx hb dz_M_within_1 rfl (lv_at hl 1 rfl) ?_
  refine W.lcmp hx hb dz_M_within_2 ?_
  refine lv_if_lt (tgt := 17) hx hb dz_M_within_3 (by decide) (fun c_1 => ?_) (fun c_1 => ?_)
  · refine lv_iconst (v := 0) hx hb dz_M_within_17 (by decide) ?_
    exact W.zret (v := 0) (ty := .boolean) hx hb hr rfl (fun t ht hW => ⟨_, rfl, by simp only [zm_within, if_pos c_1], ht⟩) (fun _ h => by cases h) dz_M_within_18
  · refine lv_lload_n hx hb dz_M_within_6 rfl (lv_at hl 0 rfl) ?_
    refine lv_lload hx hb dz_M_within_7 (lv_at hl 2 rfl) ?_
    refine W.lcmp hx hb dz_M_within_9 ?_
    refine lv_if_gt (tgt := 17) hx hb dz_M_within_10 (by decide) (fun c_2 => ?_) (fun c_2 => ?_)
    · refine lv_iconst (v := 0) hx hb dz_M_within_17 (by decide) ?_
      exact W.zret (v := 0) (ty := .boolean) hx hb hr rfl (fun t ht hW => ⟨_, rfl, by simp only [zm_within, if_neg c_1, if_pos c_2], ht⟩) (fun _ h => by cases h) dz_M_within_18
    · refine lv_iconst (v := 1) hx hb dz_M_within_13 (by decide) ?_
      refine lv_goto (tgt := 18) hx hb dz_M_within_14 (by decide) ?_
      exact W.zret (v := 1) (ty := .boolean) hx hb hr rfl (fun t ht hW => ⟨_, rfl, by simp only [zm_within, if_neg c_1, if_neg c_2], ht⟩) (fun _ h => by cases h) dz_M_within_18
set_option maxHeartbeats 4000000 in
set_option maxRecDepth 100000 in
theorem ct_M_isBox (l : Launch) (dC : Nat → ClassId) (dI : Nat → Nat → Nat) (ci cj cz : ClassId) (h0 : Nat) (a : zm_Ad) (M : zm_S) (hok : zm_ok M) (p1 : Int32) : Met l yz_M_isBox wz_M_isBox (zw_room 1 0 0) (zw_R zw_ns (dC, dI) vwCl (zm_tys ci cj cz) [.ref h0, .int p1] (zm_W ci cj cz h0 a M)) (vp_Si (fun r => r = zm_isBox M p1)) 0 0 (fun _ => False) := by
  refine Met.ofW (cc := cz_M_isBox) (maxL := 2) (ret := (some .boolean)) (by decide) rfl ?_
  intro p e s m args below meth c s₁ B hml hv
  obtain ⟨rfl, hP, hK, hN⟩ := hv
  have hx := B.exec
  have hb := B.bytes
  have hr := B.returns
  have hts := atoms_spec (ws := wz_M_isBox) B.pre
  have hz : ∀ w ∈ zw_T, w.before ([.ref h0, .int p1] : List Value).toArray s = true := fun w h => hts w (List.mem_cons_of_mem _ h)
  have hown : s.vm.findClass RzM = some m.cls := findClass_of_methodNamed B.named
  have hlocks := B.notSynchronized
  have hok0 := hok
  have hl := lv_entry ([.ref h0, .int p1]) (n := 2) (Nat.le_of_ble_eq_true rfl)
  rw [lg_entry_eq]
  generalize (lg_sl ([.ref h0, .int p1]) ++ List.replicate (2 - (lg_sl ([.ref h0, .int p1])).length) Slot.unset).toArray = ls at hl ⊢
  have hl : lv_has ls 2 [(0, .ref h0), (1, .int p1)] := hl
  refine lv_iload_n hx hb dz_M_isBox_0 rfl (lv_at hl 1 rfl) ?_
  refine lv_i2l (v := p1.toInt64) hx hb dz_M_isBox_1 rfl ?_
  refine lv_lconst (v := 1) hx hb dz_M_isBox_2 (by decide) ?_
  refine lv_aload_n hx hb dz_M_isBox_3 rfl (lv_at hl 0 rfl) ?_
  refine va_get (D := (dC, dI)) (ci := 3) (v := .int (nI (zm_nb M))) (C := RzM) (T := TzM) (N := 18) hx hb hz inzM hown hK hP 0 rfl rfl 0 (by decide) (hz _ zi_236) (fun _ h9 => h9) rfl dz_M_isBox_4 ?_
  refine lv_i2l (v := (nI (zm_nb M)).toInt64) hx hb dz_M_isBox_7 rfl ?_
  refine vp_callSi (va_Run.run (va_runS (As := [.long p1.toInt64, .long 1, .long ((nI (zm_nb M)).toInt64)]) (rest := []) ⟨hx, hb, hml, hown, hz⟩ (ct_M_within l dC dI ci cj cz p1.toInt64 1 ((nI (zm_nb M)).toInt64)) (cwS 3 hz (zw_gS zi_279 zi_280 zi_35 zi_281) rfl rfl rfl (by decide +kernel) ⟨Nat.le_of_ble_eq_true rfl, Nat.le_of_ble_eq_true rfl⟩) (zw_preR zw_ns_ok (ws := []) (fun k q h => by simp at h) hK hN) rfl rfl hl.1 rfl (lv_room (Nat.le_of_ble_eq_true rfl)) dz_M_isBox_8 ⟨Nat.le_of_ble_eq_true rfl, Nat.le_of_ble_eq_true rfl⟩)) (fun r_1 hr_1 => ?_)
  have hr_1 : r_1 = zm_within p1.toInt64 1 ((nI (zm_nb M)).toInt64) := hr_1
  subst hr_1
  exact W.zret (v := zm_within p1.toInt64 1 ((nI (zm_nb M)).toInt64)) (ty := .boolean) hx hb hr (zm_within_nar _ _ _) (fun t ht hW => ⟨_, rfl, by simp only [zm_isBox], ht⟩) (fun _ h => by cases h) dz_M_isBox_11
set_option maxHeartbeats 4000000 in
set_option maxRecDepth 100000 in
theorem ct_M_isNoTime (l : Launch) (dC : Nat → ClassId) (dI : Nat → Nat → Nat) (ci cj cz : ClassId) (h0 : Nat) (a : zm_Ad) (M : zm_S) (hok : zm_ok M) (p1 : Int64) : Met l yz_M_isNoTime wz_M_isNoTime (zw_room 0 0 0) (zw_R zw_ns (dC, dI) vwCl (zm_tys ci cj cz) [.ref h0, .long p1] (zm_W ci cj cz h0 a M)) (vp_Si (fun r => r = zm_isNo M p1)) 0 0 (fun _ => False) := by
  refine Met.ofW (cc := cz_M_isNoTime) (maxL := 3) (ret := (some .boolean)) (by decide) rfl ?_
  intro p e s m args below meth c s₁ B hml hv
  obtain ⟨rfl, hP, hK, hN⟩ := hv
  have hx := B.exec
  have hb := B.bytes
  have hr := B.returns
  have hts := atoms_spec (ws := wz_M_isNoTime) B.pre
  have hz : ∀ w ∈ zw_T, w.before ([.ref h0, .long p1] : List Value).toArray s = true := fun w h => hts w (List.mem_cons_of_mem _ h)
  have hown : s.vm.findClass RzM = some m.cls := findClass_of_methodNamed B.named
  have hlocks := B.notSynchronized
  have hok0 := hok
  have hl := lv_entry ([.ref h0, .long p1]) (n := 3) (Nat.le_of_ble_eq_true rfl)
  rw [lg_entry_eq]
  generalize (lg_sl ([.ref h0, .long p1]) ++ List.replicate (3 - (lg_sl ([.ref h0, .long p1])).length) Slot.unset).toArray = ls at hl ⊢
  have hl : lv_has ls 3 [(0, .ref h0), (1, .long p1)] := hl
  refine lv_lload_n hx hb dz_M_isNoTime_0 rfl (lv_at hl 1 rfl) ?_
  refine lv_aload_n hx hb dz_M_isNoTime_1 rfl (lv_at hl 0 rfl) ?_
  refine va_get (D := (dC, dI)) (ci := 3) (v := .long (zm_T M)) (C := RzM) (T := TzM) (N := 18) hx hb hz inzM hown hK hP 0 rfl rfl 10 (by decide) (hz _ zi_246) (fun _ h9 => h9) rfl dz_M_isNoTime_2 ?_
  refine W.lcmp hx hb dz_M_isNoTime_5 ?_
  refine lv_if_lt (tgt := 17) hx hb dz_M_isNoTime_6 (by decide) (fun c_1 => ?_) (fun c_1 => ?_)
  · refine lv_iconst (v := 1) hx hb dz_M_isNoTime_17 (by decide) ?_
    refine lv_goto (tgt := 22) hx hb dz_M_isNoTime_18 (by decide) ?_
    exact W.zret (v := 1) (ty := .boolean) hx hb hr rfl (fun t ht hW => ⟨_, rfl, by simp only [zm_isNo, if_pos c_1], ht⟩) (fun _ h => by cases h) dz_M_isNoTime_22
  · refine lv_lload_n hx hb dz_M_isNoTime_9 rfl (lv_at hl 1 rfl) ?_
    refine lv_ldc2 (v := 2000000000) hx hb hown (hz _ zi_291) dz_M_isNoTime_10 ?_
    refine W.lcmp hx hb dz_M_isNoTime_13 ?_
    refine lv_if_le (tgt := 21) hx hb dz_M_isNoTime_14 (by decide) (fun c_2 => ?_) (fun c_2 => ?_)
    · refine lv_iconst (v := 0) hx hb dz_M_isNoTime_21 (by decide) ?_
      exact W.zret (v := 0) (ty := .boolean) hx hb hr rfl (fun t ht hW => ⟨_, rfl, by simp only [zm_isNo, if_neg c_1, if_pos c_2], ht⟩) (fun _ h => by cases h) dz_M_isNoTime_22
    · refine lv_iconst (v := 1) hx hb dz_M_isNoTime_17 (by decide) ?_
      refine lv_goto (tgt := 22) hx hb dz_M_isNoTime_18 (by decide) ?_
      exact W.zret (v := 1) (ty := .boolean) hx hb hr rfl (fun t ht hW => ⟨_, rfl, by simp only [zm_isNo, if_neg c_1, if_neg c_2], ht⟩) (fun _ h => by cases h) dz_M_isNoTime_22
set_option maxHeartbeats 4000000 in
set_option maxRecDepth 100000 in
theorem ct_M_box (l : Launch) (dC : Nat → ClassId) (dI : Nat → Nat → Nat) (ci cj cz : ClassId) (h0 : Nat) (a : zm_Ad) (M : zm_S) (hok : zm_ok M) (sz : Nat) (p1 : Int32) : Met l yz_M_box wz_M_box (zw_room 1 0 0) (zw_U zw_ns (dC, dI) vwCl (zm_tys ci cj cz) [.ref h0, .int p1] (zm_W ci cj cz h0 a M) sz) (va_Qi (fun (r : Int32) (_ : Unit) => r = (zm_box M p1).1) (fun (_ : Unit) (t : State) => va_P (dC, dI) vwCl (zm_W ci cj cz h0 a ((zm_box M p1).2)) t.heap ∧ va_D (va_A (zm_W ci cj cz h0 a M) sz) (zm_W ci cj cz h0 a ((zm_box M p1).2))) (va_A (zm_W ci cj cz h0 a M) sz)) 0 0 (va_A (zm_W ci cj cz h0 a M) sz) := by
  refine Met.ofW (cc := cz_M_box) (maxL := 2) (ret := (some .int)) (by decide) rfl ?_
  intro p e s m args below meth c s₁ B hml hv
  obtain ⟨rfl, hsz, hP, hK, hD0, hN⟩ := hv
  have hx := B.exec
  have hb := B.bytes
  have hr := B.returns
  have hts := atoms_spec (ws := wz_M_box) B.pre
  have hz : ∀ w ∈ zw_T, w.before ([.ref h0, .int p1] : List Value).toArray s = true := fun w h => hts w (List.mem_cons_of_mem _ h)
  have hown : s.vm.findClass RzM = some m.cls := findClass_of_methodNamed B.named
  have hlocks := B.notSynchronized
  have hok0 := hok
  subst hsz
  have hD := hD0.self (sz := s.heap.size)
  generalize hAe : va_A (zm_W ci cj cz h0 a M) s.heap.size = A at hD ⊢
  have hA : ∀ q : Nat, s.heap.size ≤ q → A q := fun q h => by rw [← hAe]; exact Or.inr h
  have hS : va_S A s.heap s.heap [] := va_S.rf
  have hl := lv_entry ([.ref h0, .int p1]) (n := 2) (Nat.le_of_ble_eq_true rfl)
  rw [lg_entry_eq]
  generalize (lg_sl ([.ref h0, .int p1]) ++ List.replicate (2 - (lg_sl ([.ref h0, .int p1])).length) Slot.unset).toArray = ls at hl ⊢
  have hl : lv_has ls 2 [(0, .ref h0), (1, .int p1)] := hl
  refine lv_iload_n hx hb dz_M_box_0 rfl (lv_at hl 1 rfl) ?_
  refine lv_i2l (v := p1.toInt64) hx hb dz_M_box_1 rfl ?_
  refine lv_lconst (v := 1) hx hb dz_M_box_2 (by decide) ?_
  refine lv_ldc2 (v := 5) hx hb hown (hz _ zi_278) dz_M_box_3 ?_
  refine vp_callSi (va_Run.run (va_runS (As := [.long p1.toInt64, .long 1, .long 5]) (rest := []) ⟨hx, hb, hml, hown, hz⟩ (ct_M_within l dC dI ci cj cz p1.toInt64 1 5) (cwS 3 hz (zw_gS zi_279 zi_280 zi_35 zi_281) rfl rfl rfl (by decide +kernel) ⟨Nat.le_of_ble_eq_true rfl, Nat.le_of_ble_eq_true rfl⟩) (zw_preR zw_ns_ok (ws := []) (fun k q h => by simp at h) hK hN) rfl rfl hl.1 rfl (lv_room (Nat.le_of_ble_eq_true rfl)) dz_M_box_6 ⟨Nat.le_of_ble_eq_true rfl, Nat.le_of_ble_eq_true rfl⟩)) (fun r_1 hr_1 => ?_)
  have hr_1 : r_1 = zm_within p1.toInt64 1 5 := hr_1
  subst hr_1
  refine lv_if_ne (tgt := 15) hx hb dz_M_box_9 (by decide) (fun c_2 => ?_) (fun c_2 => ?_)
  · refine lv_aload_n hx hb dz_M_box_15 rfl (lv_at hl 0 rfl) ?_
    refine va_get (D := (dC, dI)) (ci := 3) (v := .int (nI (zm_nb M))) (C := RzM) (T := TzM) (N := 18) hx hb hz inzM hown hK hP 0 rfl rfl 0 (by decide) (hz _ zi_236) (fun _ h9 => h9) rfl dz_M_box_16 ?_
    refine lv_bipush (v := 60) hx hb dz_M_box_19 (by decide) ?_
    refine lv_icmp_ne (tgt := 27) hx hb dz_M_box_21 (by decide) (fun c_3 => ?_) (fun c_3 => ?_)
    · have h60 := zm_lt60 hok c_3
      refine lv_aload_n hx hb dz_M_box_27 rfl (lv_at hl 0 rfl) ?_
      refine lv_dup hx hb dz_M_box_28 rfl ?_
      refine va_get (D := (dC, dI)) (ci := 3) (v := .int (nI (zm_nb M))) (C := RzM) (T := TzM) (N := 18) hx hb hz inzM hown hK hP 0 rfl rfl 0 (by decide) (hz _ zi_236) (fun _ h9 => h9) rfl dz_M_box_29 ?_
      refine lv_iconst (v := 1) hx hb dz_M_box_32 (by decide) ?_
      refine lv_iadd hx hb dz_M_box_33 ?_
      refine W.eq (g2 := F0 m 34 ls [.int (nI (zm_nb M + 1)), .ref h0]) (congrArg (fun z => F0 m 34 ls (.int z :: [.ref h0])) (nI_1 _)) ?_
      refine va_put (D := (dC, dI)) (ci := 3) (v := .int (nI (zm_nb M + 1))) (ty := .int) (C := RzM) (T := TzM) (N := 18) hx hb hz inzM tyzM tyzM_ok nmzM hown hK hP hD hS 0 rfl rfl 0 (by decide) (hz _ zi_236) (fun _ h9 => h9) rfl (by decide +kernel) rfl rfl (Nat.le_of_ble_eq_true rfl) dz_M_box_34 (fun H locs hP hD hS => ?_)
      obtain ⟨S_4, eS_4⟩ : ∃ z, z = zm_snb M (zm_nb M + 1) := ⟨_, rfl⟩
      have hP : va_P (dC, dI) vwCl (zm_W ci cj cz h0 a S_4) H := by rw [eS_4]; exact hP
      have hD : va_D A (zm_W ci cj cz h0 a S_4) := by rw [eS_4]; exact hD
      refine lv_aload_n hx hb dz_M_box_37 rfl (lv_at hl 0 rfl) ?_
      refine va_get (D := (dC, dI)) (ci := 3) (v := .ref a.1) (C := RzM) (T := TzM) (N := 18) hx hb hz inzM hown hK hP 0 rfl rfl 1 (by decide) (hz _ zi_237) (fun _ h9 => h9) rfl dz_M_box_38 ?_
      refine lv_aload_n hx hb dz_M_box_41 rfl (lv_at hl 0 rfl) ?_
      refine va_get (D := (dC, dI)) (ci := 3) (v := .int (nI (zm_nb S_4))) (C := RzM) (T := TzM) (N := 18) hx hb hz inzM hown hK hP 0 rfl rfl 0 (by decide) (hz _ zi_236) (fun _ h9 => h9) rfl dz_M_box_42 ?_
      refine lv_iload_n hx hb dz_M_box_45 rfl (lv_at hl 1 rfl) ?_
      have hin_5 : vp_in (nI (zm_nb S_4)) 61 := vp_in_nI (by rw [eS_4]; show zm_nb M + 1 < 61; omega) (by decide)
      refine va_iast hx hb hK hP hD hS 1 0 rfl rfl hin_5 dz_M_box_46 (fun H locs hP hD hS => ?_)
      rw [show (nI (zm_nb S_4)).toNatClampNeg = (zm_nb S_4) from nI_clamp (by rw [eS_4]; show zm_nb M + 1 < 2 ^ 31; omega)] at hP hD
      obtain ⟨S_6, eS_6⟩ : ∃ z, z = zm_ssz S_4 (upd (zm_sz S_4) (zm_nb S_4) p1) := ⟨_, rfl⟩
      have hP : va_P (dC, dI) vwCl (zm_W ci cj cz h0 a S_6) H := by rw [eS_6]; exact hP
      have hD : va_D A (zm_W ci cj cz h0 a S_6) := by rw [eS_6]; exact hD
      refine lv_aload_n hx hb dz_M_box_47 rfl (lv_at hl 0 rfl) ?_
      refine va_get (D := (dC, dI)) (ci := 3) (v := .ref a.2.2.2.2.2.1) (C := RzM) (T := TzM) (N := 18) hx hb hz inzM hown hK hP 0 rfl rfl 6 (by decide) (hz _ zi_242) (fun _ h9 => h9) rfl dz_M_box_48 ?_
      refine lv_aload_n hx hb dz_M_box_51 rfl (lv_at hl 0 rfl) ?_
      refine va_get (D := (dC, dI)) (ci := 3) (v := .int (nI (zm_nb S_6))) (C := RzM) (T := TzM) (N := 18) hx hb hz inzM hown hK hP 0 rfl rfl 0 (by decide) (hz _ zi_236) (fun _ h9 => h9) rfl dz_M_box_52 ?_
      refine lv_iconst (v := -1) hx hb dz_M_box_55 (by decide) ?_
      have hin_7 : vp_in (nI (zm_nb S_6)) 61 := vp_in_nI (by rw [eS_6, eS_4]; show zm_nb M + 1 < 61; omega) (by decide)
      refine va_iast hx hb hK hP hD hS 6 0 rfl rfl hin_7 dz_M_box_56 (fun H locs hP hD hS => ?_)
      rw [show (nI (zm_nb S_6)).toNatClampNeg = (zm_nb S_6) from nI_clamp (by rw [eS_6, eS_4]; show zm_nb M + 1 < 2 ^ 31; omega)] at hP hD
      obtain ⟨S_8, eS_8⟩ : ∃ z, z = zm_sco S_6 (upd (zm_co S_6) (zm_nb S_6) (-1)) := ⟨_, rfl⟩
      have hP : va_P (dC, dI) vwCl (zm_W ci cj cz h0 a S_8) H := by rw [eS_8]; exact hP
      have hD : va_D A (zm_W ci cj cz h0 a S_8) := by rw [eS_8]; exact hD
      refine lv_aload_n hx hb dz_M_box_57 rfl (lv_at hl 0 rfl) ?_
      refine va_get (D := (dC, dI)) (ci := 3) (v := .int (nI (zm_nb S_8))) (C := RzM) (T := TzM) (N := 18) hx hb hz inzM hown hK hP 0 rfl rfl 0 (by decide) (hz _ zi_236) (fun _ h9 => h9) rfl dz_M_box_58 ?_
      have hE_9 : zm_box M p1 = (nI (zm_nb S_8), S_8) := by subst eS_4 eS_6 eS_8; simp only [zm_box, if_neg c_2, if_neg c_3]
      exact W.iret (v := nI (zm_nb S_8)) hx hb hr (fun t ht hW => ⟨⟨_, (), rfl, by show nI (zm_nb S_8) = (zm_box M p1).1; rw [hE_9], by show va_P (dC, dI) vwCl (zm_W ci cj cz h0 a ((zm_box M p1).2)) t.heap; rw [ht, hE_9]; exact hP, by show va_D A (zm_W ci cj cz h0 a ((zm_box M p1).2)); rw [hE_9]; exact hD⟩, hS.F ht⟩) hS.2.2 dz_M_box_61
    · refine lv_bipush (v := -14) hx hb dz_M_box_24 (by decide) ?_
      have hE_10 : zm_box M p1 = ((-14), M) := by simp only [zm_box, if_neg c_2, if_pos c_3]
      exact W.iret (v := (-14)) hx hb hr (fun t ht hW => ⟨⟨_, (), rfl, by show (-14) = (zm_box M p1).1; rw [hE_10], by show va_P (dC, dI) vwCl (zm_W ci cj cz h0 a ((zm_box M p1).2)) t.heap; rw [ht, hE_10]; exact hP, by show va_D A (zm_W ci cj cz h0 a ((zm_box M p1).2)); rw [hE_10]; exact hD⟩, hS.F ht⟩) hS.2.2 dz_M_box_26
  · refine lv_bipush (v := -12) hx hb dz_M_box_12 (by decide) ?_
    have hE_11 : zm_box M p1 = ((-12), M) := by simp only [zm_box, if_pos c_2]
    exact W.iret (v := (-12)) hx hb hr (fun t ht hW => ⟨⟨_, (), rfl, by show (-12) = (zm_box M p1).1; rw [hE_11], by show va_P (dC, dI) vwCl (zm_W ci cj cz h0 a ((zm_box M p1).2)) t.heap; rw [ht, hE_11]; exact hP, by show va_D A (zm_W ci cj cz h0 a ((zm_box M p1).2)); rw [hE_11]; exact hD⟩, hS.F ht⟩) hS.2.2 dz_M_box_14
set_option maxHeartbeats 4000000 in
set_option maxRecDepth 100000 in
theorem ct_M_tape (l : Launch) (dC : Nat → ClassId) (dI : Nat → Nat → Nat) (ci cj cz : ClassId) (h0 : Nat) (a : zm_Ad) (M : zm_S) (hok : zm_ok M) (sz : Nat) (p1 : Int32) : Met l yz_M_tape wz_M_tape (zw_room 1 0 0) (zw_U zw_ns (dC, dI) vwCl (zm_tys ci cj cz) [.ref h0, .int p1] (zm_W ci cj cz h0 a M) sz) (va_Qi (fun (r : Int32) (_ : Unit) => r = (zm_tape M p1).1) (fun (_ : Unit) (t : State) => va_P (dC, dI) vwCl (zm_W ci cj cz h0 a ((zm_tape M p1).2)) t.heap ∧ va_D (va_A (zm_W ci cj cz h0 a M) sz) (zm_W ci cj cz h0 a ((zm_tape M p1).2))) (va_A (zm_W ci cj cz h0 a M) sz)) 0 0 (va_A (zm_W ci cj cz h0 a M) sz) := by
  refine Met.ofW (cc := cz_M_tape) (maxL := 2) (ret := (some .int)) (by decide) rfl ?_
  intro p e s m args below meth c s₁ B hml hv
  obtain ⟨rfl, hsz, hP, hK, hD0, hN⟩ := hv
  have hx := B.exec
  have hb := B.bytes
  have hr := B.returns
  have hts := atoms_spec (ws := wz_M_tape) B.pre
  have hz : ∀ w ∈ zw_T, w.before ([.ref h0, .int p1] : List Value).toArray s = true := fun w h => hts w (List.mem_cons_of_mem _ h)
  have hown : s.vm.findClass RzM = some m.cls := findClass_of_methodNamed B.named
  have hlocks := B.notSynchronized
  have hok0 := hok
  subst hsz
  have hD := hD0.self (sz := s.heap.size)
  generalize hAe : va_A (zm_W ci cj cz h0 a M) s.heap.size = A at hD ⊢
  have hA : ∀ q : Nat, s.heap.size ≤ q → A q := fun q h => by rw [← hAe]; exact Or.inr h
  have hS : va_S A s.heap s.heap [] := va_S.rf
  have hl := lv_entry ([.ref h0, .int p1]) (n := 2) (Nat.le_of_ble_eq_true rfl)
  rw [lg_entry_eq]
  generalize (lg_sl ([.ref h0, .int p1]) ++ List.replicate (2 - (lg_sl ([.ref h0, .int p1])).length) Slot.unset).toArray = ls at hl ⊢
  have hl : lv_has ls 2 [(0, .ref h0), (1, .int p1)] := hl
  refine lv_iload_n hx hb dz_M_tape_0 rfl (lv_at hl 1 rfl) ?_
  refine lv_i2l (v := p1.toInt64) hx hb dz_M_tape_1 rfl ?_
  refine lv_lconst (v := 0) hx hb dz_M_tape_2 (by decide) ?_
  refine lv_ldc2 (v := 999999) hx hb hown (hz _ zi_286) dz_M_tape_3 ?_
  refine vp_callSi (va_Run.run (va_runS (As := [.long p1.toInt64, .long 0, .long 999999]) (rest := []) ⟨hx, hb, hml, hown, hz⟩ (ct_M_within l dC dI ci cj cz p1.toInt64 0 999999) (cwS 3 hz (zw_gS zi_279 zi_280 zi_35 zi_281) rfl rfl rfl (by decide +kernel) ⟨Nat.le_of_ble_eq_true rfl, Nat.le_of_ble_eq_true rfl⟩) (zw_preR zw_ns_ok (ws := []) (fun k q h => by simp at h) hK hN) rfl rfl hl.1 rfl (lv_room (Nat.le_of_ble_eq_true rfl)) dz_M_tape_6 ⟨Nat.le_of_ble_eq_true rfl, Nat.le_of_ble_eq_true rfl⟩)) (fun r_1 hr_1 => ?_)
  have hr_1 : r_1 = zm_within p1.toInt64 0 999999 := hr_1
  subst hr_1
  refine lv_if_ne (tgt := 15) hx hb dz_M_tape_9 (by decide) (fun c_2 => ?_) (fun c_2 => ?_)
  · refine lv_aload_n hx hb dz_M_tape_15 rfl (lv_at hl 0 rfl) ?_
    refine va_get (D := (dC, dI)) (ci := 3) (v := .int (nI (zm_tn M))) (C := RzM) (T := TzM) (N := 18) hx hb hz inzM hown hK hP 0 rfl rfl 14 (by decide) (hz _ zi_250) (fun _ h9 => h9) rfl dz_M_tape_16 ?_
    refine lv_sipush (v := 200) hx hb dz_M_tape_19 (by decide) ?_
    refine lv_icmp_ne (tgt := 28) hx hb dz_M_tape_22 (by decide) (fun c_3 => ?_) (fun c_3 => ?_)
    · refine lv_aload_n hx hb dz_M_tape_28 rfl (lv_at hl 0 rfl) ?_
      refine va_get (D := (dC, dI)) (ci := 3) (v := .ref a.2.2.2.2.2.2.2.2.2.1) (C := RzM) (T := TzM) (N := 18) hx hb hz inzM hown hK hP 0 rfl rfl 15 (by decide) (hz _ zi_251) (fun _ h9 => h9) rfl dz_M_tape_29 ?_
      refine lv_aload_n hx hb dz_M_tape_32 rfl (lv_at hl 0 rfl) ?_
      refine va_get (D := (dC, dI)) (ci := 3) (v := .int (nI (zm_tn M))) (C := RzM) (T := TzM) (N := 18) hx hb hz inzM hown hK hP 0 rfl rfl 14 (by decide) (hz _ zi_250) (fun _ h9 => h9) rfl dz_M_tape_33 ?_
      refine lv_iload_n hx hb dz_M_tape_36 rfl (lv_at hl 1 rfl) ?_
      have hin_4 : vp_in (nI (zm_tn M)) 200 := vp_in_nI (zm_lt200 hok c_3) (by decide)
      refine va_iast hx hb hK hP hD hS 10 0 rfl rfl hin_4 dz_M_tape_37 (fun H locs hP hD hS => ?_)
      rw [show (nI (zm_tn M)).toNatClampNeg = (zm_tn M) from nI_clamp (by have := hok.1; have := hok.2.1; have := hok.2.2; omega)] at hP hD
      obtain ⟨S_5, eS_5⟩ : ∃ z, z = zm_stp M (upd (zm_tp M) (zm_tn M) p1) := ⟨_, rfl⟩
      have hP : va_P (dC, dI) vwCl (zm_W ci cj cz h0 a S_5) H := by rw [eS_5]; exact hP
      have hD : va_D A (zm_W ci cj cz h0 a S_5) := by rw [eS_5]; exact hD
      have hok : zm_ok S_5 := by rw [eS_5]; exact hok
      refine lv_aload_n hx hb dz_M_tape_38 rfl (lv_at hl 0 rfl) ?_
      refine lv_dup hx hb dz_M_tape_39 rfl ?_
      refine va_get (D := (dC, dI)) (ci := 3) (v := .int (nI (zm_tn S_5))) (C := RzM) (T := TzM) (N := 18) hx hb hz inzM hown hK hP 0 rfl rfl 14 (by decide) (hz _ zi_250) (fun _ h9 => h9) rfl dz_M_tape_40 ?_
      refine lv_iconst (v := 1) hx hb dz_M_tape_43 (by decide) ?_
      refine lv_iadd hx hb dz_M_tape_44 ?_
      refine W.eq (g2 := F0 m 45 ls [.int (nI (zm_tn S_5 + 1)), .ref h0]) (congrArg (fun z => F0 m 45 ls (.int z :: [.ref h0])) (nI_1 _)) ?_
      refine va_put (D := (dC, dI)) (ci := 3) (v := .int (nI (zm_tn S_5 + 1))) (ty := .int) (C := RzM) (T := TzM) (N := 18) hx hb hz inzM tyzM tyzM_ok nmzM hown hK hP hD hS 0 rfl rfl 14 (by decide) (hz _ zi_250) (fun _ h9 => h9) rfl (by decide +kernel) rfl rfl (Nat.le_of_ble_eq_true rfl) dz_M_tape_45 (fun H locs hP hD hS => ?_)
      obtain ⟨S_6, eS_6⟩ : ∃ z, z = zm_stn S_5 (zm_tn S_5 + 1) := ⟨_, rfl⟩
      have hP : va_P (dC, dI) vwCl (zm_W ci cj cz h0 a S_6) H := by rw [eS_6]; exact hP
      have hD : va_D A (zm_W ci cj cz h0 a S_6) := by rw [eS_6]; exact hD
      refine lv_aload_n hx hb dz_M_tape_48 rfl (lv_at hl 0 rfl) ?_
      refine va_get (D := (dC, dI)) (ci := 3) (v := .int (nI (zm_tn S_6))) (C := RzM) (T := TzM) (N := 18) hx hb hz inzM hown hK hP 0 rfl rfl 14 (by decide) (hz _ zi_250) (fun _ h9 => h9) rfl dz_M_tape_49 ?_
      have hE_7 : zm_tape M p1 = (nI (zm_tn S_6), S_6) := by subst eS_5 eS_6; simp only [zm_tape, if_neg c_2, if_neg c_3]
      exact W.iret (v := nI (zm_tn S_6)) hx hb hr (fun t ht hW => ⟨⟨_, (), rfl, by show nI (zm_tn S_6) = (zm_tape M p1).1; rw [hE_7], by show va_P (dC, dI) vwCl (zm_W ci cj cz h0 a ((zm_tape M p1).2)) t.heap; rw [ht, hE_7]; exact hP, by show va_D A (zm_W ci cj cz h0 a ((zm_tape M p1).2)); rw [hE_7]; exact hD⟩, hS.F ht⟩) hS.2.2 dz_M_tape_52
    · refine lv_bipush (v := -14) hx hb dz_M_tape_25 (by decide) ?_
      have hE_8 : zm_tape M p1 = ((-14), M) := by simp only [zm_tape, if_neg c_2, if_pos c_3]
      exact W.iret (v := (-14)) hx hb hr (fun t ht hW => ⟨⟨_, (), rfl, by show (-14) = (zm_tape M p1).1; rw [hE_8], by show va_P (dC, dI) vwCl (zm_W ci cj cz h0 a ((zm_tape M p1).2)) t.heap; rw [ht, hE_8]; exact hP, by show va_D A (zm_W ci cj cz h0 a ((zm_tape M p1).2)); rw [hE_8]; exact hD⟩, hS.F ht⟩) hS.2.2 dz_M_tape_27
  · refine lv_bipush (v := -12) hx hb dz_M_tape_12 (by decide) ?_
    have hE_9 : zm_tape M p1 = ((-12), M) := by simp only [zm_tape, if_pos c_2]
    exact W.iret (v := (-12)) hx hb hr (fun t ht hW => ⟨⟨_, (), rfl, by show (-12) = (zm_tape M p1).1; rw [hE_9], by show va_P (dC, dI) vwCl (zm_W ci cj cz h0 a ((zm_tape M p1).2)) t.heap; rw [ht, hE_9]; exact hP, by show va_D A (zm_W ci cj cz h0 a ((zm_tape M p1).2)); rw [hE_9]; exact hD⟩, hS.F ht⟩) hS.2.2 dz_M_tape_14
set_option maxHeartbeats 4000000 in
set_option maxRecDepth 100000 in
theorem ct_M_open (l : Launch) (dC : Nat → ClassId) (dI : Nat → Nat → Nat) (ci cj cz : ClassId) (h0 : Nat) (a : zm_Ad) (M : zm_S) (hok : zm_ok M) (sz : Nat) (p1 : Int32) (p2 : Int32) (h1 : vp_in p1 61) : Met l yz_M_open wz_M_open (zw_room 0 0 0) (zw_U zw_ns (dC, dI) vwCl (zm_tys ci cj cz) [.ref h0, .int p1, .int p2] (zm_W ci cj cz h0 a M) sz) (va_Qv (fun _ : Unit => True) (fun (_ : Unit) (t : State) => va_P (dC, dI) vwCl (zm_W ci cj cz h0 a (zm_open M p1 p2)) t.heap ∧ va_D (va_A (zm_W ci cj cz h0 a M) sz) (zm_W ci cj cz h0 a (zm_open M p1 p2))) (va_A (zm_W ci cj cz h0 a M) sz)) 0 0 (va_A (zm_W ci cj cz h0 a M) sz) := by
  refine Met.ofW (cc := cz_M_open) (maxL := 3) (ret := none) (by decide) rfl ?_
  intro p e s m args below meth c s₁ B hml hv
  obtain ⟨rfl, hsz, hP, hK, hD0, hN⟩ := hv
  have hx := B.exec
  have hb := B.bytes
  have hr := B.returns
  have hts := atoms_spec (ws := wz_M_open) B.pre
  have hz : ∀ w ∈ zw_T, w.before ([.ref h0, .int p1, .int p2] : List Value).toArray s = true := fun w h => hts w (List.mem_cons_of_mem _ h)
  have hown : s.vm.findClass RzM = some m.cls := findClass_of_methodNamed B.named
  have hlocks := B.notSynchronized
  have hok0 := hok
  subst hsz
  have hD := hD0.self (sz := s.heap.size)
  generalize hAe : va_A (zm_W ci cj cz h0 a M) s.heap.size = A at hD ⊢
  have hA : ∀ q : Nat, s.heap.size ≤ q → A q := fun q h => by rw [← hAe]; exact Or.inr h
  have hS : va_S A s.heap s.heap [] := va_S.rf
  have hl := lv_entry ([.ref h0, .int p1, .int p2]) (n := 3) (Nat.le_of_ble_eq_true rfl)
  rw [lg_entry_eq]
  generalize (lg_sl ([.ref h0, .int p1, .int p2]) ++ List.replicate (3 - (lg_sl ([.ref h0, .int p1, .int p2])).length) Slot.unset).toArray = ls at hl ⊢
  have hl : lv_has ls 3 [(0, .ref h0), (1, .int p1), (2, .int p2)] := hl
  refine lv_aload_n hx hb dz_M_open_0 rfl (lv_at hl 0 rfl) ?_
  refine va_get (D := (dC, dI)) (ci := 3) (v := .ref a.2.1) (C := RzM) (T := TzM) (N := 18) hx hb hz inzM hown hK hP 0 rfl rfl 2 (by decide) (hz _ zi_238) (fun _ h9 => h9) rfl dz_M_open_1 ?_
  refine lv_iload_n hx hb dz_M_open_4 rfl (lv_at hl 1 rfl) ?_
  refine lv_iload_n hx hb dz_M_open_5 rfl (lv_at hl 2 rfl) ?_
  have hin_1 : vp_in p1 61 := h1
  refine va_iast hx hb hK hP hD hS 2 0 rfl rfl hin_1 dz_M_open_6 (fun H locs hP hD hS => ?_)
  obtain ⟨S_2, eS_2⟩ : ∃ z, z = zm_sdr M (upd (zm_dr M) p1.toNatClampNeg p2) := ⟨_, rfl⟩
  have hP : va_P (dC, dI) vwCl (zm_W ci cj cz h0 a S_2) H := by rw [eS_2]; exact hP
  have hD : va_D A (zm_W ci cj cz h0 a S_2) := by rw [eS_2]; exact hD
  have hok : zm_ok S_2 := by rw [eS_2]; exact hok
  refine lv_aload_n hx hb dz_M_open_7 rfl (lv_at hl 0 rfl) ?_
  refine va_get (D := (dC, dI)) (ci := 3) (v := .ref a.2.2.1) (C := RzM) (T := TzM) (N := 18) hx hb hz inzM hown hK hP 0 rfl rfl 3 (by decide) (hz _ zi_239) (fun _ h9 => h9) rfl dz_M_open_8 ?_
  refine lv_iload_n hx hb dz_M_open_11 rfl (lv_at hl 1 rfl) ?_
  refine lv_aload_n hx hb dz_M_open_12 rfl (lv_at hl 0 rfl) ?_
  refine va_get (D := (dC, dI)) (ci := 3) (v := .long (zm_T S_2)) (C := RzM) (T := TzM) (N := 18) hx hb hz inzM hown hK hP 0 rfl rfl 10 (by decide) (hz _ zi_246) (fun _ h9 => h9) rfl dz_M_open_13 ?_
  have hin_3 : vp_in p1 61 := h1
  refine va_last hx hb hK hP hD hS 3 1 rfl rfl hin_3 dz_M_open_16 (fun H locs hP hD hS => ?_)
  obtain ⟨S_4, eS_4⟩ : ∃ z, z = zm_ssi S_2 (vp_updL (zm_si S_2) p1.toNatClampNeg (zm_T S_2)) := ⟨_, rfl⟩
  have hP : va_P (dC, dI) vwCl (zm_W ci cj cz h0 a S_4) H := by rw [eS_4]; exact hP
  have hD : va_D A (zm_W ci cj cz h0 a S_4) := by rw [eS_4]; exact hD
  have hok : zm_ok S_4 := by rw [eS_4]; exact hok
  refine lv_aload_n hx hb dz_M_open_17 rfl (lv_at hl 0 rfl) ?_
  refine va_get (D := (dC, dI)) (ci := 3) (v := .ref a.2.2.2.1) (C := RzM) (T := TzM) (N := 18) hx hb hz inzM hown hK hP 0 rfl rfl 4 (by decide) (hz _ zi_240) (fun _ h9 => h9) rfl dz_M_open_18 ?_
  refine lv_iload_n hx hb dz_M_open_21 rfl (lv_at hl 1 rfl) ?_
  refine lv_iconst (v := 0) hx hb dz_M_open_22 (by decide) ?_
  have hin_5 : vp_in p1 61 := h1
  refine va_zast hx hb hK hP hD hS 4 2 rfl rfl hin_5 dz_M_open_23 (fun H locs hP hD hS => ?_)
  rw [zm_n0] at hP hD
  obtain ⟨S_6, eS_6⟩ : ∃ z, z = zm_sto S_4 (upd (zm_to S_4) p1.toNatClampNeg 0) := ⟨_, rfl⟩
  have hP : va_P (dC, dI) vwCl (zm_W ci cj cz h0 a S_6) H := by rw [eS_6]; exact hP
  have hD : va_D A (zm_W ci cj cz h0 a S_6) := by rw [eS_6]; exact hD
  have hok : zm_ok S_6 := by rw [eS_6]; exact hok
  have hE_7 : zm_open M p1 p2 = S_6 := by subst eS_2 eS_4 eS_6; simp only [zm_open]
  exact W.vret hx hb hr (fun t ht hW => ⟨⟨(), rfl, trivial, by show va_P (dC, dI) vwCl (zm_W ci cj cz h0 a (zm_open M p1 p2)) t.heap; rw [ht, hE_7]; exact hP, by show va_D A (zm_W ci cj cz h0 a (zm_open M p1 p2)); rw [hE_7]; exact hD⟩, hS.F ht⟩) hS.2.2 dz_M_open_24
set_option maxHeartbeats 4000000 in
set_option maxRecDepth 100000 in
theorem ct_M_out (l : Launch) (dC : Nat → ClassId) (dI : Nat → Nat → Nat) (ci cj cz : ClassId) (h0 : Nat) (a : zm_Ad) (M : zm_S) (hok : zm_ok M) (sz : Nat) (p1 : Int32) (h1 : vp_in p1 61) : Met l yz_M_out wz_M_out (zw_room 0 0 0) (zw_U zw_ns (dC, dI) vwCl (zm_tys ci cj cz) [.ref h0, .int p1] (zm_W ci cj cz h0 a M) sz) (va_Qi (fun (r : Int32) (_ : Unit) => r = (zm_out M p1).1) (fun (_ : Unit) (t : State) => va_P (dC, dI) vwCl (zm_W ci cj cz h0 a ((zm_out M p1).2)) t.heap ∧ va_D (va_A (zm_W ci cj cz h0 a M) sz) (zm_W ci cj cz h0 a ((zm_out M p1).2))) (va_A (zm_W ci cj cz h0 a M) sz)) 0 0 (va_A (zm_W ci cj cz h0 a M) sz) := by
  refine Met.ofW (cc := cz_M_out) (maxL := 3) (ret := (some .int)) (by decide) rfl ?_
  intro p e s m args below meth c s₁ B hml hv
  obtain ⟨rfl, hsz, hP, hK, hD0, hN⟩ := hv
  have hx := B.exec
  have hb := B.bytes
  have hr := B.returns
  have hts := atoms_spec (ws := wz_M_out) B.pre
  have hz : ∀ w ∈ zw_T, w.before ([.ref h0, .int p1] : List Value).toArray s = true := fun w h => hts w (List.mem_cons_of_mem _ h)
  have hown : s.vm.findClass RzM = some m.cls := findClass_of_methodNamed B.named
  have hlocks := B.notSynchronized
  have hok0 := hok
  subst hsz
  have hD := hD0.self (sz := s.heap.size)
  generalize hAe : va_A (zm_W ci cj cz h0 a M) s.heap.size = A at hD ⊢
  have hA : ∀ q : Nat, s.heap.size ≤ q → A q := fun q h => by rw [← hAe]; exact Or.inr h
  have hS : va_S A s.heap s.heap [] := va_S.rf
  have hl := lv_entry ([.ref h0, .int p1]) (n := 3) (Nat.le_of_ble_eq_true rfl)
  rw [lg_entry_eq]
  generalize (lg_sl ([.ref h0, .int p1]) ++ List.replicate (3 - (lg_sl ([.ref h0, .int p1])).length) Slot.unset).toArray = ls at hl ⊢
  have hl : lv_has ls 3 [(0, .ref h0), (1, .int p1)] := hl
  refine lv_aload_n hx hb dz_M_out_0 rfl (lv_at hl 0 rfl) ?_
  refine va_get (D := (dC, dI)) (ci := 3) (v := .ref a.2.2.2.2.1) (C := RzM) (T := TzM) (N := 18) hx hb hz inzM hown hK hP 0 rfl rfl 5 (by decide) (hz _ zi_241) (fun _ h9 => h9) rfl dz_M_out_1 ?_
  refine lv_iload_n hx hb dz_M_out_4 rfl (lv_at hl 1 rfl) ?_
  have hin_1 : vp_in p1 61 := h1
  refine va_iald hx hb hK hP 5 0 rfl rfl hin_1 dz_M_out_5 ?_
  refine lv_istore_n (lv' := [(2, .int (zm_it M p1.toNatClampNeg)), (0, .ref h0), (1, .int p1)]) hx hb dz_M_out_6 rfl hl (by decide) rfl (fun ls hl => ?_)
  refine lv_aload_n hx hb dz_M_out_7 rfl (lv_at hl 1 rfl) ?_
  refine va_get (D := (dC, dI)) (ci := 3) (v := .ref a.2.2.2.2.1) (C := RzM) (T := TzM) (N := 18) hx hb hz inzM hown hK hP 0 rfl rfl 5 (by decide) (hz _ zi_241) (fun _ h9 => h9) rfl dz_M_out_8 ?_
  refine lv_iload_n hx hb dz_M_out_11 rfl (lv_at hl 2 rfl) ?_
  refine lv_iconst (v := 0) hx hb dz_M_out_12 (by decide) ?_
  have hin_2 : vp_in p1 61 := h1
  refine va_iast hx hb hK hP hD hS 5 0 rfl rfl hin_2 dz_M_out_13 (fun H locs hP hD hS => ?_)
  obtain ⟨S_3, eS_3⟩ : ∃ z, z = zm_sit M (upd (zm_it M) p1.toNatClampNeg 0) := ⟨_, rfl⟩
  have hP : va_P (dC, dI) vwCl (zm_W ci cj cz h0 a S_3) H := by rw [eS_3]; exact hP
  have hD : va_D A (zm_W ci cj cz h0 a S_3) := by rw [eS_3]; exact hD
  have hok : zm_ok S_3 := by rw [eS_3]; exact hok
  refine lv_aload_n hx hb dz_M_out_14 rfl (lv_at hl 1 rfl) ?_
  refine va_get (D := (dC, dI)) (ci := 3) (v := .ref a.2.2.2.2.2.1) (C := RzM) (T := TzM) (N := 18) hx hb hz inzM hown hK hP 0 rfl rfl 6 (by decide) (hz _ zi_242) (fun _ h9 => h9) rfl dz_M_out_15 ?_
  refine lv_iload_n hx hb dz_M_out_18 rfl (lv_at hl 2 rfl) ?_
  refine lv_iconst (v := -1) hx hb dz_M_out_19 (by decide) ?_
  have hin_4 : vp_in p1 61 := h1
  refine va_iast hx hb hK hP hD hS 6 0 rfl rfl hin_4 dz_M_out_20 (fun H locs hP hD hS => ?_)
  obtain ⟨S_5, eS_5⟩ : ∃ z, z = zm_sco S_3 (upd (zm_co S_3) p1.toNatClampNeg (-1)) := ⟨_, rfl⟩
  have hP : va_P (dC, dI) vwCl (zm_W ci cj cz h0 a S_5) H := by rw [eS_5]; exact hP
  have hD : va_D A (zm_W ci cj cz h0 a S_5) := by rw [eS_5]; exact hD
  have hok : zm_ok S_5 := by rw [eS_5]; exact hok
  refine lv_aload_n hx hb dz_M_out_21 rfl (lv_at hl 1 rfl) ?_
  refine va_get (D := (dC, dI)) (ci := 3) (v := .ref a.2.2.2.2.2.2.2.1) (C := RzM) (T := TzM) (N := 18) hx hb hz inzM hown hK hP 0 rfl rfl 8 (by decide) (hz _ zi_244) (fun _ h9 => h9) rfl dz_M_out_22 ?_
  refine lv_iload_n hx hb dz_M_out_25 rfl (lv_at hl 2 rfl) ?_
  refine lv_iconst (v := 0) hx hb dz_M_out_26 (by decide) ?_
  have hin_6 : vp_in p1 61 := h1
  refine va_zast hx hb hK hP hD hS 8 2 rfl rfl hin_6 dz_M_out_27 (fun H locs hP hD hS => ?_)
  rw [zm_n0] at hP hD
  obtain ⟨S_7, eS_7⟩ : ∃ z, z = zm_sla S_5 (upd (zm_la S_5) p1.toNatClampNeg 0) := ⟨_, rfl⟩
  have hP : va_P (dC, dI) vwCl (zm_W ci cj cz h0 a S_7) H := by rw [eS_7]; exact hP
  have hD : va_D A (zm_W ci cj cz h0 a S_7) := by rw [eS_7]; exact hD
  have hok : zm_ok S_7 := by rw [eS_7]; exact hok
  refine lv_iload_n hx hb dz_M_out_28 rfl (lv_at hl 0 rfl) ?_
  have hE_8 : zm_out M p1 = (zm_it M p1.toNatClampNeg, S_7) := by subst eS_3 eS_5 eS_7; simp only [zm_out]
  exact W.iret (v := zm_it M p1.toNatClampNeg) hx hb hr (fun t ht hW => ⟨⟨_, (), rfl, by show zm_it M p1.toNatClampNeg = (zm_out M p1).1; rw [hE_8], by show va_P (dC, dI) vwCl (zm_W ci cj cz h0 a ((zm_out M p1).2)) t.heap; rw [ht, hE_8]; exact hP, by show va_D A (zm_W ci cj cz h0 a ((zm_out M p1).2)); rw [hE_8]; exact hD⟩, hS.F ht⟩) hS.2.2 dz_M_out_29
set_option maxHeartbeats 4000000 in
set_option maxRecDepth 100000 in
theorem ct_M_isCode (l : Launch) (dC : Nat → ClassId) (dI : Nat → Nat → Nat) (ci cj cz : ClassId) (h0 : Nat) (a : zm_Ad) (M : zm_S) (hok : zm_ok M) (p1 : Int32) : Met l yz_M_isCode wz_M_isCode (zw_room 0 0 0) (zw_R zw_ns (dC, dI) vwCl (zm_tys ci cj cz) [.ref h0, .int p1] (zm_W ci cj cz h0 a M)) (vp_Si (fun r => r = zm_isCode M p1)) 0 0 (fun _ => False) := by
  refine Met.ofW (cc := cz_M_isCode) (maxL := 3) (ret := (some .boolean)) (by decide) rfl ?_
  intro p e s m args below meth c s₁ B hml hv
  obtain ⟨rfl, hP, hK, hN⟩ := hv
  have hx := B.exec
  have hb := B.bytes
  have hr := B.returns
  have hts := atoms_spec (ws := wz_M_isCode) B.pre
  have hz : ∀ w ∈ zw_T, w.before ([.ref h0, .int p1] : List Value).toArray s = true := fun w h => hts w (List.mem_cons_of_mem _ h)
  have hown : s.vm.findClass RzM = some m.cls := findClass_of_methodNamed B.named
  have hlocks := B.notSynchronized
  have hok0 := hok
  have hl := lv_entry ([.ref h0, .int p1]) (n := 3) (Nat.le_of_ble_eq_true rfl)
  rw [lg_entry_eq]
  generalize (lg_sl ([.ref h0, .int p1]) ++ List.replicate (3 - (lg_sl ([.ref h0, .int p1])).length) Slot.unset).toArray = ls at hl ⊢
  have hl : lv_has ls 3 [(0, .ref h0), (1, .int p1)] := hl
  refine lv_iconst (v := nI (0 + 1)) hx hb dz_M_isCode_0 (by decide) ?_
  refine lv_istore_n (lv' := [(2, .int (nI (0 + 1))), (0, .ref h0), (1, .int p1)]) hx hb dz_M_isCode_1 rfl hl (by decide) rfl (fun ls hl => ?_)
  have loop : ∀ (k j : Nat) (ls : Array Slot), j + k = zm_nb M → zm_ic M p1 (zm_nb M) 0 = zm_ic M p1 k j → lv_has ls 3 [(2, .int (nI (j + 1))), (0, .ref h0), (1, .int p1)] → W p l e (headSpec wz_M_isCode (zw_room 0 0 0)).room s m ([.ref h0, .int p1] : List Value).toArray below meth c s.heap [] 0 0 (MQ below (vp_Si (fun r => r = zm_isCode M p1)) ([.ref h0, .int p1] : List Value).toArray s 0 0 (fun _ => False)) (F0 m 2 ls []) := by
    intro k
    induction k with
    | zero =>
      intro j ls hjk hinv hl
      refine lv_iload_n hx hb dz_M_isCode_2 rfl (lv_at hl 0 rfl) ?_
      refine lv_aload_n hx hb dz_M_isCode_3 rfl (lv_at hl 1 rfl) ?_
      refine va_get (D := (dC, dI)) (ci := 3) (v := .int (nI (zm_nb M))) (C := RzM) (T := TzM) (N := 18) hx hb hz inzM hown hK hP 0 rfl rfl 0 (by decide) (hz _ zi_236) (fun _ h9 => h9) rfl dz_M_isCode_4 ?_
      refine lv_icmp_gt (tgt := 28) hx hb dz_M_isCode_7 (by decide) (fun c_1 => ?_) (fun c_1 => ?_)
      · refine lv_iconst (v := 0) hx hb dz_M_isCode_28 (by decide) ?_
        exact W.zret (v := 0) (ty := .boolean) hx hb hr rfl (fun t ht hW => ⟨_, rfl, by rw [zm_isCode, hinv]; rfl, ht⟩) (fun _ h => by cases h) dz_M_isCode_29
      · exact absurd (nI_lt (by omega) (by have := hok.1; omega)) c_1
    | succ k ih =>
      intro j ls hjk hinv hl
      have hj : j < zm_nb M := by omega
      refine lv_iload_n hx hb dz_M_isCode_2 rfl (lv_at hl 0 rfl) ?_
      refine lv_aload_n hx hb dz_M_isCode_3 rfl (lv_at hl 1 rfl) ?_
      refine va_get (D := (dC, dI)) (ci := 3) (v := .int (nI (zm_nb M))) (C := RzM) (T := TzM) (N := 18) hx hb hz inzM hown hK hP 0 rfl rfl 0 (by decide) (hz _ zi_236) (fun _ h9 => h9) rfl dz_M_isCode_4 ?_
      refine lv_icmp_gt (tgt := 28) hx hb dz_M_isCode_7 (by decide) (fun c_2 => ?_) (fun c_2 => ?_)
      · exact absurd c_2 (nI_nlt (by omega) (by have := hok.1; omega))
      · refine lv_aload_n hx hb dz_M_isCode_10 rfl (lv_at hl 1 rfl) ?_
        refine va_get (D := (dC, dI)) (ci := 3) (v := .ref a.2.2.2.2.2.1) (C := RzM) (T := TzM) (N := 18) hx hb hz inzM hown hK hP 0 rfl rfl 6 (by decide) (hz _ zi_242) (fun _ h9 => h9) rfl dz_M_isCode_11 ?_
        refine lv_iload_n hx hb dz_M_isCode_14 rfl (lv_at hl 0 rfl) ?_
        have hin_3 : vp_in (nI (j + 1)) 61 := vp_in_nI (by have := hok.1; omega) (by decide)
        refine va_iald hx hb hK hP 6 0 rfl rfl hin_3 dz_M_isCode_15 ?_
        refine W.eq (g2 := F0 m 16 ls [.int (zm_co M (j + 1))]) (congrArg (fun z => F0 m 16 ls (.int ((zm_co M) z) :: [])) (nI_clamp (by have := hok.1; have := hok.2.1; have := hok.2.2; omega))) ?_
        refine lv_iload_n hx hb dz_M_isCode_16 rfl (lv_at hl 2 rfl) ?_
        refine lv_icmp_ne (tgt := 22) hx hb dz_M_isCode_17 (by decide) (fun c_4 => ?_) (fun c_4 => ?_)
        · refine lv_iinc (v := nI (j + 1 + 1)) (lv' := [(2, .int (nI (j + 1 + 1))), (0, .ref h0), (1, .int p1)]) hx hb dz_M_isCode_22 hl (k := 0) rfl (nI_1 _) (by decide) rfl (fun ls hl => ?_)
          refine lv_goto (tgt := 2) hx hb dz_M_isCode_25 (by decide) ?_
          exact ih (j + 1) ls (by omega) (by rw [hinv]; simp only [zm_ic, if_neg c_4]) (lv_sub hl [0, 1, 2] rfl)
        · refine lv_iconst (v := 1) hx hb dz_M_isCode_20 (by decide) ?_
          exact W.zret (v := 1) (ty := .boolean) hx hb hr rfl (fun t ht hW => ⟨_, rfl, by rw [zm_isCode, hinv]; simp only [zm_ic, if_pos c_4], ht⟩) (fun _ h => by cases h) dz_M_isCode_21
  exact loop (zm_nb M) 0 ls (by omega) rfl (lv_sub hl [0, 1, 2] rfl)

set_option maxHeartbeats 4000000 in
set_option maxRecDepth 100000 in
theorem ct_L_isTime (l : Launch) (dC : Nat → ClassId) (dI : Nat → Nat → Nat) (cq ci : ClassId) (h0 : Nat) (a : zl_Ad) (S : zl_S) (hok : zl_ok S) (p1 : Int64) : Met l yz_L_isTime wz_L_isTime (zw_room 0 0 0) (zw_R zw_ns (dC, dI) vwCl (zl_tys cq ci) [.ref h0, .long p1] (zl_W cq ci h0 a S)) (vp_Si (fun r => r = zl_isTime S p1)) 0 0 (fun _ => False) := by
  refine Met.ofW (cc := cz_L_isTime) (maxL := 3) (ret := (some .boolean)) (by decide) rfl ?_
  intro p e s m args below meth c s₁ B hml hv
  obtain ⟨rfl, hP, hK, hN⟩ := hv
  have hx := B.exec
  have hb := B.bytes
  have hr := B.returns
  have hts := atoms_spec (ws := wz_L_isTime) B.pre
  have hz : ∀ w ∈ zw_T, w.before ([.ref h0, .long p1] : List Value).toArray s = true := fun w h => hts w (List.mem_cons_of_mem _ h)
  have hown : s.vm.findClass RzL = some m.cls := findClass_of_methodNamed B.named
  have hlocks := B.notSynchronized
  have hl := lv_entry ([.ref h0, .long p1]) (n := 3) (Nat.le_of_ble_eq_true rfl)
  rw [lg_entry_eq]
  generalize (lg_sl ([.ref h0, .long p1]) ++ List.replicate (3 - (lg_sl ([.ref h0, .long p1])).length) Slot.unset).toArray = ls at hl ⊢
  have hl : lv_has ls 3 [(0, .ref h0), (1, .long p1)] := hl
  refine lv_lload_n hx hb dz_L_isTime_0 rfl (lv_at hl 1 rfl) ?_
  refine lv_aload_n hx hb dz_L_isTime_1 rfl (lv_at hl 0 rfl) ?_
  refine va_get (D := (dC, dI)) (ci := 2) (v := .long (zl_T S)) (C := RzL) (T := TzL) (N := 9) hx hb hz inzL hown hK hP 0 rfl rfl 5 (by decide) (hz _ zi_62) (fun _ h9 => h9) rfl dz_L_isTime_2 ?_
  refine W.lcmp hx hb dz_L_isTime_5 ?_
  refine lv_if_lt (tgt := 21) hx hb dz_L_isTime_6 (by decide) (fun c_1 => ?_) (fun c_1 => ?_)
  · refine lv_iconst (v := 0) hx hb dz_L_isTime_21 (by decide) ?_
    exact W.zret (v := 0) (ty := .boolean) hx hb hr rfl (fun t ht hW => ⟨_, rfl, by simp only [zl_isTime, if_pos c_1], ht⟩) (fun _ h => by cases h) dz_L_isTime_22
  · refine lv_lload_n hx hb dz_L_isTime_9 rfl (lv_at hl 1 rfl) ?_
    refine lv_ldc2 (v := 2000000000) hx hb hown (hz _ zi_120) dz_L_isTime_10 ?_
    refine W.lcmp hx hb dz_L_isTime_13 ?_
    refine lv_if_gt (tgt := 21) hx hb dz_L_isTime_14 (by decide) (fun c_2 => ?_) (fun c_2 => ?_)
    · refine lv_iconst (v := 0) hx hb dz_L_isTime_21 (by decide) ?_
      exact W.zret (v := 0) (ty := .boolean) hx hb hr rfl (fun t ht hW => ⟨_, rfl, by simp only [zl_isTime, if_neg c_1, if_pos c_2], ht⟩) (fun _ h => by cases h) dz_L_isTime_22
    · refine lv_iconst (v := 1) hx hb dz_L_isTime_17 (by decide) ?_
      refine lv_goto (tgt := 22) hx hb dz_L_isTime_18 (by decide) ?_
      exact W.zret (v := 1) (ty := .boolean) hx hb hr rfl (fun t ht hW => ⟨_, rfl, by simp only [zl_isTime, if_neg c_1, if_neg c_2], ht⟩) (fun _ h => by cases h) dz_L_isTime_22
set_option maxHeartbeats 4000000 in
set_option maxRecDepth 100000 in
theorem ct_L_boxAt (l : Launch) (dC : Nat → ClassId) (dI : Nat → Nat → Nat) (cq ci : ClassId) (h0 : Nat) (a : zl_Ad) (S : zl_S) (hok : zl_ok S) (p1 : Int32) : Met l yz_L_boxAt wz_L_boxAt (zw_room 0 0 0) (zw_R zw_ns (dC, dI) vwCl (zl_tys cq ci) [.ref h0, .int p1] (zl_W cq ci h0 a S)) (va_Sq (fun r => r = Option.map (zl_ab a) (zl_boxAt S p1))) 0 0 (fun _ => False) := by
  refine Met.ofW (cc := cz_L_boxAt) (maxL := 2) (ret := (some (.object "LockerRows$Box"))) (by decide) rfl ?_
  intro p e s m args below meth c s₁ B hml hv
  obtain ⟨rfl, hP, hK, hN⟩ := hv
  have hx := B.exec
  have hb := B.bytes
  have hr := B.returns
  have hts := atoms_spec (ws := wz_L_boxAt) B.pre
  have hz : ∀ w ∈ zw_T, w.before ([.ref h0, .int p1] : List Value).toArray s = true := fun w h => hts w (List.mem_cons_of_mem _ h)
  have hown : s.vm.findClass RzL = some m.cls := findClass_of_methodNamed B.named
  have hlocks := B.notSynchronized
  have hl := lv_entry ([.ref h0, .int p1]) (n := 2) (Nat.le_of_ble_eq_true rfl)
  rw [lg_entry_eq]
  generalize (lg_sl ([.ref h0, .int p1]) ++ List.replicate (2 - (lg_sl ([.ref h0, .int p1])).length) Slot.unset).toArray = ls at hl ⊢
  have hl : lv_has ls 2 [(0, .ref h0), (1, .int p1)] := hl
  refine lv_iload_n hx hb dz_L_boxAt_0 rfl (lv_at hl 1 rfl) ?_
  refine lv_iconst (v := 1) hx hb dz_L_boxAt_1 (by decide) ?_
  refine lv_icmp_lt (tgt := 30) hx hb dz_L_boxAt_2 (by decide) (fun c_1 => ?_) (fun c_1 => ?_)
  · refine lv_null hx hb dz_L_boxAt_30 ?_
    exact W.aret (v := .null) hx hb hr (Or.inl ⟨_, rfl⟩) (Or.inl rfl) (fun t ht hW => ⟨none, rfl, by simp only [zl_boxAt, if_pos c_1, Option.map], ht⟩) (fun _ h => by cases h) dz_L_boxAt_31
  · refine lv_iload_n hx hb dz_L_boxAt_5 rfl (lv_at hl 1 rfl) ?_
    refine lv_aload_n hx hb dz_L_boxAt_6 rfl (lv_at hl 0 rfl) ?_
    refine va_get (D := (dC, dI)) (ci := 2) (v := .int (nI (zl_n S))) (C := RzL) (T := TzL) (N := 9) hx hb hz inzL hown hK hP 0 rfl rfl 1 (by decide) (hz _ zi_58) (fun _ h9 => h9) rfl dz_L_boxAt_7 ?_
    refine lv_icmp_gt (tgt := 30) hx hb dz_L_boxAt_10 (by decide) (fun c_2 => ?_) (fun c_2 => ?_)
    · refine lv_null hx hb dz_L_boxAt_30 ?_
      exact W.aret (v := .null) hx hb hr (Or.inl ⟨_, rfl⟩) (Or.inl rfl) (fun t ht hW => ⟨none, rfl, by simp only [zl_boxAt, if_neg c_1, if_pos c_2, Option.map], ht⟩) (fun _ h => by cases h) dz_L_boxAt_31
    · refine lv_iload_n hx hb dz_L_boxAt_13 rfl (lv_at hl 1 rfl) ?_
      refine lv_bipush (v := 60) hx hb dz_L_boxAt_14 (by decide) ?_
      refine lv_icmp_gt (tgt := 30) hx hb dz_L_boxAt_16 (by decide) (fun c_3 => ?_) (fun c_3 => ?_)
      · refine lv_null hx hb dz_L_boxAt_30 ?_
        exact W.aret (v := .null) hx hb hr (Or.inl ⟨_, rfl⟩) (Or.inl rfl) (fun t ht hW => ⟨none, rfl, by simp only [zl_boxAt, if_neg c_1, if_neg c_2, if_pos c_3, Option.map], ht⟩) (fun _ h => by cases h) dz_L_boxAt_31
      · refine lv_aload_n hx hb dz_L_boxAt_19 rfl (lv_at hl 0 rfl) ?_
        refine va_get (D := (dC, dI)) (ci := 2) (v := .ref a.1) (C := RzL) (T := TzL) (N := 9) hx hb hz inzL hown hK hP 0 rfl rfl 0 (by decide) (hz _ zi_57) (fun _ h9 => h9) rfl dz_L_boxAt_20 ?_
        refine lv_iload_n hx hb dz_L_boxAt_23 rfl (lv_at hl 1 rfl) ?_
        refine lv_iconst (v := 1) hx hb dz_L_boxAt_24 (by decide) ?_
        refine lv_isub hx hb dz_L_boxAt_25 ?_
        obtain ⟨hj1, hj2⟩ := zl_idx hok c_1 c_2
        refine va_aldq hx hb hK hP 1 0 rfl rfl hj2 dz_L_boxAt_26 ?_
        refine W.eq (g2 := F0 m 27 ls [.ref (zl_ab a (p1 - 1).toNatClampNeg)]) (by simp only [zl_refs, if_pos hj1, va_rf]) ?_
        refine lv_goto (tgt := 31) hx hb dz_L_boxAt_27 (by decide) ?_
        exact W.aret (v := .ref (zl_ab a (p1 - 1).toNatClampNeg)) hx hb hr (Or.inl ⟨_, rfl⟩) (Or.inr ⟨_, rfl⟩) (fun t ht hW => ⟨some (zl_ab a (p1 - 1).toNatClampNeg), rfl, by simp only [zl_boxAt, if_neg c_1, if_neg c_2, if_neg c_3, Option.map], ht⟩) (fun _ h => by cases h) dz_L_boxAt_31
set_option maxHeartbeats 4000000 in
set_option maxRecDepth 100000 in
theorem ct_L_boxOfItem (l : Launch) (dC : Nat → ClassId) (dI : Nat → Nat → Nat) (cq ci : ClassId) (h0 : Nat) (a : zl_Ad) (S : zl_S) (hok : zl_ok S) (p1 : Int32) : Met l yz_L_boxOfItem wz_L_boxOfItem (zw_room 1 0 0) (zw_R zw_ns (dC, dI) vwCl (zl_tys cq ci) [.ref h0, .int p1] (zl_W cq ci h0 a S)) (va_Sq (fun r => r = Option.map (zl_ab a) (zl_boxOfItem S p1))) 0 0 (fun _ => False) := by
  refine Met.ofW (cc := cz_L_boxOfItem) (maxL := 4) (ret := (some (.object "LockerRows$Box"))) (by decide) rfl ?_
  intro p e s m args below meth c s₁ B hml hv
  obtain ⟨rfl, hP, hK, hN⟩ := hv
  have hx := B.exec
  have hb := B.bytes
  have hr := B.returns
  have hts := atoms_spec (ws := wz_L_boxOfItem) B.pre
  have hz : ∀ w ∈ zw_T, w.before ([.ref h0, .int p1] : List Value).toArray s = true := fun w h => hts w (List.mem_cons_of_mem _ h)
  have hown : s.vm.findClass RzL = some m.cls := findClass_of_methodNamed B.named
  have hlocks := B.notSynchronized
  have hl := lv_entry ([.ref h0, .int p1]) (n := 4) (Nat.le_of_ble_eq_true rfl)
  rw [lg_entry_eq]
  generalize (lg_sl ([.ref h0, .int p1]) ++ List.replicate (4 - (lg_sl ([.ref h0, .int p1])).length) Slot.unset).toArray = ls at hl ⊢
  have hl : lv_has ls 4 [(0, .ref h0), (1, .int p1)] := hl
  refine lv_iconst (v := nI (0 + 1)) hx hb dz_L_boxOfItem_0 (by decide) ?_
  refine lv_istore_n (lv' := [(2, .int (nI (0 + 1))), (0, .ref h0), (1, .int p1)]) hx hb dz_L_boxOfItem_1 rfl hl (by decide) rfl (fun ls hl => ?_)
  have loop : ∀ (k j : Nat) (ls : Array Slot), j + k = zl_n S → zl_fi (zl_B S) p1 (zl_n S) 0 = zl_fi (zl_B S) p1 k j → lv_has ls 4 [(2, .int (nI (j + 1))), (0, .ref h0), (1, .int p1)] → W p l e (headSpec wz_L_boxOfItem (zw_room 1 0 0)).room s m ([.ref h0, .int p1] : List Value).toArray below meth c s.heap [] 0 0 (MQ below (va_Sq (fun r => r = Option.map (zl_ab a) (zl_boxOfItem S p1))) ([.ref h0, .int p1] : List Value).toArray s 0 0 (fun _ => False)) (F0 m 2 ls []) := by
    intro k
    induction k with
    | zero =>
      intro j ls hjk hinv hl
      refine lv_iload_n hx hb dz_L_boxOfItem_2 rfl (lv_at hl 0 rfl) ?_
      refine lv_aload_n hx hb dz_L_boxOfItem_3 rfl (lv_at hl 1 rfl) ?_
      refine va_get (D := (dC, dI)) (ci := 2) (v := .int (nI (zl_n S))) (C := RzL) (T := TzL) (N := 9) hx hb hz inzL hown hK hP 0 rfl rfl 1 (by decide) (hz _ zi_58) (fun _ h9 => h9) rfl dz_L_boxOfItem_4 ?_
      refine lv_icmp_gt (tgt := 36) hx hb dz_L_boxOfItem_7 (by decide) (fun c_1 => ?_) (fun c_1 => ?_)
      · refine lv_null hx hb dz_L_boxOfItem_36 ?_
        exact W.aret (v := .null) hx hb hr (Or.inl ⟨_, rfl⟩) (Or.inl rfl) (fun t ht hW => ⟨none, rfl, by rw [zl_boxOfItem, hinv]; rfl, ht⟩) (fun _ h => by cases h) dz_L_boxOfItem_37
      · exact absurd (nI_lt (by omega) (by have := hok.1; omega)) c_1
    | succ k ih =>
      intro j ls hjk hinv hl
      have hj : j < zl_n S := by omega
      refine lv_iload_n hx hb dz_L_boxOfItem_2 rfl (lv_at hl 0 rfl) ?_
      refine lv_aload_n hx hb dz_L_boxOfItem_3 rfl (lv_at hl 1 rfl) ?_
      refine va_get (D := (dC, dI)) (ci := 2) (v := .int (nI (zl_n S))) (C := RzL) (T := TzL) (N := 9) hx hb hz inzL hown hK hP 0 rfl rfl 1 (by decide) (hz _ zi_58) (fun _ h9 => h9) rfl dz_L_boxOfItem_4 ?_
      refine lv_icmp_gt (tgt := 36) hx hb dz_L_boxOfItem_7 (by decide) (fun c_2 => ?_) (fun c_2 => ?_)
      · exact absurd c_2 (nI_nlt (by omega) (by have := hok.1; omega))
      · refine lv_aload_n hx hb dz_L_boxOfItem_10 rfl (lv_at hl 1 rfl) ?_
        refine lv_iload_n hx hb dz_L_boxOfItem_11 rfl (lv_at hl 0 rfl) ?_
        refine va_csq (va_Run.run (va_runV (As := [.int (nI (j + 1))]) (rest := []) ⟨hx, hb, hml, hown, hz⟩ (ct_L_boxAt l dC dI cq ci h0 a S hok (nI (j + 1))) (cwV 1 hz (zw_gV zi_124 zi_125 zi_3 zi_33 zi_126) rfl rfl rfl (by decide +kernel) ⟨Nat.le_of_ble_eq_true rfl, Nat.le_of_ble_eq_true rfl⟩) (zw_preRV zw_ns_ok hP hK hN (ci := 2) rfl (k := 0) rfl) rfl rfl hl.1 rfl (lv_room (Nat.le_of_ble_eq_true rfl)) dz_L_boxOfItem_12 ⟨Nat.le_of_ble_eq_true rfl, Nat.le_of_ble_eq_true rfl⟩)) (fun r_3 hr_3 => ?_)
        have hr_3 : r_3 = Option.map (zl_ab a) (zl_boxAt S (nI (j + 1))) := hr_3
        rw [zl_boxAt_nI hok hj] at hr_3
        subst hr_3
        refine W.eq (g2 := F0 m 15 ls [.ref (zl_ab a j)]) rfl ?_
        refine lv_astore_n (lv' := [(3, .ref (zl_ab a j)), (2, .int (nI (j + 1))), (0, .ref h0), (1, .int p1)]) hx hb dz_L_boxOfItem_15 rfl hl (by decide) rfl (fun ls hl => ?_)
        refine lv_aload_n hx hb dz_L_boxOfItem_16 rfl (lv_at hl 0 rfl) ?_
        refine lv_ifnull hx hb dz_L_boxOfItem_17 ?_
        refine lv_aload_n hx hb dz_L_boxOfItem_20 rfl (lv_at hl 0 rfl) ?_
        refine va_getN (D := (dC, dI)) (ci := 0) (v := .int (zb_It (zl_B S j))) (C := RzB) (T := TzB) (N := 9) hx hb hz inzB hown hK hP (j + 5) (zl_box hj) rfl 4 (by decide) (va_Nw.use rfl (hN _ zn_5)) (fun _ h9 => h9) rfl dz_L_boxOfItem_21 ?_
        refine lv_iload_n hx hb dz_L_boxOfItem_24 rfl (lv_at hl 3 rfl) ?_
        refine lv_icmp_ne (tgt := 30) hx hb dz_L_boxOfItem_25 (by decide) (fun c_4 => ?_) (fun c_4 => ?_)
        · refine lv_iinc (v := nI (j + 1 + 1)) (lv' := [(2, .int (nI (j + 1 + 1))), (3, .ref (zl_ab a j)), (0, .ref h0), (1, .int p1)]) hx hb dz_L_boxOfItem_30 hl (k := 1) rfl (nI_1 _) (by decide) rfl (fun ls hl => ?_)
          refine lv_goto (tgt := 2) hx hb dz_L_boxOfItem_33 (by decide) ?_
          exact ih (j + 1) ls (by omega) (by rw [hinv]; simp only [zl_fi, if_neg c_4]) (lv_sub hl [0, 2, 3] rfl)
        · refine lv_aload_n hx hb dz_L_boxOfItem_28 rfl (lv_at hl 0 rfl) ?_
          exact W.aret (v := .ref (zl_ab a j)) hx hb hr (Or.inl ⟨_, rfl⟩) (Or.inr ⟨_, rfl⟩) (fun t ht hW => ⟨some (zl_ab a j), rfl, by rw [zl_boxOfItem, hinv]; simp only [zl_fi, if_pos c_4]; rfl, ht⟩) (fun _ h => by cases h) dz_L_boxOfItem_29
  exact loop (zl_n S) 0 ls (by omega) rfl (lv_sub hl [0, 1, 2] rfl)
set_option maxHeartbeats 4000000 in
set_option maxRecDepth 100000 in
theorem ct_L_boxNumberOfCode (l : Launch) (dC : Nat → ClassId) (dI : Nat → Nat → Nat) (cq ci : ClassId) (h0 : Nat) (a : zl_Ad) (S : zl_S) (hok : zl_ok S) (p1 : Int32) : Met l yz_L_boxNumberOfCode wz_L_boxNumberOfCode (zw_room 1 0 0) (zw_R zw_ns (dC, dI) vwCl (zl_tys cq ci) [.ref h0, .int p1] (zl_W cq ci h0 a S)) (vp_Si (fun r => r = zl_boxNumberOfCode S p1)) 0 0 (fun _ => False) := by
  refine Met.ofW (cc := cz_L_boxNumberOfCode) (maxL := 4) (ret := (some .int)) (by decide) rfl ?_
  intro p e s m args below meth c s₁ B hml hv
  obtain ⟨rfl, hP, hK, hN⟩ := hv
  have hx := B.exec
  have hb := B.bytes
  have hr := B.returns
  have hts := atoms_spec (ws := wz_L_boxNumberOfCode) B.pre
  have hz : ∀ w ∈ zw_T, w.before ([.ref h0, .int p1] : List Value).toArray s = true := fun w h => hts w (List.mem_cons_of_mem _ h)
  have hown : s.vm.findClass RzL = some m.cls := findClass_of_methodNamed B.named
  have hlocks := B.notSynchronized
  have hl := lv_entry ([.ref h0, .int p1]) (n := 4) (Nat.le_of_ble_eq_true rfl)
  rw [lg_entry_eq]
  generalize (lg_sl ([.ref h0, .int p1]) ++ List.replicate (4 - (lg_sl ([.ref h0, .int p1])).length) Slot.unset).toArray = ls at hl ⊢
  have hl : lv_has ls 4 [(0, .ref h0), (1, .int p1)] := hl
  refine lv_iconst (v := nI (0 + 1)) hx hb dz_L_boxNumberOfCode_0 (by decide) ?_
  refine lv_istore_n (lv' := [(2, .int (nI (0 + 1))), (0, .ref h0), (1, .int p1)]) hx hb dz_L_boxNumberOfCode_1 rfl hl (by decide) rfl (fun ls hl => ?_)
  have loop : ∀ (k j : Nat) (ls : Array Slot), j + k = zl_n S → zl_nc (zl_B S) p1 (zl_n S) 0 = zl_nc (zl_B S) p1 k j → lv_has ls 4 [(2, .int (nI (j + 1))), (0, .ref h0), (1, .int p1)] → W p l e (headSpec wz_L_boxNumberOfCode (zw_room 1 0 0)).room s m ([.ref h0, .int p1] : List Value).toArray below meth c s.heap [] 0 0 (MQ below (vp_Si (fun r => r = zl_boxNumberOfCode S p1)) ([.ref h0, .int p1] : List Value).toArray s 0 0 (fun _ => False)) (F0 m 2 ls []) := by
    intro k
    induction k with
    | zero =>
      intro j ls hjk hinv hl
      refine lv_iload_n hx hb dz_L_boxNumberOfCode_2 rfl (lv_at hl 0 rfl) ?_
      refine lv_aload_n hx hb dz_L_boxNumberOfCode_3 rfl (lv_at hl 1 rfl) ?_
      refine va_get (D := (dC, dI)) (ci := 2) (v := .int (nI (zl_n S))) (C := RzL) (T := TzL) (N := 9) hx hb hz inzL hown hK hP 0 rfl rfl 1 (by decide) (hz _ zi_58) (fun _ h9 => h9) rfl dz_L_boxNumberOfCode_4 ?_
      refine lv_icmp_gt (tgt := 43) hx hb dz_L_boxNumberOfCode_7 (by decide) (fun c_1 => ?_) (fun c_1 => ?_)
      · refine lv_iconst (v := 0) hx hb dz_L_boxNumberOfCode_43 (by decide) ?_
        exact W.iret (v := 0) hx hb hr (fun t ht hW => ⟨_, rfl, by rw [zl_boxNumberOfCode, hinv]; rfl, ht⟩) (fun _ h => by cases h) dz_L_boxNumberOfCode_44
      · exact absurd (nI_lt (by omega) (by have := hok.1; omega)) c_1
    | succ k ih =>
      intro j ls hjk hinv hl
      have hj : j < zl_n S := by omega
      refine lv_iload_n hx hb dz_L_boxNumberOfCode_2 rfl (lv_at hl 0 rfl) ?_
      refine lv_aload_n hx hb dz_L_boxNumberOfCode_3 rfl (lv_at hl 1 rfl) ?_
      refine va_get (D := (dC, dI)) (ci := 2) (v := .int (nI (zl_n S))) (C := RzL) (T := TzL) (N := 9) hx hb hz inzL hown hK hP 0 rfl rfl 1 (by decide) (hz _ zi_58) (fun _ h9 => h9) rfl dz_L_boxNumberOfCode_4 ?_
      refine lv_icmp_gt (tgt := 43) hx hb dz_L_boxNumberOfCode_7 (by decide) (fun c_2 => ?_) (fun c_2 => ?_)
      · exact absurd c_2 (nI_nlt (by omega) (by have := hok.1; omega))
      · refine lv_aload_n hx hb dz_L_boxNumberOfCode_10 rfl (lv_at hl 1 rfl) ?_
        refine lv_iload_n hx hb dz_L_boxNumberOfCode_11 rfl (lv_at hl 0 rfl) ?_
        refine va_csq (va_Run.run (va_runV (As := [.int (nI (j + 1))]) (rest := []) ⟨hx, hb, hml, hown, hz⟩ (ct_L_boxAt l dC dI cq ci h0 a S hok (nI (j + 1))) (cwV 1 hz (zw_gV zi_124 zi_125 zi_3 zi_33 zi_126) rfl rfl rfl (by decide +kernel) ⟨Nat.le_of_ble_eq_true rfl, Nat.le_of_ble_eq_true rfl⟩) (zw_preRV zw_ns_ok hP hK hN (ci := 2) rfl (k := 0) rfl) rfl rfl hl.1 rfl (lv_room (Nat.le_of_ble_eq_true rfl)) dz_L_boxNumberOfCode_12 ⟨Nat.le_of_ble_eq_true rfl, Nat.le_of_ble_eq_true rfl⟩)) (fun r_3 hr_3 => ?_)
        have hr_3 : r_3 = Option.map (zl_ab a) (zl_boxAt S (nI (j + 1))) := hr_3
        rw [zl_boxAt_nI hok hj] at hr_3
        subst hr_3
        refine W.eq (g2 := F0 m 15 ls [.ref (zl_ab a j)]) rfl ?_
        refine lv_astore_n (lv' := [(3, .ref (zl_ab a j)), (2, .int (nI (j + 1))), (0, .ref h0), (1, .int p1)]) hx hb dz_L_boxNumberOfCode_15 rfl hl (by decide) rfl (fun ls hl => ?_)
        refine lv_aload_n hx hb dz_L_boxNumberOfCode_16 rfl (lv_at hl 0 rfl) ?_
        refine lv_ifnull hx hb dz_L_boxNumberOfCode_17 ?_
        refine lv_aload_n hx hb dz_L_boxNumberOfCode_20 rfl (lv_at hl 0 rfl) ?_
        refine vp_callSi (va_Run.run (va_runVN (As := []) (rest := []) ⟨hx, hb, hml, hown, hz⟩ (ct_B_lies l dC dI cq ci (zl_ab a j) (zl_B S j)) ⟨va_cnB 0 hz (zw_g1 zi_158) rfl rfl rfl (hN _ zn_18) (hz _ zi_36) (by decide +kernel) ⟨Nat.le_of_ble_eq_true rfl, Nat.le_of_ble_eq_true rfl⟩, hz _ zi_157, hz _ zi_12⟩ (zw_preRV zw_ns_ok (show va_P (dC, dI) vwCl (zb_W (zl_ab a j) (zl_B S j)) s.heap from zw_P1 hP (zl_box hj)) hK hN (ci := 0) rfl (k := 0) rfl) rfl rfl hl.1 rfl (lv_room (Nat.le_of_ble_eq_true rfl)) dz_L_boxNumberOfCode_21 ⟨Nat.le_of_ble_eq_true rfl, Nat.le_of_ble_eq_true rfl⟩)) (fun r_4 hr_4 => ?_)
        have hr_4 : r_4 = zb_lies (zl_B S j) := hr_4
        subst hr_4
        refine lv_if_eq (tgt := 37) hx hb dz_L_boxNumberOfCode_24 (by decide) (fun c_5 => ?_) (fun c_5 => ?_)
        · refine lv_iinc (v := nI (j + 1 + 1)) (lv' := [(2, .int (nI (j + 1 + 1))), (3, .ref (zl_ab a j)), (0, .ref h0), (1, .int p1)]) hx hb dz_L_boxNumberOfCode_37 hl (k := 1) rfl (nI_1 _) (by decide) rfl (fun ls hl => ?_)
          refine lv_goto (tgt := 2) hx hb dz_L_boxNumberOfCode_40 (by decide) ?_
          exact ih (j + 1) ls (by omega) (by rw [hinv]; simp only [zl_nc, if_pos c_5]) (lv_sub hl [0, 2, 3] rfl)
        · refine lv_aload_n hx hb dz_L_boxNumberOfCode_27 rfl (lv_at hl 0 rfl) ?_
          refine va_getN (D := (dC, dI)) (ci := 0) (v := .int (zb_Co (zl_B S j))) (C := RzB) (T := TzB) (N := 9) hx hb hz inzB hown hK hP (j + 5) (zl_box hj) rfl 5 (by decide) (va_Nw.use rfl (hN _ zn_6)) (fun _ h9 => h9) rfl dz_L_boxNumberOfCode_28 ?_
          refine lv_iload_n hx hb dz_L_boxNumberOfCode_31 rfl (lv_at hl 3 rfl) ?_
          refine lv_icmp_ne (tgt := 37) hx hb dz_L_boxNumberOfCode_32 (by decide) (fun c_6 => ?_) (fun c_6 => ?_)
          · refine lv_iinc (v := nI (j + 1 + 1)) (lv' := [(2, .int (nI (j + 1 + 1))), (3, .ref (zl_ab a j)), (0, .ref h0), (1, .int p1)]) hx hb dz_L_boxNumberOfCode_37 hl (k := 1) rfl (nI_1 _) (by decide) rfl (fun ls hl => ?_)
            refine lv_goto (tgt := 2) hx hb dz_L_boxNumberOfCode_40 (by decide) ?_
            exact ih (j + 1) ls (by omega) (by rw [hinv]; simp only [zl_nc, if_neg c_5, if_neg c_6]) (lv_sub hl [0, 2, 3] rfl)
          · refine lv_iload_n hx hb dz_L_boxNumberOfCode_35 rfl (lv_at hl 1 rfl) ?_
            exact W.iret (v := nI (j + 1)) hx hb hr (fun t ht hW => ⟨_, rfl, by rw [zl_boxNumberOfCode, hinv]; simp only [zl_nc, if_neg c_5, if_pos c_6], ht⟩) (fun _ h => by cases h) dz_L_boxNumberOfCode_36
  exact loop (zl_n S) 0 ls (by omega) rfl (lv_sub hl [0, 1, 2] rfl)
set_option maxHeartbeats 4000000 in
set_option maxRecDepth 100000 in
theorem ct_L_smallestUnused (l : Launch) (dC : Nat → ClassId) (dI : Nat → Nat → Nat) (cq ci : ClassId) (h0 : Nat) (a : zl_Ad) (S : zl_S) (hok : zl_ok S) (p1 : Int32) : Met l yz_L_smallestUnused wz_L_smallestUnused (zw_room 2 0 0) (zw_R zw_ns (dC, dI) vwCl (zl_tys cq ci) [.ref h0, .int p1] (zl_W cq ci h0 a S)) (vp_Si (fun r => r = zl_smallest S p1)) 0 0 (fun _ => False) := by
  refine Met.ofW (cc := cz_L_smallestUnused) (maxL := 6) (ret := (some .int)) (by decide) rfl ?_
  intro p e s m args below meth c s₁ B hml hv
  obtain ⟨rfl, hP, hK, hN⟩ := hv
  have hx := B.exec
  have hb := B.bytes
  have hr := B.returns
  have hts := atoms_spec (ws := wz_L_smallestUnused) B.pre
  have hz : ∀ w ∈ zw_T, w.before ([.ref h0, .int p1] : List Value).toArray s = true := fun w h => hts w (List.mem_cons_of_mem _ h)
  have hown : s.vm.findClass RzL = some m.cls := findClass_of_methodNamed B.named
  have hlocks := B.notSynchronized
  have hl := lv_entry ([.ref h0, .int p1]) (n := 6) (Nat.le_of_ble_eq_true rfl)
  rw [lg_entry_eq]
  generalize (lg_sl ([.ref h0, .int p1]) ++ List.replicate (6 - (lg_sl ([.ref h0, .int p1])).length) Slot.unset).toArray = ls at hl ⊢
  have hl : lv_has ls 6 [(0, .ref h0), (1, .int p1)] := hl
  refine lv_iconst (v := 0) hx hb dz_L_smallestUnused_0 (by decide) ?_
  refine lv_istore_n (lv' := [(2, .int 0), (0, .ref h0), (1, .int p1)]) hx hb dz_L_smallestUnused_1 rfl hl (by decide) rfl (fun ls hl => ?_)
  refine lv_bipush (v := 6) hx hb dz_L_smallestUnused_2 (by decide) ?_
  refine lv_istore_n (lv' := [(3, .int 6), (2, .int 0), (0, .ref h0), (1, .int p1)]) hx hb dz_L_smallestUnused_4 rfl hl (by decide) rfl (fun ls hl => ?_)
  refine lv_iconst (v := nI (0 + 1)) hx hb dz_L_smallestUnused_5 (by decide) ?_
  refine lv_istore (lv' := [(4, .int (nI (0 + 1))), (3, .int 6), (2, .int 0), (0, .ref h0), (1, .int p1)]) hx hb dz_L_smallestUnused_6 hl (by decide) rfl (fun ls hl => ?_)
  have loop : ∀ (k j : Nat) (bb zb : Int32) (ls : Array Slot), j + k = zl_n S → zl_su (zl_B S) p1 (zl_n S) 0 0 6 = zl_su (zl_B S) p1 k j bb zb → lv_has ls 6 [(4, .int (nI (j + 1))), (3, .int zb), (2, .int bb), (0, .ref h0), (1, .int p1)] → W p l e (headSpec wz_L_smallestUnused (zw_room 2 0 0)).room s m ([.ref h0, .int p1] : List Value).toArray below meth c s.heap [] 0 0 (MQ below (vp_Si (fun r => r = zl_smallest S p1)) ([.ref h0, .int p1] : List Value).toArray s 0 0 (fun _ => False)) (F0 m 8 ls []) := by
    intro k
    induction k with
    | zero =>
      intro j bb zb ls hjk hinv hl
      refine lv_iload hx hb dz_L_smallestUnused_8 (lv_at hl 0 rfl) ?_
      refine lv_aload_n hx hb dz_L_smallestUnused_10 rfl (lv_at hl 3 rfl) ?_
      refine va_get (D := (dC, dI)) (ci := 2) (v := .int (nI (zl_n S))) (C := RzL) (T := TzL) (N := 9) hx hb hz inzL hown hK hP 0 rfl rfl 1 (by decide) (hz _ zi_58) (fun _ h9 => h9) rfl dz_L_smallestUnused_11 ?_
      refine lv_icmp_gt (tgt := 71) hx hb dz_L_smallestUnused_14 (by decide) (fun c_1 => ?_) (fun c_1 => ?_)
      · refine lv_iload_n hx hb dz_L_smallestUnused_71 rfl (lv_at hl 2 rfl) ?_
        exact W.iret (v := bb) hx hb hr (fun t ht hW => ⟨_, rfl, by rw [zl_smallest, hinv]; rfl, ht⟩) (fun _ h => by cases h) dz_L_smallestUnused_72
      · exact absurd (nI_lt (by omega) (by have := hok.1; omega)) c_1
    | succ k ih =>
      intro j bb zb ls hjk hinv hl
      have hj : j < zl_n S := by omega
      refine lv_iload hx hb dz_L_smallestUnused_8 (lv_at hl 0 rfl) ?_
      refine lv_aload_n hx hb dz_L_smallestUnused_10 rfl (lv_at hl 3 rfl) ?_
      refine va_get (D := (dC, dI)) (ci := 2) (v := .int (nI (zl_n S))) (C := RzL) (T := TzL) (N := 9) hx hb hz inzL hown hK hP 0 rfl rfl 1 (by decide) (hz _ zi_58) (fun _ h9 => h9) rfl dz_L_smallestUnused_11 ?_
      refine lv_icmp_gt (tgt := 71) hx hb dz_L_smallestUnused_14 (by decide) (fun c_2 => ?_) (fun c_2 => ?_)
      · exact absurd c_2 (nI_nlt (by omega) (by have := hok.1; omega))
      · refine lv_aload_n hx hb dz_L_smallestUnused_17 rfl (lv_at hl 3 rfl) ?_
        refine lv_iload hx hb dz_L_smallestUnused_18 (lv_at hl 0 rfl) ?_
        refine va_csq (va_Run.run (va_runV (As := [.int (nI (j + 1))]) (rest := []) ⟨hx, hb, hml, hown, hz⟩ (ct_L_boxAt l dC dI cq ci h0 a S hok (nI (j + 1))) (cwV 1 hz (zw_gV zi_124 zi_125 zi_3 zi_33 zi_126) rfl rfl rfl (by decide +kernel) ⟨Nat.le_of_ble_eq_true rfl, Nat.le_of_ble_eq_true rfl⟩) (zw_preRV zw_ns_ok hP hK hN (ci := 2) rfl (k := 0) rfl) rfl rfl hl.1 rfl (lv_room (Nat.le_of_ble_eq_true rfl)) dz_L_smallestUnused_20 ⟨Nat.le_of_ble_eq_true rfl, Nat.le_of_ble_eq_true rfl⟩)) (fun r_3 hr_3 => ?_)
        have hr_3 : r_3 = Option.map (zl_ab a) (zl_boxAt S (nI (j + 1))) := hr_3
        rw [zl_boxAt_nI hok hj] at hr_3
        subst hr_3
        refine W.eq (g2 := F0 m 23 ls [.ref (zl_ab a j)]) rfl ?_
        refine lv_astore (lv' := [(5, .ref (zl_ab a j)), (4, .int (nI (j + 1))), (3, .int zb), (2, .int bb), (0, .ref h0), (1, .int p1)]) hx hb dz_L_smallestUnused_23 hl (by decide) rfl (fun ls hl => ?_)
        refine lv_aload hx hb dz_L_smallestUnused_25 (lv_at hl 0 rfl) ?_
        refine lv_ifnull hx hb dz_L_smallestUnused_27 ?_
        refine lv_aload hx hb dz_L_smallestUnused_30 (lv_at hl 0 rfl) ?_
        refine vp_callSi (va_Run.run (va_runVN (As := []) (rest := []) ⟨hx, hb, hml, hown, hz⟩ (ct_B_isUnused l dC dI cq ci (zl_ab a j) (zl_B S j)) ⟨va_cnB 0 hz (zw_g1 zi_128) rfl rfl rfl (hN _ zn_11) (hz _ zi_36) (by decide +kernel) ⟨Nat.le_of_ble_eq_true rfl, Nat.le_of_ble_eq_true rfl⟩, hz _ zi_127, hz _ zi_4⟩ (zw_preRV zw_ns_ok (show va_P (dC, dI) vwCl (zb_W (zl_ab a j) (zl_B S j)) s.heap from zw_P1 hP (zl_box hj)) hK hN (ci := 0) rfl (k := 0) rfl) rfl rfl hl.1 rfl (lv_room (Nat.le_of_ble_eq_true rfl)) dz_L_smallestUnused_32 ⟨Nat.le_of_ble_eq_true rfl, Nat.le_of_ble_eq_true rfl⟩)) (fun r_4 hr_4 => ?_)
        have hr_4 : r_4 = zb_isUnused (zl_B S j) := hr_4
        subst hr_4
        refine lv_if_eq (tgt := 65) hx hb dz_L_smallestUnused_35 (by decide) (fun c_5 => ?_) (fun c_5 => ?_)
        · refine lv_iinc (v := nI (j + 1 + 1)) (lv' := [(4, .int (nI (j + 1 + 1))), (5, .ref (zl_ab a j)), (3, .int zb), (2, .int bb), (0, .ref h0), (1, .int p1)]) hx hb dz_L_smallestUnused_65 hl (k := 1) rfl (nI_1 _) (by decide) rfl (fun ls hl => ?_)
          refine lv_goto (tgt := 8) hx hb dz_L_smallestUnused_68 (by decide) ?_
          exact ih (j + 1) bb zb ls (by omega) (by rw [hinv]; simp only [zl_su, if_pos c_5]) (lv_sub hl [0, 2, 3, 4, 5] rfl)
        · refine lv_aload hx hb dz_L_smallestUnused_38 (lv_at hl 0 rfl) ?_
          refine va_getN (D := (dC, dI)) (ci := 0) (v := .int (zb_Sz (zl_B S j))) (C := RzB) (T := TzB) (N := 9) hx hb hz inzB hown hK hP (j + 5) (zl_box hj) rfl 0 (by decide) (va_Nw.use rfl (hN _ zn_3)) (fun _ h9 => h9) rfl dz_L_smallestUnused_40 ?_
          refine lv_iload_n hx hb dz_L_smallestUnused_43 rfl (lv_at hl 5 rfl) ?_
          refine lv_icmp_lt (tgt := 65) hx hb dz_L_smallestUnused_44 (by decide) (fun c_6 => ?_) (fun c_6 => ?_)
          · refine lv_iinc (v := nI (j + 1 + 1)) (lv' := [(4, .int (nI (j + 1 + 1))), (5, .ref (zl_ab a j)), (3, .int zb), (2, .int bb), (0, .ref h0), (1, .int p1)]) hx hb dz_L_smallestUnused_65 hl (k := 1) rfl (nI_1 _) (by decide) rfl (fun ls hl => ?_)
            refine lv_goto (tgt := 8) hx hb dz_L_smallestUnused_68 (by decide) ?_
            exact ih (j + 1) bb zb ls (by omega) (by rw [hinv]; simp only [zl_su, if_neg c_5, if_pos c_6]) (lv_sub hl [0, 2, 3, 4, 5] rfl)
          · refine lv_aload hx hb dz_L_smallestUnused_47 (lv_at hl 0 rfl) ?_
            refine va_getN (D := (dC, dI)) (ci := 0) (v := .int (zb_Sz (zl_B S j))) (C := RzB) (T := TzB) (N := 9) hx hb hz inzB hown hK hP (j + 5) (zl_box hj) rfl 0 (by decide) (va_Nw.use rfl (hN _ zn_3)) (fun _ h9 => h9) rfl dz_L_smallestUnused_49 ?_
            refine lv_iload_n hx hb dz_L_smallestUnused_52 rfl (lv_at hl 2 rfl) ?_
            refine lv_icmp_ge (tgt := 65) hx hb dz_L_smallestUnused_53 (by decide) (fun c_7 => ?_) (fun c_7 => ?_)
            · refine lv_iinc (v := nI (j + 1 + 1)) (lv' := [(4, .int (nI (j + 1 + 1))), (5, .ref (zl_ab a j)), (3, .int zb), (2, .int bb), (0, .ref h0), (1, .int p1)]) hx hb dz_L_smallestUnused_65 hl (k := 1) rfl (nI_1 _) (by decide) rfl (fun ls hl => ?_)
              refine lv_goto (tgt := 8) hx hb dz_L_smallestUnused_68 (by decide) ?_
              exact ih (j + 1) bb zb ls (by omega) (by rw [hinv]; simp only [zl_su, if_neg c_5, if_neg c_6, if_pos c_7]) (lv_sub hl [0, 2, 3, 4, 5] rfl)
            · refine lv_iload hx hb dz_L_smallestUnused_56 (lv_at hl 1 rfl) ?_
              refine lv_istore_n (lv' := [(2, .int (nI (j + 1))), (5, .ref (zl_ab a j)), (4, .int (nI (j + 1))), (3, .int zb), (0, .ref h0), (1, .int p1)]) hx hb dz_L_smallestUnused_58 rfl hl (by decide) rfl (fun ls hl => ?_)
              refine lv_aload hx hb dz_L_smallestUnused_59 (lv_at hl 1 rfl) ?_
              refine va_getN (D := (dC, dI)) (ci := 0) (v := .int (zb_Sz (zl_B S j))) (C := RzB) (T := TzB) (N := 9) hx hb hz inzB hown hK hP (j + 5) (zl_box hj) rfl 0 (by decide) (va_Nw.use rfl (hN _ zn_3)) (fun _ h9 => h9) rfl dz_L_smallestUnused_61 ?_
              refine lv_istore_n (lv' := [(3, .int (zb_Sz (zl_B S j))), (2, .int (nI (j + 1))), (5, .ref (zl_ab a j)), (4, .int (nI (j + 1))), (0, .ref h0), (1, .int p1)]) hx hb dz_L_smallestUnused_64 rfl hl (by decide) rfl (fun ls hl => ?_)
              refine lv_iinc (v := nI (j + 1 + 1)) (lv' := [(4, .int (nI (j + 1 + 1))), (3, .int (zb_Sz (zl_B S j))), (2, .int (nI (j + 1))), (5, .ref (zl_ab a j)), (0, .ref h0), (1, .int p1)]) hx hb dz_L_smallestUnused_65 hl (k := 3) rfl (nI_1 _) (by decide) rfl (fun ls hl => ?_)
              refine lv_goto (tgt := 8) hx hb dz_L_smallestUnused_68 (by decide) ?_
              exact ih (j + 1) (nI (j + 1)) (zb_Sz (zl_B S j)) ls (by omega) (by rw [hinv]; simp only [zl_su, if_neg c_5, if_neg c_6, if_neg c_7]) (lv_sub hl [0, 1, 2, 4, 5] rfl)
  exact loop (zl_n S) 0 0 6 ls (by omega) rfl (lv_sub hl [0, 1, 2, 3, 4] rfl)

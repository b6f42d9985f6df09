set_option maxHeartbeats 4000000 in
set_option maxRecDepth 100000 in
theorem ct_L_isSize (l : Launch) (dC : Nat → ClassId) (dI : Nat → Nat → Nat) (cq ci : ClassId) (p1 : Int32) : Met l yz_L_isSize wz_L_isSize (zw_room 0 0 0) (zw_R zw_ns (dC, dI) vwCl (zl_tys cq ci) [.int p1] []) (vp_Si (fun r => r = zl_isSize p1)) 0 0 (fun _ => False) := by
  refine Met.ofW (cc := cz_L_isSize) (maxL := 1) (ret := (some .boolean)) (by decide) rfl ?_
  intro p e s m args below meth c s₁ B hml hv
  obtain ⟨rfl, hP, hK, hN⟩ := hv
  have hx := B.exec
  have hb := B.bytes
  have hr := B.returns
  have hts := atoms_spec (ws := wz_L_isSize) B.pre
  have hz : ∀ w ∈ zw_T, w.before ([.int p1] : List Value).toArray s = true := fun w h => hts w (List.mem_cons_of_mem _ h)
  have hown : s.vm.findClass RzL = some m.cls := findClass_of_methodNamed B.named
  have hlocks := B.notSynchronized
  have hl := lv_entry ([.int p1]) (n := 1) (Nat.le_of_ble_eq_true rfl)
  rw [lg_entry_eq]
  generalize (lg_sl ([.int p1]) ++ List.replicate (1 - (lg_sl ([.int p1])).length) Slot.unset).toArray = ls at hl ⊢
  have hl : lv_has ls 1 [(0, .int p1)] := hl
  refine lv_iload_n hx hb dz_L_isSize_0 rfl (lv_at hl 0 rfl) ?_
  refine lv_iconst (v := 1) hx hb dz_L_isSize_1 (by decide) ?_
  refine lv_icmp_lt (tgt := 14) hx hb dz_L_isSize_2 (by decide) (fun c_1 => ?_) (fun c_1 => ?_)
  · refine lv_iconst (v := 0) hx hb dz_L_isSize_14 (by decide) ?_
    exact W.zret (v := 0) (ty := .boolean) hx hb hr rfl (fun t ht hW => ⟨_, rfl, by simp only [zl_isSize, if_pos c_1], ht⟩) (fun _ h => by cases h) dz_L_isSize_15
  · refine lv_iload_n hx hb dz_L_isSize_5 rfl (lv_at hl 0 rfl) ?_
    refine lv_iconst (v := 5) hx hb dz_L_isSize_6 (by decide) ?_
    refine lv_icmp_gt (tgt := 14) hx hb dz_L_isSize_7 (by decide) (fun c_2 => ?_) (fun c_2 => ?_)
    · refine lv_iconst (v := 0) hx hb dz_L_isSize_14 (by decide) ?_
      exact W.zret (v := 0) (ty := .boolean) hx hb hr rfl (fun t ht hW => ⟨_, rfl, by simp only [zl_isSize, if_neg c_1, if_pos c_2], ht⟩) (fun _ h => by cases h) dz_L_isSize_15
    · refine lv_iconst (v := 1) hx hb dz_L_isSize_10 (by decide) ?_
      refine lv_goto (tgt := 15) hx hb dz_L_isSize_11 (by decide) ?_
      exact W.zret (v := 1) (ty := .boolean) hx hb hr rfl (fun t ht hW => ⟨_, rfl, by simp only [zl_isSize, if_neg c_1, if_neg c_2], ht⟩) (fun _ h => by cases h) dz_L_isSize_15
set_option maxHeartbeats 4000000 in
set_option maxRecDepth 100000 in
theorem ct_L_isItem (l : Launch) (dC : Nat → ClassId) (dI : Nat → Nat → Nat) (cq ci : ClassId) (p1 : Int32) : Met l yz_L_isItem wz_L_isItem (zw_room 0 0 0) (zw_R zw_ns (dC, dI) vwCl (zl_tys cq ci) [.int p1] []) (vp_Si (fun r => r = zl_isItem p1)) 0 0 (fun _ => False) := by
  refine Met.ofW (cc := cz_L_isItem) (maxL := 1) (ret := (some .boolean)) (by decide) rfl ?_
  intro p e s m args below meth c s₁ B hml hv
  obtain ⟨rfl, hP, hK, hN⟩ := hv
  have hx := B.exec
  have hb := B.bytes
  have hr := B.returns
  have hts := atoms_spec (ws := wz_L_isItem) B.pre
  have hz : ∀ w ∈ zw_T, w.before ([.int p1] : List Value).toArray s = true := fun w h => hts w (List.mem_cons_of_mem _ h)
  have hown : s.vm.findClass RzL = some m.cls := findClass_of_methodNamed B.named
  have hlocks := B.notSynchronized
  have hl := lv_entry ([.int p1]) (n := 1) (Nat.le_of_ble_eq_true rfl)
  rw [lg_entry_eq]
  generalize (lg_sl ([.int p1]) ++ List.replicate (1 - (lg_sl ([.int p1])).length) Slot.unset).toArray = ls at hl ⊢
  have hl : lv_has ls 1 [(0, .int p1)] := hl
  refine lv_iload_n hx hb dz_L_isItem_0 rfl (lv_at hl 0 rfl) ?_
  refine lv_iconst (v := 1) hx hb dz_L_isItem_1 (by decide) ?_
  refine lv_icmp_lt (tgt := 16) hx hb dz_L_isItem_2 (by decide) (fun c_1 => ?_) (fun c_1 => ?_)
  · refine lv_iconst (v := 0) hx hb dz_L_isItem_16 (by decide) ?_
    exact W.zret (v := 0) (ty := .boolean) hx hb hr rfl (fun t ht hW => ⟨_, rfl, by simp only [zl_isItem, if_pos c_1], ht⟩) (fun _ h => by cases h) dz_L_isItem_17
  · refine lv_iload_n hx hb dz_L_isItem_5 rfl (lv_at hl 0 rfl) ?_
    refine lv_sipush (v := 9999) hx hb dz_L_isItem_6 (by decide) ?_
    refine lv_icmp_gt (tgt := 16) hx hb dz_L_isItem_9 (by decide) (fun c_2 => ?_) (fun c_2 => ?_)
    · refine lv_iconst (v := 0) hx hb dz_L_isItem_16 (by decide) ?_
      exact W.zret (v := 0) (ty := .boolean) hx hb hr rfl (fun t ht hW => ⟨_, rfl, by simp only [zl_isItem, if_neg c_1, if_pos c_2], ht⟩) (fun _ h => by cases h) dz_L_isItem_17
    · refine lv_iconst (v := 1) hx hb dz_L_isItem_12 (by decide) ?_
      refine lv_goto (tgt := 17) hx hb dz_L_isItem_13 (by decide) ?_
      exact W.zret (v := 1) (ty := .boolean) hx hb hr rfl (fun t ht hW => ⟨_, rfl, by simp only [zl_isItem, if_neg c_1, if_neg c_2], ht⟩) (fun _ h => by cases h) dz_L_isItem_17
set_option maxHeartbeats 4000000 in
set_option maxRecDepth 100000 in
theorem ct_L_isCode (l : Launch) (dC : Nat → ClassId) (dI : Nat → Nat → Nat) (cq ci : ClassId) (p1 : Int32) : Met l yz_L_isCode wz_L_isCode (zw_room 0 0 0) (zw_R zw_ns (dC, dI) vwCl (zl_tys cq ci) [.int p1] []) (vp_Si (fun r => r = zl_isCode p1)) 0 0 (fun _ => False) := by
  refine Met.ofW (cc := cz_L_isCode) (maxL := 1) (ret := (some .boolean)) (by decide) rfl ?_
  intro p e s m args below meth c s₁ B hml hv
  obtain ⟨rfl, hP, hK, hN⟩ := hv
  have hx := B.exec
  have hb := B.bytes
  have hr := B.returns
  have hts := atoms_spec (ws := wz_L_isCode) B.pre
  have hz : ∀ w ∈ zw_T, w.before ([.int p1] : List Value).toArray s = true := fun w h => hts w (List.mem_cons_of_mem _ h)
  have hown : s.vm.findClass RzL = some m.cls := findClass_of_methodNamed B.named
  have hlocks := B.notSynchronized
  have hl := lv_entry ([.int p1]) (n := 1) (Nat.le_of_ble_eq_true rfl)
  rw [lg_entry_eq]
  generalize (lg_sl ([.int p1]) ++ List.replicate (1 - (lg_sl ([.int p1])).length) Slot.unset).toArray = ls at hl ⊢
  have hl : lv_has ls 1 [(0, .int p1)] := hl
  refine lv_iload_n hx hb dz_L_isCode_0 rfl (lv_at hl 0 rfl) ?_
  refine lv_if_lt (tgt := 14) hx hb dz_L_isCode_1 (by decide) (fun c_1 => ?_) (fun c_1 => ?_)
  · refine lv_iconst (v := 0) hx hb dz_L_isCode_14 (by decide) ?_
    exact W.zret (v := 0) (ty := .boolean) hx hb hr rfl (fun t ht hW => ⟨_, rfl, by simp only [zl_isCode, if_pos c_1], ht⟩) (fun _ h => by cases h) dz_L_isCode_15
  · refine lv_iload_n hx hb dz_L_isCode_4 rfl (lv_at hl 0 rfl) ?_
    refine lv_ldc (v := 999999) hx hb hown (hz _ zi_111) dz_L_isCode_5 ?_
    refine lv_icmp_gt (tgt := 14) hx hb dz_L_isCode_7 (by decide) (fun c_2 => ?_) (fun c_2 => ?_)
    · refine lv_iconst (v := 0) hx hb dz_L_isCode_14 (by decide) ?_
      exact W.zret (v := 0) (ty := .boolean) hx hb hr rfl (fun t ht hW => ⟨_, rfl, by simp only [zl_isCode, if_neg c_1, if_pos c_2], ht⟩) (fun _ h => by cases h) dz_L_isCode_15
    · refine lv_iconst (v := 1) hx hb dz_L_isCode_10 (by decide) ?_
      refine lv_goto (tgt := 15) hx hb dz_L_isCode_11 (by decide) ?_
      exact W.zret (v := 1) (ty := .boolean) hx hb hr rfl (fun t ht hW => ⟨_, rfl, by simp only [zl_isCode, if_neg c_1, if_neg c_2], ht⟩) (fun _ h => by cases h) dz_L_isCode_15
set_option maxHeartbeats 4000000 in
set_option maxRecDepth 100000 in
theorem ct_B_isEvent (l : Launch) (dC : Nat → ClassId) (dI : Nat → Nat → Nat) (cq ci : ClassId) (p1 : Int32) : Met l yz_B_isEvent wz_B_isEvent (zw_room 0 0 0) (zw_R zw_ns (dC, dI) vwCl (zl_tys cq ci) [.int p1] []) (vp_Si (fun r => r = zb_isEvent p1)) 0 0 (fun _ => False) := by
  refine Met.ofW (cc := cz_B_isEvent) (maxL := 1) (ret := (some .boolean)) (by decide) rfl ?_
  intro p e s m args below meth c s₁ B hml hv
  obtain ⟨rfl, hP, hK, hN⟩ := hv
  have hx := B.exec
  have hb := B.bytes
  have hr := B.returns
  have hts := atoms_spec (ws := wz_B_isEvent) B.pre
  have hz : ∀ w ∈ zw_T, w.before ([.int p1] : List Value).toArray s = true := fun w h => hts w (List.mem_cons_of_mem _ h)
  have hown : s.vm.findClass RzB = some m.cls := findClass_of_methodNamed B.named
  have hlocks := B.notSynchronized
  have hl := lv_entry ([.int p1]) (n := 1) (Nat.le_of_ble_eq_true rfl)
  rw [lg_entry_eq]
  generalize (lg_sl ([.int p1]) ++ List.replicate (1 - (lg_sl ([.int p1])).length) Slot.unset).toArray = ls at hl ⊢
  have hl : lv_has ls 1 [(0, .int p1)] := hl
  refine lv_iload_n hx hb dz_B_isEvent_0 rfl (lv_at hl 0 rfl) ?_
  refine lv_if_lt (tgt := 13) hx hb dz_B_isEvent_1 (by decide) (fun c_1 => ?_) (fun c_1 => ?_)
  · refine lv_iconst (v := 0) hx hb dz_B_isEvent_13 (by decide) ?_
    exact W.zret (v := 0) (ty := .boolean) hx hb hr rfl (fun t ht hW => ⟨_, rfl, by simp only [zb_isEvent, if_pos c_1], ht⟩) (fun _ h => by cases h) dz_B_isEvent_14
  · refine lv_iload_n hx hb dz_B_isEvent_4 rfl (lv_at hl 0 rfl) ?_
    refine lv_iconst (v := 4) hx hb dz_B_isEvent_5 (by decide) ?_
    refine lv_icmp_gt (tgt := 13) hx hb dz_B_isEvent_6 (by decide) (fun c_2 => ?_) (fun c_2 => ?_)
    · refine lv_iconst (v := 0) hx hb dz_B_isEvent_13 (by decide) ?_
      exact W.zret (v := 0) (ty := .boolean) hx hb hr rfl (fun t ht hW => ⟨_, rfl, by simp only [zb_isEvent, if_neg c_1, if_pos c_2], ht⟩) (fun _ h => by cases h) dz_B_isEvent_14
    · refine lv_iconst (v := 1) hx hb dz_B_isEvent_9 (by decide) ?_
      refine lv_goto (tgt := 14) hx hb dz_B_isEvent_10 (by decide) ?_
      exact W.zret (v := 1) (ty := .boolean) hx hb hr rfl (fun t ht hW => ⟨_, rfl, by simp only [zb_isEvent, if_neg c_1, if_neg c_2], ht⟩) (fun _ h => by cases h) dz_B_isEvent_14
set_option maxHeartbeats 4000000 in
set_option maxRecDepth 100000 in
theorem ct_B_isEmpty (l : Launch) (dC : Nat → ClassId) (dI : Nat → Nat → Nat) (cq ci : ClassId) (h0 : Nat) (b : zb_T) : Met l yz_B_isEmpty wz_B_isEmpty (zw_room 0 0 0) (zw_R zw_ns (dC, dI) vwCl (zl_tys cq ci) [.ref h0] (zb_W h0 b)) (vp_Si (fun r => r = zb_isEmpty b)) 0 0 (fun _ => False) := by
  refine Met.ofW (cc := cz_B_isEmpty) (maxL := 1) (ret := (some .boolean)) (by decide) rfl ?_
  intro p e s m args below meth c s₁ B hml hv
  obtain ⟨rfl, hP, hK, hN⟩ := hv
  have hx := B.exec
  have hb := B.bytes
  have hr := B.returns
  have hts := atoms_spec (ws := wz_B_isEmpty) B.pre
  have hz : ∀ w ∈ zw_T, w.before ([.ref h0] : List Value).toArray s = true := fun w h => hts w (List.mem_cons_of_mem _ h)
  have hown : s.vm.findClass RzB = some m.cls := findClass_of_methodNamed B.named
  have hlocks := B.notSynchronized
  have hl := lv_entry ([.ref h0]) (n := 1) (Nat.le_of_ble_eq_true rfl)
  rw [lg_entry_eq]
  generalize (lg_sl ([.ref h0]) ++ List.replicate (1 - (lg_sl ([.ref h0])).length) Slot.unset).toArray = ls at hl ⊢
  have hl : lv_has ls 1 [(0, .ref h0)] := hl
  refine lv_aload_n hx hb dz_B_isEmpty_0 rfl (lv_at hl 0 rfl) ?_
  refine va_get (D := (dC, dI)) (ci := 0) (v := .int (zb_It b)) (C := RzB) (T := TzB) (N := 9) hx hb hz inzB hown hK hP 0 rfl rfl 4 (by decide) (hz _ zi_90) (fun _ h9 => h9) rfl dz_B_isEmpty_1 ?_
  refine lv_if_ne (tgt := 11) hx hb dz_B_isEmpty_4 (by decide) (fun c_1 => ?_) (fun c_1 => ?_)
  · refine lv_iconst (v := 0) hx hb dz_B_isEmpty_11 (by decide) ?_
    exact W.zret (v := 0) (ty := .boolean) hx hb hr rfl (fun t ht hW => ⟨_, rfl, by simp only [zb_isEmpty, if_neg c_1], ht⟩) (fun _ h => by cases h) dz_B_isEmpty_12
  · refine lv_iconst (v := 1) hx hb dz_B_isEmpty_7 (by decide) ?_
    refine lv_goto (tgt := 12) hx hb dz_B_isEmpty_8 (by decide) ?_
    exact W.zret (v := 1) (ty := .boolean) hx hb hr rfl (fun t ht hW => ⟨_, rfl, by simp only [zb_isEmpty, if_pos c_1], ht⟩) (fun _ h => by cases h) dz_B_isEmpty_12
set_option maxHeartbeats 4000000 in
set_option maxRecDepth 100000 in
theorem ct_B_lies (l : Launch) (dC : Nat → ClassId) (dI : Nat → Nat → Nat) (cq ci : ClassId) (h0 : Nat) (b : zb_T) : Met l yz_B_lies wz_B_lies (zw_room 0 0 0) (zw_R zw_ns (dC, dI) vwCl (zl_tys cq ci) [.ref h0] (zb_W h0 b)) (vp_Si (fun r => r = zb_lies b)) 0 0 (fun _ => False) := by
  refine Met.ofW (cc := cz_B_lies) (maxL := 1) (ret := (some .boolean)) (by decide) rfl ?_
  intro p e s m args below meth c s₁ B hml hv
  obtain ⟨rfl, hP, hK, hN⟩ := hv
  have hx := B.exec
  have hb := B.bytes
  have hr := B.returns
  have hts := atoms_spec (ws := wz_B_lies) B.pre
  have hz : ∀ w ∈ zw_T, w.before ([.ref h0] : List Value).toArray s = true := fun w h => hts w (List.mem_cons_of_mem _ h)
  have hown : s.vm.findClass RzB = some m.cls := findClass_of_methodNamed B.named
  have hlocks := B.notSynchronized
  have hl := lv_entry ([.ref h0]) (n := 1) (Nat.le_of_ble_eq_true rfl)
  rw [lg_entry_eq]
  generalize (lg_sl ([.ref h0]) ++ List.replicate (1 - (lg_sl ([.ref h0])).length) Slot.unset).toArray = ls at hl ⊢
  have hl : lv_has ls 1 [(0, .ref h0)] := hl
  refine lv_aload_n hx hb dz_B_lies_0 rfl (lv_at hl 0 rfl) ?_
  refine va_get (D := (dC, dI)) (ci := 0) (v := .int (zb_Co b)) (C := RzB) (T := TzB) (N := 9) hx hb hz inzB hown hK hP 0 rfl rfl 5 (by decide) (hz _ zi_91) (fun _ h9 => h9) rfl dz_B_lies_1 ?_
  refine lv_iconst (v := -1) hx hb dz_B_lies_4 (by decide) ?_
  refine lv_icmp_eq (tgt := 12) hx hb dz_B_lies_5 (by decide) (fun c_1 => ?_) (fun c_1 => ?_)
  · refine lv_iconst (v := 0) hx hb dz_B_lies_12 (by decide) ?_
    exact W.zret (v := 0) (ty := .boolean) hx hb hr rfl (fun t ht hW => ⟨_, rfl, by simp only [zb_lies, if_pos c_1], ht⟩) (fun _ h => by cases h) dz_B_lies_13
  · refine lv_iconst (v := 1) hx hb dz_B_lies_8 (by decide) ?_
    refine lv_goto (tgt := 13) hx hb dz_B_lies_9 (by decide) ?_
    exact W.zret (v := 1) (ty := .boolean) hx hb hr rfl (fun t ht hW => ⟨_, rfl, by simp only [zb_lies, if_neg c_1], ht⟩) (fun _ h => by cases h) dz_B_lies_13
set_option maxHeartbeats 4000000 in
set_option maxRecDepth 100000 in
theorem ct_B_wantsCode (l : Launch) (dC : Nat → ClassId) (dI : Nat → Nat → Nat) (cq ci : ClassId) (h0 : Nat) (b : zb_T) : Met l yz_B_wantsCode wz_B_wantsCode (zw_room 1 0 0) (zw_R zw_ns (dC, dI) vwCl (zl_tys cq ci) [.ref h0] (zb_W h0 b)) (vp_Si (fun r => r = zb_wantsCode b)) 0 0 (fun _ => False) := by
  refine Met.ofW (cc := cz_B_wantsCode) (maxL := 1) (ret := (some .boolean)) (by decide) rfl ?_
  intro p e s m args below meth c s₁ B hml hv
  obtain ⟨rfl, hP, hK, hN⟩ := hv
  have hx := B.exec
  have hb := B.bytes
  have hr := B.returns
  have hts := atoms_spec (ws := wz_B_wantsCode) B.pre
  have hz : ∀ w ∈ zw_T, w.before ([.ref h0] : List Value).toArray s = true := fun w h => hts w (List.mem_cons_of_mem _ h)
  have hown : s.vm.findClass RzB = some m.cls := findClass_of_methodNamed B.named
  have hlocks := B.notSynchronized
  have hl := lv_entry ([.ref h0]) (n := 1) (Nat.le_of_ble_eq_true rfl)
  rw [lg_entry_eq]
  generalize (lg_sl ([.ref h0]) ++ List.replicate (1 - (lg_sl ([.ref h0])).length) Slot.unset).toArray = ls at hl ⊢
  have hl : lv_has ls 1 [(0, .ref h0)] := hl
  refine lv_aload_n hx hb dz_B_wantsCode_0 rfl (lv_at hl 0 rfl) ?_
  refine vp_callSi (va_Run.run (va_runV (As := []) (rest := []) ⟨hx, hb, hml, hown, hz⟩ (ct_B_isEmpty l dC dI cq ci h0 b) (cwV 0 hz (zw_gV zi_129 zi_130 zi_5 zi_36 zi_131) rfl rfl rfl (by decide +kernel) ⟨Nat.le_of_ble_eq_true rfl, Nat.le_of_ble_eq_true rfl⟩) (zw_preRV zw_ns_ok hP hK hN (ci := 0) rfl (k := 0) rfl) rfl rfl hl.1 rfl (lv_room (Nat.le_of_ble_eq_true rfl)) dz_B_wantsCode_1 ⟨Nat.le_of_ble_eq_true rfl, Nat.le_of_ble_eq_true rfl⟩)) (fun r_1 hr_1 => ?_)
  have hr_1 : r_1 = zb_isEmpty b := hr_1
  subst hr_1
  refine lv_if_ne (tgt := 18) hx hb dz_B_wantsCode_4 (by decide) (fun c_2 => ?_) (fun c_2 => ?_)
  · refine lv_iconst (v := 0) hx hb dz_B_wantsCode_18 (by decide) ?_
    exact W.zret (v := 0) (ty := .boolean) hx hb hr rfl (fun t ht hW => ⟨_, rfl, by simp only [zb_wantsCode, if_neg c_2], ht⟩) (fun _ h => by cases h) dz_B_wantsCode_19
  · refine lv_aload_n hx hb dz_B_wantsCode_7 rfl (lv_at hl 0 rfl) ?_
    refine vp_callSi (va_Run.run (va_runV (As := []) (rest := []) ⟨hx, hb, hml, hown, hz⟩ (ct_B_lies l dC dI cq ci h0 b) (cwV 0 hz (zw_gV zi_156 zi_157 zi_12 zi_36 zi_158) rfl rfl rfl (by decide +kernel) ⟨Nat.le_of_ble_eq_true rfl, Nat.le_of_ble_eq_true rfl⟩) (zw_preRV zw_ns_ok hP hK hN (ci := 0) rfl (k := 0) rfl) rfl rfl hl.1 rfl (lv_room (Nat.le_of_ble_eq_true rfl)) dz_B_wantsCode_8 ⟨Nat.le_of_ble_eq_true rfl, Nat.le_of_ble_eq_true rfl⟩)) (fun r_3 hr_3 => ?_)
    have hr_3 : r_3 = zb_lies b := hr_3
    subst hr_3
    refine lv_if_ne (tgt := 18) hx hb dz_B_wantsCode_11 (by decide) (fun c_4 => ?_) (fun c_4 => ?_)
    · refine lv_iconst (v := 0) hx hb dz_B_wantsCode_18 (by decide) ?_
      exact W.zret (v := 0) (ty := .boolean) hx hb hr rfl (fun t ht hW => ⟨_, rfl, by simp only [zb_wantsCode, if_pos c_2, if_neg c_4], ht⟩) (fun _ h => by cases h) dz_B_wantsCode_19
    · refine lv_iconst (v := 1) hx hb dz_B_wantsCode_14 (by decide) ?_
      refine lv_goto (tgt := 19) hx hb dz_B_wantsCode_15 (by decide) ?_
      exact W.zret (v := 1) (ty := .boolean) hx hb hr rfl (fun t ht hW => ⟨_, rfl, by simp only [zb_wantsCode, if_pos c_2, if_pos c_4], ht⟩) (fun _ h => by cases h) dz_B_wantsCode_19
set_option maxHeartbeats 4000000 in
set_option maxRecDepth 100000 in
theorem ct_B_isOpenOrForced (l : Launch) (dC : Nat → ClassId) (dI : Nat → Nat → Nat) (cq ci : ClassId) (h0 : Nat) (b : zb_T) : Met l yz_B_isOpenOrForced wz_B_isOpenOrForced (zw_room 0 0 0) (zw_R zw_ns (dC, dI) vwCl (zl_tys cq ci) [.ref h0] (zb_W h0 b)) (vp_Si (fun r => r = zb_isOpen b)) 0 0 (fun _ => False) := by
  refine Met.ofW (cc := cz_B_isOpenOrForced) (maxL := 1) (ret := (some .boolean)) (by decide) rfl ?_
  intro p e s m args below meth c s₁ B hml hv
  obtain ⟨rfl, hP, hK, hN⟩ := hv
  have hx := B.exec
  have hb := B.bytes
  have hr := B.returns
  have hts := atoms_spec (ws := wz_B_isOpenOrForced) B.pre
  have hz : ∀ w ∈ zw_T, w.before ([.ref h0] : List Value).toArray s = true := fun w h => hts w (List.mem_cons_of_mem _ h)
  have hown : s.vm.findClass RzB = some m.cls := findClass_of_methodNamed B.named
  have hlocks := B.notSynchronized
  have hl := lv_entry ([.ref h0]) (n := 1) (Nat.le_of_ble_eq_true rfl)
  rw [lg_entry_eq]
  generalize (lg_sl ([.ref h0]) ++ List.replicate (1 - (lg_sl ([.ref h0])).length) Slot.unset).toArray = ls at hl ⊢
  have hl : lv_has ls 1 [(0, .ref h0)] := hl
  refine lv_aload_n hx hb dz_B_isOpenOrForced_0 rfl (lv_at hl 0 rfl) ?_
  refine va_get (D := (dC, dI)) (ci := 0) (v := .int (zb_Dr b)) (C := RzB) (T := TzB) (N := 9) hx hb hz inzB hown hK hP 0 rfl rfl 1 (by decide) (hz _ zi_87) (fun _ h9 => h9) rfl dz_B_isOpenOrForced_1 ?_
  refine lv_iconst (v := 1) hx hb dz_B_isOpenOrForced_4 (by decide) ?_
  refine lv_icmp_eq (tgt := 16) hx hb dz_B_isOpenOrForced_5 (by decide) (fun c_1 => ?_) (fun c_1 => ?_)
  · refine lv_iconst (v := 1) hx hb dz_B_isOpenOrForced_16 (by decide) ?_
    refine lv_goto (tgt := 21) hx hb dz_B_isOpenOrForced_17 (by decide) ?_
    exact W.zret (v := 1) (ty := .boolean) hx hb hr rfl (fun t ht hW => ⟨_, rfl, by simp only [zb_isOpen, if_pos c_1], ht⟩) (fun _ h => by cases h) dz_B_isOpenOrForced_21
  · refine lv_aload_n hx hb dz_B_isOpenOrForced_8 rfl (lv_at hl 0 rfl) ?_
    refine va_get (D := (dC, dI)) (ci := 0) (v := .int (zb_Dr b)) (C := RzB) (T := TzB) (N := 9) hx hb hz inzB hown hK hP 0 rfl rfl 1 (by decide) (hz _ zi_87) (fun _ h9 => h9) rfl dz_B_isOpenOrForced_9 ?_
    refine lv_iconst (v := 2) hx hb dz_B_isOpenOrForced_12 (by decide) ?_
    refine lv_icmp_ne (tgt := 20) hx hb dz_B_isOpenOrForced_13 (by decide) (fun c_2 => ?_) (fun c_2 => ?_)
    · refine lv_iconst (v := 0) hx hb dz_B_isOpenOrForced_20 (by decide) ?_
      exact W.zret (v := 0) (ty := .boolean) hx hb hr rfl (fun t ht hW => ⟨_, rfl, by simp only [zb_isOpen, if_neg c_1, if_neg c_2], ht⟩) (fun _ h => by cases h) dz_B_isOpenOrForced_21
    · refine lv_iconst (v := 1) hx hb dz_B_isOpenOrForced_16 (by decide) ?_
      refine lv_goto (tgt := 21) hx hb dz_B_isOpenOrForced_17 (by decide) ?_
      exact W.zret (v := 1) (ty := .boolean) hx hb hr rfl (fun t ht hW => ⟨_, rfl, by simp only [zb_isOpen, if_neg c_1, if_pos c_2], ht⟩) (fun _ h => by cases h) dz_B_isOpenOrForced_21
set_option maxHeartbeats 4000000 in
set_option maxRecDepth 100000 in
theorem ct_B_isUnused (l : Launch) (dC : Nat → ClassId) (dI : Nat → Nat → Nat) (cq ci : ClassId) (h0 : Nat) (b : zb_T) : Met l yz_B_isUnused wz_B_isUnused (zw_room 1 0 0) (zw_R zw_ns (dC, dI) vwCl (zl_tys cq ci) [.ref h0] (zb_W h0 b)) (vp_Si (fun r => r = zb_isUnused b)) 0 0 (fun _ => False) := by
  refine Met.ofW (cc := cz_B_isUnused) (maxL := 1) (ret := (some .boolean)) (by decide) rfl ?_
  intro p e s m args below meth c s₁ B hml hv
  obtain ⟨rfl, hP, hK, hN⟩ := hv
  have hx := B.exec
  have hb := B.bytes
  have hr := B.returns
  have hts := atoms_spec (ws := wz_B_isUnused) B.pre
  have hz : ∀ w ∈ zw_T, w.before ([.ref h0] : List Value).toArray s = true := fun w h => hts w (List.mem_cons_of_mem _ h)
  have hown : s.vm.findClass RzB = some m.cls := findClass_of_methodNamed B.named
  have hlocks := B.notSynchronized
  have hl := lv_entry ([.ref h0]) (n := 1) (Nat.le_of_ble_eq_true rfl)
  rw [lg_entry_eq]
  generalize (lg_sl ([.ref h0]) ++ List.replicate (1 - (lg_sl ([.ref h0])).length) Slot.unset).toArray = ls at hl ⊢
  have hl : lv_has ls 1 [(0, .ref h0)] := hl
  refine lv_aload_n hx hb dz_B_isUnused_0 rfl (lv_at hl 0 rfl) ?_
  refine va_get (D := (dC, dI)) (ci := 0) (v := .int (zb_Dr b)) (C := RzB) (T := TzB) (N := 9) hx hb hz inzB hown hK hP 0 rfl rfl 1 (by decide) (hz _ zi_87) (fun _ h9 => h9) rfl dz_B_isUnused_1 ?_
  refine lv_if_ne (tgt := 27) hx hb dz_B_isUnused_4 (by decide) (fun c_1 => ?_) (fun c_1 => ?_)
  · refine lv_iconst (v := 0) hx hb dz_B_isUnused_27 (by decide) ?_
    exact W.zret (v := 0) (ty := .boolean) hx hb hr rfl (fun t ht hW => ⟨_, rfl, by simp only [zb_isUnused, if_neg c_1], ht⟩) (fun _ h => by cases h) dz_B_isUnused_28
  · refine lv_aload_n hx hb dz_B_isUnused_7 rfl (lv_at hl 0 rfl) ?_
    refine vp_callSi (va_Run.run (va_runV (As := []) (rest := []) ⟨hx, hb, hml, hown, hz⟩ (ct_B_isEmpty l dC dI cq ci h0 b) (cwV 0 hz (zw_gV zi_129 zi_130 zi_5 zi_36 zi_131) rfl rfl rfl (by decide +kernel) ⟨Nat.le_of_ble_eq_true rfl, Nat.le_of_ble_eq_true rfl⟩) (zw_preRV zw_ns_ok hP hK hN (ci := 0) rfl (k := 0) rfl) rfl rfl hl.1 rfl (lv_room (Nat.le_of_ble_eq_true rfl)) dz_B_isUnused_8 ⟨Nat.le_of_ble_eq_true rfl, Nat.le_of_ble_eq_true rfl⟩)) (fun r_2 hr_2 => ?_)
    have hr_2 : r_2 = zb_isEmpty b := hr_2
    subst hr_2
    refine lv_if_eq (tgt := 27) hx hb dz_B_isUnused_11 (by decide) (fun c_3 => ?_) (fun c_3 => ?_)
    · refine lv_iconst (v := 0) hx hb dz_B_isUnused_27 (by decide) ?_
      exact W.zret (v := 0) (ty := .boolean) hx hb hr rfl (fun t ht hW => ⟨_, rfl, by simp only [zb_isUnused, if_pos c_1, if_pos c_3], ht⟩) (fun _ h => by cases h) dz_B_isUnused_28
    · refine lv_aload_n hx hb dz_B_isUnused_14 rfl (lv_at hl 0 rfl) ?_
      refine va_get (D := (dC, dI)) (ci := 0) (v := .long (zb_Ke b)) (C := RzB) (T := TzB) (N := 9) hx hb hz inzB hown hK hP 0 rfl rfl 8 (by decide) (hz _ zi_94) (fun _ h9 => h9) rfl dz_B_isUnused_15 ?_
      refine lv_lconst (v := 0) hx hb dz_B_isUnused_18 (by decide) ?_
      refine W.lcmp hx hb dz_B_isUnused_19 ?_
      refine lv_if_ne (tgt := 27) hx hb dz_B_isUnused_20 (by decide) (fun c_4 => ?_) (fun c_4 => ?_)
      · refine lv_iconst (v := 0) hx hb dz_B_isUnused_27 (by decide) ?_
        exact W.zret (v := 0) (ty := .boolean) hx hb hr rfl (fun t ht hW => ⟨_, rfl, by simp only [zb_isUnused, if_pos c_1, if_neg c_3, if_neg c_4], ht⟩) (fun _ h => by cases h) dz_B_isUnused_28
      · refine lv_iconst (v := 1) hx hb dz_B_isUnused_23 (by decide) ?_
        refine lv_goto (tgt := 28) hx hb dz_B_isUnused_24 (by decide) ?_
        exact W.zret (v := 1) (ty := .boolean) hx hb hr rfl (fun t ht hW => ⟨_, rfl, by simp only [zb_isUnused, if_pos c_1, if_neg c_3, if_pos c_4], ht⟩) (fun _ h => by cases h) dz_B_isUnused_28
set_option maxHeartbeats 4000000 in
set_option maxRecDepth 100000 in
theorem ct_B_admits (l : Launch) (dC : Nat → ClassId) (dI : Nat → Nat → Nat) (cq ci : ClassId) (h0 : Nat) (b : zb_T) (p1 : Int32) : Met l yz_B_admits wz_B_admits (zw_room 2 0 0) (zw_R zw_ns (dC, dI) vwCl (zl_tys cq ci) [.ref h0, .int p1] (zb_W h0 b)) (vp_Si (fun r => r = zb_admits b p1)) 0 0 (fun _ => False) := by
  refine Met.ofW (cc := cz_B_admits) (maxL := 2) (ret := (some .boolean)) (by decide) rfl ?_
  intro p e s m args below meth c s₁ B hml hv
  obtain ⟨rfl, hP, hK, hN⟩ := hv
  have hx := B.exec
  have hb := B.bytes
  have hr := B.returns
  have hts := atoms_spec (ws := wz_B_admits) B.pre
  have hz : ∀ w ∈ zw_T, w.before ([.ref h0, .int p1] : List Value).toArray s = true := fun w h => hts w (List.mem_cons_of_mem _ h)
  have hown : s.vm.findClass RzB = some m.cls := findClass_of_methodNamed B.named
  have hlocks := B.notSynchronized
  have hl := lv_entry ([.ref h0, .int p1]) (n := 2) (Nat.le_of_ble_eq_true rfl)
  rw [lg_entry_eq]
  generalize (lg_sl ([.ref h0, .int p1]) ++ List.replicate (2 - (lg_sl ([.ref h0, .int p1])).length) Slot.unset).toArray = ls at hl ⊢
  have hl : lv_has ls 2 [(0, .ref h0), (1, .int p1)] := hl
  refine lv_iload_n hx hb dz_B_admits_0 rfl (lv_at hl 1 rfl) ?_
  by_cases c_1 : p1 = 0
  · refine lv_tableIn (tgt := 36) hx hb dz_B_admits_1 (by rw [c_1]; decide) (by rw [c_1]; decide) (by rw [c_1]; rfl) (by decide) ?_
    refine lv_aload_n hx hb dz_B_admits_36 rfl (lv_at hl 0 rfl) ?_
    refine va_get (D := (dC, dI)) (ci := 0) (v := .int (zb_Dr b)) (C := RzB) (T := TzB) (N := 9) hx hb hz inzB hown hK hP 0 rfl rfl 1 (by decide) (hz _ zi_87) (fun _ h9 => h9) rfl dz_B_admits_37 ?_
    refine lv_if_ne (tgt := 47) hx hb dz_B_admits_40 (by decide) (fun c_2 => ?_) (fun c_2 => ?_)
    · refine lv_iconst (v := 0) hx hb dz_B_admits_47 (by decide) ?_
      exact W.zret (v := 0) (ty := .boolean) hx hb hr rfl (fun t ht hW => ⟨_, rfl, by simp only [zb_admits, if_pos c_1, if_neg c_2], ht⟩) (fun _ h => by cases h) dz_B_admits_48
    · refine lv_iconst (v := 1) hx hb dz_B_admits_43 (by decide) ?_
      refine lv_goto (tgt := 48) hx hb dz_B_admits_44 (by decide) ?_
      exact W.zret (v := 1) (ty := .boolean) hx hb hr rfl (fun t ht hW => ⟨_, rfl, by simp only [zb_admits, if_pos c_1, if_pos c_2], ht⟩) (fun _ h => by cases h) dz_B_admits_48
  · by_cases c_3 : p1 = 1
    · refine lv_tableIn (tgt := 49) hx hb dz_B_admits_1 (by rw [c_3]; decide) (by rw [c_3]; decide) (by rw [c_3]; rfl) (by decide) ?_
      refine lv_aload_n hx hb dz_B_admits_49 rfl (lv_at hl 0 rfl) ?_
      refine va_get (D := (dC, dI)) (ci := 0) (v := .int (zb_Dr b)) (C := RzB) (T := TzB) (N := 9) hx hb hz inzB hown hK hP 0 rfl rfl 1 (by decide) (hz _ zi_87) (fun _ h9 => h9) rfl dz_B_admits_50 ?_
      refine lv_if_eq (tgt := 64) hx hb dz_B_admits_53 (by decide) (fun c_4 => ?_) (fun c_4 => ?_)
      · refine lv_iconst (v := 1) hx hb dz_B_admits_64 (by decide) ?_
        refine lv_goto (tgt := 69) hx hb dz_B_admits_65 (by decide) ?_
        exact W.zret (v := 1) (ty := .boolean) hx hb hr rfl (fun t ht hW => ⟨_, rfl, by simp only [zb_admits, if_neg c_1, if_pos c_3, if_pos c_4], ht⟩) (fun _ h => by cases h) dz_B_admits_69
      · refine lv_aload_n hx hb dz_B_admits_56 rfl (lv_at hl 0 rfl) ?_
        refine va_get (D := (dC, dI)) (ci := 0) (v := .int (zb_Dr b)) (C := RzB) (T := TzB) (N := 9) hx hb hz inzB hown hK hP 0 rfl rfl 1 (by decide) (hz _ zi_87) (fun _ h9 => h9) rfl dz_B_admits_57 ?_
        refine lv_iconst (v := 1) hx hb dz_B_admits_60 (by decide) ?_
        refine lv_icmp_ne (tgt := 68) hx hb dz_B_admits_61 (by decide) (fun c_5 => ?_) (fun c_5 => ?_)
        · refine lv_iconst (v := 0) hx hb dz_B_admits_68 (by decide) ?_
          exact W.zret (v := 0) (ty := .boolean) hx hb hr rfl (fun t ht hW => ⟨_, rfl, by simp only [zb_admits, if_neg c_1, if_pos c_3, if_neg c_4, if_neg c_5], ht⟩) (fun _ h => by cases h) dz_B_admits_69
        · refine lv_iconst (v := 1) hx hb dz_B_admits_64 (by decide) ?_
          refine lv_goto (tgt := 69) hx hb dz_B_admits_65 (by decide) ?_
          exact W.zret (v := 1) (ty := .boolean) hx hb hr rfl (fun t ht hW => ⟨_, rfl, by simp only [zb_admits, if_neg c_1, if_pos c_3, if_neg c_4, if_pos c_5], ht⟩) (fun _ h => by cases h) dz_B_admits_69
    · by_cases c_6 : p1 = 2
      · refine lv_tableIn (tgt := 70) hx hb dz_B_admits_1 (by rw [c_6]; decide) (by rw [c_6]; decide) (by rw [c_6]; rfl) (by decide) ?_
        refine lv_aload_n hx hb dz_B_admits_70 rfl (lv_at hl 0 rfl) ?_
        refine va_get (D := (dC, dI)) (ci := 0) (v := .int (zb_Dr b)) (C := RzB) (T := TzB) (N := 9) hx hb hz inzB hown hK hP 0 rfl rfl 1 (by decide) (hz _ zi_87) (fun _ h9 => h9) rfl dz_B_admits_71 ?_
        refine lv_iconst (v := 2) hx hb dz_B_admits_74 (by decide) ?_
        refine lv_icmp_ne (tgt := 82) hx hb dz_B_admits_75 (by decide) (fun c_7 => ?_) (fun c_7 => ?_)
        · refine lv_iconst (v := 0) hx hb dz_B_admits_82 (by decide) ?_
          exact W.zret (v := 0) (ty := .boolean) hx hb hr rfl (fun t ht hW => ⟨_, rfl, by simp only [zb_admits, if_neg c_1, if_neg c_3, if_pos c_6, if_neg c_7], ht⟩) (fun _ h => by cases h) dz_B_admits_83
        · refine lv_iconst (v := 1) hx hb dz_B_admits_78 (by decide) ?_
          refine lv_goto (tgt := 83) hx hb dz_B_admits_79 (by decide) ?_
          exact W.zret (v := 1) (ty := .boolean) hx hb hr rfl (fun t ht hW => ⟨_, rfl, by simp only [zb_admits, if_neg c_1, if_neg c_3, if_pos c_6, if_pos c_7], ht⟩) (fun _ h => by cases h) dz_B_admits_83
      · by_cases c_8 : p1 = 3
        · refine lv_tableIn (tgt := 84) hx hb dz_B_admits_1 (by rw [c_8]; decide) (by rw [c_8]; decide) (by rw [c_8]; rfl) (by decide) ?_
          refine lv_aload_n hx hb dz_B_admits_84 rfl (lv_at hl 0 rfl) ?_
          refine vp_callSi (va_Run.run (va_runV (As := []) (rest := []) ⟨hx, hb, hml, hown, hz⟩ (ct_B_isUnused l dC dI cq ci h0 b) (cwV 0 hz (zw_gV zi_210 zi_127 zi_4 zi_36 zi_128) rfl rfl rfl (by decide +kernel) ⟨Nat.le_of_ble_eq_true rfl, Nat.le_of_ble_eq_true rfl⟩) (zw_preRV zw_ns_ok hP hK hN (ci := 0) rfl (k := 0) rfl) rfl rfl hl.1 rfl (lv_room (Nat.le_of_ble_eq_true rfl)) dz_B_admits_85 ⟨Nat.le_of_ble_eq_true rfl, Nat.le_of_ble_eq_true rfl⟩)) (fun r_9 hr_9 => ?_)
          have hr_9 : r_9 = zb_isUnused b := hr_9
          subst hr_9
          exact W.zret (v := zb_isUnused b) (ty := .boolean) hx hb hr (zb_isUnused_nar b) (fun t ht hW => ⟨_, rfl, by simp only [zb_admits, if_neg c_1, if_neg c_3, if_neg c_6, if_pos c_8], ht⟩) (fun _ h => by cases h) dz_B_admits_88
        · by_cases c_10 : p1 = 4
          · refine lv_tableIn (tgt := 89) hx hb dz_B_admits_1 (by rw [c_10]; decide) (by rw [c_10]; decide) (by rw [c_10]; rfl) (by decide) ?_
            refine lv_aload_n hx hb dz_B_admits_89 rfl (lv_at hl 0 rfl) ?_
            refine va_get (D := (dC, dI)) (ci := 0) (v := .int (zb_Dr b)) (C := RzB) (T := TzB) (N := 9) hx hb hz inzB hown hK hP 0 rfl rfl 1 (by decide) (hz _ zi_87) (fun _ h9 => h9) rfl dz_B_admits_90 ?_
            refine lv_iconst (v := 3) hx hb dz_B_admits_93 (by decide) ?_
            refine lv_icmp_ne (tgt := 101) hx hb dz_B_admits_94 (by decide) (fun c_11 => ?_) (fun c_11 => ?_)
            · refine lv_iconst (v := 0) hx hb dz_B_admits_101 (by decide) ?_
              exact W.zret (v := 0) (ty := .boolean) hx hb hr rfl (fun t ht hW => ⟨_, rfl, by simp only [zb_admits, if_neg c_1, if_neg c_3, if_neg c_6, if_neg c_8, if_pos c_10, if_neg c_11], ht⟩) (fun _ h => by cases h) dz_B_admits_102
            · refine lv_iconst (v := 1) hx hb dz_B_admits_97 (by decide) ?_
              refine lv_goto (tgt := 102) hx hb dz_B_admits_98 (by decide) ?_
              exact W.zret (v := 1) (ty := .boolean) hx hb hr rfl (fun t ht hW => ⟨_, rfl, by simp only [zb_admits, if_neg c_1, if_neg c_3, if_neg c_6, if_neg c_8, if_pos c_10, if_pos c_11], ht⟩) (fun _ h => by cases h) dz_B_admits_102
          · have o_12 : p1.toInt < 0 ∨ 4 < p1.toInt := by
              have e0 := lv_neT c_1 (a := 0) rfl
              have e1 := lv_neT c_3 (a := 1) rfl
              have e2 := lv_neT c_6 (a := 2) rfl
              have e3 := lv_neT c_8 (a := 3) rfl
              have e4 := lv_neT c_10 (a := 4) rfl
              omega
            refine lv_tableOut (tgt := 103) hx hb dz_B_admits_1 o_12 (by decide) ?_
            refine lv_iconst (v := 0) hx hb dz_B_admits_103 (by decide) ?_
            exact W.zret (v := 0) (ty := .boolean) hx hb hr rfl (fun t ht hW => ⟨_, rfl, by simp only [zb_admits, if_neg c_1, if_neg c_3, if_neg c_6, if_neg c_8, if_neg c_10], ht⟩) (fun _ h => by cases h) dz_B_admits_104
set_option maxHeartbeats 4000000 in
set_option maxRecDepth 100000 in
theorem ct_B_beginOpening (l : Launch) (dC : Nat → ClassId) (dI : Nat → Nat → Nat) (cq ci : ClassId) (h0 : Nat) (b : zb_T) (sz : Nat) (p1 : Int32) (p2 : Int64) : Met l yz_B_beginOpening wz_B_beginOpening (zw_room 0 0 0) (zw_U zw_ns (dC, dI) vwCl (zl_tys cq ci) [.ref h0, .int p1, .long p2] (zb_W h0 b) sz) (va_Qv (fun _ : Unit => True) (fun (_ : Unit) (t : State) => va_P (dC, dI) vwCl (zb_W h0 (zb_begin b p1 p2)) t.heap) (va_A (zb_W h0 b) sz)) 0 0 (va_A (zb_W h0 b) sz) := by
  refine Met.ofW (cc := cz_B_beginOpening) (maxL := 4) (ret := none) (by decide) rfl ?_
  intro p e s m args below meth c s₁ B hml hv
  obtain ⟨rfl, hsz, hP, hK, hD0, hN⟩ := hv
  have hx := B.exec
  have hb := B.bytes
  have hr := B.returns
  have hts := atoms_spec (ws := wz_B_beginOpening) B.pre
  have hz : ∀ w ∈ zw_T, w.before ([.ref h0, .int p1, .long p2] : List Value).toArray s = true := fun w h => hts w (List.mem_cons_of_mem _ h)
  have hown : s.vm.findClass RzB = some m.cls := findClass_of_methodNamed B.named
  have hlocks := B.notSynchronized
  subst hsz
  have hD := hD0.self (sz := s.heap.size)
  generalize hAe : va_A (zb_W h0 b) s.heap.size = A at hD ⊢
  have hA : ∀ q : Nat, s.heap.size ≤ q → A q := fun q h => by rw [← hAe]; exact Or.inr h
  have hS : va_S A s.heap s.heap [] := va_S.rf
  have hl := lv_entry ([.ref h0, .int p1, .long p2]) (n := 4) (Nat.le_of_ble_eq_true rfl)
  rw [lg_entry_eq]
  generalize (lg_sl ([.ref h0, .int p1, .long p2]) ++ List.replicate (4 - (lg_sl ([.ref h0, .int p1, .long p2])).length) Slot.unset).toArray = ls at hl ⊢
  have hl : lv_has ls 4 [(0, .ref h0), (1, .int p1), (2, .long p2)] := hl
  refine lv_aload_n hx hb dz_B_beginOpening_0 rfl (lv_at hl 0 rfl) ?_
  refine lv_iload_n hx hb dz_B_beginOpening_1 rfl (lv_at hl 1 rfl) ?_
  refine va_put (D := (dC, dI)) (ci := 0) (v := .int p1) (ty := .int) (C := RzB) (T := TzB) (N := 9) hx hb hz inzB tyzB tyzB_ok nmzB hown hK hP hD hS 0 rfl rfl 1 (by decide) (hz _ zi_87) (fun _ h9 => h9) rfl (by decide +kernel) rfl rfl (Nat.le_of_ble_eq_true rfl) dz_B_beginOpening_2 (fun H locs hP hD hS => ?_)
  obtain ⟨S_1, eS_1⟩ : ∃ z, z = zb_sDr b p1 := ⟨_, rfl⟩
  have hP : va_P (dC, dI) vwCl (zb_W h0 S_1) H := by rw [eS_1]; exact hP
  have hD : va_D A (zb_W h0 S_1) := by rw [eS_1]; exact hD
  refine lv_aload_n hx hb dz_B_beginOpening_5 rfl (lv_at hl 0 rfl) ?_
  refine lv_lload_n hx hb dz_B_beginOpening_6 rfl (lv_at hl 2 rfl) ?_
  refine va_put (D := (dC, dI)) (ci := 0) (v := .long p2) (ty := .long) (C := RzB) (T := TzB) (N := 9) hx hb hz inzB tyzB tyzB_ok nmzB hown hK hP hD hS 0 rfl rfl 2 (by decide) (hz _ zi_88) (fun _ h9 => h9) rfl (by decide +kernel) rfl rfl (Nat.le_of_ble_eq_true rfl) dz_B_beginOpening_7 (fun H locs hP hD hS => ?_)
  obtain ⟨S_2, eS_2⟩ : ∃ z, z = zb_sOs S_1 p2 := ⟨_, rfl⟩
  have hP : va_P (dC, dI) vwCl (zb_W h0 S_2) H := by rw [eS_2]; exact hP
  have hD : va_D A (zb_W h0 S_2) := by rw [eS_2]; exact hD
  refine lv_aload_n hx hb dz_B_beginOpening_10 rfl (lv_at hl 0 rfl) ?_
  refine lv_iconst (v := 0) hx hb dz_B_beginOpening_11 (by decide) ?_
  refine va_put (D := (dC, dI)) (ci := 0) (v := .int 0) (ty := .boolean) (C := RzB) (T := TzB) (N := 9) hx hb hz inzB tyzB tyzB_ok nmzB hown hK hP hD hS 0 rfl rfl 3 (by decide) (hz _ zi_89) (fun _ h9 => h9) rfl (by decide +kernel) rfl rfl (Nat.le_of_ble_eq_true rfl) dz_B_beginOpening_12 (fun H locs hP hD hS => ?_)
  obtain ⟨S_3, eS_3⟩ : ∃ z, z = zb_sTo S_2 0 := ⟨_, rfl⟩
  have hP : va_P (dC, dI) vwCl (zb_W h0 S_3) H := by rw [eS_3]; exact hP
  have hD : va_D A (zb_W h0 S_3) := by rw [eS_3]; exact hD
  subst eS_1 eS_2 eS_3
  have hE_4 : zb_begin b p1 p2 = zb_sTo (zb_sOs (zb_sDr b p1) p2) 0 := by simp only [zb_begin]
  exact W.vret hx hb hr (fun t ht hW => ⟨⟨(), rfl, trivial, by show va_P (dC, dI) vwCl (zb_W h0 (zb_begin b p1 p2)) t.heap; rw [ht, hE_4]; exact hP⟩, hS.F ht⟩) hS.2.2 dz_B_beginOpening_15
set_option maxHeartbeats 4000000 in
set_option maxRecDepth 100000 in
theorem ct_B_undergo (l : Launch) (dC : Nat → ClassId) (dI : Nat → Nat → Nat) (cq ci : ClassId) (h0 : Nat) (b : zb_T) (sz : Nat) (p1 : Int32) (p2 : Int64) : Met l yz_B_undergo wz_B_undergo (zw_room 1 0 0) (zw_U zw_ns (dC, dI) vwCl (zl_tys cq ci) [.ref h0, .int p1, .long p2] (zb_W h0 b) sz) (va_Qv (fun _ : Unit => True) (fun (_ : Unit) (t : State) => va_P (dC, dI) vwCl (zb_W h0 (zb_undergo b p1 p2)) t.heap) (va_A (zb_W h0 b) sz)) 0 0 (va_A (zb_W h0 b) sz) := by
  refine Met.ofW (cc := cz_B_undergo) (maxL := 4) (ret := none) (by decide) rfl ?_
  intro p e s m args below meth c s₁ B hml hv
  obtain ⟨rfl, hsz, hP, hK, hD0, hN⟩ := hv
  have hx := B.exec
  have hb := B.bytes
  have hr := B.returns
  have hts := atoms_spec (ws := wz_B_undergo) B.pre
  have hz : ∀ w ∈ zw_T, w.before ([.ref h0, .int p1, .long p2] : List Value).toArray s = true := fun w h => hts w (List.mem_cons_of_mem _ h)
  have hown : s.vm.findClass RzB = some m.cls := findClass_of_methodNamed B.named
  have hlocks := B.notSynchronized
  subst hsz
  have hD := hD0.self (sz := s.heap.size)
  generalize hAe : va_A (zb_W h0 b) s.heap.size = A at hD ⊢
  have hA : ∀ q : Nat, s.heap.size ≤ q → A q := fun q h => by rw [← hAe]; exact Or.inr h
  have hS : va_S A s.heap s.heap [] := va_S.rf
  have hl := lv_entry ([.ref h0, .int p1, .long p2]) (n := 4) (Nat.le_of_ble_eq_true rfl)
  rw [lg_entry_eq]
  generalize (lg_sl ([.ref h0, .int p1, .long p2]) ++ List.replicate (4 - (lg_sl ([.ref h0, .int p1, .long p2])).length) Slot.unset).toArray = ls at hl ⊢
  have hl : lv_has ls 4 [(0, .ref h0), (1, .int p1), (2, .long p2)] := hl
  refine lv_iload_n hx hb dz_B_undergo_0 rfl (lv_at hl 1 rfl) ?_
  by_cases c_1 : p1 = 0
  · refine lv_tableIn (tgt := 32) hx hb dz_B_undergo_1 (by rw [c_1]; decide) (by rw [c_1]; decide) (by rw [c_1]; rfl) (by decide) ?_
    refine lv_aload_n hx hb dz_B_undergo_32 rfl (lv_at hl 0 rfl) ?_
    refine lv_iconst (v := 1) hx hb dz_B_undergo_33 (by decide) ?_
    refine lv_lload_n hx hb dz_B_undergo_34 rfl (lv_at hl 2 rfl) ?_
    have hFc := zw_free hS hA hD
    refine va_callv (va_runV (As := [.int 1, .long p2]) (rest := []) ⟨hx, hb, hml, hown, hz⟩ (ct_B_beginOpening l dC dI cq ci h0 b s.heap.size 1 p2) (cwV 2 hz (zw_gV zi_213 zi_196 zi_23 zi_36 zi_197) rfl rfl rfl (by decide +kernel) ⟨Nat.le_of_ble_eq_true rfl, Nat.le_of_ble_eq_true rfl⟩) (zw_preUV zw_ns_ok hP hD hK hN (ci := 0) rfl (k := 0) rfl) rfl rfl hl.1 rfl (lv_room (Nat.le_of_ble_eq_true rfl)) dz_B_undergo_35 ⟨Nat.le_of_ble_eq_true rfl, Nat.le_of_ble_eq_true rfl⟩) hS (fun q _ h => hFc q h) hFc (fun u_2 t_2 H locs ht hvm hw hB hz1 hk1 hS => ?_)
    have hP : va_P (dC, dI) vwCl (zb_W h0 (zb_begin b 1 p2)) t_2.heap := hB
    rw [ht] at hP
    have hD : va_D A (zb_W h0 (zb_begin b 1 p2)) := zb_D hD
    obtain ⟨S_3, eS_3⟩ : ∃ z, z = (zb_begin b 1 p2) := ⟨_, rfl⟩
    rw [← eS_3] at hP hD
    refine lv_goto (tgt := 63) hx hb dz_B_undergo_38 (by decide) ?_
    subst eS_3
    have hE_4 : zb_undergo b p1 p2 = zb_begin b 1 p2 := by simp only [zb_undergo, if_pos c_1]
    exact W.vret hx hb hr (fun t ht hW => ⟨⟨(), rfl, trivial, by show va_P (dC, dI) vwCl (zb_W h0 (zb_undergo b p1 p2)) t.heap; rw [ht, hE_4]; exact hP⟩, hS.F ht⟩) hS.2.2 dz_B_undergo_63
  · by_cases c_5 : p1 = 1
    · refine lv_tableIn (tgt := 41) hx hb dz_B_undergo_1 (by rw [c_5]; decide) (by rw [c_5]; decide) (by rw [c_5]; rfl) (by decide) ?_
      refine lv_aload_n hx hb dz_B_undergo_41 rfl (lv_at hl 0 rfl) ?_
      refine lv_iconst (v := 2) hx hb dz_B_undergo_42 (by decide) ?_
      refine lv_lload_n hx hb dz_B_undergo_43 rfl (lv_at hl 2 rfl) ?_
      have hFc := zw_free hS hA hD
      refine va_callv (va_runV (As := [.int 2, .long p2]) (rest := []) ⟨hx, hb, hml, hown, hz⟩ (ct_B_beginOpening l dC dI cq ci h0 b s.heap.size 2 p2) (cwV 2 hz (zw_gV zi_213 zi_196 zi_23 zi_36 zi_197) rfl rfl rfl (by decide +kernel) ⟨Nat.le_of_ble_eq_true rfl, Nat.le_of_ble_eq_true rfl⟩) (zw_preUV zw_ns_ok hP hD hK hN (ci := 0) rfl (k := 0) rfl) rfl rfl hl.1 rfl (lv_room (Nat.le_of_ble_eq_true rfl)) dz_B_undergo_44 ⟨Nat.le_of_ble_eq_true rfl, Nat.le_of_ble_eq_true rfl⟩) hS (fun q _ h => hFc q h) hFc (fun u_6 t_6 H locs ht hvm hw hB hz1 hk1 hS => ?_)
      have hP : va_P (dC, dI) vwCl (zb_W h0 (zb_begin b 2 p2)) t_6.heap := hB
      rw [ht] at hP
      have hD : va_D A (zb_W h0 (zb_begin b 2 p2)) := zb_D hD
      obtain ⟨S_7, eS_7⟩ : ∃ z, z = (zb_begin b 2 p2) := ⟨_, rfl⟩
      rw [← eS_7] at hP hD
      refine lv_goto (tgt := 63) hx hb dz_B_undergo_47 (by decide) ?_
      subst eS_7
      have hE_8 : zb_undergo b p1 p2 = zb_begin b 2 p2 := by simp only [zb_undergo, if_neg c_1, if_pos c_5]
      exact W.vret hx hb hr (fun t ht hW => ⟨⟨(), rfl, trivial, by show va_P (dC, dI) vwCl (zb_W h0 (zb_undergo b p1 p2)) t.heap; rw [ht, hE_8]; exact hP⟩, hS.F ht⟩) hS.2.2 dz_B_undergo_63
    · by_cases c_9 : p1 = 2
      · refine lv_tableIn (tgt := 58) hx hb dz_B_undergo_1 (by rw [c_9]; decide) (by rw [c_9]; decide) (by rw [c_9]; rfl) (by decide) ?_
        refine lv_aload_n hx hb dz_B_undergo_58 rfl (lv_at hl 0 rfl) ?_
        refine lv_iconst (v := 0) hx hb dz_B_undergo_59 (by decide) ?_
        refine va_put (D := (dC, dI)) (ci := 0) (v := .int 0) (ty := .int) (C := RzB) (T := TzB) (N := 9) hx hb hz inzB tyzB tyzB_ok nmzB hown hK hP hD hS 0 rfl rfl 1 (by decide) (hz _ zi_87) (fun _ h9 => h9) rfl (by decide +kernel) rfl rfl (Nat.le_of_ble_eq_true rfl) dz_B_undergo_60 (fun H locs hP hD hS => ?_)
        obtain ⟨S_10, eS_10⟩ : ∃ z, z = zb_sDr b 0 := ⟨_, rfl⟩
        have hP : va_P (dC, dI) vwCl (zb_W h0 S_10) H := by rw [eS_10]; exact hP
        have hD : va_D A (zb_W h0 S_10) := by rw [eS_10]; exact hD
        subst eS_10
        have hE_11 : zb_undergo b p1 p2 = zb_sDr b 0 := by simp only [zb_undergo, if_neg c_1, if_neg c_5, if_pos c_9]
        exact W.vret hx hb hr (fun t ht hW => ⟨⟨(), rfl, trivial, by show va_P (dC, dI) vwCl (zb_W h0 (zb_undergo b p1 p2)) t.heap; rw [ht, hE_11]; exact hP⟩, hS.F ht⟩) hS.2.2 dz_B_undergo_63
      · by_cases c_12 : p1 = 3
        · refine lv_tableIn (tgt := 50) hx hb dz_B_undergo_1 (by rw [c_12]; decide) (by rw [c_12]; decide) (by rw [c_12]; rfl) (by decide) ?_
          refine lv_aload_n hx hb dz_B_undergo_50 rfl (lv_at hl 0 rfl) ?_
          refine lv_iconst (v := 3) hx hb dz_B_undergo_51 (by decide) ?_
          refine va_put (D := (dC, dI)) (ci := 0) (v := .int 3) (ty := .int) (C := RzB) (T := TzB) (N := 9) hx hb hz inzB tyzB tyzB_ok nmzB hown hK hP hD hS 0 rfl rfl 1 (by decide) (hz _ zi_87) (fun _ h9 => h9) rfl (by decide +kernel) rfl rfl (Nat.le_of_ble_eq_true rfl) dz_B_undergo_52 (fun H locs hP hD hS => ?_)
          obtain ⟨S_13, eS_13⟩ : ∃ z, z = zb_sDr b 3 := ⟨_, rfl⟩
          have hP : va_P (dC, dI) vwCl (zb_W h0 S_13) H := by rw [eS_13]; exact hP
          have hD : va_D A (zb_W h0 S_13) := by rw [eS_13]; exact hD
          refine lv_goto (tgt := 63) hx hb dz_B_undergo_55 (by decide) ?_
          subst eS_13
          have hE_14 : zb_undergo b p1 p2 = zb_sDr b 3 := by simp only [zb_undergo, if_neg c_1, if_neg c_5, if_neg c_9, if_pos c_12]
          exact W.vret hx hb hr (fun t ht hW => ⟨⟨(), rfl, trivial, by show va_P (dC, dI) vwCl (zb_W h0 (zb_undergo b p1 p2)) t.heap; rw [ht, hE_14]; exact hP⟩, hS.F ht⟩) hS.2.2 dz_B_undergo_63
        · have o_15 : p1.toInt < 0 ∨ 3 < p1.toInt := by
            have e0 := lv_neT c_1 (a := 0) rfl
            have e1 := lv_neT c_5 (a := 1) rfl
            have e2 := lv_neT c_9 (a := 2) rfl
            have e3 := lv_neT c_12 (a := 3) rfl
            omega
          refine lv_tableOut (tgt := 58) hx hb dz_B_undergo_1 o_15 (by decide) ?_
          refine lv_aload_n hx hb dz_B_undergo_58 rfl (lv_at hl 0 rfl) ?_
          refine lv_iconst (v := 0) hx hb dz_B_undergo_59 (by decide) ?_
          refine va_put (D := (dC, dI)) (ci := 0) (v := .int 0) (ty := .int) (C := RzB) (T := TzB) (N := 9) hx hb hz inzB tyzB tyzB_ok nmzB hown hK hP hD hS 0 rfl rfl 1 (by decide) (hz _ zi_87) (fun _ h9 => h9) rfl (by decide +kernel) rfl rfl (Nat.le_of_ble_eq_true rfl) dz_B_undergo_60 (fun H locs hP hD hS => ?_)
          obtain ⟨S_16, eS_16⟩ : ∃ z, z = zb_sDr b 0 := ⟨_, rfl⟩
          have hP : va_P (dC, dI) vwCl (zb_W h0 S_16) H := by rw [eS_16]; exact hP
          have hD : va_D A (zb_W h0 S_16) := by rw [eS_16]; exact hD
          subst eS_16
          have hE_17 : zb_undergo b p1 p2 = zb_sDr b 0 := by simp only [zb_undergo, if_neg c_1, if_neg c_5, if_neg c_9, if_neg c_12]
          exact W.vret hx hb hr (fun t ht hW => ⟨⟨(), rfl, trivial, by show va_P (dC, dI) vwCl (zb_W h0 (zb_undergo b p1 p2)) t.heap; rw [ht, hE_17]; exact hP⟩, hS.F ht⟩) hS.2.2 dz_B_undergo_63
set_option maxHeartbeats 4000000 in
set_option maxRecDepth 100000 in
theorem ct_B_receive (l : Launch) (dC : Nat → ClassId) (dI : Nat → Nat → Nat) (cq ci : ClassId) (h0 : Nat) (b : zb_T) (sz : Nat) (p1 : Int32) : Met l yz_B_receive wz_B_receive (zw_room 0 0 0) (zw_U zw_ns (dC, dI) vwCl (zl_tys cq ci) [.ref h0, .int p1] (zb_W h0 b) sz) (va_Qv (fun _ : Unit => True) (fun (_ : Unit) (t : State) => va_P (dC, dI) vwCl (zb_W h0 (zb_receive b p1)) t.heap) (va_A (zb_W h0 b) sz)) 0 0 (va_A (zb_W h0 b) sz) := by
  refine Met.ofW (cc := cz_B_receive) (maxL := 2) (ret := none) (by decide) rfl ?_
  intro p e s m args below meth c s₁ B hml hv
  obtain ⟨rfl, hsz, hP, hK, hD0, hN⟩ := hv
  have hx := B.exec
  have hb := B.bytes
  have hr := B.returns
  have hts := atoms_spec (ws := wz_B_receive) B.pre
  have hz : ∀ w ∈ zw_T, w.before ([.ref h0, .int p1] : List Value).toArray s = true := fun w h => hts w (List.mem_cons_of_mem _ h)
  have hown : s.vm.findClass RzB = some m.cls := findClass_of_methodNamed B.named
  have hlocks := B.notSynchronized
  subst hsz
  have hD := hD0.self (sz := s.heap.size)
  generalize hAe : va_A (zb_W h0 b) s.heap.size = A at hD ⊢
  have hA : ∀ q : Nat, s.heap.size ≤ q → A q := fun q h => by rw [← hAe]; exact Or.inr h
  have hS : va_S A s.heap s.heap [] := va_S.rf
  have hl := lv_entry ([.ref h0, .int p1]) (n := 2) (Nat.le_of_ble_eq_true rfl)
  rw [lg_entry_eq]
  generalize (lg_sl ([.ref h0, .int p1]) ++ List.replicate (2 - (lg_sl ([.ref h0, .int p1])).length) Slot.unset).toArray = ls at hl ⊢
  have hl : lv_has ls 2 [(0, .ref h0), (1, .int p1)] := hl
  refine lv_aload_n hx hb dz_B_receive_0 rfl (lv_at hl 0 rfl) ?_
  refine lv_iload_n hx hb dz_B_receive_1 rfl (lv_at hl 1 rfl) ?_
  refine va_put (D := (dC, dI)) (ci := 0) (v := .int p1) (ty := .int) (C := RzB) (T := TzB) (N := 9) hx hb hz inzB tyzB tyzB_ok nmzB hown hK hP hD hS 0 rfl rfl 4 (by decide) (hz _ zi_90) (fun _ h9 => h9) rfl (by decide +kernel) rfl rfl (Nat.le_of_ble_eq_true rfl) dz_B_receive_2 (fun H locs hP hD hS => ?_)
  obtain ⟨S_1, eS_1⟩ : ∃ z, z = zb_sIt b p1 := ⟨_, rfl⟩
  have hP : va_P (dC, dI) vwCl (zb_W h0 S_1) H := by rw [eS_1]; exact hP
  have hD : va_D A (zb_W h0 S_1) := by rw [eS_1]; exact hD
  refine lv_aload_n hx hb dz_B_receive_5 rfl (lv_at hl 0 rfl) ?_
  refine lv_lconst (v := 0) hx hb dz_B_receive_6 (by decide) ?_
  refine va_put (D := (dC, dI)) (ci := 0) (v := .long 0) (ty := .long) (C := RzB) (T := TzB) (N := 9) hx hb hz inzB tyzB tyzB_ok nmzB hown hK hP hD hS 0 rfl rfl 8 (by decide) (hz _ zi_94) (fun _ h9 => h9) rfl (by decide +kernel) rfl rfl (Nat.le_of_ble_eq_true rfl) dz_B_receive_7 (fun H locs hP hD hS => ?_)
  obtain ⟨S_2, eS_2⟩ : ∃ z, z = zb_sKe S_1 0 := ⟨_, rfl⟩
  have hP : va_P (dC, dI) vwCl (zb_W h0 S_2) H := by rw [eS_2]; exact hP
  have hD : va_D A (zb_W h0 S_2) := by rw [eS_2]; exact hD
  subst eS_1 eS_2
  have hE_3 : zb_receive b p1 = zb_sKe (zb_sIt b p1) 0 := by simp only [zb_receive]
  exact W.vret hx hb hr (fun t ht hW => ⟨⟨(), rfl, trivial, by show va_P (dC, dI) vwCl (zb_W h0 (zb_receive b p1)) t.heap; rw [ht, hE_3]; exact hP⟩, hS.F ht⟩) hS.2.2 dz_B_receive_10
set_option maxHeartbeats 4000000 in
set_option maxRecDepth 100000 in
theorem ct_B_layDown (l : Launch) (dC : Nat → ClassId) (dI : Nat → Nat → Nat) (cq ci : ClassId) (h0 : Nat) (b : zb_T) (sz : Nat) (p1 : Int32) (p2 : Int64) : Met l yz_B_layDown wz_B_layDown (zw_room 0 0 0) (zw_U zw_ns (dC, dI) vwCl (zl_tys cq ci) [.ref h0, .int p1, .long p2] (zb_W h0 b) sz) (va_Qv (fun _ : Unit => True) (fun (_ : Unit) (t : State) => va_P (dC, dI) vwCl (zb_W h0 (zb_lay b p1 p2)) t.heap) (va_A (zb_W h0 b) sz)) 0 0 (va_A (zb_W h0 b) sz) := by
  refine Met.ofW (cc := cz_B_layDown) (maxL := 4) (ret := none) (by decide) rfl ?_
  intro p e s m args below meth c s₁ B hml hv
  obtain ⟨rfl, hsz, hP, hK, hD0, hN⟩ := hv
  have hx := B.exec
  have hb := B.bytes
  have hr := B.returns
  have hts := atoms_spec (ws := wz_B_layDown) B.pre
  have hz : ∀ w ∈ zw_T, w.before ([.ref h0, .int p1, .long p2] : List Value).toArray s = true := fun w h => hts w (List.mem_cons_of_mem _ h)
  have hown : s.vm.findClass RzB = some m.cls := findClass_of_methodNamed B.named
  have hlocks := B.notSynchronized
  subst hsz
  have hD := hD0.self (sz := s.heap.size)
  generalize hAe : va_A (zb_W h0 b) s.heap.size = A at hD ⊢
  have hA : ∀ q : Nat, s.heap.size ≤ q → A q := fun q h => by rw [← hAe]; exact Or.inr h
  have hS : va_S A s.heap s.heap [] := va_S.rf
  have hl := lv_entry ([.ref h0, .int p1, .long p2]) (n := 4) (Nat.le_of_ble_eq_true rfl)
  rw [lg_entry_eq]
  generalize (lg_sl ([.ref h0, .int p1, .long p2]) ++ List.replicate (4 - (lg_sl ([.ref h0, .int p1, .long p2])).length) Slot.unset).toArray = ls at hl ⊢
  have hl : lv_has ls 4 [(0, .ref h0), (1, .int p1), (2, .long p2)] := hl
  refine lv_aload_n hx hb dz_B_layDown_0 rfl (lv_at hl 0 rfl) ?_
  refine lv_iload_n hx hb dz_B_layDown_1 rfl (lv_at hl 1 rfl) ?_
  refine va_put (D := (dC, dI)) (ci := 0) (v := .int p1) (ty := .int) (C := RzB) (T := TzB) (N := 9) hx hb hz inzB tyzB tyzB_ok nmzB hown hK hP hD hS 0 rfl rfl 5 (by decide) (hz _ zi_91) (fun _ h9 => h9) rfl (by decide +kernel) rfl rfl (Nat.le_of_ble_eq_true rfl) dz_B_layDown_2 (fun H locs hP hD hS => ?_)
  obtain ⟨S_1, eS_1⟩ : ∃ z, z = zb_sCo b p1 := ⟨_, rfl⟩
  have hP : va_P (dC, dI) vwCl (zb_W h0 S_1) H := by rw [eS_1]; exact hP
  have hD : va_D A (zb_W h0 S_1) := by rw [eS_1]; exact hD
  refine lv_aload_n hx hb dz_B_layDown_5 rfl (lv_at hl 0 rfl) ?_
  refine lv_lload_n hx hb dz_B_layDown_6 rfl (lv_at hl 2 rfl) ?_
  refine va_put (D := (dC, dI)) (ci := 0) (v := .long p2) (ty := .long) (C := RzB) (T := TzB) (N := 9) hx hb hz inzB tyzB tyzB_ok nmzB hown hK hP hD hS 0 rfl rfl 6 (by decide) (hz _ zi_92) (fun _ h9 => h9) rfl (by decide +kernel) rfl rfl (Nat.le_of_ble_eq_true rfl) dz_B_layDown_7 (fun H locs hP hD hS => ?_)
  obtain ⟨S_2, eS_2⟩ : ∃ z, z = zb_sLs S_1 p2 := ⟨_, rfl⟩
  have hP : va_P (dC, dI) vwCl (zb_W h0 S_2) H := by rw [eS_2]; exact hP
  have hD : va_D A (zb_W h0 S_2) := by rw [eS_2]; exact hD
  subst eS_1 eS_2
  have hE_3 : zb_lay b p1 p2 = zb_sLs (zb_sCo b p1) p2 := by simp only [zb_lay]
  exact W.vret hx hb hr (fun t ht hW => ⟨⟨(), rfl, trivial, by show va_P (dC, dI) vwCl (zb_W h0 (zb_lay b p1 p2)) t.heap; rw [ht, hE_3]; exact hP⟩, hS.F ht⟩) hS.2.2 dz_B_layDown_10
set_option maxHeartbeats 4000000 in
set_option maxRecDepth 100000 in
theorem ct_B_clear (l : Launch) (dC : Nat → ClassId) (dI : Nat → Nat → Nat) (cq ci : ClassId) (h0 : Nat) (b : zb_T) (sz : Nat) : Met l yz_B_clear wz_B_clear (zw_room 0 0 0) (zw_U zw_ns (dC, dI) vwCl (zl_tys cq ci) [.ref h0] (zb_W h0 b) sz) (va_Qv (fun _ : Unit => True) (fun (_ : Unit) (t : State) => va_P (dC, dI) vwCl (zb_W h0 (zb_clear b)) t.heap) (va_A (zb_W h0 b) sz)) 0 0 (va_A (zb_W h0 b) sz) := by
  refine Met.ofW (cc := cz_B_clear) (maxL := 1) (ret := none) (by decide) rfl ?_
  intro p e s m args below meth c s₁ B hml hv
  obtain ⟨rfl, hsz, hP, hK, hD0, hN⟩ := hv
  have hx := B.exec
  have hb := B.bytes
  have hr := B.returns
  have hts := atoms_spec (ws := wz_B_clear) B.pre
  have hz : ∀ w ∈ zw_T, w.before ([.ref h0] : List Value).toArray s = true := fun w h => hts w (List.mem_cons_of_mem _ h)
  have hown : s.vm.findClass RzB = some m.cls := findClass_of_methodNamed B.named
  have hlocks := B.notSynchronized
  subst hsz
  have hD := hD0.self (sz := s.heap.size)
  generalize hAe : va_A (zb_W h0 b) s.heap.size = A at hD ⊢
  have hA : ∀ q : Nat, s.heap.size ≤ q → A q := fun q h => by rw [← hAe]; exact Or.inr h
  have hS : va_S A s.heap s.heap [] := va_S.rf
  have hl := lv_entry ([.ref h0]) (n := 1) (Nat.le_of_ble_eq_true rfl)
  rw [lg_entry_eq]
  generalize (lg_sl ([.ref h0]) ++ List.replicate (1 - (lg_sl ([.ref h0])).length) Slot.unset).toArray = ls at hl ⊢
  have hl : lv_has ls 1 [(0, .ref h0)] := hl
  refine lv_aload_n hx hb dz_B_clear_0 rfl (lv_at hl 0 rfl) ?_
  refine lv_iconst (v := 0) hx hb dz_B_clear_1 (by decide) ?_
  refine va_put (D := (dC, dI)) (ci := 0) (v := .int 0) (ty := .int) (C := RzB) (T := TzB) (N := 9) hx hb hz inzB tyzB tyzB_ok nmzB hown hK hP hD hS 0 rfl rfl 4 (by decide) (hz _ zi_90) (fun _ h9 => h9) rfl (by decide +kernel) rfl rfl (Nat.le_of_ble_eq_true rfl) dz_B_clear_2 (fun H locs hP hD hS => ?_)
  obtain ⟨S_1, eS_1⟩ : ∃ z, z = zb_sIt b 0 := ⟨_, rfl⟩
  have hP : va_P (dC, dI) vwCl (zb_W h0 S_1) H := by rw [eS_1]; exact hP
  have hD : va_D A (zb_W h0 S_1) := by rw [eS_1]; exact hD
  refine lv_aload_n hx hb dz_B_clear_5 rfl (lv_at hl 0 rfl) ?_
  refine lv_iconst (v := -1) hx hb dz_B_clear_6 (by decide) ?_
  refine va_put (D := (dC, dI)) (ci := 0) (v := .int (-1)) (ty := .int) (C := RzB) (T := TzB) (N := 9) hx hb hz inzB tyzB tyzB_ok nmzB hown hK hP hD hS 0 rfl rfl 5 (by decide) (hz _ zi_91) (fun _ h9 => h9) rfl (by decide +kernel) rfl rfl (Nat.le_of_ble_eq_true rfl) dz_B_clear_7 (fun H locs hP hD hS => ?_)
  obtain ⟨S_2, eS_2⟩ : ∃ z, z = zb_sCo S_1 (-1) := ⟨_, rfl⟩
  have hP : va_P (dC, dI) vwCl (zb_W h0 S_2) H := by rw [eS_2]; exact hP
  have hD : va_D A (zb_W h0 S_2) := by rw [eS_2]; exact hD
  refine lv_aload_n hx hb dz_B_clear_10 rfl (lv_at hl 0 rfl) ?_
  refine lv_iconst (v := 0) hx hb dz_B_clear_11 (by decide) ?_
  refine va_put (D := (dC, dI)) (ci := 0) (v := .int 0) (ty := .boolean) (C := RzB) (T := TzB) (N := 9) hx hb hz inzB tyzB tyzB_ok nmzB hown hK hP hD hS 0 rfl rfl 7 (by decide) (hz _ zi_93) (fun _ h9 => h9) rfl (by decide +kernel) rfl rfl (Nat.le_of_ble_eq_true rfl) dz_B_clear_12 (fun H locs hP hD hS => ?_)
  obtain ⟨S_3, eS_3⟩ : ∃ z, z = zb_sLa S_2 0 := ⟨_, rfl⟩
  have hP : va_P (dC, dI) vwCl (zb_W h0 S_3) H := by rw [eS_3]; exact hP
  have hD : va_D A (zb_W h0 S_3) := by rw [eS_3]; exact hD
  subst eS_1 eS_2 eS_3
  have hE_4 : zb_clear b = zb_sLa (zb_sCo (zb_sIt b 0) (-1)) 0 := by simp only [zb_clear]
  exact W.vret hx hb hr (fun t ht hW => ⟨⟨(), rfl, trivial, by show va_P (dC, dI) vwCl (zb_W h0 (zb_clear b)) t.heap; rw [ht, hE_4]; exact hP⟩, hS.F ht⟩) hS.2.2 dz_B_clear_15
set_option maxHeartbeats 4000000 in
set_option maxRecDepth 100000 in
theorem ct_B_freeIfDue (l : Launch) (dC : Nat → ClassId) (dI : Nat → Nat → Nat) (cq ci : ClassId) (h0 : Nat) (b : zb_T) (sz : Nat) (p1 : Int64) : Met l yz_B_freeIfDue wz_B_freeIfDue (zw_room 0 0 0) (zw_U zw_ns (dC, dI) vwCl (zl_tys cq ci) [.ref h0, .long p1] (zb_W h0 b) sz) (va_Qi (fun (r : Int32) (_ : Unit) => r = (zb_free b p1).1) (fun (_ : Unit) (t : State) => va_P (dC, dI) vwCl (zb_W h0 ((zb_free b p1).2)) t.heap) (va_A (zb_W h0 b) sz)) 0 0 (va_A (zb_W h0 b) sz) := by
  refine Met.ofW (cc := cz_B_freeIfDue) (maxL := 3) (ret := (some .boolean)) (by decide) rfl ?_
  intro p e s m args below meth c s₁ B hml hv
  obtain ⟨rfl, hsz, hP, hK, hD0, hN⟩ := hv
  have hx := B.exec
  have hb := B.bytes
  have hr := B.returns
  have hts := atoms_spec (ws := wz_B_freeIfDue) B.pre
  have hz : ∀ w ∈ zw_T, w.before ([.ref h0, .long p1] : List Value).toArray s = true := fun w h => hts w (List.mem_cons_of_mem _ h)
  have hown : s.vm.findClass RzB = some m.cls := findClass_of_methodNamed B.named
  have hlocks := B.notSynchronized
  subst hsz
  have hD := hD0.self (sz := s.heap.size)
  generalize hAe : va_A (zb_W h0 b) s.heap.size = A at hD ⊢
  have hA : ∀ q : Nat, s.heap.size ≤ q → A q := fun q h => by rw [← hAe]; exact Or.inr h
  have hS : va_S A s.heap s.heap [] := va_S.rf
  have hl := lv_entry ([.ref h0, .long p1]) (n := 3) (Nat.le_of_ble_eq_true rfl)
  rw [lg_entry_eq]
  generalize (lg_sl ([.ref h0, .long p1]) ++ List.replicate (3 - (lg_sl ([.ref h0, .long p1])).length) Slot.unset).toArray = ls at hl ⊢
  have hl : lv_has ls 3 [(0, .ref h0), (1, .long p1)] := hl
  refine lv_aload_n hx hb dz_B_freeIfDue_0 rfl (lv_at hl 0 rfl) ?_
  refine va_get (D := (dC, dI)) (ci := 0) (v := .long (zb_Ke b)) (C := RzB) (T := TzB) (N := 9) hx hb hz inzB hown hK hP 0 rfl rfl 8 (by decide) (hz _ zi_94) (fun _ h9 => h9) rfl dz_B_freeIfDue_1 ?_
  refine lv_lconst (v := 0) hx hb dz_B_freeIfDue_4 (by decide) ?_
  refine W.lcmp hx hb dz_B_freeIfDue_5 ?_
  refine lv_if_eq (tgt := 18) hx hb dz_B_freeIfDue_6 (by decide) (fun c_1 => ?_) (fun c_1 => ?_)
  · refine lv_iconst (v := 0) hx hb dz_B_freeIfDue_18 (by decide) ?_
    have hE_2 : zb_free b p1 = (0, b) := by simp only [zb_free, if_pos c_1]
    exact W.zret (v := 0) (ty := .boolean) hx hb hr rfl (fun t ht hW => ⟨⟨_, (), rfl, by show 0 = (zb_free b p1).1; rw [hE_2], by show va_P (dC, dI) vwCl (zb_W h0 ((zb_free b p1).2)) t.heap; rw [ht, hE_2]; exact hP⟩, hS.F ht⟩) hS.2.2 dz_B_freeIfDue_19
  · refine lv_aload_n hx hb dz_B_freeIfDue_9 rfl (lv_at hl 0 rfl) ?_
    refine va_get (D := (dC, dI)) (ci := 0) (v := .long (zb_Ke b)) (C := RzB) (T := TzB) (N := 9) hx hb hz inzB hown hK hP 0 rfl rfl 8 (by decide) (hz _ zi_94) (fun _ h9 => h9) rfl dz_B_freeIfDue_10 ?_
    refine lv_lload_n hx hb dz_B_freeIfDue_13 rfl (lv_at hl 1 rfl) ?_
    refine W.lcmp hx hb dz_B_freeIfDue_14 ?_
    refine lv_if_le (tgt := 20) hx hb dz_B_freeIfDue_15 (by decide) (fun c_3 => ?_) (fun c_3 => ?_)
    · refine lv_aload_n hx hb dz_B_freeIfDue_20 rfl (lv_at hl 0 rfl) ?_
      refine lv_lconst (v := 0) hx hb dz_B_freeIfDue_21 (by decide) ?_
      refine va_put (D := (dC, dI)) (ci := 0) (v := .long 0) (ty := .long) (C := RzB) (T := TzB) (N := 9) hx hb hz inzB tyzB tyzB_ok nmzB hown hK hP hD hS 0 rfl rfl 8 (by decide) (hz _ zi_94) (fun _ h9 => h9) rfl (by decide +kernel) rfl rfl (Nat.le_of_ble_eq_true rfl) dz_B_freeIfDue_22 (fun H locs hP hD hS => ?_)
      obtain ⟨S_4, eS_4⟩ : ∃ z, z = zb_sKe b 0 := ⟨_, rfl⟩
      have hP : va_P (dC, dI) vwCl (zb_W h0 S_4) H := by rw [eS_4]; exact hP
      have hD : va_D A (zb_W h0 S_4) := by rw [eS_4]; exact hD
      refine lv_iconst (v := 1) hx hb dz_B_freeIfDue_25 (by decide) ?_
      subst eS_4
      have hE_5 : zb_free b p1 = (1, zb_sKe b 0) := by simp only [zb_free, if_neg c_1, if_pos c_3]
      exact W.zret (v := 1) (ty := .boolean) hx hb hr rfl (fun t ht hW => ⟨⟨_, (), rfl, by show 1 = (zb_free b p1).1; rw [hE_5], by show va_P (dC, dI) vwCl (zb_W h0 ((zb_free b p1).2)) t.heap; rw [ht, hE_5]; exact hP⟩, hS.F ht⟩) hS.2.2 dz_B_freeIfDue_26
    · refine lv_iconst (v := 0) hx hb dz_B_freeIfDue_18 (by decide) ?_
      have hE_6 : zb_free b p1 = (0, b) := by simp only [zb_free, if_neg c_1, if_neg c_3]
      exact W.zret (v := 0) (ty := .boolean) hx hb hr rfl (fun t ht hW => ⟨⟨_, (), rfl, by show 0 = (zb_free b p1).1; rw [hE_6], by show va_P (dC, dI) vwCl (zb_W h0 ((zb_free b p1).2)) t.heap; rw [ht, hE_6]; exact hP⟩, hS.F ht⟩) hS.2.2 dz_B_freeIfDue_19
set_option maxHeartbeats 4000000 in
set_option maxRecDepth 100000 in
theorem ct_B_tellAlarms (l : Launch) (dC : Nat → ClassId) (dI : Nat → Nat → Nat) (cq ci : ClassId) (h0 : Nat) (b : zb_T) (sz : Nat) (p1 : Int64) : Met l yz_B_tellAlarms wz_B_tellAlarms (zw_room 1 0 0) (zw_U zw_ns (dC, dI) vwCl (zl_tys cq ci) [.ref h0, .long p1] (zb_W h0 b) sz) (va_Qi (fun (r : Int32) (_ : Unit) => r = (zb_tell b p1).1) (fun (_ : Unit) (t : State) => va_P (dC, dI) vwCl (zb_W h0 ((zb_tell b p1).2)) t.heap) (va_A (zb_W h0 b) sz)) 0 0 (va_A (zb_W h0 b) sz) := by
  refine Met.ofW (cc := cz_B_tellAlarms) (maxL := 4) (ret := (some .int)) (by decide) rfl ?_
  intro p e s m args below meth c s₁ B hml hv
  obtain ⟨rfl, hsz, hP, hK, hD0, hN⟩ := hv
  have hx := B.exec
  have hb := B.bytes
  have hr := B.returns
  have hts := atoms_spec (ws := wz_B_tellAlarms) B.pre
  have hz : ∀ w ∈ zw_T, w.before ([.ref h0, .long p1] : List Value).toArray s = true := fun w h => hts w (List.mem_cons_of_mem _ h)
  have hown : s.vm.findClass RzB = some m.cls := findClass_of_methodNamed B.named
  have hlocks := B.notSynchronized
  subst hsz
  have hD := hD0.self (sz := s.heap.size)
  generalize hAe : va_A (zb_W h0 b) s.heap.size = A at hD ⊢
  have hA : ∀ q : Nat, s.heap.size ≤ q → A q := fun q h => by rw [← hAe]; exact Or.inr h
  have hS : va_S A s.heap s.heap [] := va_S.rf
  have hl := lv_entry ([.ref h0, .long p1]) (n := 4) (Nat.le_of_ble_eq_true rfl)
  rw [lg_entry_eq]
  generalize (lg_sl ([.ref h0, .long p1]) ++ List.replicate (4 - (lg_sl ([.ref h0, .long p1])).length) Slot.unset).toArray = ls at hl ⊢
  have hl : lv_has ls 4 [(0, .ref h0), (1, .long p1)] := hl
  refine lv_iconst (v := 0) hx hb dz_B_tellAlarms_0 (by decide) ?_
  refine lv_istore_n (lv' := [(3, .int 0), (0, .ref h0), (1, .long p1)]) hx hb dz_B_tellAlarms_1 rfl hl (by decide) rfl (fun ls hl => ?_)
  refine lv_aload_n hx hb dz_B_tellAlarms_2 rfl (lv_at hl 1 rfl) ?_
  refine vp_callSi (va_Run.run (va_runV (As := []) (rest := []) ⟨hx, hb, hml, hown, hz⟩ (ct_B_isOpenOrForced l dC dI cq ci h0 b) (cwV 0 hz (zw_gV zi_152 zi_153 zi_11 zi_36 zi_154) rfl rfl rfl (by decide +kernel) ⟨Nat.le_of_ble_eq_true rfl, Nat.le_of_ble_eq_true rfl⟩) (zw_preRV zw_ns_ok hP hK hN (ci := 0) rfl (k := 0) rfl) rfl rfl hl.1 rfl (lv_room (Nat.le_of_ble_eq_true rfl)) dz_B_tellAlarms_3 ⟨Nat.le_of_ble_eq_true rfl, Nat.le_of_ble_eq_true rfl⟩)) (fun r_1 hr_1 => ?_)
  have hr_1 : r_1 = zb_isOpen b := hr_1
  subst hr_1
  refine lv_if_eq (tgt := 37) hx hb dz_B_tellAlarms_6 (by decide) (fun c_2 => ?_) (fun c_2 => ?_)
  · refine lv_aload_n hx hb dz_B_tellAlarms_37 rfl (lv_at hl 1 rfl) ?_
    refine vp_callSi (va_Run.run (va_runV (As := []) (rest := []) ⟨hx, hb, hml, hown, hz⟩ (ct_B_lies l dC dI cq ci h0 b) (cwV 0 hz (zw_gV zi_156 zi_157 zi_12 zi_36 zi_158) rfl rfl rfl (by decide +kernel) ⟨Nat.le_of_ble_eq_true rfl, Nat.le_of_ble_eq_true rfl⟩) (zw_preRV zw_ns_ok hP hK hN (ci := 0) rfl (k := 0) rfl) rfl rfl hl.1 rfl (lv_room (Nat.le_of_ble_eq_true rfl)) dz_B_tellAlarms_38 ⟨Nat.le_of_ble_eq_true rfl, Nat.le_of_ble_eq_true rfl⟩)) (fun r_3 hr_3 => ?_)
    have hr_3 : r_3 = zb_lies b := hr_3
    subst hr_3
    refine lv_if_eq (tgt := 72) hx hb dz_B_tellAlarms_41 (by decide) (fun c_4 => ?_) (fun c_4 => ?_)
    · refine lv_iload_n hx hb dz_B_tellAlarms_72 rfl (lv_at hl 0 rfl) ?_
      have hE_5 : zb_tell b p1 = (0, b) := by simp only [zb_tell, if_pos c_2, if_pos c_4]
      exact W.iret (v := 0) hx hb hr (fun t ht hW => ⟨⟨_, (), rfl, by show 0 = (zb_tell b p1).1; rw [hE_5], by show va_P (dC, dI) vwCl (zb_W h0 ((zb_tell b p1).2)) t.heap; rw [ht, hE_5]; exact hP⟩, hS.F ht⟩) hS.2.2 dz_B_tellAlarms_73
    · refine lv_aload_n hx hb dz_B_tellAlarms_44 rfl (lv_at hl 1 rfl) ?_
      refine va_get (D := (dC, dI)) (ci := 0) (v := .int (zb_La b)) (C := RzB) (T := TzB) (N := 9) hx hb hz inzB hown hK hP 0 rfl rfl 7 (by decide) (hz _ zi_93) (fun _ h9 => h9) rfl dz_B_tellAlarms_45 ?_
      refine lv_if_ne (tgt := 72) hx hb dz_B_tellAlarms_48 (by decide) (fun c_6 => ?_) (fun c_6 => ?_)
      · refine lv_iload_n hx hb dz_B_tellAlarms_72 rfl (lv_at hl 0 rfl) ?_
        have hE_7 : zb_tell b p1 = (0, b) := by simp only [zb_tell, if_pos c_2, if_neg c_4, if_neg c_6]
        exact W.iret (v := 0) hx hb hr (fun t ht hW => ⟨⟨_, (), rfl, by show 0 = (zb_tell b p1).1; rw [hE_7], by show va_P (dC, dI) vwCl (zb_W h0 ((zb_tell b p1).2)) t.heap; rw [ht, hE_7]; exact hP⟩, hS.F ht⟩) hS.2.2 dz_B_tellAlarms_73
      · refine lv_lload_n hx hb dz_B_tellAlarms_51 rfl (lv_at hl 2 rfl) ?_
        refine lv_aload_n hx hb dz_B_tellAlarms_52 rfl (lv_at hl 1 rfl) ?_
        refine va_get (D := (dC, dI)) (ci := 0) (v := .long (zb_Ls b)) (C := RzB) (T := TzB) (N := 9) hx hb hz inzB hown hK hP 0 rfl rfl 6 (by decide) (hz _ zi_92) (fun _ h9 => h9) rfl dz_B_tellAlarms_53 ?_
        refine lv_lsub hx hb dz_B_tellAlarms_56 ?_
        refine lv_ldc2 (v := 604800) hx hb hown (hz _ zi_159) dz_B_tellAlarms_57 ?_
        refine W.lcmp hx hb dz_B_tellAlarms_60 ?_
        refine lv_if_lt (tgt := 72) hx hb dz_B_tellAlarms_61 (by decide) (fun c_8 => ?_) (fun c_8 => ?_)
        · refine lv_iload_n hx hb dz_B_tellAlarms_72 rfl (lv_at hl 0 rfl) ?_
          have hE_9 : zb_tell b p1 = (0, b) := by simp only [zb_tell, if_pos c_2, if_neg c_4, if_pos c_6, if_pos c_8]
          exact W.iret (v := 0) hx hb hr (fun t ht hW => ⟨⟨_, (), rfl, by show 0 = (zb_tell b p1).1; rw [hE_9], by show va_P (dC, dI) vwCl (zb_W h0 ((zb_tell b p1).2)) t.heap; rw [ht, hE_9]; exact hP⟩, hS.F ht⟩) hS.2.2 dz_B_tellAlarms_73
        · refine lv_aload_n hx hb dz_B_tellAlarms_64 rfl (lv_at hl 1 rfl) ?_
          refine lv_iconst (v := 1) hx hb dz_B_tellAlarms_65 (by decide) ?_
          refine va_put (D := (dC, dI)) (ci := 0) (v := .int 1) (ty := .boolean) (C := RzB) (T := TzB) (N := 9) hx hb hz inzB tyzB tyzB_ok nmzB hown hK hP hD hS 0 rfl rfl 7 (by decide) (hz _ zi_93) (fun _ h9 => h9) rfl (by decide +kernel) rfl rfl (Nat.le_of_ble_eq_true rfl) dz_B_tellAlarms_66 (fun H locs hP hD hS => ?_)
          obtain ⟨S_10, eS_10⟩ : ∃ z, z = zb_sLa b 1 := ⟨_, rfl⟩
          have hP : va_P (dC, dI) vwCl (zb_W h0 S_10) H := by rw [eS_10]; exact hP
          have hD : va_D A (zb_W h0 S_10) := by rw [eS_10]; exact hD
          refine lv_iinc (v := 0 + 1) (lv' := [(3, .int (0 + 1)), (0, .ref h0), (1, .long p1)]) hx hb dz_B_tellAlarms_69 hl (k := 0) rfl rfl (by decide) rfl (fun ls hl => ?_)
          refine lv_iload_n hx hb dz_B_tellAlarms_72 rfl (lv_at hl 0 rfl) ?_
          subst eS_10
          have hE_11 : zb_tell b p1 = (0 + 1, zb_sLa b 1) := by simp only [zb_tell, if_pos c_2, if_neg c_4, if_pos c_6, if_neg c_8]
          exact W.iret (v := 0 + 1) hx hb hr (fun t ht hW => ⟨⟨_, (), rfl, by show 0 + 1 = (zb_tell b p1).1; rw [hE_11], by show va_P (dC, dI) vwCl (zb_W h0 ((zb_tell b p1).2)) t.heap; rw [ht, hE_11]; exact hP⟩, hS.F ht⟩) hS.2.2 dz_B_tellAlarms_73
  · refine lv_aload_n hx hb dz_B_tellAlarms_9 rfl (lv_at hl 1 rfl) ?_
    refine va_get (D := (dC, dI)) (ci := 0) (v := .int (zb_To b)) (C := RzB) (T := TzB) (N := 9) hx hb hz inzB hown hK hP 0 rfl rfl 3 (by decide) (hz _ zi_89) (fun _ h9 => h9) rfl dz_B_tellAlarms_10 ?_
    refine lv_if_ne (tgt := 37) hx hb dz_B_tellAlarms_13 (by decide) (fun c_12 => ?_) (fun c_12 => ?_)
    · refine lv_aload_n hx hb dz_B_tellAlarms_37 rfl (lv_at hl 1 rfl) ?_
      refine vp_callSi (va_Run.run (va_runV (As := []) (rest := []) ⟨hx, hb, hml, hown, hz⟩ (ct_B_lies l dC dI cq ci h0 b) (cwV 0 hz (zw_gV zi_156 zi_157 zi_12 zi_36 zi_158) rfl rfl rfl (by decide +kernel) ⟨Nat.le_of_ble_eq_true rfl, Nat.le_of_ble_eq_true rfl⟩) (zw_preRV zw_ns_ok hP hK hN (ci := 0) rfl (k := 0) rfl) rfl rfl hl.1 rfl (lv_room (Nat.le_of_ble_eq_true rfl)) dz_B_tellAlarms_38 ⟨Nat.le_of_ble_eq_true rfl, Nat.le_of_ble_eq_true rfl⟩)) (fun r_13 hr_13 => ?_)
      have hr_13 : r_13 = zb_lies b := hr_13
      subst hr_13
      refine lv_if_eq (tgt := 72) hx hb dz_B_tellAlarms_41 (by decide) (fun c_14 => ?_) (fun c_14 => ?_)
      · refine lv_iload_n hx hb dz_B_tellAlarms_72 rfl (lv_at hl 0 rfl) ?_
        have hE_15 : zb_tell b p1 = (0, b) := by simp only [zb_tell, if_neg c_2, if_neg c_12, if_pos c_14]
        exact W.iret (v := 0) hx hb hr (fun t ht hW => ⟨⟨_, (), rfl, by show 0 = (zb_tell b p1).1; rw [hE_15], by show va_P (dC, dI) vwCl (zb_W h0 ((zb_tell b p1).2)) t.heap; rw [ht, hE_15]; exact hP⟩, hS.F ht⟩) hS.2.2 dz_B_tellAlarms_73
      · refine lv_aload_n hx hb dz_B_tellAlarms_44 rfl (lv_at hl 1 rfl) ?_
        refine va_get (D := (dC, dI)) (ci := 0) (v := .int (zb_La b)) (C := RzB) (T := TzB) (N := 9) hx hb hz inzB hown hK hP 0 rfl rfl 7 (by decide) (hz _ zi_93) (fun _ h9 => h9) rfl dz_B_tellAlarms_45 ?_
        refine lv_if_ne (tgt := 72) hx hb dz_B_tellAlarms_48 (by decide) (fun c_16 => ?_) (fun c_16 => ?_)
        · refine lv_iload_n hx hb dz_B_tellAlarms_72 rfl (lv_at hl 0 rfl) ?_
          have hE_17 : zb_tell b p1 = (0, b) := by simp only [zb_tell, if_neg c_2, if_neg c_12, if_neg c_14, if_neg c_16]
          exact W.iret (v := 0) hx hb hr (fun t ht hW => ⟨⟨_, (), rfl, by show 0 = (zb_tell b p1).1; rw [hE_17], by show va_P (dC, dI) vwCl (zb_W h0 ((zb_tell b p1).2)) t.heap; rw [ht, hE_17]; exact hP⟩, hS.F ht⟩) hS.2.2 dz_B_tellAlarms_73
        · refine lv_lload_n hx hb dz_B_tellAlarms_51 rfl (lv_at hl 2 rfl) ?_
          refine lv_aload_n hx hb dz_B_tellAlarms_52 rfl (lv_at hl 1 rfl) ?_
          refine va_get (D := (dC, dI)) (ci := 0) (v := .long (zb_Ls b)) (C := RzB) (T := TzB) (N := 9) hx hb hz inzB hown hK hP 0 rfl rfl 6 (by decide) (hz _ zi_92) (fun _ h9 => h9) rfl dz_B_tellAlarms_53 ?_
          refine lv_lsub hx hb dz_B_tellAlarms_56 ?_
          refine lv_ldc2 (v := 604800) hx hb hown (hz _ zi_159) dz_B_tellAlarms_57 ?_
          refine W.lcmp hx hb dz_B_tellAlarms_60 ?_
          refine lv_if_lt (tgt := 72) hx hb dz_B_tellAlarms_61 (by decide) (fun c_18 => ?_) (fun c_18 => ?_)
          · refine lv_iload_n hx hb dz_B_tellAlarms_72 rfl (lv_at hl 0 rfl) ?_
            have hE_19 : zb_tell b p1 = (0, b) := by simp only [zb_tell, if_neg c_2, if_neg c_12, if_neg c_14, if_pos c_16, if_pos c_18]
            exact W.iret (v := 0) hx hb hr (fun t ht hW => ⟨⟨_, (), rfl, by show 0 = (zb_tell b p1).1; rw [hE_19], by show va_P (dC, dI) vwCl (zb_W h0 ((zb_tell b p1).2)) t.heap; rw [ht, hE_19]; exact hP⟩, hS.F ht⟩) hS.2.2 dz_B_tellAlarms_73
          · refine lv_aload_n hx hb dz_B_tellAlarms_64 rfl (lv_at hl 1 rfl) ?_
            refine lv_iconst (v := 1) hx hb dz_B_tellAlarms_65 (by decide) ?_
            refine va_put (D := (dC, dI)) (ci := 0) (v := .int 1) (ty := .boolean) (C := RzB) (T := TzB) (N := 9) hx hb hz inzB tyzB tyzB_ok nmzB hown hK hP hD hS 0 rfl rfl 7 (by decide) (hz _ zi_93) (fun _ h9 => h9) rfl (by decide +kernel) rfl rfl (Nat.le_of_ble_eq_true rfl) dz_B_tellAlarms_66 (fun H locs hP hD hS => ?_)
            obtain ⟨S_20, eS_20⟩ : ∃ z, z = zb_sLa b 1 := ⟨_, rfl⟩
            have hP : va_P (dC, dI) vwCl (zb_W h0 S_20) H := by rw [eS_20]; exact hP
            have hD : va_D A (zb_W h0 S_20) := by rw [eS_20]; exact hD
            refine lv_iinc (v := 0 + 1) (lv' := [(3, .int (0 + 1)), (0, .ref h0), (1, .long p1)]) hx hb dz_B_tellAlarms_69 hl (k := 0) rfl rfl (by decide) rfl (fun ls hl => ?_)
            refine lv_iload_n hx hb dz_B_tellAlarms_72 rfl (lv_at hl 0 rfl) ?_
            subst eS_20
            have hE_21 : zb_tell b p1 = (0 + 1, zb_sLa b 1) := by simp only [zb_tell, if_neg c_2, if_neg c_12, if_neg c_14, if_pos c_16, if_neg c_18]
            exact W.iret (v := 0 + 1) hx hb hr (fun t ht hW => ⟨⟨_, (), rfl, by show 0 + 1 = (zb_tell b p1).1; rw [hE_21], by show va_P (dC, dI) vwCl (zb_W h0 ((zb_tell b p1).2)) t.heap; rw [ht, hE_21]; exact hP⟩, hS.F ht⟩) hS.2.2 dz_B_tellAlarms_73
    · refine lv_lload_n hx hb dz_B_tellAlarms_16 rfl (lv_at hl 2 rfl) ?_
      refine lv_aload_n hx hb dz_B_tellAlarms_17 rfl (lv_at hl 1 rfl) ?_
      refine va_get (D := (dC, dI)) (ci := 0) (v := .long (zb_Os b)) (C := RzB) (T := TzB) (N := 9) hx hb hz inzB hown hK hP 0 rfl rfl 2 (by decide) (hz _ zi_88) (fun _ h9 => h9) rfl dz_B_tellAlarms_18 ?_
      refine lv_lsub hx hb dz_B_tellAlarms_21 ?_
      refine lv_ldc2 (v := 120) hx hb hown (hz _ zi_155) dz_B_tellAlarms_22 ?_
      refine W.lcmp hx hb dz_B_tellAlarms_25 ?_
      refine lv_if_lt (tgt := 37) hx hb dz_B_tellAlarms_26 (by decide) (fun c_22 => ?_) (fun c_22 => ?_)
      · refine lv_aload_n hx hb dz_B_tellAlarms_37 rfl (lv_at hl 1 rfl) ?_
        refine vp_callSi (va_Run.run (va_runV (As := []) (rest := []) ⟨hx, hb, hml, hown, hz⟩ (ct_B_lies l dC dI cq ci h0 b) (cwV 0 hz (zw_gV zi_156 zi_157 zi_12 zi_36 zi_158) rfl rfl rfl (by decide +kernel) ⟨Nat.le_of_ble_eq_true rfl, Nat.le_of_ble_eq_true rfl⟩) (zw_preRV zw_ns_ok hP hK hN (ci := 0) rfl (k := 0) rfl) rfl rfl hl.1 rfl (lv_room (Nat.le_of_ble_eq_true rfl)) dz_B_tellAlarms_38 ⟨Nat.le_of_ble_eq_true rfl, Nat.le_of_ble_eq_true rfl⟩)) (fun r_23 hr_23 => ?_)
        have hr_23 : r_23 = zb_lies b := hr_23
        subst hr_23
        refine lv_if_eq (tgt := 72) hx hb dz_B_tellAlarms_41 (by decide) (fun c_24 => ?_) (fun c_24 => ?_)
        · refine lv_iload_n hx hb dz_B_tellAlarms_72 rfl (lv_at hl 0 rfl) ?_
          have hE_25 : zb_tell b p1 = (0, b) := by simp only [zb_tell, if_neg c_2, if_pos c_12, if_pos c_22, if_pos c_24]
          exact W.iret (v := 0) hx hb hr (fun t ht hW => ⟨⟨_, (), rfl, by show 0 = (zb_tell b p1).1; rw [hE_25], by show va_P (dC, dI) vwCl (zb_W h0 ((zb_tell b p1).2)) t.heap; rw [ht, hE_25]; exact hP⟩, hS.F ht⟩) hS.2.2 dz_B_tellAlarms_73
        · refine lv_aload_n hx hb dz_B_tellAlarms_44 rfl (lv_at hl 1 rfl) ?_
          refine va_get (D := (dC, dI)) (ci := 0) (v := .int (zb_La b)) (C := RzB) (T := TzB) (N := 9) hx hb hz inzB hown hK hP 0 rfl rfl 7 (by decide) (hz _ zi_93) (fun _ h9 => h9) rfl dz_B_tellAlarms_45 ?_
          refine lv_if_ne (tgt := 72) hx hb dz_B_tellAlarms_48 (by decide) (fun c_26 => ?_) (fun c_26 => ?_)
          · refine lv_iload_n hx hb dz_B_tellAlarms_72 rfl (lv_at hl 0 rfl) ?_
            have hE_27 : zb_tell b p1 = (0, b) := by simp only [zb_tell, if_neg c_2, if_pos c_12, if_pos c_22, if_neg c_24, if_neg c_26]
            exact W.iret (v := 0) hx hb hr (fun t ht hW => ⟨⟨_, (), rfl, by show 0 = (zb_tell b p1).1; rw [hE_27], by show va_P (dC, dI) vwCl (zb_W h0 ((zb_tell b p1).2)) t.heap; rw [ht, hE_27]; exact hP⟩, hS.F ht⟩) hS.2.2 dz_B_tellAlarms_73
          · refine lv_lload_n hx hb dz_B_tellAlarms_51 rfl (lv_at hl 2 rfl) ?_
            refine lv_aload_n hx hb dz_B_tellAlarms_52 rfl (lv_at hl 1 rfl) ?_
            refine va_get (D := (dC, dI)) (ci := 0) (v := .long (zb_Ls b)) (C := RzB) (T := TzB) (N := 9) hx hb hz inzB hown hK hP 0 rfl rfl 6 (by decide) (hz _ zi_92) (fun _ h9 => h9) rfl dz_B_tellAlarms_53 ?_
            refine lv_lsub hx hb dz_B_tellAlarms_56 ?_
            refine lv_ldc2 (v := 604800) hx hb hown (hz _ zi_159) dz_B_tellAlarms_57 ?_
            refine W.lcmp hx hb dz_B_tellAlarms_60 ?_
            refine lv_if_lt (tgt := 72) hx hb dz_B_tellAlarms_61 (by decide) (fun c_28 => ?_) (fun c_28 => ?_)
            · refine lv_iload_n hx hb dz_B_tellAlarms_72 rfl (lv_at hl 0 rfl) ?_
              have hE_29 : zb_tell b p1 = (0, b) := by simp only [zb_tell, if_neg c_2, if_pos c_12, if_pos c_22, if_neg c_24, if_pos c_26, if_pos c_28]
              exact W.iret (v := 0) hx hb hr (fun t ht hW => ⟨⟨_, (), rfl, by show 0 = (zb_tell b p1).1; rw [hE_29], by show va_P (dC, dI) vwCl (zb_W h0 ((zb_tell b p1).2)) t.heap; rw [ht, hE_29]; exact hP⟩, hS.F ht⟩) hS.2.2 dz_B_tellAlarms_73
            · refine lv_aload_n hx hb dz_B_tellAlarms_64 rfl (lv_at hl 1 rfl) ?_
              refine lv_iconst (v := 1) hx hb dz_B_tellAlarms_65 (by decide) ?_
              refine va_put (D := (dC, dI)) (ci := 0) (v := .int 1) (ty := .boolean) (C := RzB) (T := TzB) (N := 9) hx hb hz inzB tyzB tyzB_ok nmzB hown hK hP hD hS 0 rfl rfl 7 (by decide) (hz _ zi_93) (fun _ h9 => h9) rfl (by decide +kernel) rfl rfl (Nat.le_of_ble_eq_true rfl) dz_B_tellAlarms_66 (fun H locs hP hD hS => ?_)
              obtain ⟨S_30, eS_30⟩ : ∃ z, z = zb_sLa b 1 := ⟨_, rfl⟩
              have hP : va_P (dC, dI) vwCl (zb_W h0 S_30) H := by rw [eS_30]; exact hP
              have hD : va_D A (zb_W h0 S_30) := by rw [eS_30]; exact hD
              refine lv_iinc (v := 0 + 1) (lv' := [(3, .int (0 + 1)), (0, .ref h0), (1, .long p1)]) hx hb dz_B_tellAlarms_69 hl (k := 0) rfl rfl (by decide) rfl (fun ls hl => ?_)
              refine lv_iload_n hx hb dz_B_tellAlarms_72 rfl (lv_at hl 0 rfl) ?_
              subst eS_30
              have hE_31 : zb_tell b p1 = (0 + 1, zb_sLa b 1) := by simp only [zb_tell, if_neg c_2, if_pos c_12, if_pos c_22, if_neg c_24, if_pos c_26, if_neg c_28]
              exact W.iret (v := 0 + 1) hx hb hr (fun t ht hW => ⟨⟨_, (), rfl, by show 0 + 1 = (zb_tell b p1).1; rw [hE_31], by show va_P (dC, dI) vwCl (zb_W h0 ((zb_tell b p1).2)) t.heap; rw [ht, hE_31]; exact hP⟩, hS.F ht⟩) hS.2.2 dz_B_tellAlarms_73
      · refine lv_aload_n hx hb dz_B_tellAlarms_29 rfl (lv_at hl 1 rfl) ?_
        refine lv_iconst (v := 1) hx hb dz_B_tellAlarms_30 (by decide) ?_
        refine va_put (D := (dC, dI)) (ci := 0) (v := .int 1) (ty := .boolean) (C := RzB) (T := TzB) (N := 9) hx hb hz inzB tyzB tyzB_ok nmzB hown hK hP hD hS 0 rfl rfl 3 (by decide) (hz _ zi_89) (fun _ h9 => h9) rfl (by decide +kernel) rfl rfl (Nat.le_of_ble_eq_true rfl) dz_B_tellAlarms_31 (fun H locs hP hD hS => ?_)
        obtain ⟨S_32, eS_32⟩ : ∃ z, z = zb_sTo b 1 := ⟨_, rfl⟩
        have hP : va_P (dC, dI) vwCl (zb_W h0 S_32) H := by rw [eS_32]; exact hP
        have hD : va_D A (zb_W h0 S_32) := by rw [eS_32]; exact hD
        refine lv_iinc (v := 0 + 1) (lv' := [(3, .int (0 + 1)), (0, .ref h0), (1, .long p1)]) hx hb dz_B_tellAlarms_34 hl (k := 0) rfl rfl (by decide) rfl (fun ls hl => ?_)
        refine lv_aload_n hx hb dz_B_tellAlarms_37 rfl (lv_at hl 1 rfl) ?_
        refine vp_callSi (va_Run.run (va_runV (As := []) (rest := []) ⟨hx, hb, hml, hown, hz⟩ (ct_B_lies l dC dI cq ci h0 S_32) (cwV 0 hz (zw_gV zi_156 zi_157 zi_12 zi_36 zi_158) rfl rfl rfl (by decide +kernel) ⟨Nat.le_of_ble_eq_true rfl, Nat.le_of_ble_eq_true rfl⟩) (zw_preRV zw_ns_ok hP hK hN (ci := 0) rfl (k := 0) rfl) rfl rfl hl.1 rfl (lv_room (Nat.le_of_ble_eq_true rfl)) dz_B_tellAlarms_38 ⟨Nat.le_of_ble_eq_true rfl, Nat.le_of_ble_eq_true rfl⟩)) (fun r_33 hr_33 => ?_)
        have hr_33 : r_33 = zb_lies S_32 := hr_33
        subst hr_33
        refine lv_if_eq (tgt := 72) hx hb dz_B_tellAlarms_41 (by decide) (fun c_34 => ?_) (fun c_34 => ?_)
        · refine lv_iload_n hx hb dz_B_tellAlarms_72 rfl (lv_at hl 0 rfl) ?_
          subst eS_32
          have hE_35 : zb_tell b p1 = (0 + 1, zb_sTo b 1) := by simp only [zb_tell, if_neg c_2, if_pos c_12, if_neg c_22, if_pos c_34]
          exact W.iret (v := 0 + 1) hx hb hr (fun t ht hW => ⟨⟨_, (), rfl, by show 0 + 1 = (zb_tell b p1).1; rw [hE_35], by show va_P (dC, dI) vwCl (zb_W h0 ((zb_tell b p1).2)) t.heap; rw [ht, hE_35]; exact hP⟩, hS.F ht⟩) hS.2.2 dz_B_tellAlarms_73
        · refine lv_aload_n hx hb dz_B_tellAlarms_44 rfl (lv_at hl 1 rfl) ?_
          refine va_get (D := (dC, dI)) (ci := 0) (v := .int (zb_La S_32)) (C := RzB) (T := TzB) (N := 9) hx hb hz inzB hown hK hP 0 rfl rfl 7 (by decide) (hz _ zi_93) (fun _ h9 => h9) rfl dz_B_tellAlarms_45 ?_
          refine lv_if_ne (tgt := 72) hx hb dz_B_tellAlarms_48 (by decide) (fun c_36 => ?_) (fun c_36 => ?_)
          · refine lv_iload_n hx hb dz_B_tellAlarms_72 rfl (lv_at hl 0 rfl) ?_
            subst eS_32
            have hE_37 : zb_tell b p1 = (0 + 1, zb_sTo b 1) := by simp only [zb_tell, if_neg c_2, if_pos c_12, if_neg c_22, if_neg c_34, if_neg c_36]
            exact W.iret (v := 0 + 1) hx hb hr (fun t ht hW => ⟨⟨_, (), rfl, by show 0 + 1 = (zb_tell b p1).1; rw [hE_37], by show va_P (dC, dI) vwCl (zb_W h0 ((zb_tell b p1).2)) t.heap; rw [ht, hE_37]; exact hP⟩, hS.F ht⟩) hS.2.2 dz_B_tellAlarms_73
          · refine lv_lload_n hx hb dz_B_tellAlarms_51 rfl (lv_at hl 2 rfl) ?_
            refine lv_aload_n hx hb dz_B_tellAlarms_52 rfl (lv_at hl 1 rfl) ?_
            refine va_get (D := (dC, dI)) (ci := 0) (v := .long (zb_Ls S_32)) (C := RzB) (T := TzB) (N := 9) hx hb hz inzB hown hK hP 0 rfl rfl 6 (by decide) (hz _ zi_92) (fun _ h9 => h9) rfl dz_B_tellAlarms_53 ?_
            refine lv_lsub hx hb dz_B_tellAlarms_56 ?_
            refine lv_ldc2 (v := 604800) hx hb hown (hz _ zi_159) dz_B_tellAlarms_57 ?_
            refine W.lcmp hx hb dz_B_tellAlarms_60 ?_
            refine lv_if_lt (tgt := 72) hx hb dz_B_tellAlarms_61 (by decide) (fun c_38 => ?_) (fun c_38 => ?_)
            · refine lv_iload_n hx hb dz_B_tellAlarms_72 rfl (lv_at hl 0 rfl) ?_
              subst eS_32
              have hE_39 : zb_tell b p1 = (0 + 1, zb_sTo b 1) := by simp only [zb_tell, if_neg c_2, if_pos c_12, if_neg c_22, if_neg c_34, if_pos c_36, if_pos c_38]
              exact W.iret (v := 0 + 1) hx hb hr (fun t ht hW => ⟨⟨_, (), rfl, by show 0 + 1 = (zb_tell b p1).1; rw [hE_39], by show va_P (dC, dI) vwCl (zb_W h0 ((zb_tell b p1).2)) t.heap; rw [ht, hE_39]; exact hP⟩, hS.F ht⟩) hS.2.2 dz_B_tellAlarms_73
            · refine lv_aload_n hx hb dz_B_tellAlarms_64 rfl (lv_at hl 1 rfl) ?_
              refine lv_iconst (v := 1) hx hb dz_B_tellAlarms_65 (by decide) ?_
              refine va_put (D := (dC, dI)) (ci := 0) (v := .int 1) (ty := .boolean) (C := RzB) (T := TzB) (N := 9) hx hb hz inzB tyzB tyzB_ok nmzB hown hK hP hD hS 0 rfl rfl 7 (by decide) (hz _ zi_93) (fun _ h9 => h9) rfl (by decide +kernel) rfl rfl (Nat.le_of_ble_eq_true rfl) dz_B_tellAlarms_66 (fun H locs hP hD hS => ?_)
              obtain ⟨S_40, eS_40⟩ : ∃ z, z = zb_sLa S_32 1 := ⟨_, rfl⟩
              have hP : va_P (dC, dI) vwCl (zb_W h0 S_40) H := by rw [eS_40]; exact hP
              have hD : va_D A (zb_W h0 S_40) := by rw [eS_40]; exact hD
              refine lv_iinc (v := (0 + 1) + 1) (lv' := [(3, .int ((0 + 1) + 1)), (0, .ref h0), (1, .long p1)]) hx hb dz_B_tellAlarms_69 hl (k := 0) rfl rfl (by decide) rfl (fun ls hl => ?_)
              refine lv_iload_n hx hb dz_B_tellAlarms_72 rfl (lv_at hl 0 rfl) ?_
              subst eS_32 eS_40
              have hE_41 : zb_tell b p1 = ((0 + 1) + 1, zb_sLa (zb_sTo b 1) 1) := by simp only [zb_tell, if_neg c_2, if_pos c_12, if_neg c_22, if_neg c_34, if_pos c_36, if_neg c_38]
              exact W.iret (v := (0 + 1) + 1) hx hb hr (fun t ht hW => ⟨⟨_, (), rfl, by show (0 + 1) + 1 = (zb_tell b p1).1; rw [hE_41], by show va_P (dC, dI) vwCl (zb_W h0 ((zb_tell b p1).2)) t.heap; rw [ht, hE_41]; exact hP⟩, hS.F ht⟩) hS.2.2 dz_B_tellAlarms_73
set_option maxHeartbeats 4000000 in
set_option maxRecDepth 100000 in
theorem ct_B_init (l : Launch) (dC : Nat → ClassId) (dI : Nat → Nat → Nat) (cq ci : ClassId) (h0 : Nat) (b : zb_T) (sz : Nat) (p1 : Int32) : Met l yz_B_init wz_B_init (zw_room 1 0 0) (zw_U zw_ns (dC, dI) vwCl (zl_tys cq ci) [.ref h0, .int p1] (zb_W h0 b) sz) (va_Qv (fun _ : Unit => True) (fun (_ : Unit) (t : State) => va_P (dC, dI) vwCl (zb_W h0 (zb_init b p1)) t.heap) (va_A (zb_W h0 b) sz)) 0 0 (va_A (zb_W h0 b) sz) := by
  refine Met.ofW (cc := cz_B_init) (maxL := 2) (ret := none) (by decide) rfl ?_
  intro p e s m args below meth c s₁ B hml hv
  obtain ⟨rfl, hsz, hP, hK, hD0, hN⟩ := hv
  have hx := B.exec
  have hb := B.bytes
  have hr := B.returns
  have hts := atoms_spec (ws := wz_B_init) B.pre
  have hz : ∀ w ∈ zw_T, w.before ([.ref h0, .int p1] : List Value).toArray s = true := fun w h => hts w (List.mem_cons_of_mem _ h)
  have hown : s.vm.findClass RzB = some m.cls := findClass_of_methodNamed B.named
  have hlocks := B.notSynchronized
  have hin : meth.name = "<init>" := (name_of_methodNamed B.named B.method).1
  subst hsz
  have hD := hD0.self (sz := s.heap.size)
  generalize hAe : va_A (zb_W h0 b) s.heap.size = A at hD ⊢
  have hA : ∀ q : Nat, s.heap.size ≤ q → A q := fun q h => by rw [← hAe]; exact Or.inr h
  have hS : va_S A s.heap s.heap [] := va_S.rf
  have hl := lv_entry ([.ref h0, .int p1]) (n := 2) (Nat.le_of_ble_eq_true rfl)
  rw [lg_entry_eq]
  generalize (lg_sl ([.ref h0, .int p1]) ++ List.replicate (2 - (lg_sl ([.ref h0, .int p1])).length) Slot.unset).toArray = ls at hl ⊢
  have hl : lv_has ls 2 [(0, .ref h0), (1, .int p1)] := hl
  refine lv_aload_n hx hb dz_B_init_0 rfl (lv_at hl 0 rfl) ?_
  refine W.objInit hx hb hown (hz _ zi_85) (hz _ zi_44) (hz _ zi_45) rfl (by rw [hml]; exact hl.1) rfl dz_B_init_1 (Nat.le_of_ble_eq_true rfl) (Nat.le_of_ble_eq_true rfl) ?_
  refine W.eq (g2 := F0 m 4 ls []) rfl ?_
  refine lv_aload_n hx hb dz_B_init_4 rfl (lv_at hl 0 rfl) ?_
  refine lv_iconst (v := 0) hx hb dz_B_init_5 (by decide) ?_
  refine va_put (D := (dC, dI)) (ci := 0) (v := .int 0) (ty := .int) (C := RzB) (T := TzB) (N := 9) hx hb hz inzB tyzB tyzB_ok nmzB hown hK hP hD hS 0 rfl rfl 1 (by decide) (hz _ zi_87) (fun _ h9 => h9) rfl (by decide +kernel) rfl rfl (Nat.le_of_ble_eq_true rfl) dz_B_init_6 (fun H locs hP hD hS => ?_)
  obtain ⟨S_1, eS_1⟩ : ∃ z, z = zb_sDr b 0 := ⟨_, rfl⟩
  have hP : va_P (dC, dI) vwCl (zb_W h0 S_1) H := by rw [eS_1]; exact hP
  have hD : va_D A (zb_W h0 S_1) := by rw [eS_1]; exact hD
  refine lv_aload_n hx hb dz_B_init_9 rfl (lv_at hl 0 rfl) ?_
  refine lv_lconst (v := 0) hx hb dz_B_init_10 (by decide) ?_
  refine va_put (D := (dC, dI)) (ci := 0) (v := .long 0) (ty := .long) (C := RzB) (T := TzB) (N := 9) hx hb hz inzB tyzB tyzB_ok nmzB hown hK hP hD hS 0 rfl rfl 2 (by decide) (hz _ zi_88) (fun _ h9 => h9) rfl (by decide +kernel) rfl rfl (Nat.le_of_ble_eq_true rfl) dz_B_init_11 (fun H locs hP hD hS => ?_)
  obtain ⟨S_2, eS_2⟩ : ∃ z, z = zb_sOs S_1 0 := ⟨_, rfl⟩
  have hP : va_P (dC, dI) vwCl (zb_W h0 S_2) H := by rw [eS_2]; exact hP
  have hD : va_D A (zb_W h0 S_2) := by rw [eS_2]; exact hD
  refine lv_aload_n hx hb dz_B_init_14 rfl (lv_at hl 0 rfl) ?_
  refine lv_iconst (v := 0) hx hb dz_B_init_15 (by decide) ?_
  refine va_put (D := (dC, dI)) (ci := 0) (v := .int 0) (ty := .boolean) (C := RzB) (T := TzB) (N := 9) hx hb hz inzB tyzB tyzB_ok nmzB hown hK hP hD hS 0 rfl rfl 3 (by decide) (hz _ zi_89) (fun _ h9 => h9) rfl (by decide +kernel) rfl rfl (Nat.le_of_ble_eq_true rfl) dz_B_init_16 (fun H locs hP hD hS => ?_)
  obtain ⟨S_3, eS_3⟩ : ∃ z, z = zb_sTo S_2 0 := ⟨_, rfl⟩
  have hP : va_P (dC, dI) vwCl (zb_W h0 S_3) H := by rw [eS_3]; exact hP
  have hD : va_D A (zb_W h0 S_3) := by rw [eS_3]; exact hD
  refine lv_aload_n hx hb dz_B_init_19 rfl (lv_at hl 0 rfl) ?_
  refine lv_iconst (v := 0) hx hb dz_B_init_20 (by decide) ?_
  refine va_put (D := (dC, dI)) (ci := 0) (v := .int 0) (ty := .int) (C := RzB) (T := TzB) (N := 9) hx hb hz inzB tyzB tyzB_ok nmzB hown hK hP hD hS 0 rfl rfl 4 (by decide) (hz _ zi_90) (fun _ h9 => h9) rfl (by decide +kernel) rfl rfl (Nat.le_of_ble_eq_true rfl) dz_B_init_21 (fun H locs hP hD hS => ?_)
  obtain ⟨S_4, eS_4⟩ : ∃ z, z = zb_sIt S_3 0 := ⟨_, rfl⟩
  have hP : va_P (dC, dI) vwCl (zb_W h0 S_4) H := by rw [eS_4]; exact hP
  have hD : va_D A (zb_W h0 S_4) := by rw [eS_4]; exact hD
  refine lv_aload_n hx hb dz_B_init_24 rfl (lv_at hl 0 rfl) ?_
  refine lv_iconst (v := -1) hx hb dz_B_init_25 (by decide) ?_
  refine va_put (D := (dC, dI)) (ci := 0) (v := .int (-1)) (ty := .int) (C := RzB) (T := TzB) (N := 9) hx hb hz inzB tyzB tyzB_ok nmzB hown hK hP hD hS 0 rfl rfl 5 (by decide) (hz _ zi_91) (fun _ h9 => h9) rfl (by decide +kernel) rfl rfl (Nat.le_of_ble_eq_true rfl) dz_B_init_26 (fun H locs hP hD hS => ?_)
  obtain ⟨S_5, eS_5⟩ : ∃ z, z = zb_sCo S_4 (-1) := ⟨_, rfl⟩
  have hP : va_P (dC, dI) vwCl (zb_W h0 S_5) H := by rw [eS_5]; exact hP
  have hD : va_D A (zb_W h0 S_5) := by rw [eS_5]; exact hD
  refine lv_aload_n hx hb dz_B_init_29 rfl (lv_at hl 0 rfl) ?_
  refine lv_lconst (v := 0) hx hb dz_B_init_30 (by decide) ?_
  refine va_put (D := (dC, dI)) (ci := 0) (v := .long 0) (ty := .long) (C := RzB) (T := TzB) (N := 9) hx hb hz inzB tyzB tyzB_ok nmzB hown hK hP hD hS 0 rfl rfl 6 (by decide) (hz _ zi_92) (fun _ h9 => h9) rfl (by decide +kernel) rfl rfl (Nat.le_of_ble_eq_true rfl) dz_B_init_31 (fun H locs hP hD hS => ?_)
  obtain ⟨S_6, eS_6⟩ : ∃ z, z = zb_sLs S_5 0 := ⟨_, rfl⟩
  have hP : va_P (dC, dI) vwCl (zb_W h0 S_6) H := by rw [eS_6]; exact hP
  have hD : va_D A (zb_W h0 S_6) := by rw [eS_6]; exact hD
  refine lv_aload_n hx hb dz_B_init_34 rfl (lv_at hl 0 rfl) ?_
  refine lv_iconst (v := 0) hx hb dz_B_init_35 (by decide) ?_
  refine va_put (D := (dC, dI)) (ci := 0) (v := .int 0) (ty := .boolean) (C := RzB) (T := TzB) (N := 9) hx hb hz inzB tyzB tyzB_ok nmzB hown hK hP hD hS 0 rfl rfl 7 (by decide) (hz _ zi_93) (fun _ h9 => h9) rfl (by decide +kernel) rfl rfl (Nat.le_of_ble_eq_true rfl) dz_B_init_36 (fun H locs hP hD hS => ?_)
  obtain ⟨S_7, eS_7⟩ : ∃ z, z = zb_sLa S_6 0 := ⟨_, rfl⟩
  have hP : va_P (dC, dI) vwCl (zb_W h0 S_7) H := by rw [eS_7]; exact hP
  have hD : va_D A (zb_W h0 S_7) := by rw [eS_7]; exact hD
  refine lv_aload_n hx hb dz_B_init_39 rfl (lv_at hl 0 rfl) ?_
  refine lv_lconst (v := 0) hx hb dz_B_init_40 (by decide) ?_
  refine va_put (D := (dC, dI)) (ci := 0) (v := .long 0) (ty := .long) (C := RzB) (T := TzB) (N := 9) hx hb hz inzB tyzB tyzB_ok nmzB hown hK hP hD hS 0 rfl rfl 8 (by decide) (hz _ zi_94) (fun _ h9 => h9) rfl (by decide +kernel) rfl rfl (Nat.le_of_ble_eq_true rfl) dz_B_init_41 (fun H locs hP hD hS => ?_)
  obtain ⟨S_8, eS_8⟩ : ∃ z, z = zb_sKe S_7 0 := ⟨_, rfl⟩
  have hP : va_P (dC, dI) vwCl (zb_W h0 S_8) H := by rw [eS_8]; exact hP
  have hD : va_D A (zb_W h0 S_8) := by rw [eS_8]; exact hD
  refine lv_aload_n hx hb dz_B_init_44 rfl (lv_at hl 0 rfl) ?_
  refine lv_iload_n hx hb dz_B_init_45 rfl (lv_at hl 1 rfl) ?_
  refine va_putF (D := (dC, dI)) (ci := 0) (v := .int p1) (ty := .int) (C := RzB) (T := TzB) (N := 9) hx hb hz inzB tyzB tyzB_ok nmzB hown hK hP hD hS 0 rfl rfl 0 (by decide) (hz _ zi_86) (fun _ h9 => h9) rfl hin rfl (by decide +kernel) rfl rfl (Nat.le_of_ble_eq_true rfl) dz_B_init_46 (fun H locs hP hD hS => ?_)
  obtain ⟨S_9, eS_9⟩ : ∃ z, z = zb_sSz S_8 p1 := ⟨_, rfl⟩
  have hP : va_P (dC, dI) vwCl (zb_W h0 S_9) H := by rw [eS_9]; exact hP
  have hD : va_D A (zb_W h0 S_9) := by rw [eS_9]; exact hD
  subst eS_1 eS_2 eS_3 eS_4 eS_5 eS_6 eS_7 eS_8 eS_9
  have hE_10 : zb_init b p1 = zb_sSz (zb_sKe (zb_sLa (zb_sLs (zb_sCo (zb_sIt (zb_sTo (zb_sOs (zb_sDr b 0) 0) 0) 0) (-1)) 0) 0) 0) p1 := by simp only [zb_init]
  exact W.vret hx hb hr (fun t ht hW => ⟨⟨(), rfl, trivial, by show va_P (dC, dI) vwCl (zb_W h0 (zb_init b p1)) t.heap; rw [ht, hE_10]; exact hP⟩, hS.F ht⟩) hS.2.2 dz_B_init_49

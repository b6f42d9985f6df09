set_option maxHeartbeats 4000000 in
set_option maxRecDepth 100000 in
theorem ct_T_length (l : Launch) (dC : Nat → ClassId) (dI : Nat → Nat → Nat) (cq ci : ClassId) (h0 row : Nat) (q : zt_T) (hq : q.2 ≤ 200) : Met l yz_T_length wz_T_length (zw_room 0 0 0) (zw_R zw_ns (dC, dI) vwCl (zl_tys cq ci) [.ref h0] (zt_W ci h0 row q)) (vp_Si (fun r => r = zt_length q)) 0 0 (fun _ => False) := by
  refine Met.ofW (cc := cz_T_length) (maxL := 1) (ret := (some .int)) (by decide) rfl ?_
  intro p e s m args below meth c s₁ B hml hv
  obtain ⟨rfl, hP, hK, hN⟩ := hv
  have hx := B.exec
  have hb := B.bytes
  have hr := B.returns
  have hts := atoms_spec (ws := wz_T_length) B.pre
  have hz : ∀ w ∈ zw_T, w.before ([.ref h0] : List Value).toArray s = true := fun w h => hts w (List.mem_cons_of_mem _ h)
  have hown : s.vm.findClass RzT = some m.cls := findClass_of_methodNamed B.named
  have hlocks := B.notSynchronized
  have hl := lv_entry ([.ref h0]) (n := 1) (Nat.le_of_ble_eq_true rfl)
  rw [lg_entry_eq]
  generalize (lg_sl ([.ref h0]) ++ List.replicate (1 - (lg_sl ([.ref h0])).length) Slot.unset).toArray = ls at hl ⊢
  have hl : lv_has ls 1 [(0, .ref h0)] := hl
  refine lv_aload_n hx hb dz_T_length_0 rfl (lv_at hl 0 rfl) ?_
  refine va_get (D := (dC, dI)) (ci := 1) (v := .int (nI q.2)) (C := RzT) (T := TzT) (N := 2) hx hb hz inzT hown hK hP 0 rfl rfl 1 (by decide) (hz _ zi_53) (fun _ h9 => h9) rfl dz_T_length_1 ?_
  exact W.iret (v := nI q.2) hx hb hr (fun t ht hW => ⟨_, rfl, by simp only [zt_length], ht⟩) (fun _ h => by cases h) dz_T_length_4
set_option maxHeartbeats 4000000 in
set_option maxRecDepth 100000 in
theorem ct_T_append (l : Launch) (dC : Nat → ClassId) (dI : Nat → Nat → Nat) (cq ci : ClassId) (h0 row : Nat) (q : zt_T) (hq : q.2 ≤ 200) (sz : Nat) (p1 : Int32) : Met l yz_T_append wz_T_append (zw_room 0 0 0) (zw_U zw_ns (dC, dI) vwCl (zl_tys cq ci) [.ref h0, .int p1] (zt_W ci h0 row q) sz) (va_Qi (fun (r : Int32) (_ : Unit) => r = (zt_append q p1).1) (fun (_ : Unit) (t : State) => va_P (dC, dI) vwCl (zt_W ci h0 row ((zt_append q p1).2)) t.heap) (va_A (zt_W ci h0 row q) sz)) 0 0 (va_A (zt_W ci h0 row q) sz) := by
  refine Met.ofW (cc := cz_T_append) (maxL := 2) (ret := (some .boolean)) (by decide) rfl ?_
  intro p e s m args below meth c s₁ B hml hv
  obtain ⟨rfl, hsz, hP, hK, hD0, hN⟩ := hv
  have hx := B.exec
  have hb := B.bytes
  have hr := B.returns
  have hts := atoms_spec (ws := wz_T_append) B.pre
  have hz : ∀ w ∈ zw_T, w.before ([.ref h0, .int p1] : List Value).toArray s = true := fun w h => hts w (List.mem_cons_of_mem _ h)
  have hown : s.vm.findClass RzT = some m.cls := findClass_of_methodNamed B.named
  have hlocks := B.notSynchronized
  subst hsz
  have hD := hD0.self (sz := s.heap.size)
  generalize hAe : va_A (zt_W ci h0 row q) s.heap.size = A at hD ⊢
  have hA : ∀ q : Nat, s.heap.size ≤ q → A q := fun q h => by rw [← hAe]; exact Or.inr h
  have hS : va_S A s.heap s.heap [] := va_S.rf
  have hl := lv_entry ([.ref h0, .int p1]) (n := 2) (Nat.le_of_ble_eq_true rfl)
  rw [lg_entry_eq]
  generalize (lg_sl ([.ref h0, .int p1]) ++ List.replicate (2 - (lg_sl ([.ref h0, .int p1])).length) Slot.unset).toArray = ls at hl ⊢
  have hl : lv_has ls 2 [(0, .ref h0), (1, .int p1)] := hl
  refine lv_aload_n hx hb dz_T_append_0 rfl (lv_at hl 0 rfl) ?_
  refine va_get (D := (dC, dI)) (ci := 1) (v := .int (nI q.2)) (C := RzT) (T := TzT) (N := 2) hx hb hz inzT hown hK hP 0 rfl rfl 1 (by decide) (hz _ zi_53) (fun _ h9 => h9) rfl dz_T_append_1 ?_
  refine lv_sipush (v := 200) hx hb dz_T_append_4 (by decide) ?_
  refine lv_icmp_lt (tgt := 12) hx hb dz_T_append_7 (by decide) (fun c_1 => ?_) (fun c_1 => ?_)
  · refine lv_aload_n hx hb dz_T_append_12 rfl (lv_at hl 0 rfl) ?_
    refine va_get (D := (dC, dI)) (ci := 1) (v := .ref row) (C := RzT) (T := TzT) (N := 2) hx hb hz inzT hown hK hP 0 rfl rfl 0 (by decide) (hz _ zi_52) (fun _ h9 => h9) rfl dz_T_append_13 ?_
    refine lv_aload_n hx hb dz_T_append_16 rfl (lv_at hl 0 rfl) ?_
    refine va_get (D := (dC, dI)) (ci := 1) (v := .int (nI q.2)) (C := RzT) (T := TzT) (N := 2) hx hb hz inzT hown hK hP 0 rfl rfl 1 (by decide) (hz _ zi_53) (fun _ h9 => h9) rfl dz_T_append_17 ?_
    refine lv_iload_n hx hb dz_T_append_20 rfl (lv_at hl 1 rfl) ?_
    have hin_2 : vp_in (nI q.2) 200 := vp_in_nI (zt_lt200 hq c_1) (by omega)
    refine va_iast hx hb hK hP hD hS 1 1 rfl rfl hin_2 dz_T_append_21 (fun H locs hP hD hS => ?_)
    obtain ⟨S_3, eS_3⟩ : ∃ z, z = (upd q.1 (nI q.2).toNatClampNeg p1, q.2) := ⟨_, rfl⟩
    have hP : va_P (dC, dI) vwCl (zt_W ci h0 row S_3) H := by rw [eS_3]; exact hP
    have hD : va_D A (zt_W ci h0 row S_3) := by rw [eS_3]; exact hD
    refine lv_aload_n hx hb dz_T_append_22 rfl (lv_at hl 0 rfl) ?_
    refine lv_dup hx hb dz_T_append_23 rfl ?_
    refine va_get (D := (dC, dI)) (ci := 1) (v := .int (nI S_3.2)) (C := RzT) (T := TzT) (N := 2) hx hb hz inzT hown hK hP 0 rfl rfl 1 (by decide) (hz _ zi_53) (fun _ h9 => h9) rfl dz_T_append_24 ?_
    refine lv_iconst (v := 1) hx hb dz_T_append_27 (by decide) ?_
    refine lv_iadd hx hb dz_T_append_28 ?_
    refine W.eq (g2 := F0 m 29 ls [.int (nI (S_3.2 + 1)), .ref h0]) (congrArg (fun z => F0 m 29 ls (.int z :: [.ref h0])) (nI_1 _)) ?_
    refine va_put (D := (dC, dI)) (ci := 1) (v := .int (nI (S_3.2 + 1))) (ty := .int) (C := RzT) (T := TzT) (N := 2) hx hb hz inzT tyzT tyzT_ok nmzT hown hK hP hD hS 0 rfl rfl 1 (by decide) (hz _ zi_53) (fun _ h9 => h9) rfl (by decide +kernel) rfl rfl (Nat.le_of_ble_eq_true rfl) dz_T_append_29 (fun H locs hP hD hS => ?_)
    obtain ⟨S_4, eS_4⟩ : ∃ z, z = (S_3.1, (S_3.2 + 1)) := ⟨_, rfl⟩
    have hP : va_P (dC, dI) vwCl (zt_W ci h0 row S_4) H := by rw [eS_4]; exact hP
    have hD : va_D A (zt_W ci h0 row S_4) := by rw [eS_4]; exact hD
    refine lv_iconst (v := 1) hx hb dz_T_append_32 (by decide) ?_
    subst eS_3 eS_4
    have hE_5 : zt_append q p1 = (1, ((upd q.1 (nI q.2).toNatClampNeg p1, q.2).1, ((upd q.1 (nI q.2).toNatClampNeg p1, q.2).2 + 1))) := by simp only [zt_append, if_pos c_1]
    exact W.zret (v := 1) (ty := .boolean) hx hb hr rfl (fun t ht hW => ⟨⟨_, (), rfl, by show 1 = (zt_append q p1).1; rw [hE_5], by show va_P (dC, dI) vwCl (zt_W ci h0 row ((zt_append q p1).2)) t.heap; rw [ht, hE_5]; exact hP⟩, hS.F ht⟩) hS.2.2 dz_T_append_33
  · refine lv_iconst (v := 0) hx hb dz_T_append_10 (by decide) ?_
    have hE_6 : zt_append q p1 = (0, q) := by simp only [zt_append, if_neg c_1]
    exact W.zret (v := 0) (ty := .boolean) hx hb hr rfl (fun t ht hW => ⟨⟨_, (), rfl, by show 0 = (zt_append q p1).1; rw [hE_6], by show va_P (dC, dI) vwCl (zt_W ci h0 row ((zt_append q p1).2)) t.heap; rw [ht, hE_6]; exact hP⟩, hS.F ht⟩) hS.2.2 dz_T_append_11
set_option maxHeartbeats 4000000 in
set_option maxRecDepth 100000 in
theorem ct_T_at (l : Launch) (dC : Nat → ClassId) (dI : Nat → Nat → Nat) (cq ci : ClassId) (h0 row : Nat) (q : zt_T) (hq : q.2 ≤ 200) (p1 : Int32) : Met l yz_T_at wz_T_at (zw_room 0 0 0) (zw_R zw_ns (dC, dI) vwCl (zl_tys cq ci) [.ref h0, .int p1] (zt_W ci h0 row q)) (vp_Si (fun r => r = zt_at q p1)) 0 0 (fun _ => False) := by
  refine Met.ofW (cc := cz_T_at) (maxL := 2) (ret := (some .int)) (by decide) rfl ?_
  intro p e s m args below meth c s₁ B hml hv
  obtain ⟨rfl, hP, hK, hN⟩ := hv
  have hx := B.exec
  have hb := B.bytes
  have hr := B.returns
  have hts := atoms_spec (ws := wz_T_at) B.pre
  have hz : ∀ w ∈ zw_T, w.before ([.ref h0, .int p1] : List Value).toArray s = true := fun w h => hts w (List.mem_cons_of_mem _ h)
  have hown : s.vm.findClass RzT = some m.cls := findClass_of_methodNamed B.named
  have hlocks := B.notSynchronized
  have hl := lv_entry ([.ref h0, .int p1]) (n := 2) (Nat.le_of_ble_eq_true rfl)
  rw [lg_entry_eq]
  generalize (lg_sl ([.ref h0, .int p1]) ++ List.replicate (2 - (lg_sl ([.ref h0, .int p1])).length) Slot.unset).toArray = ls at hl ⊢
  have hl : lv_has ls 2 [(0, .ref h0), (1, .int p1)] := hl
  refine lv_iload_n hx hb dz_T_at_0 rfl (lv_at hl 1 rfl) ?_
  refine lv_if_lt (tgt := 21) hx hb dz_T_at_1 (by decide) (fun c_1 => ?_) (fun c_1 => ?_)
  · refine lv_iconst (v := -1) hx hb dz_T_at_21 (by decide) ?_
    exact W.iret (v := (-1)) hx hb hr (fun t ht hW => ⟨_, rfl, by simp only [zt_at, if_pos c_1], ht⟩) (fun _ h => by cases h) dz_T_at_22
  · refine lv_iload_n hx hb dz_T_at_4 rfl (lv_at hl 1 rfl) ?_
    refine lv_aload_n hx hb dz_T_at_5 rfl (lv_at hl 0 rfl) ?_
    refine va_get (D := (dC, dI)) (ci := 1) (v := .int (nI q.2)) (C := RzT) (T := TzT) (N := 2) hx hb hz inzT hown hK hP 0 rfl rfl 1 (by decide) (hz _ zi_53) (fun _ h9 => h9) rfl dz_T_at_6 ?_
    refine lv_icmp_ge (tgt := 21) hx hb dz_T_at_9 (by decide) (fun c_2 => ?_) (fun c_2 => ?_)
    · refine lv_iconst (v := -1) hx hb dz_T_at_21 (by decide) ?_
      exact W.iret (v := (-1)) hx hb hr (fun t ht hW => ⟨_, rfl, by simp only [zt_at, if_neg c_1, if_pos c_2], ht⟩) (fun _ h => by cases h) dz_T_at_22
    · refine lv_aload_n hx hb dz_T_at_12 rfl (lv_at hl 0 rfl) ?_
      refine va_get (D := (dC, dI)) (ci := 1) (v := .ref row) (C := RzT) (T := TzT) (N := 2) hx hb hz inzT hown hK hP 0 rfl rfl 0 (by decide) (hz _ zi_52) (fun _ h9 => h9) rfl dz_T_at_13 ?_
      refine lv_iload_n hx hb dz_T_at_16 rfl (lv_at hl 1 rfl) ?_
      have hin_3 : vp_in p1 200 := zt_in hq c_1 c_2
      refine va_iald hx hb hK hP 1 1 rfl rfl hin_3 dz_T_at_17 ?_
      refine lv_goto (tgt := 22) hx hb dz_T_at_18 (by decide) ?_
      exact W.iret (v := q.1 p1.toNatClampNeg) hx hb hr (fun t ht hW => ⟨_, rfl, by simp only [zt_at, if_neg c_1, if_neg c_2], ht⟩) (fun _ h => by cases h) dz_T_at_22
set_option maxHeartbeats 4000000 in
set_option maxRecDepth 100000 in
theorem ct_T_dropFirst (l : Launch) (dC : Nat → ClassId) (dI : Nat → Nat → Nat) (cq ci : ClassId) (h0 row : Nat) (q : zt_T) (hq : q.2 ≤ 200) (sz : Nat) (p1 : Int32) : Met l yz_T_dropFirst wz_T_dropFirst (zw_room 1 0 0) (zw_U zw_ns (dC, dI) vwCl (zl_tys cq ci) [.ref h0, .int p1] (zt_W ci h0 row q) sz) (va_Qv (fun _ : Unit => True) (fun (_ : Unit) (t : State) => va_P (dC, dI) vwCl (zt_W ci h0 row (zt_drop q p1)) t.heap) (va_A (zt_W ci h0 row q) sz)) 0 0 (va_A (zt_W ci h0 row q) sz) := by
  refine Met.ofW (cc := cz_T_dropFirst) (maxL := 2) (ret := none) (by decide) rfl ?_
  intro p e s m args below meth c s₁ B hml hv
  obtain ⟨rfl, hsz, hP, hK, hD0, hN⟩ := hv
  have hx := B.exec
  have hb := B.bytes
  have hr := B.returns
  have hts := atoms_spec (ws := wz_T_dropFirst) B.pre
  have hz : ∀ w ∈ zw_T, w.before ([.ref h0, .int p1] : List Value).toArray s = true := fun w h => hts w (List.mem_cons_of_mem _ h)
  have hown : s.vm.findClass RzT = some m.cls := findClass_of_methodNamed B.named
  have hlocks := B.notSynchronized
  subst hsz
  have hD := hD0.self (sz := s.heap.size)
  generalize hAe : va_A (zt_W ci h0 row q) s.heap.size = A at hD ⊢
  have hA : ∀ q : Nat, s.heap.size ≤ q → A q := fun q h => by rw [← hAe]; exact Or.inr h
  have hS : va_S A s.heap s.heap [] := va_S.rf
  have hl := lv_entry ([.ref h0, .int p1]) (n := 2) (Nat.le_of_ble_eq_true rfl)
  rw [lg_entry_eq]
  generalize (lg_sl ([.ref h0, .int p1]) ++ List.replicate (2 - (lg_sl ([.ref h0, .int p1])).length) Slot.unset).toArray = ls at hl ⊢
  have hl : lv_has ls 2 [(0, .ref h0), (1, .int p1)] := hl
  refine lv_iload_n hx hb dz_T_dropFirst_0 rfl (lv_at hl 1 rfl) ?_
  refine lv_iconst (v := 1) hx hb dz_T_dropFirst_1 (by decide) ?_
  refine lv_icmp_lt (tgt := 13) hx hb dz_T_dropFirst_2 (by decide) (fun c_1 => ?_) (fun c_1 => ?_)
  · have hE_2 : zt_drop q p1 = q := by simp only [zt_drop, if_pos c_1]
    exact W.vret hx hb hr (fun t ht hW => ⟨⟨(), rfl, trivial, by show va_P (dC, dI) vwCl (zt_W ci h0 row (zt_drop q p1)) t.heap; rw [ht, hE_2]; exact hP⟩, hS.F ht⟩) hS.2.2 dz_T_dropFirst_13
  · refine lv_iload_n hx hb dz_T_dropFirst_5 rfl (lv_at hl 1 rfl) ?_
    refine lv_aload_n hx hb dz_T_dropFirst_6 rfl (lv_at hl 0 rfl) ?_
    refine va_get (D := (dC, dI)) (ci := 1) (v := .int (nI q.2)) (C := RzT) (T := TzT) (N := 2) hx hb hz inzT hown hK hP 0 rfl rfl 1 (by decide) (hz _ zi_53) (fun _ h9 => h9) rfl dz_T_dropFirst_7 ?_
    refine lv_icmp_le (tgt := 14) hx hb dz_T_dropFirst_10 (by decide) (fun c_3 => ?_) (fun c_3 => ?_)
    · refine lv_aload_n hx hb dz_T_dropFirst_14 rfl (lv_at hl 0 rfl) ?_
      refine va_get (D := (dC, dI)) (ci := 1) (v := .ref row) (C := RzT) (T := TzT) (N := 2) hx hb hz inzT hown hK hP 0 rfl rfl 0 (by decide) (hz _ zi_52) (fun _ h9 => h9) rfl dz_T_dropFirst_15 ?_
      refine lv_iload_n hx hb dz_T_dropFirst_18 rfl (lv_at hl 1 rfl) ?_
      refine lv_aload_n hx hb dz_T_dropFirst_19 rfl (lv_at hl 0 rfl) ?_
      refine va_get (D := (dC, dI)) (ci := 1) (v := .ref row) (C := RzT) (T := TzT) (N := 2) hx hb hz inzT hown hK hP 0 rfl rfl 0 (by decide) (hz _ zi_52) (fun _ h9 => h9) rfl dz_T_dropFirst_20 ?_
      refine lv_iconst (v := 0) hx hb dz_T_dropFirst_23 (by decide) ?_
      refine lv_aload_n hx hb dz_T_dropFirst_24 rfl (lv_at hl 0 rfl) ?_
      refine va_get (D := (dC, dI)) (ci := 1) (v := .int (nI q.2)) (C := RzT) (T := TzT) (N := 2) hx hb hz inzT hown hK hP 0 rfl rfl 1 (by decide) (hz _ zi_53) (fun _ h9 => h9) rfl dz_T_dropFirst_25 ?_
      refine lv_iload_n hx hb dz_T_dropFirst_28 rfl (lv_at hl 1 rfl) ?_
      refine lv_isub hx hb dz_T_dropFirst_29 ?_
      obtain ⟨hd1, hd2, hd3⟩ := zt_copyok hq c_1 c_3
      refine va_copyi hx hb (hml.trans hl.1.symm) hown (hz _ zi_181) (hz _ zi_183) (hz _ zi_182) (hz _ zi_37) hK hP hD hS 1 1 1 1 (ty := .int) rfl rfl rfl rfl rfl hd1 (by decide) hd2 hd3.1 hd3.2 (fun _ _ => rfl) (Nat.le_of_ble_eq_true rfl) (Nat.le_of_ble_eq_true rfl) dz_T_dropFirst_30 (fun H locs hP hD hS => ?_)
      obtain ⟨S_4, eS_4⟩ : ∃ z, z = (va_cpy q.1 q.1 p1.toNatClampNeg (0 : Int32).toNatClampNeg ((nI q.2) - p1).toNatClampNeg, q.2) := ⟨_, rfl⟩
      have hP : va_P (dC, dI) vwCl (zt_W ci h0 row S_4) H := by rw [eS_4]; exact hP
      have hD : va_D A (zt_W ci h0 row S_4) := by rw [eS_4]; exact hD
      refine lv_aload_n hx hb dz_T_dropFirst_33 rfl (lv_at hl 0 rfl) ?_
      refine lv_dup hx hb dz_T_dropFirst_34 rfl ?_
      refine va_get (D := (dC, dI)) (ci := 1) (v := .int (nI S_4.2)) (C := RzT) (T := TzT) (N := 2) hx hb hz inzT hown hK hP 0 rfl rfl 1 (by decide) (hz _ zi_53) (fun _ h9 => h9) rfl dz_T_dropFirst_35 ?_
      refine lv_iload_n hx hb dz_T_dropFirst_38 rfl (lv_at hl 1 rfl) ?_
      refine lv_isub hx hb dz_T_dropFirst_39 ?_
      refine W.eq (g2 := F0 m 40 ls [.int (nI (S_4.2 - p1.toNatClampNeg)), .ref h0]) (congrArg (fun z => F0 m 40 ls (.int z :: [.ref h0])) (by rw [eS_4]; exact zt_sub (n := q.2) hq c_1 c_3)) ?_
      refine va_put (D := (dC, dI)) (ci := 1) (v := .int (nI (S_4.2 - p1.toNatClampNeg))) (ty := .int) (C := RzT) (T := TzT) (N := 2) hx hb hz inzT tyzT tyzT_ok nmzT hown hK hP hD hS 0 rfl rfl 1 (by decide) (hz _ zi_53) (fun _ h9 => h9) rfl (by decide +kernel) rfl rfl (Nat.le_of_ble_eq_true rfl) dz_T_dropFirst_40 (fun H locs hP hD hS => ?_)
      obtain ⟨S_5, eS_5⟩ : ∃ z, z = (S_4.1, (S_4.2 - p1.toNatClampNeg)) := ⟨_, rfl⟩
      have hP : va_P (dC, dI) vwCl (zt_W ci h0 row S_5) H := by rw [eS_5]; exact hP
      have hD : va_D A (zt_W ci h0 row S_5) := by rw [eS_5]; exact hD
      subst eS_4 eS_5
      have hE_6 : zt_drop q p1 = ((va_cpy q.1 q.1 p1.toNatClampNeg (0 : Int32).toNatClampNeg ((nI q.2) - p1).toNatClampNeg, q.2).1, ((va_cpy q.1 q.1 p1.toNatClampNeg (0 : Int32).toNatClampNeg ((nI q.2) - p1).toNatClampNeg, q.2).2 - p1.toNatClampNeg)) := by simp only [zt_drop, if_neg c_1, if_pos c_3]
      exact W.vret hx hb hr (fun t ht hW => ⟨⟨(), rfl, trivial, by show va_P (dC, dI) vwCl (zt_W ci h0 row (zt_drop q p1)) t.heap; rw [ht, hE_6]; exact hP⟩, hS.F ht⟩) hS.2.2 dz_T_dropFirst_43
    · have hE_7 : zt_drop q p1 = q := by simp only [zt_drop, if_neg c_1, if_neg c_3]
      exact W.vret hx hb hr (fun t ht hW => ⟨⟨(), rfl, trivial, by show va_P (dC, dI) vwCl (zt_W ci h0 row (zt_drop q p1)) t.heap; rw [ht, hE_7]; exact hP⟩, hS.F ht⟩) hS.2.2 dz_T_dropFirst_13
set_option maxHeartbeats 4000000 in
set_option maxRecDepth 100000 in
theorem ct_T_init (l : Launch) (dC : Nat → ClassId) (dI : Nat → Nat → Nat) (h0 : Nat) (sz : Nat) (c0 : Int32) : Met l yz_T_init wz_T_init (zw_room 1 1 200) (zw_U zw_ns (dC, dI) vwCl [] [.ref h0] [(h0, .inr (1, [.null, .int c0]))] sz) (va_Qv (fun _ : Nat × ClassId => True) (fun (u : Nat × ClassId) (t : State) => va_P (dC, dI) vwCl (zt_W u.2 h0 u.1 (fun _ => 0, 0)) t.heap ∧ va_K (dC, dI) vwCl [(u.2, .int)] t ∧ va_D (va_A [(h0, .inr (1, [.null, .int c0]))] sz) (zt_W u.2 h0 u.1 (fun _ => 0, 0))) (va_A [(h0, .inr (1, [.null, .int c0]))] sz)) 1 200 (va_A [(h0, .inr (1, [.null, .int c0]))] sz) := by
  refine Met.ofW (cc := cz_T_init) (maxL := 1) (ret := none) (by decide) rfl ?_
  intro p e s m args below meth c s₁ B hml hv
  obtain ⟨rfl, hsz, hP, hK, hD0, hN⟩ := hv
  have hx := B.exec
  have hb := B.bytes
  have hr := B.returns
  have hts := atoms_spec (ws := wz_T_init) B.pre
  have hown : s.vm.findClass RzT = some m.cls := findClass_of_methodNamed B.named
  have hlocks := B.notSynchronized
  have hz : ∀ w ∈ zw_T, w.before ([.ref h0] : List Value).toArray s = true := fun w h => hts w (List.mem_cons_of_mem _ h)
  have hin : meth.name = "<init>" := (name_of_methodNamed B.named B.method).1
  subst hsz
  have hD := hD0.self (sz := s.heap.size)
  generalize hAe : va_A [(h0, .inr (1, [.null, .int c0]))] s.heap.size = A at hD ⊢
  have hA : ∀ q : Nat, s.heap.size ≤ q → A q := fun q h => by rw [← hAe]; exact Or.inr h
  have hS : va_S A s.heap s.heap [] := va_S.rf
  have hl := lv_entry ([.ref h0]) (n := 1) (Nat.le_of_ble_eq_true rfl)
  rw [lg_entry_eq]
  generalize (lg_sl ([.ref h0]) ++ List.replicate (1 - (lg_sl ([.ref h0])).length) Slot.unset).toArray = ls at hl ⊢
  have hl : lv_has ls 1 [(0, .ref h0)] := hl
  refine lv_aload_n hx hb dz_T_init_0 rfl (lv_at hl 0 rfl) ?_
  refine W.objInit hx hb hown (hz _ zi_51) (hz _ zi_44) (hz _ zi_45) rfl (by rw [hml]; exact hl.1) rfl dz_T_init_1 (Nat.le_of_ble_eq_true rfl) (Nat.le_of_ble_eq_true rfl) ?_
  refine W.eq (g2 := F0 m 4 ls []) rfl ?_
  refine lv_aload_n hx hb dz_T_init_4 rfl (lv_at hl 0 rfl) ?_
  refine lv_sipush (v := 200) hx hb dz_T_init_5 (by decide) ?_
  refine va_newa (atype := .int) (a0 := (200, .inl (fun _ => 0))) (ty := .int) hx hb (hz _ zi_56) rfl hK hP hD hS hA (fun cA => rfl) (by decide) rfl (by decide) (Nat.le_of_ble_eq_true rfl) (Nat.le_of_ble_eq_true rfl) dz_T_init_8 (fun q1 cA H hK hP hD hS => ?_)
  have hK : va_K (dC, dI) vwCl [(cA, .int)] s := hK
  have hP : va_P (dC, dI) vwCl [(h0, .inr (1, [.null, .int c0])), (q1, .inl (cA, 200, .inl (fun _ => 0)))] H := hP
  have hD : va_D A [(h0, .inr (1, [.null, .int c0])), (q1, .inl (cA, 200, .inl (fun _ => 0)))] := hD
  refine W.widen (k := 1) (n := 200) (by omega) (by omega) ?_
  refine va_putF (D := (dC, dI)) (ci := 1) (v := .ref q1) (ty := .array .int) (C := RzT) (T := TzT) (N := 2) hx hb hz inzT tyzT tyzT_ok nmzT hown hK hP hD hS 0 rfl rfl 0 (by decide) (hz _ zi_52) (fun _ h9 => h9) rfl hin rfl (by decide +kernel) rfl rfl (Nat.le_of_ble_eq_true rfl) dz_T_init_10 (fun H locs hP hD hS => ?_)
  have hP : va_P (dC, dI) vwCl [(h0, .inr (1, [.ref q1, .int c0])), (q1, .inl (cA, 200, .inl (fun _ => 0)))] H := hP
  have hD : va_D A [(h0, .inr (1, [.ref q1, .int c0])), (q1, .inl (cA, 200, .inl (fun _ => 0)))] := hD
  refine lv_aload_n hx hb dz_T_init_13 rfl (lv_at hl 0 rfl) ?_
  refine lv_iconst (v := nI 0) hx hb dz_T_init_14 (by decide) ?_
  refine va_put (D := (dC, dI)) (ci := 1) (v := .int (nI 0)) (ty := .int) (C := RzT) (T := TzT) (N := 2) hx hb hz inzT tyzT tyzT_ok nmzT hown hK hP hD hS 0 rfl rfl 1 (by decide) (hz _ zi_53) (fun _ h9 => h9) rfl (by decide +kernel) rfl rfl (Nat.le_of_ble_eq_true rfl) dz_T_init_15 (fun H locs hP hD hS => ?_)
  have hP : va_P (dC, dI) vwCl (zt_W cA h0 q1 (fun _ => 0, 0)) H := hP
  have hD : va_D A (zt_W cA h0 q1 (fun _ => 0, 0)) := hD
  exact W.vret hx hb hr (fun t ht hW => ⟨⟨(q1, cA), rfl, trivial, by show va_P (dC, dI) vwCl (zt_W cA h0 q1 (fun _ => 0, 0)) t.heap; rw [ht]; exact hP, va_K.moved hW.alike hK, hD⟩, hS.F ht⟩) hS.2.2 dz_T_init_18

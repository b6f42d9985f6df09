set_option maxHeartbeats 4000000 in
set_option maxRecDepth 100000 in
theorem ct_L_init (l : Launch) (dC : Nat → ClassId) (dI : Nat → Nat → Nat) (h0 : Nat) (sz : Nat) : Met l yz_L_init wz_L_init (zw_room 2 4 362) (zw_U zw_ns (dC, dI) vwCl [] [.ref h0] [(h0, .inr (2, [.null, .int 0, .null, .null, .int 0, .long 0, .int 0, .int 0, .long 0]))] sz) (va_Qv (fun _ : zl_Ad × ClassId × ClassId => True) (fun (u : zl_Ad × ClassId × ClassId) (t : State) => va_P (dC, dI) vwCl (zl_W u.2.1 u.2.2 h0 u.1 zl_new) t.heap ∧ va_K (dC, dI) vwCl (zl_tys u.2.1 u.2.2) t ∧ va_D (va_A [(h0, .inr (2, [.null, .int 0, .null, .null, .int 0, .long 0, .int 0, .int 0, .long 0]))] sz) (zl_W u.2.1 u.2.2 h0 u.1 zl_new)) (va_A [(h0, .inr (2, [.null, .int 0, .null, .null, .int 0, .long 0, .int 0, .int 0, .long 0]))] sz)) 4 362 (va_A [(h0, .inr (2, [.null, .int 0, .null, .null, .int 0, .long 0, .int 0, .int 0, .long 0]))] sz) := by
  refine Met.ofW (cc := cz_L_init) (maxL := 1) (ret := none) (by decide) rfl ?_
  intro p e s m args below meth c s₁ B hml hv
  obtain ⟨rfl, hsz, hP, hK, hD0, hN⟩ := hv
  have hx := B.exec
  have hb := B.bytes
  have hr := B.returns
  have hts := atoms_spec (ws := wz_L_init) B.pre
  have hown : s.vm.findClass RzL = some m.cls := findClass_of_methodNamed B.named
  have hlocks := B.notSynchronized
  have hz : ∀ w ∈ zw_T, w.before ([.ref h0] : List Value).toArray s = true := fun w h => hts w (List.mem_cons_of_mem _ h)
  have hin : meth.name = "<init>" := (name_of_methodNamed B.named B.method).1
  subst hsz
  have hD := hD0.self (sz := s.heap.size)
  generalize hAe : va_A [(h0, .inr (2, [.null, .int 0, .null, .null, .int 0, .long 0, .int 0, .int 0, .long 0]))] s.heap.size = A at hD ⊢
  have hA : ∀ q : Nat, s.heap.size ≤ q → A q := fun q h => by rw [← hAe]; exact Or.inr h
  have hS : va_S A s.heap s.heap [] := va_S.rf
  have hl := lv_entry ([.ref h0]) (n := 1) (Nat.le_of_ble_eq_true rfl)
  rw [lg_entry_eq]
  generalize (lg_sl ([.ref h0]) ++ List.replicate (1 - (lg_sl ([.ref h0])).length) Slot.unset).toArray = ls at hl ⊢
  have hl : lv_has ls 1 [(0, .ref h0)] := hl
  refine lv_aload_n hx hb dz_L_init_0 rfl (lv_at hl 0 rfl) ?_
  refine W.objInit hx hb hown (hz _ zi_43) (hz _ zi_44) (hz _ zi_45) rfl (by rw [hml]; exact hl.1) rfl dz_L_init_1 (Nat.le_of_ble_eq_true rfl) (Nat.le_of_ble_eq_true rfl) ?_
  refine W.eq (g2 := F0 m 4 ls []) rfl ?_
  refine lv_aload_n hx hb dz_L_init_4 rfl (lv_at hl 0 rfl) ?_
  refine lv_bipush (v := 60) hx hb dz_L_init_5 (by decide) ?_
  refine va_newq (C := "LockerRows$Box") (N' := 60) hx hb hown (hz _ zi_46) (hN _ zn_0) hK hP hD hS hA (by decide) rfl (by decide) (Nat.le_of_ble_eq_true rfl) (Nat.le_of_ble_eq_true rfl) dz_L_init_7 (fun q1 cq H hK hP hD hS => ?_)
  have hK : va_K (dC, dI) vwCl [(cq, .object "LockerRows$Box")] s := hK
  have hP : va_P (dC, dI) vwCl [(h0, .inr (2, [.null, .int 0, .null, .null, .int 0, .long 0, .int 0, .int 0, .long 0])), (q1, .inl (cq, 60, .inr (.inr (.inr (.inr (fun _ => none))))))] H := hP
  have hD : va_D A [(h0, .inr (2, [.null, .int 0, .null, .null, .int 0, .long 0, .int 0, .int 0, .long 0])), (q1, .inl (cq, 60, .inr (.inr (.inr (.inr (fun _ => none))))))] := hD
  refine W.widen (k := 1) (n := 60) (by omega) (by omega) ?_
  refine va_putF (D := (dC, dI)) (ci := 2) (v := .ref q1) (ty := .array (.object "LockerRows$Box")) (C := RzL) (T := TzL) (N := 9) hx hb hz inzL tyzL tyzL_ok nmzL hown hK hP hD hS 0 rfl rfl 0 (by decide) (hz _ zi_57) (fun _ h9 => h9) rfl hin rfl (by decide +kernel) rfl rfl (Nat.le_of_ble_eq_true rfl) dz_L_init_10 (fun H locs hP hD hS => ?_)
  have hP : va_P (dC, dI) vwCl [(h0, .inr (2, [.ref q1, .int 0, .null, .null, .int 0, .long 0, .int 0, .int 0, .long 0])), (q1, .inl (cq, 60, .inr (.inr (.inr (.inr (fun _ => none))))))] H := hP
  have hD : va_D A [(h0, .inr (2, [.ref q1, .int 0, .null, .null, .int 0, .long 0, .int 0, .int 0, .long 0])), (q1, .inl (cq, 60, .inr (.inr (.inr (.inr (fun _ => none))))))] := hD
  refine lv_aload_n hx hb dz_L_init_13 rfl (lv_at hl 0 rfl) ?_
  refine lv_iconst (v := nI 0) hx hb dz_L_init_14 (by decide) ?_
  refine va_put (D := (dC, dI)) (ci := 2) (v := .int (nI 0)) (ty := .int) (C := RzL) (T := TzL) (N := 9) hx hb hz inzL tyzL tyzL_ok nmzL hown hK hP hD hS 0 rfl rfl 1 (by decide) (hz _ zi_58) (fun _ h9 => h9) rfl (by decide +kernel) rfl rfl (Nat.le_of_ble_eq_true rfl) dz_L_init_15 (fun H locs hP hD hS => ?_)
  have hP : va_P (dC, dI) vwCl [(h0, .inr (2, [.ref q1, .int (nI 0), .null, .null, .int 0, .long 0, .int 0, .int 0, .long 0])), (q1, .inl (cq, 60, .inr (.inr (.inr (.inr (fun _ => none))))))] H := hP
  have hD : va_D A [(h0, .inr (2, [.ref q1, .int (nI 0), .null, .null, .int 0, .long 0, .int 0, .int 0, .long 0])), (q1, .inl (cq, 60, .inr (.inr (.inr (.inr (fun _ => none))))))] := hD
  refine lv_aload_n hx hb dz_L_init_18 rfl (lv_at hl 0 rfl) ?_
  refine va_new (ci := 1) (fs := [.null, .int 0]) (C := RzT) (T := TzT) (N := 2) hx hb hz inzT tyzT tyzT_ok hown (hz _ zi_47) (hz _ zi_48) (hz _ zi_34) hK hP hD hS hA rfl (fun j hj => by rcases (show j = 0 ∨ j = 1 by omega) with rfl | rfl <;> rfl) (Nat.le_of_ble_eq_true rfl) (Nat.le_of_ble_eq_true rfl) dz_L_init_19 (fun q2 H hP hD hS => ?_)
  have hP : va_P (dC, dI) vwCl [(h0, .inr (2, [.ref q1, .int (nI 0), .null, .null, .int 0, .long 0, .int 0, .int 0, .long 0])), (q1, .inl (cq, 60, .inr (.inr (.inr (.inr (fun _ => none)))))), (q2, .inr (1, [.null, .int 0]))] H := hP
  have hD : va_D A [(h0, .inr (2, [.ref q1, .int (nI 0), .null, .null, .int 0, .long 0, .int 0, .int 0, .long 0])), (q1, .inl (cq, 60, .inr (.inr (.inr (.inr (fun _ => none)))))), (q2, .inr (1, [.null, .int 0]))] := hD
  refine W.widen (k := 2) (n := 62) (by omega) (by omega) ?_
  refine lv_dup hx hb dz_L_init_22 rfl ?_
  have hPc := hP.sub (ws' := [(q2, .inr (1, [.null, .int 0]))]) [2] rfl
  have hDc := hD.sub (ws' := [(q2, .inr (1, [.null, .int 0]))]) [2] (by decide) rfl
  have hKc := hK.sub (tys' := []) [] rfl
  have hFc := va_free (wc := [(q2, .inr (1, [.null, .int 0]))]) hD hS hA [2] rfl
  refine va_callv (va_runIN (As := []) (rest := [.ref q2, .ref h0]) ⟨hx, hb, hml, hown, hz⟩ (ct_T_init l dC dI q2 H.size 0) ⟨va_cnB 0 hz (zw_g1 zi_50) rfl rfl rfl (hN _ zn_1) (hz _ zi_34) (by decide +kernel) ⟨Nat.le_of_ble_eq_true rfl, Nat.le_of_ble_eq_true rfl⟩, rfl, hz _ zi_49⟩ (zw_preU zw_ns_ok hPc hDc hKc hN) rfl rfl hl.1 rfl (lv_room (Nat.le_of_ble_eq_true rfl)) dz_L_init_23 ⟨Nat.le_of_ble_eq_true rfl, Nat.le_of_ble_eq_true rfl⟩) hS (fun q _ h => hFc q h) hFc (fun u t H1 locs ht hvm hw hB hz1 hk1 hS => ?_)
  obtain ⟨q3, ci⟩ := u
  obtain ⟨hP1, hK1, hD1⟩ := hB
  rw [ht] at hP1
  have hK1 := va_K.moved hvm.symm hK1
  obtain ⟨hP, hD⟩ := va_join (wr := [(h0, .inr (2, [.ref q1, .int (nI 0), .null, .null, .int 0, .long 0, .int 0, .int 0, .long 0])), (q1, .inl (cq, 60, .inr (.inr (.inr (.inr (fun _ => none))))))]) (w1 := (zt_W ci q2 q3 (fun _ => 0, 0))) hP hD [2] [0, 1] rfl rfl (by decide) (by decide) hk1 hFc hP1 hD1
  have hK : va_K (dC, dI) vwCl [(cq, .object "LockerRows$Box"), (ci, .int)] s := hK.app hK1
  generalize H1 = H at hP hS ⊢
  have hP : va_P (dC, dI) vwCl [(h0, .inr (2, [.ref q1, .int (nI 0), .null, .null, .int 0, .long 0, .int 0, .int 0, .long 0])), (q1, .inl (cq, 60, .inr (.inr (.inr (.inr (fun _ => none)))))), (q2, .inr (1, [.ref q3, .int (nI 0)])), (q3, .inl (ci, 200, .inl (fun _ => 0)))] H := hP
  have hD : va_D A [(h0, .inr (2, [.ref q1, .int (nI 0), .null, .null, .int 0, .long 0, .int 0, .int 0, .long 0])), (q1, .inl (cq, 60, .inr (.inr (.inr (.inr (fun _ => none)))))), (q2, .inr (1, [.ref q3, .int (nI 0)])), (q3, .inl (ci, 200, .inl (fun _ => 0)))] := hD
  refine W.widen (k := 3) (n := 262) (by omega) (by omega) ?_
  refine va_putF (D := (dC, dI)) (ci := 2) (v := .ref q2) (ty := .object "LockerRows$Tape") (C := RzL) (T := TzL) (N := 9) hx hb hz inzL tyzL tyzL_ok nmzL hown hK hP hD hS 0 rfl rfl 2 (by decide) (hz _ zi_59) (fun _ h9 => h9) rfl hin rfl (by decide +kernel) rfl rfl (Nat.le_of_ble_eq_true rfl) dz_L_init_26 (fun H locs hP hD hS => ?_)
  have hP : va_P (dC, dI) vwCl [(h0, .inr (2, [.ref q1, .int (nI 0), .ref q2, .null, .int 0, .long 0, .int 0, .int 0, .long 0])), (q1, .inl (cq, 60, .inr (.inr (.inr (.inr (fun _ => none)))))), (q2, .inr (1, [.ref q3, .int (nI 0)])), (q3, .inl (ci, 200, .inl (fun _ => 0)))] H := hP
  have hD : va_D A [(h0, .inr (2, [.ref q1, .int (nI 0), .ref q2, .null, .int 0, .long 0, .int 0, .int 0, .long 0])), (q1, .inl (cq, 60, .inr (.inr (.inr (.inr (fun _ => none)))))), (q2, .inr (1, [.ref q3, .int (nI 0)])), (q3, .inl (ci, 200, .inl (fun _ => 0)))] := hD
  refine lv_aload_n hx hb dz_L_init_29 rfl (lv_at hl 0 rfl) ?_
  refine lv_bipush (v := 100) hx hb dz_L_init_30 (by decide) ?_
  refine va_newa (atype := .int) (a0 := (100, .inl (fun _ => 0))) (ty := .int) hx hb (hz _ zi_56) rfl hK hP hD hS hA (fun cA => rfl) (by decide) rfl (by decide) (Nat.le_of_ble_eq_true rfl) (Nat.le_of_ble_eq_true rfl) dz_L_init_32 (fun q4 cA H hK hP hD hS => ?_)
  obtain rfl := zw_sameI (i := 1) (j := 2) hK rfl rfl
  have hK : va_K (dC, dI) vwCl (zl_tys cq ci) s := hK.sub [0, 1] rfl
  have hP : va_P (dC, dI) vwCl [(h0, .inr (2, [.ref q1, .int (nI 0), .ref q2, .null, .int 0, .long 0, .int 0, .int 0, .long 0])), (q1, .inl (cq, 60, .inr (.inr (.inr (.inr (fun _ => none)))))), (q2, .inr (1, [.ref q3, .int (nI 0)])), (q3, .inl (ci, 200, .inl (fun _ => 0))), (q4, .inl (ci, 100, .inl (fun _ => 0)))] H := hP
  have hD : va_D A [(h0, .inr (2, [.ref q1, .int (nI 0), .ref q2, .null, .int 0, .long 0, .int 0, .int 0, .long 0])), (q1, .inl (cq, 60, .inr (.inr (.inr (.inr (fun _ => none)))))), (q2, .inr (1, [.ref q3, .int (nI 0)])), (q3, .inl (ci, 200, .inl (fun _ => 0))), (q4, .inl (ci, 100, .inl (fun _ => 0)))] := hD
  refine W.widen (k := 4) (n := 362) (by omega) (by omega) ?_
  refine va_putF (D := (dC, dI)) (ci := 2) (v := .ref q4) (ty := .array .int) (C := RzL) (T := TzL) (N := 9) hx hb hz inzL tyzL tyzL_ok nmzL hown hK hP hD hS 0 rfl rfl 3 (by decide) (hz _ zi_60) (fun _ h9 => h9) rfl hin rfl (by decide +kernel) rfl rfl (Nat.le_of_ble_eq_true rfl) dz_L_init_34 (fun H locs hP hD hS => ?_)
  have hP : va_P (dC, dI) vwCl [(h0, .inr (2, [.ref q1, .int (nI 0), .ref q2, .ref q4, .int 0, .long 0, .int 0, .int 0, .long 0])), (q1, .inl (cq, 60, .inr (.inr (.inr (.inr (fun _ => none)))))), (q2, .inr (1, [.ref q3, .int (nI 0)])), (q3, .inl (ci, 200, .inl (fun _ => 0))), (q4, .inl (ci, 100, .inl (fun _ => 0)))] H := hP
  have hD : va_D A [(h0, .inr (2, [.ref q1, .int (nI 0), .ref q2, .ref q4, .int 0, .long 0, .int 0, .int 0, .long 0])), (q1, .inl (cq, 60, .inr (.inr (.inr (.inr (fun _ => none)))))), (q2, .inr (1, [.ref q3, .int (nI 0)])), (q3, .inl (ci, 200, .inl (fun _ => 0))), (q4, .inl (ci, 100, .inl (fun _ => 0)))] := hD
  refine lv_aload_n hx hb dz_L_init_37 rfl (lv_at hl 0 rfl) ?_
  refine lv_iconst (v := nI 0) hx hb dz_L_init_38 (by decide) ?_
  refine va_put (D := (dC, dI)) (ci := 2) (v := .int (nI 0)) (ty := .int) (C := RzL) (T := TzL) (N := 9) hx hb hz inzL tyzL tyzL_ok nmzL hown hK hP hD hS 0 rfl rfl 4 (by decide) (hz _ zi_61) (fun _ h9 => h9) rfl (by decide +kernel) rfl rfl (Nat.le_of_ble_eq_true rfl) dz_L_init_39 (fun H locs hP hD hS => ?_)
  have hP : va_P (dC, dI) vwCl [(h0, .inr (2, [.ref q1, .int (nI 0), .ref q2, .ref q4, .int (nI 0), .long 0, .int 0, .int 0, .long 0])), (q1, .inl (cq, 60, .inr (.inr (.inr (.inr (fun _ => none)))))), (q2, .inr (1, [.ref q3, .int (nI 0)])), (q3, .inl (ci, 200, .inl (fun _ => 0))), (q4, .inl (ci, 100, .inl (fun _ => 0)))] H := hP
  have hD : va_D A [(h0, .inr (2, [.ref q1, .int (nI 0), .ref q2, .ref q4, .int (nI 0), .long 0, .int 0, .int 0, .long 0])), (q1, .inl (cq, 60, .inr (.inr (.inr (.inr (fun _ => none)))))), (q2, .inr (1, [.ref q3, .int (nI 0)])), (q3, .inl (ci, 200, .inl (fun _ => 0))), (q4, .inl (ci, 100, .inl (fun _ => 0)))] := hD
  refine lv_aload_n hx hb dz_L_init_42 rfl (lv_at hl 0 rfl) ?_
  refine lv_lconst (v := 0) hx hb dz_L_init_43 (by decide) ?_
  refine va_put (D := (dC, dI)) (ci := 2) (v := .long 0) (ty := .long) (C := RzL) (T := TzL) (N := 9) hx hb hz inzL tyzL tyzL_ok nmzL hown hK hP hD hS 0 rfl rfl 5 (by decide) (hz _ zi_62) (fun _ h9 => h9) rfl (by decide +kernel) rfl rfl (Nat.le_of_ble_eq_true rfl) dz_L_init_44 (fun H locs hP hD hS => ?_)
  have hP : va_P (dC, dI) vwCl [(h0, .inr (2, [.ref q1, .int (nI 0), .ref q2, .ref q4, .int (nI 0), .long 0, .int 0, .int 0, .long 0])), (q1, .inl (cq, 60, .inr (.inr (.inr (.inr (fun _ => none)))))), (q2, .inr (1, [.ref q3, .int (nI 0)])), (q3, .inl (ci, 200, .inl (fun _ => 0))), (q4, .inl (ci, 100, .inl (fun _ => 0)))] H := hP
  have hD : va_D A [(h0, .inr (2, [.ref q1, .int (nI 0), .ref q2, .ref q4, .int (nI 0), .long 0, .int 0, .int 0, .long 0])), (q1, .inl (cq, 60, .inr (.inr (.inr (.inr (fun _ => none)))))), (q2, .inr (1, [.ref q3, .int (nI 0)])), (q3, .inl (ci, 200, .inl (fun _ => 0))), (q4, .inl (ci, 100, .inl (fun _ => 0)))] := hD
  refine lv_aload_n hx hb dz_L_init_47 rfl (lv_at hl 0 rfl) ?_
  refine lv_iconst (v := 0) hx hb dz_L_init_48 (by decide) ?_
  refine va_put (D := (dC, dI)) (ci := 2) (v := .int 0) (ty := .int) (C := RzL) (T := TzL) (N := 9) hx hb hz inzL tyzL tyzL_ok nmzL hown hK hP hD hS 0 rfl rfl 6 (by decide) (hz _ zi_63) (fun _ h9 => h9) rfl (by decide +kernel) rfl rfl (Nat.le_of_ble_eq_true rfl) dz_L_init_49 (fun H locs hP hD hS => ?_)
  have hP : va_P (dC, dI) vwCl [(h0, .inr (2, [.ref q1, .int (nI 0), .ref q2, .ref q4, .int (nI 0), .long 0, .int 0, .int 0, .long 0])), (q1, .inl (cq, 60, .inr (.inr (.inr (.inr (fun _ => none)))))), (q2, .inr (1, [.ref q3, .int (nI 0)])), (q3, .inl (ci, 200, .inl (fun _ => 0))), (q4, .inl (ci, 100, .inl (fun _ => 0)))] H := hP
  have hD : va_D A [(h0, .inr (2, [.ref q1, .int (nI 0), .ref q2, .ref q4, .int (nI 0), .long 0, .int 0, .int 0, .long 0])), (q1, .inl (cq, 60, .inr (.inr (.inr (.inr (fun _ => none)))))), (q2, .inr (1, [.ref q3, .int (nI 0)])), (q3, .inl (ci, 200, .inl (fun _ => 0))), (q4, .inl (ci, 100, .inl (fun _ => 0)))] := hD
  refine lv_aload_n hx hb dz_L_init_52 rfl (lv_at hl 0 rfl) ?_
  refine lv_iconst (v := 0) hx hb dz_L_init_53 (by decide) ?_
  refine va_put (D := (dC, dI)) (ci := 2) (v := .int 0) (ty := .int) (C := RzL) (T := TzL) (N := 9) hx hb hz inzL tyzL tyzL_ok nmzL hown hK hP hD hS 0 rfl rfl 7 (by decide) (hz _ zi_64) (fun _ h9 => h9) rfl (by decide +kernel) rfl rfl (Nat.le_of_ble_eq_true rfl) dz_L_init_54 (fun H locs hP hD hS => ?_)
  have hP : va_P (dC, dI) vwCl [(h0, .inr (2, [.ref q1, .int (nI 0), .ref q2, .ref q4, .int (nI 0), .long 0, .int 0, .int 0, .long 0])), (q1, .inl (cq, 60, .inr (.inr (.inr (.inr (fun _ => none)))))), (q2, .inr (1, [.ref q3, .int (nI 0)])), (q3, .inl (ci, 200, .inl (fun _ => 0))), (q4, .inl (ci, 100, .inl (fun _ => 0)))] H := hP
  have hD : va_D A [(h0, .inr (2, [.ref q1, .int (nI 0), .ref q2, .ref q4, .int (nI 0), .long 0, .int 0, .int 0, .long 0])), (q1, .inl (cq, 60, .inr (.inr (.inr (.inr (fun _ => none)))))), (q2, .inr (1, [.ref q3, .int (nI 0)])), (q3, .inl (ci, 200, .inl (fun _ => 0))), (q4, .inl (ci, 100, .inl (fun _ => 0)))] := hD
  refine lv_aload_n hx hb dz_L_init_57 rfl (lv_at hl 0 rfl) ?_
  refine lv_lconst (v := 0) hx hb dz_L_init_58 (by decide) ?_
  refine va_put (D := (dC, dI)) (ci := 2) (v := .long 0) (ty := .long) (C := RzL) (T := TzL) (N := 9) hx hb hz inzL tyzL tyzL_ok nmzL hown hK hP hD hS 0 rfl rfl 8 (by decide) (hz _ zi_65) (fun _ h9 => h9) rfl (by decide +kernel) rfl rfl (Nat.le_of_ble_eq_true rfl) dz_L_init_59 (fun H locs hP hD hS => ?_)
  have hP : va_P (dC, dI) vwCl [(h0, .inr (2, [.ref q1, .int (nI 0), .ref q2, .ref q4, .int (nI 0), .long 0, .int 0, .int 0, .long 0])), (q1, .inl (cq, 60, .inr (.inr (.inr (.inr (fun _ => none)))))), (q2, .inr (1, [.ref q3, .int (nI 0)])), (q3, .inl (ci, 200, .inl (fun _ => 0))), (q4, .inl (ci, 100, .inl (fun _ => 0)))] H := hP
  have hD : va_D A [(h0, .inr (2, [.ref q1, .int (nI 0), .ref q2, .ref q4, .int (nI 0), .long 0, .int 0, .int 0, .long 0])), (q1, .inl (cq, 60, .inr (.inr (.inr (.inr (fun _ => none)))))), (q2, .inr (1, [.ref q3, .int (nI 0)])), (q3, .inl (ci, 200, .inl (fun _ => 0))), (q4, .inl (ci, 100, .inl (fun _ => 0)))] := hD
  rw [zl_refs0 (q1, q2, q3, q4, fun _ => 0)] at hP hD
  have hP : va_P (dC, dI) vwCl (zl_W cq ci h0 (q1, q2, q3, q4, fun _ => 0) zl_new) H := hP
  have hD : va_D A (zl_W cq ci h0 (q1, q2, q3, q4, fun _ => 0) zl_new) := hD
  exact W.vret hx hb hr (fun t ht hW => ⟨⟨((q1, q2, q3, q4, fun _ => 0), cq, ci), rfl, trivial, by show va_P (dC, dI) vwCl (zl_W cq ci h0 (q1, q2, q3, q4, fun _ => 0) zl_new) t.heap; rw [ht]; exact hP, va_K.moved hW.alike hK, hD⟩, hS.F ht⟩) hS.2.2 dz_L_init_62
set_option maxHeartbeats 4000000 in
set_option maxRecDepth 100000 in
theorem ct_L_box (l : Launch) (dC : Nat → ClassId) (dI : Nat → Nat → Nat) (cq ci : ClassId) (h0 : Nat) (a : zl_Ad) (S : zl_S) (hok : zl_ok S) (sz : Nat) (p1 : Int32) : Met l yz_L_box wz_L_box (zw_room 2 1 9) (zw_U zw_ns (dC, dI) vwCl (zl_tys cq ci) [.ref h0, .int p1] (zl_W cq ci h0 a S) sz) (va_Qi (fun (r : Int32) (_ : zl_Ad) => r = (zl_addbox S p1).1) (fun (u : zl_Ad) (t : State) => va_P (dC, dI) vwCl (zl_W cq ci h0 u (zl_addbox S p1).2) t.heap ∧ va_D (va_A (zl_W cq ci h0 a S) sz) (zl_W cq ci h0 u (zl_addbox S p1).2)) (va_A (zl_W cq ci h0 a S) sz)) 1 9 (va_A (zl_W cq ci h0 a S) sz) := by
  refine Met.ofW (cc := cz_L_box) (maxL := 2) (ret := (some .int)) (by decide) rfl ?_
  intro p e s m args below meth c s₁ B hml hv
  obtain ⟨rfl, hsz, hP, hK, hD0, hN⟩ := hv
  have hx := B.exec
  have hb := B.bytes
  have hr := B.returns
  have hts := atoms_spec (ws := wz_L_box) B.pre
  have hown : s.vm.findClass RzL = some m.cls := findClass_of_methodNamed B.named
  have hlocks := B.notSynchronized
  have hz : ∀ w ∈ zw_T, w.before ([.ref h0, .int p1] : List Value).toArray s = true := fun w h => hts w (List.mem_cons_of_mem _ h)
  subst hsz
  have hD := hD0.self (sz := s.heap.size)
  generalize hAe : va_A (zl_W cq ci h0 a S) s.heap.size = A at hD ⊢
  have hA : ∀ q : Nat, s.heap.size ≤ q → A q := fun q h => by rw [← hAe]; exact Or.inr h
  have hS : va_S A s.heap s.heap [] := va_S.rf
  have hl := lv_entry ([.ref h0, .int p1]) (n := 2) (Nat.le_of_ble_eq_true rfl)
  rw [lg_entry_eq]
  generalize (lg_sl ([.ref h0, .int p1]) ++ List.replicate (2 - (lg_sl ([.ref h0, .int p1])).length) Slot.unset).toArray = ls at hl ⊢
  have hl : lv_has ls 2 [(0, .ref h0), (1, .int p1)] := hl
  refine lv_iload_n hx hb dz_L_box_0 rfl (lv_at hl 1 rfl) ?_
  refine vp_callSi (va_Run.run (va_runS (As := [.int p1]) (rest := []) ⟨hx, hb, hml, hown, hz⟩ (ct_L_isSize l dC dI cq ci p1) (cwS 1 hz (zw_gS zi_79 zi_80 zi_33 zi_81) rfl rfl rfl (by decide +kernel) ⟨Nat.le_of_ble_eq_true rfl, Nat.le_of_ble_eq_true rfl⟩) (zw_preR zw_ns_ok (ws := []) (fun k q h => by simp at h) hK hN) rfl rfl hl.1 rfl (lv_room (Nat.le_of_ble_eq_true rfl)) dz_L_box_1 ⟨Nat.le_of_ble_eq_true rfl, Nat.le_of_ble_eq_true rfl⟩)) (fun r_1 hr_1 => ?_)
  have hr_1 : r_1 = zl_isSize p1 := hr_1
  subst hr_1
  refine lv_if_ne (tgt := 10) hx hb dz_L_box_4 (by decide) (fun c_2 => ?_) (fun c_2 => ?_)
  · refine lv_aload_n hx hb dz_L_box_10 rfl (lv_at hl 0 rfl) ?_
    refine va_get (D := (dC, dI)) (ci := 2) (v := .int (nI (zl_n S))) (C := RzL) (T := TzL) (N := 9) hx hb hz inzL hown hK hP 0 rfl rfl 1 (by decide) (hz _ zi_58) (fun _ h9 => h9) rfl dz_L_box_11 ?_
    refine lv_bipush (v := 60) hx hb dz_L_box_14 (by decide) ?_
    refine lv_icmp_lt (tgt := 22) hx hb dz_L_box_16 (by decide) (fun c_3 => ?_) (fun c_3 => ?_)
    · refine lv_aload_n hx hb dz_L_box_22 rfl (lv_at hl 0 rfl) ?_
      refine va_get (D := (dC, dI)) (ci := 2) (v := .ref a.1) (C := RzL) (T := TzL) (N := 9) hx hb hz inzL hown hK hP 0 rfl rfl 0 (by decide) (hz _ zi_57) (fun _ h9 => h9) rfl dz_L_box_23 ?_
      refine lv_aload_n hx hb dz_L_box_26 rfl (lv_at hl 0 rfl) ?_
      refine va_get (D := (dC, dI)) (ci := 2) (v := .int (nI (zl_n S))) (C := RzL) (T := TzL) (N := 9) hx hb hz inzL hown hK hP 0 rfl rfl 1 (by decide) (hz _ zi_58) (fun _ h9 => h9) rfl dz_L_box_27 ?_
      have h60 := zl_lt60 hok c_3
      refine va_new (ci := 0) (fs := zb_F zb_0) (C := RzB) (T := TzB) (N := 9) hx hb hz inzB tyzB tyzB_ok hown (hz _ zi_46) (hz _ zi_82) (hz _ zi_36) hK hP hD hS hA rfl (fun j hj => by rcases (show j = 0 ∨ j = 1 ∨ j = 2 ∨ j = 3 ∨ j = 4 ∨ j = 5 ∨ j = 6 ∨ j = 7 ∨ j = 8 by omega) with rfl | rfl | rfl | rfl | rfl | rfl | rfl | rfl | rfl <;> rfl) (Nat.le_of_ble_eq_true rfl) (Nat.le_of_ble_eq_true rfl) dz_L_box_30 (fun q H hP hD hS => ?_)
      refine W.widen (k := 1) (n := 9) (by omega) (by omega) ?_
      refine lv_dup hx hb dz_L_box_33 rfl ?_
      refine lv_iload_n hx hb dz_L_box_34 rfl (lv_at hl 1 rfl) ?_
      have hPc : va_P (dC, dI) vwCl (zb_W q zb_0) H := zw_P1 hP (zl_new_at _)
      have hDc : va_D A (zb_W q zb_0) := zw_D1 hD (zl_new_at _)
      have hFc := zw_free hS hA hDc
      refine va_callv (va_runIN (As := [.int p1]) (rest := [.ref q, .int (nI (zl_n S)), .ref a.1]) ⟨hx, hb, hml, hown, hz⟩ (ct_B_init l dC dI cq ci q zb_0 H.size p1) ⟨va_cnB 1 hz (zw_g1 zi_84) rfl rfl rfl (hN _ zn_2) (hz _ zi_36) (by decide +kernel) ⟨Nat.le_of_ble_eq_true rfl, Nat.le_of_ble_eq_true rfl⟩, rfl, hz _ zi_83⟩ (zw_preU zw_ns_ok hPc hDc hK hN) rfl rfl hl.1 rfl (lv_room (Nat.le_of_ble_eq_true rfl)) dz_L_box_35 ⟨Nat.le_of_ble_eq_true rfl, Nat.le_of_ble_eq_true rfl⟩) hS (fun q _ h => hFc q h) hFc (fun u t H1 locs ht hvm hw hB hz1 hk1 hS => ?_)
      have hB : va_P (dC, dI) vwCl (zb_W q (zb_init zb_0 p1)) t.heap := hB
      rw [ht] at hB
      obtain ⟨hP, hD⟩ := zw_join1 hP hD (zl_new_at _) hk1 hB
      generalize H1 = H at hP hS ⊢
      rw [zl_new_set] at hP hD
      refine W.widen (k := 1) (n := 9) (by omega) (by omega) ?_
      have hin60 : vp_in (nI (zl_n S)) 60 := vp_in_nI h60 (by decide)
      refine va_astq (r := (RzB, TzB, 9)) hx hb hK hP hD hS 1 0 (zl_n S + 5) 0 rfl rfl (zl_new_at _) rfl hin60 dz_L_box_38 (fun H locs hP hD hS => ?_)
      rw [nI_clamp (show zl_n S < 2 ^ 31 by omega)] at hP hD
      refine lv_aload_n hx hb dz_L_box_39 rfl (lv_at hl 0 rfl) ?_
      refine lv_dup hx hb dz_L_box_40 rfl ?_
      refine va_get (D := (dC, dI)) (ci := 2) (v := .int (nI (zl_n S))) (C := RzL) (T := TzL) (N := 9) hx hb hz inzL hown hK hP 0 rfl rfl 1 (by decide) (hz _ zi_58) (fun _ h9 => h9) rfl dz_L_box_41 ?_
      refine lv_iconst (v := 1) hx hb dz_L_box_44 (by decide) ?_
      refine lv_iadd hx hb dz_L_box_45 ?_
      refine W.eq (g2 := F0 m 46 ls [.int (nI (zl_n S + 1)), .ref h0]) (congrArg (fun z => F0 m 46 ls (.int z :: [.ref h0])) (nI_1 _)) ?_
      refine va_put (D := (dC, dI)) (ci := 2) (v := .int (nI (zl_n S + 1))) (ty := .int) (C := RzL) (T := TzL) (N := 9) hx hb hz inzL tyzL tyzL_ok nmzL hown hK hP hD hS 0 rfl rfl 1 (by decide) (hz _ zi_58) (fun _ h9 => h9) rfl (by decide +kernel) rfl rfl (Nat.le_of_ble_eq_true rfl) dz_L_box_46 (fun H locs hP hD hS => ?_)
      have hP : va_P (dC, dI) vwCl (zl_W cq ci h0 (zl_adUp a (zl_n S) q) (zl_grow S (zb_init zb_0 p1))) H := by rw [← zl_grow_eq]; exact hP
      have hD : va_D A (zl_W cq ci h0 (zl_adUp a (zl_n S) q) (zl_grow S (zb_init zb_0 p1))) := by rw [← zl_grow_eq]; exact hD
      refine lv_aload_n hx hb dz_L_box_49 rfl (lv_at hl 0 rfl) ?_
      refine va_get (D := (dC, dI)) (ci := 2) (v := .int (nI (zl_n S + 1))) (C := RzL) (T := TzL) (N := 9) hx hb hz inzL hown hK hP 0 rfl rfl 1 (by decide) (hz _ zi_58) (fun _ h9 => h9) rfl dz_L_box_50 ?_
      have hE_4 : zl_addbox S p1 = (nI (zl_n S + 1), zl_grow S (zb_init zb_0 p1)) := by simp only [zl_addbox, if_neg c_2, if_pos c_3]
      exact W.iret (v := nI (zl_n S + 1)) hx hb hr (fun t ht hW => ⟨⟨_, zl_adUp a (zl_n S) q, rfl, by show nI (zl_n S + 1) = (zl_addbox S p1).1; rw [hE_4], by show va_P (dC, dI) vwCl (zl_W cq ci h0 (zl_adUp a (zl_n S) q) (zl_addbox S p1).2) t.heap; rw [ht, hE_4]; exact hP, by show va_D A (zl_W cq ci h0 (zl_adUp a (zl_n S) q) (zl_addbox S p1).2); rw [hE_4]; exact hD⟩, hS.F ht⟩) hS.2.2 dz_L_box_53
    · refine lv_bipush (v := -14) hx hb dz_L_box_19 (by decide) ?_
      have hE_5 : zl_addbox S p1 = ((-14), S) := by simp only [zl_addbox, if_neg c_2, if_neg c_3]
      refine W.widen (k := 1) (n := 9) (by omega) (by omega) ?_
      exact W.iret (v := (-14)) hx hb hr (fun t ht hW => ⟨⟨_, a, rfl, by show (-14) = (zl_addbox S p1).1; rw [hE_5], by show va_P (dC, dI) vwCl (zl_W cq ci h0 a (zl_addbox S p1).2) t.heap; rw [ht, hE_5]; exact hP, by show va_D A (zl_W cq ci h0 a (zl_addbox S p1).2); rw [hE_5]; exact hD⟩, hS.F ht⟩) hS.2.2 dz_L_box_21
  · refine lv_bipush (v := -12) hx hb dz_L_box_7 (by decide) ?_
    have hE_6 : zl_addbox S p1 = ((-12), S) := by simp only [zl_addbox, if_pos c_2]
    refine W.widen (k := 1) (n := 9) (by omega) (by omega) ?_
    exact W.iret (v := (-12)) hx hb hr (fun t ht hW => ⟨⟨_, a, rfl, by show (-12) = (zl_addbox S p1).1; rw [hE_6], by show va_P (dC, dI) vwCl (zl_W cq ci h0 a (zl_addbox S p1).2) t.heap; rw [ht, hE_6]; exact hP, by show va_D A (zl_W cq ci h0 a (zl_addbox S p1).2); rw [hE_6]; exact hD⟩, hS.F ht⟩) hS.2.2 dz_L_box_9

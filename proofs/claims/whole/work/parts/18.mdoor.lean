set_option maxHeartbeats 4000000 in
set_option maxRecDepth 100000 in
theorem ct_M_door (l : Launch) (dC : Nat → ClassId) (dI : Nat → Nat → Nat) (ci cj cz : ClassId) (h0 : Nat) (a : zm_Ad) (M : zm_S) (hok : zm_ok M) (sz : Nat) (p1 : Int32) (p2 : Int32) (p3 : Int64) : Met l yz_M_door wz_M_door (zw_room 2 0 0) (zw_U zw_ns (dC, dI) vwCl (zm_tys ci cj cz) [.ref h0, .int p1, .int p2, .long p3] (zm_W ci cj cz h0 a M) sz) (va_Qi (fun (r : Int32) (_ : Unit) => r = (zm_door M p1 p2 p3).1) (fun (_ : Unit) (t : State) => va_P (dC, dI) vwCl (zm_W ci cj cz h0 a ((zm_door M p1 p2 p3).2)) t.heap ∧ va_D (va_A (zm_W ci cj cz h0 a M) sz) (zm_W ci cj cz h0 a ((zm_door M p1 p2 p3).2))) (va_A (zm_W ci cj cz h0 a M) sz)) 0 0 (va_A (zm_W ci cj cz h0 a M) sz) := by
  refine Met.ofW (cc := cz_M_door) (maxL := 7) (ret := (some .int)) (by decide) rfl ?_
  intro p e s m args below meth c s₁ B hml hv
  obtain ⟨rfl, hsz, hP, hK, hD0, hN⟩ := hv
  have hx := B.exec
  have hb := B.bytes
  have hr := B.returns
  have hts := atoms_spec (ws := wz_M_door) B.pre
  have hz : ∀ w ∈ zw_T, w.before ([.ref h0, .int p1, .int p2, .long p3] : List Value).toArray s = true := fun w h => hts w (List.mem_cons_of_mem _ h)
  have hown : s.vm.findClass RzM = some m.cls := findClass_of_methodNamed B.named
  have hlocks := B.notSynchronized
  have hok0 := hok
  subst hsz
  have hD := hD0.self (sz := s.heap.size)
  generalize hAe : va_A (zm_W ci cj cz h0 a M) s.heap.size = A at hD ⊢
  have hA : ∀ q : Nat, s.heap.size ≤ q → A q := fun q h => by rw [← hAe]; exact Or.inr h
  have hS : va_S A s.heap s.heap [] := va_S.rf
  have hl := lv_entry ([.ref h0, .int p1, .int p2, .long p3]) (n := 7) (Nat.le_of_ble_eq_true rfl)
  rw [lg_entry_eq]
  generalize (lg_sl ([.ref h0, .int p1, .int p2, .long p3]) ++ List.replicate (7 - (lg_sl ([.ref h0, .int p1, .int p2, .long p3])).length) Slot.unset).toArray = ls at hl ⊢
  have hl : lv_has ls 7 [(0, .ref h0), (1, .int p1), (2, .int p2), (3, .long p3)] := hl
  refine lv_aload_n hx hb dz_M_door_0 rfl (lv_at hl 0 rfl) ?_
  refine lv_iload_n hx hb dz_M_door_1 rfl (lv_at hl 1 rfl) ?_
  refine vp_callSi (va_Run.run (va_runV (As := [.int p1]) (rest := []) ⟨hx, hb, hml, hown, hz⟩ (ct_M_isBox l dC dI ci cj cz h0 a M hok p1) (cwV 1 hz (zw_gV zi_296 zi_297 zi_26 zi_35 zi_298) rfl rfl rfl (by decide +kernel) ⟨Nat.le_of_ble_eq_true rfl, Nat.le_of_ble_eq_true rfl⟩) (zw_preRV zw_ns_ok hP hK hN (ci := 3) rfl (k := 0) rfl) rfl rfl hl.1 rfl (lv_room (Nat.le_of_ble_eq_true rfl)) dz_M_door_2 ⟨Nat.le_of_ble_eq_true rfl, Nat.le_of_ble_eq_true rfl⟩)) (fun r_1 hr_1 => ?_)
  have hr_1 : r_1 = zm_isBox M p1 := hr_1
  subst hr_1
  refine lv_if_ne (tgt := 11) hx hb dz_M_door_5 (by decide) (fun c_2 => ?_) (fun c_2 => ?_)
  · refine lv_iload_n hx hb dz_M_door_11 rfl (lv_at hl 2 rfl) ?_
    refine lv_i2l (v := p2.toInt64) hx hb dz_M_door_12 rfl ?_
    refine lv_lconst (v := 0) hx hb dz_M_door_13 (by decide) ?_
    refine lv_ldc2 (v := 4) hx hb hown (hz _ zi_334) dz_M_door_14 ?_
    refine vp_callSi (va_Run.run (va_runS (As := [.long p2.toInt64, .long 0, .long 4]) (rest := []) ⟨hx, hb, hml, hown, hz⟩ (ct_M_within l dC dI ci cj cz p2.toInt64 0 4) (cwS 3 hz (zw_gS zi_279 zi_280 zi_35 zi_281) rfl rfl rfl (by decide +kernel) ⟨Nat.le_of_ble_eq_true rfl, Nat.le_of_ble_eq_true rfl⟩) (zw_preR zw_ns_ok (ws := []) (fun k q h => by simp at h) hK hN) rfl rfl hl.1 rfl (lv_room (Nat.le_of_ble_eq_true rfl)) dz_M_door_17 ⟨Nat.le_of_ble_eq_true rfl, Nat.le_of_ble_eq_true rfl⟩)) (fun r_3 hr_3 => ?_)
    have hr_3 : r_3 = zm_within p2.toInt64 0 4 := hr_3
    subst hr_3
    refine lv_if_eq (tgt := 31) hx hb dz_M_door_20 (by decide) (fun c_4 => ?_) (fun c_4 => ?_)
    · refine lv_bipush (v := -12) hx hb dz_M_door_31 (by decide) ?_
      have hE_5 : zm_door M p1 p2 p3 = ((-12), M) := by simp only [zm_door, if_neg c_2, if_pos c_4]
      exact W.iret (v := (-12)) hx hb hr (fun t ht hW => ⟨⟨_, (), rfl, by show (-12) = (zm_door M p1 p2 p3).1; rw [hE_5], by show va_P (dC, dI) vwCl (zm_W ci cj cz h0 a ((zm_door M p1 p2 p3).2)) t.heap; rw [ht, hE_5]; exact hP, by show va_D A (zm_W ci cj cz h0 a ((zm_door M p1 p2 p3).2)); rw [hE_5]; exact hD⟩, hS.F ht⟩) hS.2.2 dz_M_door_33
    · refine lv_aload_n hx hb dz_M_door_23 rfl (lv_at hl 0 rfl) ?_
      refine lv_lload_n hx hb dz_M_door_24 rfl (lv_at hl 3 rfl) ?_
      refine vp_callSi (va_Run.run (va_runV (As := [.long p3]) (rest := []) ⟨hx, hb, hml, hown, hz⟩ (ct_M_isNoTime l dC dI ci cj cz h0 a M hok p3) (cwV 1 hz (zw_gV zi_300 zi_301 zi_27 zi_35 zi_302) rfl rfl rfl (by decide +kernel) ⟨Nat.le_of_ble_eq_true rfl, Nat.le_of_ble_eq_true rfl⟩) (zw_preRV zw_ns_ok hP hK hN (ci := 3) rfl (k := 0) rfl) rfl rfl hl.1 rfl (lv_room (Nat.le_of_ble_eq_true rfl)) dz_M_door_25 ⟨Nat.le_of_ble_eq_true rfl, Nat.le_of_ble_eq_true rfl⟩)) (fun r_6 hr_6 => ?_)
      have hr_6 : r_6 = zm_isNo M p3 := hr_6
      subst hr_6
      refine lv_if_eq (tgt := 34) hx hb dz_M_door_28 (by decide) (fun c_7 => ?_) (fun c_7 => ?_)
      · refine lv_aload_n hx hb dz_M_door_34 rfl (lv_at hl 0 rfl) ?_
        refine lv_lload_n hx hb dz_M_door_35 rfl (lv_at hl 3 rfl) ?_
        have hFc := zw_free hS hA hD
        refine va_callv (va_runV (As := [.long p3]) (rest := []) ⟨hx, hb, hml, hown, hz⟩ (ct_M_pass l dC dI ci cj cz h0 a M hok s.heap.size p3) (cwV 1 hz (zw_gV zi_303 zi_304 zi_28 zi_35 zi_305) rfl rfl rfl (by decide +kernel) ⟨Nat.le_of_ble_eq_true rfl, Nat.le_of_ble_eq_true rfl⟩) (zw_preUV zw_ns_ok hP hD hK hN (ci := 3) rfl (k := 0) rfl) rfl rfl hl.1 rfl (lv_room (Nat.le_of_ble_eq_true rfl)) dz_M_door_36 ⟨Nat.le_of_ble_eq_true rfl, Nat.le_of_ble_eq_true rfl⟩) hS (fun q _ h => hFc q h) hFc (fun u_8 t_8 H locs ht hvm hw hB hz1 hk1 hS => ?_)
        obtain ⟨hP, hD⟩ := hB
        rw [ht] at hP
        have hD := hD.weaken (fun _ q _ h => hFc q.1 h)
        obtain ⟨S_9, eS_9⟩ : ∃ z, z = (zm_pass M p3) := ⟨_, rfl⟩
        rw [← eS_9] at hP hD
        have hok : zm_ok S_9 := by rw [eS_9]; exact zm_ok_pass hok
        refine lv_aload_n hx hb dz_M_door_39 rfl (lv_at hl 0 rfl) ?_
        refine va_get (D := (dC, dI)) (ci := 3) (v := .ref a.2.1) (C := RzM) (T := TzM) (N := 18) hx hb hz inzM hown hK hP 0 rfl rfl 2 (by decide) (hz _ zi_238) (fun _ h9 => h9) rfl dz_M_door_40 ?_
        refine lv_iload_n hx hb dz_M_door_43 rfl (lv_at hl 1 rfl) ?_
        have hin_10 : vp_in p1 61 := zm_isBox_in hok0 c_2
        refine va_iald hx hb hK hP 2 0 rfl rfl hin_10 dz_M_door_44 ?_
        refine lv_istore (lv' := [(5, .int (zm_dr S_9 p1.toNatClampNeg)), (0, .ref h0), (1, .int p1), (2, .int p2), (3, .long p3)]) hx hb dz_M_door_45 hl (by decide) rfl (fun ls hl => ?_)
        refine lv_iload_n hx hb dz_M_door_47 rfl (lv_at hl 3 rfl) ?_
        refine lv_if_ne (tgt := 64) hx hb dz_M_door_48 (by decide) (fun c_11 => ?_) (fun c_11 => ?_)
        · refine lv_iload_n hx hb dz_M_door_64 rfl (lv_at hl 3 rfl) ?_
          refine lv_iconst (v := 1) hx hb dz_M_door_65 (by decide) ?_
          refine lv_icmp_ne (tgt := 88) hx hb dz_M_door_66 (by decide) (fun c_12 => ?_) (fun c_12 => ?_)
          · refine lv_iload_n hx hb dz_M_door_88 rfl (lv_at hl 3 rfl) ?_
            refine lv_iconst (v := 2) hx hb dz_M_door_89 (by decide) ?_
            refine lv_icmp_ne (tgt := 107) hx hb dz_M_door_90 (by decide) (fun c_13 => ?_) (fun c_13 => ?_)
            · refine lv_iload_n hx hb dz_M_door_107 rfl (lv_at hl 3 rfl) ?_
              refine lv_iconst (v := 3) hx hb dz_M_door_108 (by decide) ?_
              refine lv_icmp_ne (tgt := 145) hx hb dz_M_door_109 (by decide) (fun c_14 => ?_) (fun c_14 => ?_)
              · refine lv_iload hx hb dz_M_door_145 (lv_at hl 0 rfl) ?_
                refine lv_iconst (v := 3) hx hb dz_M_door_147 (by decide) ?_
                refine lv_icmp_ne (tgt := 155) hx hb dz_M_door_148 (by decide) (fun c_15 => ?_) (fun c_15 => ?_)
                · refine lv_iconst (v := 0) hx hb dz_M_door_155 (by decide) ?_
                  refine lv_istore (lv' := [(6, .int 0), (5, .int (zm_dr S_9 p1.toNatClampNeg)), (0, .ref h0), (1, .int p1), (2, .int p2), (3, .long p3)]) hx hb dz_M_door_156 hl (by decide) rfl (fun ls hl => ?_)
                  refine lv_iload hx hb dz_M_door_158 (lv_at hl 0 rfl) ?_
                  refine lv_if_ne (tgt := 166) hx hb dz_M_door_160 (by decide) (fun c_16 => ?_) (fun c_16 => ?_)
                  · exact absurd (by decide) c_16
                  · refine lv_bipush (v := -13) hx hb dz_M_door_163 (by decide) ?_
                    have hE_17 : zm_door M p1 p2 p3 = ((-13), S_9) := by subst eS_9; simp only [zm_door, if_neg c_2, if_neg c_4, if_pos c_7, if_neg c_11, if_neg c_12, if_neg c_13, if_neg c_14, if_neg c_15]
                    exact W.iret (v := (-13)) hx hb hr (fun t ht hW => ⟨⟨_, (), rfl, by show (-13) = (zm_door M p1 p2 p3).1; rw [hE_17], by show va_P (dC, dI) vwCl (zm_W ci cj cz h0 a ((zm_door M p1 p2 p3).2)) t.heap; rw [ht, hE_17]; exact hP, by show va_D A (zm_W ci cj cz h0 a ((zm_door M p1 p2 p3).2)); rw [hE_17]; exact hD⟩, hS.F ht⟩) hS.2.2 dz_M_door_165
                · refine lv_iconst (v := 1) hx hb dz_M_door_151 (by decide) ?_
                  refine lv_goto (tgt := 156) hx hb dz_M_door_152 (by decide) ?_
                  refine lv_istore (lv' := [(6, .int 1), (5, .int (zm_dr S_9 p1.toNatClampNeg)), (0, .ref h0), (1, .int p1), (2, .int p2), (3, .long p3)]) hx hb dz_M_door_156 hl (by decide) rfl (fun ls hl => ?_)
                  refine lv_iload hx hb dz_M_door_158 (lv_at hl 0 rfl) ?_
                  refine lv_if_ne (tgt := 166) hx hb dz_M_door_160 (by decide) (fun c_18 => ?_) (fun c_18 => ?_)
                  · refine lv_iload_n hx hb dz_M_door_166 rfl (lv_at hl 4 rfl) ?_
                    refine lv_iconst (v := 2) hx hb dz_M_door_167 (by decide) ?_
                    refine lv_icmp_ge (tgt := 188) hx hb dz_M_door_168 (by decide) (fun c_19 => ?_) (fun c_19 => ?_)
                    · refine lv_aload_n hx hb dz_M_door_188 rfl (lv_at hl 2 rfl) ?_
                      refine va_get (D := (dC, dI)) (ci := 3) (v := .ref a.2.1) (C := RzM) (T := TzM) (N := 18) hx hb hz inzM hown hK hP 0 rfl rfl 2 (by decide) (hz _ zi_238) (fun _ h9 => h9) rfl dz_M_door_189 ?_
                      refine lv_iload_n hx hb dz_M_door_192 rfl (lv_at hl 3 rfl) ?_
                      refine lv_iload_n hx hb dz_M_door_193 rfl (lv_at hl 4 rfl) ?_
                      refine lv_iconst (v := 3) hx hb dz_M_door_194 (by decide) ?_
                      refine lv_icmp_ne (tgt := 202) hx hb dz_M_door_195 (by decide) (fun c_20 => ?_) (fun c_20 => ?_)
                      · refine lv_iconst (v := 0) hx hb dz_M_door_202 (by decide) ?_
                        have hin_21 : vp_in p1 61 := zm_isBox_in hok0 c_2
                        refine va_iast hx hb hK hP hD hS 2 0 rfl rfl hin_21 dz_M_door_203 (fun H locs hP hD hS => ?_)
                        obtain ⟨S_22, eS_22⟩ : ∃ z, z = zm_sdr S_9 (upd (zm_dr S_9) p1.toNatClampNeg 0) := ⟨_, rfl⟩
                        have hP : va_P (dC, dI) vwCl (zm_W ci cj cz h0 a S_22) H := by rw [eS_22]; exact hP
                        have hD : va_D A (zm_W ci cj cz h0 a S_22) := by rw [eS_22]; exact hD
                        have hok : zm_ok S_22 := by rw [eS_22]; exact hok
                        refine lv_aload_n hx hb dz_M_door_204 rfl (lv_at hl 2 rfl) ?_
                        refine va_get (D := (dC, dI)) (ci := 3) (v := .ref a.2.1) (C := RzM) (T := TzM) (N := 18) hx hb hz inzM hown hK hP 0 rfl rfl 2 (by decide) (hz _ zi_238) (fun _ h9 => h9) rfl dz_M_door_205 ?_
                        refine lv_iload_n hx hb dz_M_door_208 rfl (lv_at hl 3 rfl) ?_
                        have hin_23 : vp_in p1 61 := zm_isBox_in hok0 c_2
                        refine va_iald hx hb hK hP 2 0 rfl rfl hin_23 dz_M_door_209 ?_
                        have hE_24 : zm_door M p1 p2 p3 = (zm_dr S_22 p1.toNatClampNeg, S_22) := by subst eS_9 eS_22; simp only [zm_door, if_neg c_2, if_neg c_4, if_pos c_7, if_neg c_11, if_neg c_12, if_neg c_13, if_neg c_14, if_pos c_15, if_pos c_19]
                        exact W.iret (v := zm_dr S_22 p1.toNatClampNeg) hx hb hr (fun t ht hW => ⟨⟨_, (), rfl, by show zm_dr S_22 p1.toNatClampNeg = (zm_door M p1 p2 p3).1; rw [hE_24], by show va_P (dC, dI) vwCl (zm_W ci cj cz h0 a ((zm_door M p1 p2 p3).2)) t.heap; rw [ht, hE_24]; exact hP, by show va_D A (zm_W ci cj cz h0 a ((zm_door M p1 p2 p3).2)); rw [hE_24]; exact hD⟩, hS.F ht⟩) hS.2.2 dz_M_door_210
                      · exact absurd c_20 c_14
                    · refine lv_aload_n hx hb dz_M_door_171 rfl (lv_at hl 2 rfl) ?_
                      refine lv_iload_n hx hb dz_M_door_172 rfl (lv_at hl 3 rfl) ?_
                      refine lv_iload_n hx hb dz_M_door_173 rfl (lv_at hl 4 rfl) ?_
                      refine lv_if_ne (tgt := 181) hx hb dz_M_door_174 (by decide) (fun c_25 => ?_) (fun c_25 => ?_)
                      · refine lv_iconst (v := 2) hx hb dz_M_door_181 (by decide) ?_
                        have hFc := zw_free hS hA hD
                        refine va_callv (va_runV (As := [.int p1, .int 2]) (rest := []) ⟨hx, hb, hml, hown, hz⟩ (ct_M_open l dC dI ci cj cz h0 a S_9 hok H.size p1 2 (zm_isBox_in hok0 c_2)) (cwV 2 hz (zw_gV zi_322 zi_323 zi_31 zi_35 zi_324) rfl rfl rfl (by decide +kernel) ⟨Nat.le_of_ble_eq_true rfl, Nat.le_of_ble_eq_true rfl⟩) (zw_preUV zw_ns_ok hP hD hK hN (ci := 3) rfl (k := 0) rfl) rfl rfl hl.1 rfl (lv_room (Nat.le_of_ble_eq_true rfl)) dz_M_door_182 ⟨Nat.le_of_ble_eq_true rfl, Nat.le_of_ble_eq_true rfl⟩) hS (fun q _ h => hFc q h) hFc (fun u_26 t_26 H locs ht hvm hw hB hz1 hk1 hS => ?_)
                        obtain ⟨hP, hD⟩ := hB
                        rw [ht] at hP
                        have hD := hD.weaken (fun _ q _ h => hFc q.1 h)
                        obtain ⟨S_27, eS_27⟩ : ∃ z, z = (zm_open S_9 p1 2) := ⟨_, rfl⟩
                        rw [← eS_27] at hP hD
                        have hok : zm_ok S_27 := by rw [eS_27]; exact zm_ok_open hok
                        refine lv_goto (tgt := 204) hx hb dz_M_door_185 (by decide) ?_
                        refine lv_aload_n hx hb dz_M_door_204 rfl (lv_at hl 2 rfl) ?_
                        refine va_get (D := (dC, dI)) (ci := 3) (v := .ref a.2.1) (C := RzM) (T := TzM) (N := 18) hx hb hz inzM hown hK hP 0 rfl rfl 2 (by decide) (hz _ zi_238) (fun _ h9 => h9) rfl dz_M_door_205 ?_
                        refine lv_iload_n hx hb dz_M_door_208 rfl (lv_at hl 3 rfl) ?_
                        have hin_28 : vp_in p1 61 := zm_isBox_in hok0 c_2
                        refine va_iald hx hb hK hP 2 0 rfl rfl hin_28 dz_M_door_209 ?_
                        have hE_29 : zm_door M p1 p2 p3 = (zm_dr S_27 p1.toNatClampNeg, S_27) := by subst eS_9 eS_27; simp only [zm_door, if_neg c_2, if_neg c_4, if_pos c_7, if_neg c_11, if_neg c_12, if_neg c_13, if_neg c_14, if_pos c_15, if_neg c_19]
                        exact W.iret (v := zm_dr S_27 p1.toNatClampNeg) hx hb hr (fun t ht hW => ⟨⟨_, (), rfl, by show zm_dr S_27 p1.toNatClampNeg = (zm_door M p1 p2 p3).1; rw [hE_29], by show va_P (dC, dI) vwCl (zm_W ci cj cz h0 a ((zm_door M p1 p2 p3).2)) t.heap; rw [ht, hE_29]; exact hP, by show va_D A (zm_W ci cj cz h0 a ((zm_door M p1 p2 p3).2)); rw [hE_29]; exact hD⟩, hS.F ht⟩) hS.2.2 dz_M_door_210
                      · exact absurd c_25 c_11
                  · exact absurd c_18 (by decide)
              · refine lv_iload hx hb dz_M_door_112 (lv_at hl 0 rfl) ?_
                refine lv_if_ne (tgt := 141) hx hb dz_M_door_114 (by decide) (fun c_30 => ?_) (fun c_30 => ?_)
                · refine lv_iconst (v := 0) hx hb dz_M_door_141 (by decide) ?_
                  refine lv_goto (tgt := 156) hx hb dz_M_door_142 (by decide) ?_
                  refine lv_istore (lv' := [(6, .int 0), (5, .int (zm_dr S_9 p1.toNatClampNeg)), (0, .ref h0), (1, .int p1), (2, .int p2), (3, .long p3)]) hx hb dz_M_door_156 hl (by decide) rfl (fun ls hl => ?_)
                  refine lv_iload hx hb dz_M_door_158 (lv_at hl 0 rfl) ?_
                  refine lv_if_ne (tgt := 166) hx hb dz_M_door_160 (by decide) (fun c_31 => ?_) (fun c_31 => ?_)
                  · exact absurd (by decide) c_31
                  · refine lv_bipush (v := -13) hx hb dz_M_door_163 (by decide) ?_
                    have hE_32 : zm_door M p1 p2 p3 = ((-13), S_9) := by subst eS_9; simp only [zm_door, if_neg c_2, if_neg c_4, if_pos c_7, if_neg c_11, if_neg c_12, if_neg c_13, if_pos c_14, if_neg c_30]
                    exact W.iret (v := (-13)) hx hb hr (fun t ht hW => ⟨⟨_, (), rfl, by show (-13) = (zm_door M p1 p2 p3).1; rw [hE_32], by show va_P (dC, dI) vwCl (zm_W ci cj cz h0 a ((zm_door M p1 p2 p3).2)) t.heap; rw [ht, hE_32]; exact hP, by show va_D A (zm_W ci cj cz h0 a ((zm_door M p1 p2 p3).2)); rw [hE_32]; exact hD⟩, hS.F ht⟩) hS.2.2 dz_M_door_165
                · refine lv_aload_n hx hb dz_M_door_117 rfl (lv_at hl 1 rfl) ?_
                  refine va_get (D := (dC, dI)) (ci := 3) (v := .ref a.2.2.2.2.1) (C := RzM) (T := TzM) (N := 18) hx hb hz inzM hown hK hP 0 rfl rfl 5 (by decide) (hz _ zi_241) (fun _ h9 => h9) rfl dz_M_door_118 ?_
                  refine lv_iload_n hx hb dz_M_door_121 rfl (lv_at hl 2 rfl) ?_
                  have hin_33 : vp_in p1 61 := zm_isBox_in hok0 c_2
                  refine va_iald hx hb hK hP 5 0 rfl rfl hin_33 dz_M_door_122 ?_
                  refine lv_if_ne (tgt := 141) hx hb dz_M_door_123 (by decide) (fun c_34 => ?_) (fun c_34 => ?_)
                  · refine lv_iconst (v := 0) hx hb dz_M_door_141 (by decide) ?_
                    refine lv_goto (tgt := 156) hx hb dz_M_door_142 (by decide) ?_
                    refine lv_istore (lv' := [(6, .int 0), (5, .int (zm_dr S_9 p1.toNatClampNeg)), (0, .ref h0), (1, .int p1), (2, .int p2), (3, .long p3)]) hx hb dz_M_door_156 hl (by decide) rfl (fun ls hl => ?_)
                    refine lv_iload hx hb dz_M_door_158 (lv_at hl 0 rfl) ?_
                    refine lv_if_ne (tgt := 166) hx hb dz_M_door_160 (by decide) (fun c_35 => ?_) (fun c_35 => ?_)
                    · exact absurd (by decide) c_35
                    · refine lv_bipush (v := -13) hx hb dz_M_door_163 (by decide) ?_
                      have hE_36 : zm_door M p1 p2 p3 = ((-13), S_9) := by subst eS_9; simp only [zm_door, if_neg c_2, if_neg c_4, if_pos c_7, if_neg c_11, if_neg c_12, if_neg c_13, if_pos c_14, if_pos c_30, if_neg c_34]
                      exact W.iret (v := (-13)) hx hb hr (fun t ht hW => ⟨⟨_, (), rfl, by show (-13) = (zm_door M p1 p2 p3).1; rw [hE_36], by show va_P (dC, dI) vwCl (zm_W ci cj cz h0 a ((zm_door M p1 p2 p3).2)) t.heap; rw [ht, hE_36]; exact hP, by show va_D A (zm_W ci cj cz h0 a ((zm_door M p1 p2 p3).2)); rw [hE_36]; exact hD⟩, hS.F ht⟩) hS.2.2 dz_M_door_165
                  · refine lv_aload_n hx hb dz_M_door_126 rfl (lv_at hl 1 rfl) ?_
                    refine va_get (D := (dC, dI)) (ci := 3) (v := .ref a.2.2.2.2.2.2.2.2.1) (C := RzM) (T := TzM) (N := 18) hx hb hz inzM hown hK hP 0 rfl rfl 9 (by decide) (hz _ zi_245) (fun _ h9 => h9) rfl dz_M_door_127 ?_
                    refine lv_iload_n hx hb dz_M_door_130 rfl (lv_at hl 2 rfl) ?_
                    have hin_37 : vp_in p1 61 := zm_isBox_in hok0 c_2
                    refine va_lald hx hb hK hP 9 1 rfl rfl hin_37 dz_M_door_131 ?_
                    refine lv_lconst (v := 0) hx hb dz_M_door_132 (by decide) ?_
                    refine W.lcmp hx hb dz_M_door_133 ?_
                    refine lv_if_ne (tgt := 141) hx hb dz_M_door_134 (by decide) (fun c_38 => ?_) (fun c_38 => ?_)
                    · refine lv_iconst (v := 0) hx hb dz_M_door_141 (by decide) ?_
                      refine lv_goto (tgt := 156) hx hb dz_M_door_142 (by decide) ?_
                      refine lv_istore (lv' := [(6, .int 0), (5, .int (zm_dr S_9 p1.toNatClampNeg)), (0, .ref h0), (1, .int p1), (2, .int p2), (3, .long p3)]) hx hb dz_M_door_156 hl (by decide) rfl (fun ls hl => ?_)
                      refine lv_iload hx hb dz_M_door_158 (lv_at hl 0 rfl) ?_
                      refine lv_if_ne (tgt := 166) hx hb dz_M_door_160 (by decide) (fun c_39 => ?_) (fun c_39 => ?_)
                      · exact absurd (by decide) c_39
                      · refine lv_bipush (v := -13) hx hb dz_M_door_163 (by decide) ?_
                        have hE_40 : zm_door M p1 p2 p3 = ((-13), S_9) := by subst eS_9; simp only [zm_door, if_neg c_2, if_neg c_4, if_pos c_7, if_neg c_11, if_neg c_12, if_neg c_13, if_pos c_14, if_pos c_30, if_pos c_34, if_neg c_38]
                        exact W.iret (v := (-13)) hx hb hr (fun t ht hW => ⟨⟨_, (), rfl, by show (-13) = (zm_door M p1 p2 p3).1; rw [hE_40], by show va_P (dC, dI) vwCl (zm_W ci cj cz h0 a ((zm_door M p1 p2 p3).2)) t.heap; rw [ht, hE_40]; exact hP, by show va_D A (zm_W ci cj cz h0 a ((zm_door M p1 p2 p3).2)); rw [hE_40]; exact hD⟩, hS.F ht⟩) hS.2.2 dz_M_door_165
                    · refine lv_iconst (v := 1) hx hb dz_M_door_137 (by decide) ?_
                      refine lv_goto (tgt := 156) hx hb dz_M_door_138 (by decide) ?_
                      refine lv_istore (lv' := [(6, .int 1), (5, .int (zm_dr S_9 p1.toNatClampNeg)), (0, .ref h0), (1, .int p1), (2, .int p2), (3, .long p3)]) hx hb dz_M_door_156 hl (by decide) rfl (fun ls hl => ?_)
                      refine lv_iload hx hb dz_M_door_158 (lv_at hl 0 rfl) ?_
                      refine lv_if_ne (tgt := 166) hx hb dz_M_door_160 (by decide) (fun c_41 => ?_) (fun c_41 => ?_)
                      · refine lv_iload_n hx hb dz_M_door_166 rfl (lv_at hl 4 rfl) ?_
                        refine lv_iconst (v := 2) hx hb dz_M_door_167 (by decide) ?_
                        refine lv_icmp_ge (tgt := 188) hx hb dz_M_door_168 (by decide) (fun c_42 => ?_) (fun c_42 => ?_)
                        · refine lv_aload_n hx hb dz_M_door_188 rfl (lv_at hl 2 rfl) ?_
                          refine va_get (D := (dC, dI)) (ci := 3) (v := .ref a.2.1) (C := RzM) (T := TzM) (N := 18) hx hb hz inzM hown hK hP 0 rfl rfl 2 (by decide) (hz _ zi_238) (fun _ h9 => h9) rfl dz_M_door_189 ?_
                          refine lv_iload_n hx hb dz_M_door_192 rfl (lv_at hl 3 rfl) ?_
                          refine lv_iload_n hx hb dz_M_door_193 rfl (lv_at hl 4 rfl) ?_
                          refine lv_iconst (v := 3) hx hb dz_M_door_194 (by decide) ?_
                          refine lv_icmp_ne (tgt := 202) hx hb dz_M_door_195 (by decide) (fun c_43 => ?_) (fun c_43 => ?_)
                          · exact absurd c_14 c_43
                          · refine lv_iconst (v := 3) hx hb dz_M_door_198 (by decide) ?_
                            refine lv_goto (tgt := 203) hx hb dz_M_door_199 (by decide) ?_
                            have hin_44 : vp_in p1 61 := zm_isBox_in hok0 c_2
                            refine va_iast hx hb hK hP hD hS 2 0 rfl rfl hin_44 dz_M_door_203 (fun H locs hP hD hS => ?_)
                            obtain ⟨S_45, eS_45⟩ : ∃ z, z = zm_sdr S_9 (upd (zm_dr S_9) p1.toNatClampNeg 3) := ⟨_, rfl⟩
                            have hP : va_P (dC, dI) vwCl (zm_W ci cj cz h0 a S_45) H := by rw [eS_45]; exact hP
                            have hD : va_D A (zm_W ci cj cz h0 a S_45) := by rw [eS_45]; exact hD
                            have hok : zm_ok S_45 := by rw [eS_45]; exact hok
                            refine lv_aload_n hx hb dz_M_door_204 rfl (lv_at hl 2 rfl) ?_
                            refine va_get (D := (dC, dI)) (ci := 3) (v := .ref a.2.1) (C := RzM) (T := TzM) (N := 18) hx hb hz inzM hown hK hP 0 rfl rfl 2 (by decide) (hz _ zi_238) (fun _ h9 => h9) rfl dz_M_door_205 ?_
                            refine lv_iload_n hx hb dz_M_door_208 rfl (lv_at hl 3 rfl) ?_
                            have hin_46 : vp_in p1 61 := zm_isBox_in hok0 c_2
                            refine va_iald hx hb hK hP 2 0 rfl rfl hin_46 dz_M_door_209 ?_
                            have hE_47 : zm_door M p1 p2 p3 = (zm_dr S_45 p1.toNatClampNeg, S_45) := by subst eS_9 eS_45; simp only [zm_door, if_neg c_2, if_neg c_4, if_pos c_7, if_neg c_11, if_neg c_12, if_neg c_13, if_pos c_14, if_pos c_30, if_pos c_34, if_pos c_38, if_pos c_42]
                            exact W.iret (v := zm_dr S_45 p1.toNatClampNeg) hx hb hr (fun t ht hW => ⟨⟨_, (), rfl, by show zm_dr S_45 p1.toNatClampNeg = (zm_door M p1 p2 p3).1; rw [hE_47], by show va_P (dC, dI) vwCl (zm_W ci cj cz h0 a ((zm_door M p1 p2 p3).2)) t.heap; rw [ht, hE_47]; exact hP, by show va_D A (zm_W ci cj cz h0 a ((zm_door M p1 p2 p3).2)); rw [hE_47]; exact hD⟩, hS.F ht⟩) hS.2.2 dz_M_door_210
                        · refine lv_aload_n hx hb dz_M_door_171 rfl (lv_at hl 2 rfl) ?_
                          refine lv_iload_n hx hb dz_M_door_172 rfl (lv_at hl 3 rfl) ?_
                          refine lv_iload_n hx hb dz_M_door_173 rfl (lv_at hl 4 rfl) ?_
                          refine lv_if_ne (tgt := 181) hx hb dz_M_door_174 (by decide) (fun c_48 => ?_) (fun c_48 => ?_)
                          · refine lv_iconst (v := 2) hx hb dz_M_door_181 (by decide) ?_
                            have hFc := zw_free hS hA hD
                            refine va_callv (va_runV (As := [.int p1, .int 2]) (rest := []) ⟨hx, hb, hml, hown, hz⟩ (ct_M_open l dC dI ci cj cz h0 a S_9 hok H.size p1 2 (zm_isBox_in hok0 c_2)) (cwV 2 hz (zw_gV zi_322 zi_323 zi_31 zi_35 zi_324) rfl rfl rfl (by decide +kernel) ⟨Nat.le_of_ble_eq_true rfl, Nat.le_of_ble_eq_true rfl⟩) (zw_preUV zw_ns_ok hP hD hK hN (ci := 3) rfl (k := 0) rfl) rfl rfl hl.1 rfl (lv_room (Nat.le_of_ble_eq_true rfl)) dz_M_door_182 ⟨Nat.le_of_ble_eq_true rfl, Nat.le_of_ble_eq_true rfl⟩) hS (fun q _ h => hFc q h) hFc (fun u_49 t_49 H locs ht hvm hw hB hz1 hk1 hS => ?_)
                            obtain ⟨hP, hD⟩ := hB
                            rw [ht] at hP
                            have hD := hD.weaken (fun _ q _ h => hFc q.1 h)
                            obtain ⟨S_50, eS_50⟩ : ∃ z, z = (zm_open S_9 p1 2) := ⟨_, rfl⟩
                            rw [← eS_50] at hP hD
                            have hok : zm_ok S_50 := by rw [eS_50]; exact zm_ok_open hok
                            refine lv_goto (tgt := 204) hx hb dz_M_door_185 (by decide) ?_
                            refine lv_aload_n hx hb dz_M_door_204 rfl (lv_at hl 2 rfl) ?_
                            refine va_get (D := (dC, dI)) (ci := 3) (v := .ref a.2.1) (C := RzM) (T := TzM) (N := 18) hx hb hz inzM hown hK hP 0 rfl rfl 2 (by decide) (hz _ zi_238) (fun _ h9 => h9) rfl dz_M_door_205 ?_
                            refine lv_iload_n hx hb dz_M_door_208 rfl (lv_at hl 3 rfl) ?_
                            have hin_51 : vp_in p1 61 := zm_isBox_in hok0 c_2
                            refine va_iald hx hb hK hP 2 0 rfl rfl hin_51 dz_M_door_209 ?_
                            have hE_52 : zm_door M p1 p2 p3 = (zm_dr S_50 p1.toNatClampNeg, S_50) := by subst eS_9 eS_50; simp only [zm_door, if_neg c_2, if_neg c_4, if_pos c_7, if_neg c_11, if_neg c_12, if_neg c_13, if_pos c_14, if_pos c_30, if_pos c_34, if_pos c_38, if_neg c_42]
                            exact W.iret (v := zm_dr S_50 p1.toNatClampNeg) hx hb hr (fun t ht hW => ⟨⟨_, (), rfl, by show zm_dr S_50 p1.toNatClampNeg = (zm_door M p1 p2 p3).1; rw [hE_52], by show va_P (dC, dI) vwCl (zm_W ci cj cz h0 a ((zm_door M p1 p2 p3).2)) t.heap; rw [ht, hE_52]; exact hP, by show va_D A (zm_W ci cj cz h0 a ((zm_door M p1 p2 p3).2)); rw [hE_52]; exact hD⟩, hS.F ht⟩) hS.2.2 dz_M_door_210
                          · exact absurd c_48 c_11
                      · exact absurd c_41 (by decide)
            · refine lv_iload hx hb dz_M_door_93 (lv_at hl 0 rfl) ?_
              refine lv_iconst (v := 2) hx hb dz_M_door_95 (by decide) ?_
              refine lv_icmp_ne (tgt := 103) hx hb dz_M_door_96 (by decide) (fun c_53 => ?_) (fun c_53 => ?_)
              · refine lv_iconst (v := 0) hx hb dz_M_door_103 (by decide) ?_
                refine lv_goto (tgt := 156) hx hb dz_M_door_104 (by decide) ?_
                refine lv_istore (lv' := [(6, .int 0), (5, .int (zm_dr S_9 p1.toNatClampNeg)), (0, .ref h0), (1, .int p1), (2, .int p2), (3, .long p3)]) hx hb dz_M_door_156 hl (by decide) rfl (fun ls hl => ?_)
                refine lv_iload hx hb dz_M_door_158 (lv_at hl 0 rfl) ?_
                refine lv_if_ne (tgt := 166) hx hb dz_M_door_160 (by decide) (fun c_54 => ?_) (fun c_54 => ?_)
                · exact absurd (by decide) c_54
                · refine lv_bipush (v := -13) hx hb dz_M_door_163 (by decide) ?_
                  have hE_55 : zm_door M p1 p2 p3 = ((-13), S_9) := by subst eS_9; simp only [zm_door, if_neg c_2, if_neg c_4, if_pos c_7, if_neg c_11, if_neg c_12, if_pos c_13, if_neg c_53]
                  exact W.iret (v := (-13)) hx hb hr (fun t ht hW => ⟨⟨_, (), rfl, by show (-13) = (zm_door M p1 p2 p3).1; rw [hE_55], by show va_P (dC, dI) vwCl (zm_W ci cj cz h0 a ((zm_door M p1 p2 p3).2)) t.heap; rw [ht, hE_55]; exact hP, by show va_D A (zm_W ci cj cz h0 a ((zm_door M p1 p2 p3).2)); rw [hE_55]; exact hD⟩, hS.F ht⟩) hS.2.2 dz_M_door_165
              · refine lv_iconst (v := 1) hx hb dz_M_door_99 (by decide) ?_
                refine lv_goto (tgt := 156) hx hb dz_M_door_100 (by decide) ?_
                refine lv_istore (lv' := [(6, .int 1), (5, .int (zm_dr S_9 p1.toNatClampNeg)), (0, .ref h0), (1, .int p1), (2, .int p2), (3, .long p3)]) hx hb dz_M_door_156 hl (by decide) rfl (fun ls hl => ?_)
                refine lv_iload hx hb dz_M_door_158 (lv_at hl 0 rfl) ?_
                refine lv_if_ne (tgt := 166) hx hb dz_M_door_160 (by decide) (fun c_56 => ?_) (fun c_56 => ?_)
                · refine lv_iload_n hx hb dz_M_door_166 rfl (lv_at hl 4 rfl) ?_
                  refine lv_iconst (v := 2) hx hb dz_M_door_167 (by decide) ?_
                  refine lv_icmp_ge (tgt := 188) hx hb dz_M_door_168 (by decide) (fun c_57 => ?_) (fun c_57 => ?_)
                  · refine lv_aload_n hx hb dz_M_door_188 rfl (lv_at hl 2 rfl) ?_
                    refine va_get (D := (dC, dI)) (ci := 3) (v := .ref a.2.1) (C := RzM) (T := TzM) (N := 18) hx hb hz inzM hown hK hP 0 rfl rfl 2 (by decide) (hz _ zi_238) (fun _ h9 => h9) rfl dz_M_door_189 ?_
                    refine lv_iload_n hx hb dz_M_door_192 rfl (lv_at hl 3 rfl) ?_
                    refine lv_iload_n hx hb dz_M_door_193 rfl (lv_at hl 4 rfl) ?_
                    refine lv_iconst (v := 3) hx hb dz_M_door_194 (by decide) ?_
                    refine lv_icmp_ne (tgt := 202) hx hb dz_M_door_195 (by decide) (fun c_58 => ?_) (fun c_58 => ?_)
                    · refine lv_iconst (v := 0) hx hb dz_M_door_202 (by decide) ?_
                      have hin_59 : vp_in p1 61 := zm_isBox_in hok0 c_2
                      refine va_iast hx hb hK hP hD hS 2 0 rfl rfl hin_59 dz_M_door_203 (fun H locs hP hD hS => ?_)
                      obtain ⟨S_60, eS_60⟩ : ∃ z, z = zm_sdr S_9 (upd (zm_dr S_9) p1.toNatClampNeg 0) := ⟨_, rfl⟩
                      have hP : va_P (dC, dI) vwCl (zm_W ci cj cz h0 a S_60) H := by rw [eS_60]; exact hP
                      have hD : va_D A (zm_W ci cj cz h0 a S_60) := by rw [eS_60]; exact hD
                      have hok : zm_ok S_60 := by rw [eS_60]; exact hok
                      refine lv_aload_n hx hb dz_M_door_204 rfl (lv_at hl 2 rfl) ?_
                      refine va_get (D := (dC, dI)) (ci := 3) (v := .ref a.2.1) (C := RzM) (T := TzM) (N := 18) hx hb hz inzM hown hK hP 0 rfl rfl 2 (by decide) (hz _ zi_238) (fun _ h9 => h9) rfl dz_M_door_205 ?_
                      refine lv_iload_n hx hb dz_M_door_208 rfl (lv_at hl 3 rfl) ?_
                      have hin_61 : vp_in p1 61 := zm_isBox_in hok0 c_2
                      refine va_iald hx hb hK hP 2 0 rfl rfl hin_61 dz_M_door_209 ?_
                      have hE_62 : zm_door M p1 p2 p3 = (zm_dr S_60 p1.toNatClampNeg, S_60) := by subst eS_9 eS_60; simp only [zm_door, if_neg c_2, if_neg c_4, if_pos c_7, if_neg c_11, if_neg c_12, if_pos c_13, if_pos c_53, if_pos c_57, if_neg c_58]
                      exact W.iret (v := zm_dr S_60 p1.toNatClampNeg) hx hb hr (fun t ht hW => ⟨⟨_, (), rfl, by show zm_dr S_60 p1.toNatClampNeg = (zm_door M p1 p2 p3).1; rw [hE_62], by show va_P (dC, dI) vwCl (zm_W ci cj cz h0 a ((zm_door M p1 p2 p3).2)) t.heap; rw [ht, hE_62]; exact hP, by show va_D A (zm_W ci cj cz h0 a ((zm_door M p1 p2 p3).2)); rw [hE_62]; exact hD⟩, hS.F ht⟩) hS.2.2 dz_M_door_210
                    · refine lv_iconst (v := 3) hx hb dz_M_door_198 (by decide) ?_
                      refine lv_goto (tgt := 203) hx hb dz_M_door_199 (by decide) ?_
                      have hin_63 : vp_in p1 61 := zm_isBox_in hok0 c_2
                      refine va_iast hx hb hK hP hD hS 2 0 rfl rfl hin_63 dz_M_door_203 (fun H locs hP hD hS => ?_)
                      obtain ⟨S_64, eS_64⟩ : ∃ z, z = zm_sdr S_9 (upd (zm_dr S_9) p1.toNatClampNeg 3) := ⟨_, rfl⟩
                      have hP : va_P (dC, dI) vwCl (zm_W ci cj cz h0 a S_64) H := by rw [eS_64]; exact hP
                      have hD : va_D A (zm_W ci cj cz h0 a S_64) := by rw [eS_64]; exact hD
                      have hok : zm_ok S_64 := by rw [eS_64]; exact hok
                      refine lv_aload_n hx hb dz_M_door_204 rfl (lv_at hl 2 rfl) ?_
                      refine va_get (D := (dC, dI)) (ci := 3) (v := .ref a.2.1) (C := RzM) (T := TzM) (N := 18) hx hb hz inzM hown hK hP 0 rfl rfl 2 (by decide) (hz _ zi_238) (fun _ h9 => h9) rfl dz_M_door_205 ?_
                      refine lv_iload_n hx hb dz_M_door_208 rfl (lv_at hl 3 rfl) ?_
                      have hin_65 : vp_in p1 61 := zm_isBox_in hok0 c_2
                      refine va_iald hx hb hK hP 2 0 rfl rfl hin_65 dz_M_door_209 ?_
                      have hE_66 : zm_door M p1 p2 p3 = (zm_dr S_64 p1.toNatClampNeg, S_64) := by subst eS_9 eS_64; simp only [zm_door, if_neg c_2, if_neg c_4, if_pos c_7, if_neg c_11, if_neg c_12, if_pos c_13, if_pos c_53, if_pos c_57, if_pos c_58]
                      exact W.iret (v := zm_dr S_64 p1.toNatClampNeg) hx hb hr (fun t ht hW => ⟨⟨_, (), rfl, by show zm_dr S_64 p1.toNatClampNeg = (zm_door M p1 p2 p3).1; rw [hE_66], by show va_P (dC, dI) vwCl (zm_W ci cj cz h0 a ((zm_door M p1 p2 p3).2)) t.heap; rw [ht, hE_66]; exact hP, by show va_D A (zm_W ci cj cz h0 a ((zm_door M p1 p2 p3).2)); rw [hE_66]; exact hD⟩, hS.F ht⟩) hS.2.2 dz_M_door_210
                  · refine lv_aload_n hx hb dz_M_door_171 rfl (lv_at hl 2 rfl) ?_
                    refine lv_iload_n hx hb dz_M_door_172 rfl (lv_at hl 3 rfl) ?_
                    refine lv_iload_n hx hb dz_M_door_173 rfl (lv_at hl 4 rfl) ?_
                    refine lv_if_ne (tgt := 181) hx hb dz_M_door_174 (by decide) (fun c_67 => ?_) (fun c_67 => ?_)
                    · refine lv_iconst (v := 2) hx hb dz_M_door_181 (by decide) ?_
                      have hFc := zw_free hS hA hD
                      refine va_callv (va_runV (As := [.int p1, .int 2]) (rest := []) ⟨hx, hb, hml, hown, hz⟩ (ct_M_open l dC dI ci cj cz h0 a S_9 hok H.size p1 2 (zm_isBox_in hok0 c_2)) (cwV 2 hz (zw_gV zi_322 zi_323 zi_31 zi_35 zi_324) rfl rfl rfl (by decide +kernel) ⟨Nat.le_of_ble_eq_true rfl, Nat.le_of_ble_eq_true rfl⟩) (zw_preUV zw_ns_ok hP hD hK hN (ci := 3) rfl (k := 0) rfl) rfl rfl hl.1 rfl (lv_room (Nat.le_of_ble_eq_true rfl)) dz_M_door_182 ⟨Nat.le_of_ble_eq_true rfl, Nat.le_of_ble_eq_true rfl⟩) hS (fun q _ h => hFc q h) hFc (fun u_68 t_68 H locs ht hvm hw hB hz1 hk1 hS => ?_)
                      obtain ⟨hP, hD⟩ := hB
                      rw [ht] at hP
                      have hD := hD.weaken (fun _ q _ h => hFc q.1 h)
                      obtain ⟨S_69, eS_69⟩ : ∃ z, z = (zm_open S_9 p1 2) := ⟨_, rfl⟩
                      rw [← eS_69] at hP hD
                      have hok : zm_ok S_69 := by rw [eS_69]; exact zm_ok_open hok
                      refine lv_goto (tgt := 204) hx hb dz_M_door_185 (by decide) ?_
                      refine lv_aload_n hx hb dz_M_door_204 rfl (lv_at hl 2 rfl) ?_
                      refine va_get (D := (dC, dI)) (ci := 3) (v := .ref a.2.1) (C := RzM) (T := TzM) (N := 18) hx hb hz inzM hown hK hP 0 rfl rfl 2 (by decide) (hz _ zi_238) (fun _ h9 => h9) rfl dz_M_door_205 ?_
                      refine lv_iload_n hx hb dz_M_door_208 rfl (lv_at hl 3 rfl) ?_
                      have hin_70 : vp_in p1 61 := zm_isBox_in hok0 c_2
                      refine va_iald hx hb hK hP 2 0 rfl rfl hin_70 dz_M_door_209 ?_
                      have hE_71 : zm_door M p1 p2 p3 = (zm_dr S_69 p1.toNatClampNeg, S_69) := by subst eS_9 eS_69; simp only [zm_door, if_neg c_2, if_neg c_4, if_pos c_7, if_neg c_11, if_neg c_12, if_pos c_13, if_pos c_53, if_neg c_57]
                      exact W.iret (v := zm_dr S_69 p1.toNatClampNeg) hx hb hr (fun t ht hW => ⟨⟨_, (), rfl, by show zm_dr S_69 p1.toNatClampNeg = (zm_door M p1 p2 p3).1; rw [hE_71], by show va_P (dC, dI) vwCl (zm_W ci cj cz h0 a ((zm_door M p1 p2 p3).2)) t.heap; rw [ht, hE_71]; exact hP, by show va_D A (zm_W ci cj cz h0 a ((zm_door M p1 p2 p3).2)); rw [hE_71]; exact hD⟩, hS.F ht⟩) hS.2.2 dz_M_door_210
                    · exact absurd c_67 c_11
                · exact absurd c_56 (by decide)
          · refine lv_iload hx hb dz_M_door_69 (lv_at hl 0 rfl) ?_
            refine lv_if_eq (tgt := 80) hx hb dz_M_door_71 (by decide) (fun c_72 => ?_) (fun c_72 => ?_)
            · refine lv_iconst (v := 1) hx hb dz_M_door_80 (by decide) ?_
              refine lv_goto (tgt := 156) hx hb dz_M_door_81 (by decide) ?_
              refine lv_istore (lv' := [(6, .int 1), (5, .int (zm_dr S_9 p1.toNatClampNeg)), (0, .ref h0), (1, .int p1), (2, .int p2), (3, .long p3)]) hx hb dz_M_door_156 hl (by decide) rfl (fun ls hl => ?_)
              refine lv_iload hx hb dz_M_door_158 (lv_at hl 0 rfl) ?_
              refine lv_if_ne (tgt := 166) hx hb dz_M_door_160 (by decide) (fun c_73 => ?_) (fun c_73 => ?_)
              · refine lv_iload_n hx hb dz_M_door_166 rfl (lv_at hl 4 rfl) ?_
                refine lv_iconst (v := 2) hx hb dz_M_door_167 (by decide) ?_
                refine lv_icmp_ge (tgt := 188) hx hb dz_M_door_168 (by decide) (fun c_74 => ?_) (fun c_74 => ?_)
                · refine lv_aload_n hx hb dz_M_door_188 rfl (lv_at hl 2 rfl) ?_
                  refine va_get (D := (dC, dI)) (ci := 3) (v := .ref a.2.1) (C := RzM) (T := TzM) (N := 18) hx hb hz inzM hown hK hP 0 rfl rfl 2 (by decide) (hz _ zi_238) (fun _ h9 => h9) rfl dz_M_door_189 ?_
                  refine lv_iload_n hx hb dz_M_door_192 rfl (lv_at hl 3 rfl) ?_
                  refine lv_iload_n hx hb dz_M_door_193 rfl (lv_at hl 4 rfl) ?_
                  refine lv_iconst (v := 3) hx hb dz_M_door_194 (by decide) ?_
                  refine lv_icmp_ne (tgt := 202) hx hb dz_M_door_195 (by decide) (fun c_75 => ?_) (fun c_75 => ?_)
                  · refine lv_iconst (v := 0) hx hb dz_M_door_202 (by decide) ?_
                    have hin_76 : vp_in p1 61 := zm_isBox_in hok0 c_2
                    refine va_iast hx hb hK hP hD hS 2 0 rfl rfl hin_76 dz_M_door_203 (fun H locs hP hD hS => ?_)
                    obtain ⟨S_77, eS_77⟩ : ∃ z, z = zm_sdr S_9 (upd (zm_dr S_9) p1.toNatClampNeg 0) := ⟨_, rfl⟩
                    have hP : va_P (dC, dI) vwCl (zm_W ci cj cz h0 a S_77) H := by rw [eS_77]; exact hP
                    have hD : va_D A (zm_W ci cj cz h0 a S_77) := by rw [eS_77]; exact hD
                    have hok : zm_ok S_77 := by rw [eS_77]; exact hok
                    refine lv_aload_n hx hb dz_M_door_204 rfl (lv_at hl 2 rfl) ?_
                    refine va_get (D := (dC, dI)) (ci := 3) (v := .ref a.2.1) (C := RzM) (T := TzM) (N := 18) hx hb hz inzM hown hK hP 0 rfl rfl 2 (by decide) (hz _ zi_238) (fun _ h9 => h9) rfl dz_M_door_205 ?_
                    refine lv_iload_n hx hb dz_M_door_208 rfl (lv_at hl 3 rfl) ?_
                    have hin_78 : vp_in p1 61 := zm_isBox_in hok0 c_2
                    refine va_iald hx hb hK hP 2 0 rfl rfl hin_78 dz_M_door_209 ?_
                    have hE_79 : zm_door M p1 p2 p3 = (zm_dr S_77 p1.toNatClampNeg, S_77) := by subst eS_9 eS_77; simp only [zm_door, if_neg c_2, if_neg c_4, if_pos c_7, if_neg c_11, if_pos c_12, if_pos c_72, if_pos c_74, if_neg c_75]
                    exact W.iret (v := zm_dr S_77 p1.toNatClampNeg) hx hb hr (fun t ht hW => ⟨⟨_, (), rfl, by show zm_dr S_77 p1.toNatClampNeg = (zm_door M p1 p2 p3).1; rw [hE_79], by show va_P (dC, dI) vwCl (zm_W ci cj cz h0 a ((zm_door M p1 p2 p3).2)) t.heap; rw [ht, hE_79]; exact hP, by show va_D A (zm_W ci cj cz h0 a ((zm_door M p1 p2 p3).2)); rw [hE_79]; exact hD⟩, hS.F ht⟩) hS.2.2 dz_M_door_210
                  · refine lv_iconst (v := 3) hx hb dz_M_door_198 (by decide) ?_
                    refine lv_goto (tgt := 203) hx hb dz_M_door_199 (by decide) ?_
                    have hin_80 : vp_in p1 61 := zm_isBox_in hok0 c_2
                    refine va_iast hx hb hK hP hD hS 2 0 rfl rfl hin_80 dz_M_door_203 (fun H locs hP hD hS => ?_)
                    obtain ⟨S_81, eS_81⟩ : ∃ z, z = zm_sdr S_9 (upd (zm_dr S_9) p1.toNatClampNeg 3) := ⟨_, rfl⟩
                    have hP : va_P (dC, dI) vwCl (zm_W ci cj cz h0 a S_81) H := by rw [eS_81]; exact hP
                    have hD : va_D A (zm_W ci cj cz h0 a S_81) := by rw [eS_81]; exact hD
                    have hok : zm_ok S_81 := by rw [eS_81]; exact hok
                    refine lv_aload_n hx hb dz_M_door_204 rfl (lv_at hl 2 rfl) ?_
                    refine va_get (D := (dC, dI)) (ci := 3) (v := .ref a.2.1) (C := RzM) (T := TzM) (N := 18) hx hb hz inzM hown hK hP 0 rfl rfl 2 (by decide) (hz _ zi_238) (fun _ h9 => h9) rfl dz_M_door_205 ?_
                    refine lv_iload_n hx hb dz_M_door_208 rfl (lv_at hl 3 rfl) ?_
                    have hin_82 : vp_in p1 61 := zm_isBox_in hok0 c_2
                    refine va_iald hx hb hK hP 2 0 rfl rfl hin_82 dz_M_door_209 ?_
                    have hE_83 : zm_door M p1 p2 p3 = (zm_dr S_81 p1.toNatClampNeg, S_81) := by subst eS_9 eS_81; simp only [zm_door, if_neg c_2, if_neg c_4, if_pos c_7, if_neg c_11, if_pos c_12, if_pos c_72, if_pos c_74, if_pos c_75]
                    exact W.iret (v := zm_dr S_81 p1.toNatClampNeg) hx hb hr (fun t ht hW => ⟨⟨_, (), rfl, by show zm_dr S_81 p1.toNatClampNeg = (zm_door M p1 p2 p3).1; rw [hE_83], by show va_P (dC, dI) vwCl (zm_W ci cj cz h0 a ((zm_door M p1 p2 p3).2)) t.heap; rw [ht, hE_83]; exact hP, by show va_D A (zm_W ci cj cz h0 a ((zm_door M p1 p2 p3).2)); rw [hE_83]; exact hD⟩, hS.F ht⟩) hS.2.2 dz_M_door_210
                · refine lv_aload_n hx hb dz_M_door_171 rfl (lv_at hl 2 rfl) ?_
                  refine lv_iload_n hx hb dz_M_door_172 rfl (lv_at hl 3 rfl) ?_
                  refine lv_iload_n hx hb dz_M_door_173 rfl (lv_at hl 4 rfl) ?_
                  refine lv_if_ne (tgt := 181) hx hb dz_M_door_174 (by decide) (fun c_84 => ?_) (fun c_84 => ?_)
                  · refine lv_iconst (v := 2) hx hb dz_M_door_181 (by decide) ?_
                    have hFc := zw_free hS hA hD
                    refine va_callv (va_runV (As := [.int p1, .int 2]) (rest := []) ⟨hx, hb, hml, hown, hz⟩ (ct_M_open l dC dI ci cj cz h0 a S_9 hok H.size p1 2 (zm_isBox_in hok0 c_2)) (cwV 2 hz (zw_gV zi_322 zi_323 zi_31 zi_35 zi_324) rfl rfl rfl (by decide +kernel) ⟨Nat.le_of_ble_eq_true rfl, Nat.le_of_ble_eq_true rfl⟩) (zw_preUV zw_ns_ok hP hD hK hN (ci := 3) rfl (k := 0) rfl) rfl rfl hl.1 rfl (lv_room (Nat.le_of_ble_eq_true rfl)) dz_M_door_182 ⟨Nat.le_of_ble_eq_true rfl, Nat.le_of_ble_eq_true rfl⟩) hS (fun q _ h => hFc q h) hFc (fun u_85 t_85 H locs ht hvm hw hB hz1 hk1 hS => ?_)
                    obtain ⟨hP, hD⟩ := hB
                    rw [ht] at hP
                    have hD := hD.weaken (fun _ q _ h => hFc q.1 h)
                    obtain ⟨S_86, eS_86⟩ : ∃ z, z = (zm_open S_9 p1 2) := ⟨_, rfl⟩
                    rw [← eS_86] at hP hD
                    have hok : zm_ok S_86 := by rw [eS_86]; exact zm_ok_open hok
                    refine lv_goto (tgt := 204) hx hb dz_M_door_185 (by decide) ?_
                    refine lv_aload_n hx hb dz_M_door_204 rfl (lv_at hl 2 rfl) ?_
                    refine va_get (D := (dC, dI)) (ci := 3) (v := .ref a.2.1) (C := RzM) (T := TzM) (N := 18) hx hb hz inzM hown hK hP 0 rfl rfl 2 (by decide) (hz _ zi_238) (fun _ h9 => h9) rfl dz_M_door_205 ?_
                    refine lv_iload_n hx hb dz_M_door_208 rfl (lv_at hl 3 rfl) ?_
                    have hin_87 : vp_in p1 61 := zm_isBox_in hok0 c_2
                    refine va_iald hx hb hK hP 2 0 rfl rfl hin_87 dz_M_door_209 ?_
                    have hE_88 : zm_door M p1 p2 p3 = (zm_dr S_86 p1.toNatClampNeg, S_86) := by subst eS_9 eS_86; simp only [zm_door, if_neg c_2, if_neg c_4, if_pos c_7, if_neg c_11, if_pos c_12, if_pos c_72, if_neg c_74]
                    exact W.iret (v := zm_dr S_86 p1.toNatClampNeg) hx hb hr (fun t ht hW => ⟨⟨_, (), rfl, by show zm_dr S_86 p1.toNatClampNeg = (zm_door M p1 p2 p3).1; rw [hE_88], by show va_P (dC, dI) vwCl (zm_W ci cj cz h0 a ((zm_door M p1 p2 p3).2)) t.heap; rw [ht, hE_88]; exact hP, by show va_D A (zm_W ci cj cz h0 a ((zm_door M p1 p2 p3).2)); rw [hE_88]; exact hD⟩, hS.F ht⟩) hS.2.2 dz_M_door_210
                  · exact absurd c_84 c_11
              · exact absurd c_73 (by decide)
            · refine lv_iload hx hb dz_M_door_74 (lv_at hl 0 rfl) ?_
              refine lv_iconst (v := 1) hx hb dz_M_door_76 (by decide) ?_
              refine lv_icmp_ne (tgt := 84) hx hb dz_M_door_77 (by decide) (fun c_89 => ?_) (fun c_89 => ?_)
              · refine lv_iconst (v := 0) hx hb dz_M_door_84 (by decide) ?_
                refine lv_goto (tgt := 156) hx hb dz_M_door_85 (by decide) ?_
                refine lv_istore (lv' := [(6, .int 0), (5, .int (zm_dr S_9 p1.toNatClampNeg)), (0, .ref h0), (1, .int p1), (2, .int p2), (3, .long p3)]) hx hb dz_M_door_156 hl (by decide) rfl (fun ls hl => ?_)
                refine lv_iload hx hb dz_M_door_158 (lv_at hl 0 rfl) ?_
                refine lv_if_ne (tgt := 166) hx hb dz_M_door_160 (by decide) (fun c_90 => ?_) (fun c_90 => ?_)
                · exact absurd (by decide) c_90
                · refine lv_bipush (v := -13) hx hb dz_M_door_163 (by decide) ?_
                  have hE_91 : zm_door M p1 p2 p3 = ((-13), S_9) := by subst eS_9; simp only [zm_door, if_neg c_2, if_neg c_4, if_pos c_7, if_neg c_11, if_pos c_12, if_neg c_72, if_neg c_89]
                  exact W.iret (v := (-13)) hx hb hr (fun t ht hW => ⟨⟨_, (), rfl, by show (-13) = (zm_door M p1 p2 p3).1; rw [hE_91], by show va_P (dC, dI) vwCl (zm_W ci cj cz h0 a ((zm_door M p1 p2 p3).2)) t.heap; rw [ht, hE_91]; exact hP, by show va_D A (zm_W ci cj cz h0 a ((zm_door M p1 p2 p3).2)); rw [hE_91]; exact hD⟩, hS.F ht⟩) hS.2.2 dz_M_door_165
              · refine lv_iconst (v := 1) hx hb dz_M_door_80 (by decide) ?_
                refine lv_goto (tgt := 156) hx hb dz_M_door_81 (by decide) ?_
                refine lv_istore (lv' := [(6, .int 1), (5, .int (zm_dr S_9 p1.toNatClampNeg)), (0, .ref h0), (1, .int p1), (2, .int p2), (3, .long p3)]) hx hb dz_M_door_156 hl (by decide) rfl (fun ls hl => ?_)
                refine lv_iload hx hb dz_M_door_158 (lv_at hl 0 rfl) ?_
                refine lv_if_ne (tgt := 166) hx hb dz_M_door_160 (by decide) (fun c_92 => ?_) (fun c_92 => ?_)
                · refine lv_iload_n hx hb dz_M_door_166 rfl (lv_at hl 4 rfl) ?_
                  refine lv_iconst (v := 2) hx hb dz_M_door_167 (by decide) ?_
                  refine lv_icmp_ge (tgt := 188) hx hb dz_M_door_168 (by decide) (fun c_93 => ?_) (fun c_93 => ?_)
                  · refine lv_aload_n hx hb dz_M_door_188 rfl (lv_at hl 2 rfl) ?_
                    refine va_get (D := (dC, dI)) (ci := 3) (v := .ref a.2.1) (C := RzM) (T := TzM) (N := 18) hx hb hz inzM hown hK hP 0 rfl rfl 2 (by decide) (hz _ zi_238) (fun _ h9 => h9) rfl dz_M_door_189 ?_
                    refine lv_iload_n hx hb dz_M_door_192 rfl (lv_at hl 3 rfl) ?_
                    refine lv_iload_n hx hb dz_M_door_193 rfl (lv_at hl 4 rfl) ?_
                    refine lv_iconst (v := 3) hx hb dz_M_door_194 (by decide) ?_
                    refine lv_icmp_ne (tgt := 202) hx hb dz_M_door_195 (by decide) (fun c_94 => ?_) (fun c_94 => ?_)
                    · refine lv_iconst (v := 0) hx hb dz_M_door_202 (by decide) ?_
                      have hin_95 : vp_in p1 61 := zm_isBox_in hok0 c_2
                      refine va_iast hx hb hK hP hD hS 2 0 rfl rfl hin_95 dz_M_door_203 (fun H locs hP hD hS => ?_)
                      obtain ⟨S_96, eS_96⟩ : ∃ z, z = zm_sdr S_9 (upd (zm_dr S_9) p1.toNatClampNeg 0) := ⟨_, rfl⟩
                      have hP : va_P (dC, dI) vwCl (zm_W ci cj cz h0 a S_96) H := by rw [eS_96]; exact hP
                      have hD : va_D A (zm_W ci cj cz h0 a S_96) := by rw [eS_96]; exact hD
                      have hok : zm_ok S_96 := by rw [eS_96]; exact hok
                      refine lv_aload_n hx hb dz_M_door_204 rfl (lv_at hl 2 rfl) ?_
                      refine va_get (D := (dC, dI)) (ci := 3) (v := .ref a.2.1) (C := RzM) (T := TzM) (N := 18) hx hb hz inzM hown hK hP 0 rfl rfl 2 (by decide) (hz _ zi_238) (fun _ h9 => h9) rfl dz_M_door_205 ?_
                      refine lv_iload_n hx hb dz_M_door_208 rfl (lv_at hl 3 rfl) ?_
                      have hin_97 : vp_in p1 61 := zm_isBox_in hok0 c_2
                      refine va_iald hx hb hK hP 2 0 rfl rfl hin_97 dz_M_door_209 ?_
                      have hE_98 : zm_door M p1 p2 p3 = (zm_dr S_96 p1.toNatClampNeg, S_96) := by subst eS_9 eS_96; simp only [zm_door, if_neg c_2, if_neg c_4, if_pos c_7, if_neg c_11, if_pos c_12, if_neg c_72, if_pos c_89, if_pos c_93, if_neg c_94]
                      exact W.iret (v := zm_dr S_96 p1.toNatClampNeg) hx hb hr (fun t ht hW => ⟨⟨_, (), rfl, by show zm_dr S_96 p1.toNatClampNeg = (zm_door M p1 p2 p3).1; rw [hE_98], by show va_P (dC, dI) vwCl (zm_W ci cj cz h0 a ((zm_door M p1 p2 p3).2)) t.heap; rw [ht, hE_98]; exact hP, by show va_D A (zm_W ci cj cz h0 a ((zm_door M p1 p2 p3).2)); rw [hE_98]; exact hD⟩, hS.F ht⟩) hS.2.2 dz_M_door_210
                    · refine lv_iconst (v := 3) hx hb dz_M_door_198 (by decide) ?_
                      refine lv_goto (tgt := 203) hx hb dz_M_door_199 (by decide) ?_
                      have hin_99 : vp_in p1 61 := zm_isBox_in hok0 c_2
                      refine va_iast hx hb hK hP hD hS 2 0 rfl rfl hin_99 dz_M_door_203 (fun H locs hP hD hS => ?_)
                      obtain ⟨S_100, eS_100⟩ : ∃ z, z = zm_sdr S_9 (upd (zm_dr S_9) p1.toNatClampNeg 3) := ⟨_, rfl⟩
                      have hP : va_P (dC, dI) vwCl (zm_W ci cj cz h0 a S_100) H := by rw [eS_100]; exact hP
                      have hD : va_D A (zm_W ci cj cz h0 a S_100) := by rw [eS_100]; exact hD
                      have hok : zm_ok S_100 := by rw [eS_100]; exact hok
                      refine lv_aload_n hx hb dz_M_door_204 rfl (lv_at hl 2 rfl) ?_
                      refine va_get (D := (dC, dI)) (ci := 3) (v := .ref a.2.1) (C := RzM) (T := TzM) (N := 18) hx hb hz inzM hown hK hP 0 rfl rfl 2 (by decide) (hz _ zi_238) (fun _ h9 => h9) rfl dz_M_door_205 ?_
                      refine lv_iload_n hx hb dz_M_door_208 rfl (lv_at hl 3 rfl) ?_
                      have hin_101 : vp_in p1 61 := zm_isBox_in hok0 c_2
                      refine va_iald hx hb hK hP 2 0 rfl rfl hin_101 dz_M_door_209 ?_
                      have hE_102 : zm_door M p1 p2 p3 = (zm_dr S_100 p1.toNatClampNeg, S_100) := by subst eS_9 eS_100; simp only [zm_door, if_neg c_2, if_neg c_4, if_pos c_7, if_neg c_11, if_pos c_12, if_neg c_72, if_pos c_89, if_pos c_93, if_pos c_94]
                      exact W.iret (v := zm_dr S_100 p1.toNatClampNeg) hx hb hr (fun t ht hW => ⟨⟨_, (), rfl, by show zm_dr S_100 p1.toNatClampNeg = (zm_door M p1 p2 p3).1; rw [hE_102], by show va_P (dC, dI) vwCl (zm_W ci cj cz h0 a ((zm_door M p1 p2 p3).2)) t.heap; rw [ht, hE_102]; exact hP, by show va_D A (zm_W ci cj cz h0 a ((zm_door M p1 p2 p3).2)); rw [hE_102]; exact hD⟩, hS.F ht⟩) hS.2.2 dz_M_door_210
                  · refine lv_aload_n hx hb dz_M_door_171 rfl (lv_at hl 2 rfl) ?_
                    refine lv_iload_n hx hb dz_M_door_172 rfl (lv_at hl 3 rfl) ?_
                    refine lv_iload_n hx hb dz_M_door_173 rfl (lv_at hl 4 rfl) ?_
                    refine lv_if_ne (tgt := 181) hx hb dz_M_door_174 (by decide) (fun c_103 => ?_) (fun c_103 => ?_)
                    · refine lv_iconst (v := 2) hx hb dz_M_door_181 (by decide) ?_
                      have hFc := zw_free hS hA hD
                      refine va_callv (va_runV (As := [.int p1, .int 2]) (rest := []) ⟨hx, hb, hml, hown, hz⟩ (ct_M_open l dC dI ci cj cz h0 a S_9 hok H.size p1 2 (zm_isBox_in hok0 c_2)) (cwV 2 hz (zw_gV zi_322 zi_323 zi_31 zi_35 zi_324) rfl rfl rfl (by decide +kernel) ⟨Nat.le_of_ble_eq_true rfl, Nat.le_of_ble_eq_true rfl⟩) (zw_preUV zw_ns_ok hP hD hK hN (ci := 3) rfl (k := 0) rfl) rfl rfl hl.1 rfl (lv_room (Nat.le_of_ble_eq_true rfl)) dz_M_door_182 ⟨Nat.le_of_ble_eq_true rfl, Nat.le_of_ble_eq_true rfl⟩) hS (fun q _ h => hFc q h) hFc (fun u_104 t_104 H locs ht hvm hw hB hz1 hk1 hS => ?_)
                      obtain ⟨hP, hD⟩ := hB
                      rw [ht] at hP
                      have hD := hD.weaken (fun _ q _ h => hFc q.1 h)
                      obtain ⟨S_105, eS_105⟩ : ∃ z, z = (zm_open S_9 p1 2) := ⟨_, rfl⟩
                      rw [← eS_105] at hP hD
                      have hok : zm_ok S_105 := by rw [eS_105]; exact zm_ok_open hok
                      refine lv_goto (tgt := 204) hx hb dz_M_door_185 (by decide) ?_
                      refine lv_aload_n hx hb dz_M_door_204 rfl (lv_at hl 2 rfl) ?_
                      refine va_get (D := (dC, dI)) (ci := 3) (v := .ref a.2.1) (C := RzM) (T := TzM) (N := 18) hx hb hz inzM hown hK hP 0 rfl rfl 2 (by decide) (hz _ zi_238) (fun _ h9 => h9) rfl dz_M_door_205 ?_
                      refine lv_iload_n hx hb dz_M_door_208 rfl (lv_at hl 3 rfl) ?_
                      have hin_106 : vp_in p1 61 := zm_isBox_in hok0 c_2
                      refine va_iald hx hb hK hP 2 0 rfl rfl hin_106 dz_M_door_209 ?_
                      have hE_107 : zm_door M p1 p2 p3 = (zm_dr S_105 p1.toNatClampNeg, S_105) := by subst eS_9 eS_105; simp only [zm_door, if_neg c_2, if_neg c_4, if_pos c_7, if_neg c_11, if_pos c_12, if_neg c_72, if_pos c_89, if_neg c_93]
                      exact W.iret (v := zm_dr S_105 p1.toNatClampNeg) hx hb hr (fun t ht hW => ⟨⟨_, (), rfl, by show zm_dr S_105 p1.toNatClampNeg = (zm_door M p1 p2 p3).1; rw [hE_107], by show va_P (dC, dI) vwCl (zm_W ci cj cz h0 a ((zm_door M p1 p2 p3).2)) t.heap; rw [ht, hE_107]; exact hP, by show va_D A (zm_W ci cj cz h0 a ((zm_door M p1 p2 p3).2)); rw [hE_107]; exact hD⟩, hS.F ht⟩) hS.2.2 dz_M_door_210
                    · exact absurd c_103 c_11
                · exact absurd c_92 (by decide)
        · refine lv_iload hx hb dz_M_door_51 (lv_at hl 0 rfl) ?_
          refine lv_if_ne (tgt := 60) hx hb dz_M_door_53 (by decide) (fun c_108 => ?_) (fun c_108 => ?_)
          · refine lv_iconst (v := 0) hx hb dz_M_door_60 (by decide) ?_
            refine lv_goto (tgt := 156) hx hb dz_M_door_61 (by decide) ?_
            refine lv_istore (lv' := [(6, .int 0), (5, .int (zm_dr S_9 p1.toNatClampNeg)), (0, .ref h0), (1, .int p1), (2, .int p2), (3, .long p3)]) hx hb dz_M_door_156 hl (by decide) rfl (fun ls hl => ?_)
            refine lv_iload hx hb dz_M_door_158 (lv_at hl 0 rfl) ?_
            refine lv_if_ne (tgt := 166) hx hb dz_M_door_160 (by decide) (fun c_109 => ?_) (fun c_109 => ?_)
            · exact absurd (by decide) c_109
            · refine lv_bipush (v := -13) hx hb dz_M_door_163 (by decide) ?_
              have hE_110 : zm_door M p1 p2 p3 = ((-13), S_9) := by subst eS_9; simp only [zm_door, if_neg c_2, if_neg c_4, if_pos c_7, if_pos c_11, if_neg c_108]
              exact W.iret (v := (-13)) hx hb hr (fun t ht hW => ⟨⟨_, (), rfl, by show (-13) = (zm_door M p1 p2 p3).1; rw [hE_110], by show va_P (dC, dI) vwCl (zm_W ci cj cz h0 a ((zm_door M p1 p2 p3).2)) t.heap; rw [ht, hE_110]; exact hP, by show va_D A (zm_W ci cj cz h0 a ((zm_door M p1 p2 p3).2)); rw [hE_110]; exact hD⟩, hS.F ht⟩) hS.2.2 dz_M_door_165
          · refine lv_iconst (v := 1) hx hb dz_M_door_56 (by decide) ?_
            refine lv_goto (tgt := 156) hx hb dz_M_door_57 (by decide) ?_
            refine lv_istore (lv' := [(6, .int 1), (5, .int (zm_dr S_9 p1.toNatClampNeg)), (0, .ref h0), (1, .int p1), (2, .int p2), (3, .long p3)]) hx hb dz_M_door_156 hl (by decide) rfl (fun ls hl => ?_)
            refine lv_iload hx hb dz_M_door_158 (lv_at hl 0 rfl) ?_
            refine lv_if_ne (tgt := 166) hx hb dz_M_door_160 (by decide) (fun c_111 => ?_) (fun c_111 => ?_)
            · refine lv_iload_n hx hb dz_M_door_166 rfl (lv_at hl 4 rfl) ?_
              refine lv_iconst (v := 2) hx hb dz_M_door_167 (by decide) ?_
              refine lv_icmp_ge (tgt := 188) hx hb dz_M_door_168 (by decide) (fun c_112 => ?_) (fun c_112 => ?_)
              · refine lv_aload_n hx hb dz_M_door_188 rfl (lv_at hl 2 rfl) ?_
                refine va_get (D := (dC, dI)) (ci := 3) (v := .ref a.2.1) (C := RzM) (T := TzM) (N := 18) hx hb hz inzM hown hK hP 0 rfl rfl 2 (by decide) (hz _ zi_238) (fun _ h9 => h9) rfl dz_M_door_189 ?_
                refine lv_iload_n hx hb dz_M_door_192 rfl (lv_at hl 3 rfl) ?_
                refine lv_iload_n hx hb dz_M_door_193 rfl (lv_at hl 4 rfl) ?_
                refine lv_iconst (v := 3) hx hb dz_M_door_194 (by decide) ?_
                refine lv_icmp_ne (tgt := 202) hx hb dz_M_door_195 (by decide) (fun c_113 => ?_) (fun c_113 => ?_)
                · refine lv_iconst (v := 0) hx hb dz_M_door_202 (by decide) ?_
                  have hin_114 : vp_in p1 61 := zm_isBox_in hok0 c_2
                  refine va_iast hx hb hK hP hD hS 2 0 rfl rfl hin_114 dz_M_door_203 (fun H locs hP hD hS => ?_)
                  obtain ⟨S_115, eS_115⟩ : ∃ z, z = zm_sdr S_9 (upd (zm_dr S_9) p1.toNatClampNeg 0) := ⟨_, rfl⟩
                  have hP : va_P (dC, dI) vwCl (zm_W ci cj cz h0 a S_115) H := by rw [eS_115]; exact hP
                  have hD : va_D A (zm_W ci cj cz h0 a S_115) := by rw [eS_115]; exact hD
                  have hok : zm_ok S_115 := by rw [eS_115]; exact hok
                  refine lv_aload_n hx hb dz_M_door_204 rfl (lv_at hl 2 rfl) ?_
                  refine va_get (D := (dC, dI)) (ci := 3) (v := .ref a.2.1) (C := RzM) (T := TzM) (N := 18) hx hb hz inzM hown hK hP 0 rfl rfl 2 (by decide) (hz _ zi_238) (fun _ h9 => h9) rfl dz_M_door_205 ?_
                  refine lv_iload_n hx hb dz_M_door_208 rfl (lv_at hl 3 rfl) ?_
                  have hin_116 : vp_in p1 61 := zm_isBox_in hok0 c_2
                  refine va_iald hx hb hK hP 2 0 rfl rfl hin_116 dz_M_door_209 ?_
                  have hE_117 : zm_door M p1 p2 p3 = (zm_dr S_115 p1.toNatClampNeg, S_115) := by subst eS_9 eS_115; simp only [zm_door, if_neg c_2, if_neg c_4, if_pos c_7, if_pos c_11, if_pos c_108, if_pos c_112, if_neg c_113]
                  exact W.iret (v := zm_dr S_115 p1.toNatClampNeg) hx hb hr (fun t ht hW => ⟨⟨_, (), rfl, by show zm_dr S_115 p1.toNatClampNeg = (zm_door M p1 p2 p3).1; rw [hE_117], by show va_P (dC, dI) vwCl (zm_W ci cj cz h0 a ((zm_door M p1 p2 p3).2)) t.heap; rw [ht, hE_117]; exact hP, by show va_D A (zm_W ci cj cz h0 a ((zm_door M p1 p2 p3).2)); rw [hE_117]; exact hD⟩, hS.F ht⟩) hS.2.2 dz_M_door_210
                · refine lv_iconst (v := 3) hx hb dz_M_door_198 (by decide) ?_
                  refine lv_goto (tgt := 203) hx hb dz_M_door_199 (by decide) ?_
                  have hin_118 : vp_in p1 61 := zm_isBox_in hok0 c_2
                  refine va_iast hx hb hK hP hD hS 2 0 rfl rfl hin_118 dz_M_door_203 (fun H locs hP hD hS => ?_)
                  obtain ⟨S_119, eS_119⟩ : ∃ z, z = zm_sdr S_9 (upd (zm_dr S_9) p1.toNatClampNeg 3) := ⟨_, rfl⟩
                  have hP : va_P (dC, dI) vwCl (zm_W ci cj cz h0 a S_119) H := by rw [eS_119]; exact hP
                  have hD : va_D A (zm_W ci cj cz h0 a S_119) := by rw [eS_119]; exact hD
                  have hok : zm_ok S_119 := by rw [eS_119]; exact hok
                  refine lv_aload_n hx hb dz_M_door_204 rfl (lv_at hl 2 rfl) ?_
                  refine va_get (D := (dC, dI)) (ci := 3) (v := .ref a.2.1) (C := RzM) (T := TzM) (N := 18) hx hb hz inzM hown hK hP 0 rfl rfl 2 (by decide) (hz _ zi_238) (fun _ h9 => h9) rfl dz_M_door_205 ?_
                  refine lv_iload_n hx hb dz_M_door_208 rfl (lv_at hl 3 rfl) ?_
                  have hin_120 : vp_in p1 61 := zm_isBox_in hok0 c_2
                  refine va_iald hx hb hK hP 2 0 rfl rfl hin_120 dz_M_door_209 ?_
                  have hE_121 : zm_door M p1 p2 p3 = (zm_dr S_119 p1.toNatClampNeg, S_119) := by subst eS_9 eS_119; simp only [zm_door, if_neg c_2, if_neg c_4, if_pos c_7, if_pos c_11, if_pos c_108, if_pos c_112, if_pos c_113]
                  exact W.iret (v := zm_dr S_119 p1.toNatClampNeg) hx hb hr (fun t ht hW => ⟨⟨_, (), rfl, by show zm_dr S_119 p1.toNatClampNeg = (zm_door M p1 p2 p3).1; rw [hE_121], by show va_P (dC, dI) vwCl (zm_W ci cj cz h0 a ((zm_door M p1 p2 p3).2)) t.heap; rw [ht, hE_121]; exact hP, by show va_D A (zm_W ci cj cz h0 a ((zm_door M p1 p2 p3).2)); rw [hE_121]; exact hD⟩, hS.F ht⟩) hS.2.2 dz_M_door_210
              · refine lv_aload_n hx hb dz_M_door_171 rfl (lv_at hl 2 rfl) ?_
                refine lv_iload_n hx hb dz_M_door_172 rfl (lv_at hl 3 rfl) ?_
                refine lv_iload_n hx hb dz_M_door_173 rfl (lv_at hl 4 rfl) ?_
                refine lv_if_ne (tgt := 181) hx hb dz_M_door_174 (by decide) (fun c_122 => ?_) (fun c_122 => ?_)
                · exact absurd c_11 c_122
                · refine lv_iconst (v := 1) hx hb dz_M_door_177 (by decide) ?_
                  refine lv_goto (tgt := 182) hx hb dz_M_door_178 (by decide) ?_
                  have hFc := zw_free hS hA hD
                  refine va_callv (va_runV (As := [.int p1, .int 1]) (rest := []) ⟨hx, hb, hml, hown, hz⟩ (ct_M_open l dC dI ci cj cz h0 a S_9 hok H.size p1 1 (zm_isBox_in hok0 c_2)) (cwV 2 hz (zw_gV zi_322 zi_323 zi_31 zi_35 zi_324) rfl rfl rfl (by decide +kernel) ⟨Nat.le_of_ble_eq_true rfl, Nat.le_of_ble_eq_true rfl⟩) (zw_preUV zw_ns_ok hP hD hK hN (ci := 3) rfl (k := 0) rfl) rfl rfl hl.1 rfl (lv_room (Nat.le_of_ble_eq_true rfl)) dz_M_door_182 ⟨Nat.le_of_ble_eq_true rfl, Nat.le_of_ble_eq_true rfl⟩) hS (fun q _ h => hFc q h) hFc (fun u_123 t_123 H locs ht hvm hw hB hz1 hk1 hS => ?_)
                  obtain ⟨hP, hD⟩ := hB
                  rw [ht] at hP
                  have hD := hD.weaken (fun _ q _ h => hFc q.1 h)
                  obtain ⟨S_124, eS_124⟩ : ∃ z, z = (zm_open S_9 p1 1) := ⟨_, rfl⟩
                  rw [← eS_124] at hP hD
                  have hok : zm_ok S_124 := by rw [eS_124]; exact zm_ok_open hok
                  refine lv_goto (tgt := 204) hx hb dz_M_door_185 (by decide) ?_
                  refine lv_aload_n hx hb dz_M_door_204 rfl (lv_at hl 2 rfl) ?_
                  refine va_get (D := (dC, dI)) (ci := 3) (v := .ref a.2.1) (C := RzM) (T := TzM) (N := 18) hx hb hz inzM hown hK hP 0 rfl rfl 2 (by decide) (hz _ zi_238) (fun _ h9 => h9) rfl dz_M_door_205 ?_
                  refine lv_iload_n hx hb dz_M_door_208 rfl (lv_at hl 3 rfl) ?_
                  have hin_125 : vp_in p1 61 := zm_isBox_in hok0 c_2
                  refine va_iald hx hb hK hP 2 0 rfl rfl hin_125 dz_M_door_209 ?_
                  have hE_126 : zm_door M p1 p2 p3 = (zm_dr S_124 p1.toNatClampNeg, S_124) := by subst eS_9 eS_124; simp only [zm_door, if_neg c_2, if_neg c_4, if_pos c_7, if_pos c_11, if_pos c_108, if_neg c_112]
                  exact W.iret (v := zm_dr S_124 p1.toNatClampNeg) hx hb hr (fun t ht hW => ⟨⟨_, (), rfl, by show zm_dr S_124 p1.toNatClampNeg = (zm_door M p1 p2 p3).1; rw [hE_126], by show va_P (dC, dI) vwCl (zm_W ci cj cz h0 a ((zm_door M p1 p2 p3).2)) t.heap; rw [ht, hE_126]; exact hP, by show va_D A (zm_W ci cj cz h0 a ((zm_door M p1 p2 p3).2)); rw [hE_126]; exact hD⟩, hS.F ht⟩) hS.2.2 dz_M_door_210
            · exact absurd c_111 (by decide)
      · refine lv_bipush (v := -12) hx hb dz_M_door_31 (by decide) ?_
        have hE_127 : zm_door M p1 p2 p3 = ((-12), M) := by simp only [zm_door, if_neg c_2, if_neg c_4, if_neg c_7]
        exact W.iret (v := (-12)) hx hb hr (fun t ht hW => ⟨⟨_, (), rfl, by show (-12) = (zm_door M p1 p2 p3).1; rw [hE_127], by show va_P (dC, dI) vwCl (zm_W ci cj cz h0 a ((zm_door M p1 p2 p3).2)) t.heap; rw [ht, hE_127]; exact hP, by show va_D A (zm_W ci cj cz h0 a ((zm_door M p1 p2 p3).2)); rw [hE_127]; exact hD⟩, hS.F ht⟩) hS.2.2 dz_M_door_33
  · refine lv_bipush (v := -11) hx hb dz_M_door_8 (by decide) ?_
    have hE_128 : zm_door M p1 p2 p3 = ((-11), M) := by simp only [zm_door, if_pos c_2]
    exact W.iret (v := (-11)) hx hb hr (fun t ht hW => ⟨⟨_, (), rfl, by show (-11) = (zm_door M p1 p2 p3).1; rw [hE_128], by show va_P (dC, dI) vwCl (zm_W ci cj cz h0 a ((zm_door M p1 p2 p3).2)) t.heap; rw [ht, hE_128]; exact hP, by show va_D A (zm_W ci cj cz h0 a ((zm_door M p1 p2 p3).2)); rw [hE_128]; exact hD⟩, hS.F ht⟩) hS.2.2 dz_M_door_10

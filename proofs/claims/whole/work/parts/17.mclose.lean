set_option maxHeartbeats 4000000 in
set_option maxRecDepth 100000 in
theorem ct_M_close (l : Launch) (dC : Nat → ClassId) (dI : Nat → Nat → Nat) (ci cj cz : ClassId) (h0 : Nat) (a : zm_Ad) (M : zm_S) (hok : zm_ok M) (sz : Nat) (p1 : Int32) (p2 : Int64) : Met l yz_M_close wz_M_close (zw_room 2 0 0) (zw_U zw_ns (dC, dI) vwCl (zm_tys ci cj cz) [.ref h0, .int p1, .long p2] (zm_W ci cj cz h0 a M) sz) (va_Qi (fun (r : Int32) (_ : Unit) => r = (zm_close M p1 p2).1) (fun (_ : Unit) (t : State) => va_P (dC, dI) vwCl (zm_W ci cj cz h0 a ((zm_close M p1 p2).2)) t.heap ∧ va_D (va_A (zm_W ci cj cz h0 a M) sz) (zm_W ci cj cz h0 a ((zm_close M p1 p2).2))) (va_A (zm_W ci cj cz h0 a M) sz)) 0 0 (va_A (zm_W ci cj cz h0 a M) sz) := by
  refine Met.ofW (cc := cz_M_close) (maxL := 7) (ret := (some .int)) (by decide) rfl ?_
  intro p e s m args below meth c s₁ B hml hv
  obtain ⟨rfl, hsz, hP, hK, hD0, hN⟩ := hv
  have hx := B.exec
  have hb := B.bytes
  have hr := B.returns
  have hts := atoms_spec (ws := wz_M_close) B.pre
  have hz : ∀ w ∈ zw_T, w.before ([.ref h0, .int p1, .long p2] : List Value).toArray s = true := fun w h => hts w (List.mem_cons_of_mem _ h)
  have hown : s.vm.findClass RzM = some m.cls := findClass_of_methodNamed B.named
  have hlocks := B.notSynchronized
  have hok0 := hok
  subst hsz
  have hD := hD0.self (sz := s.heap.size)
  generalize hAe : va_A (zm_W ci cj cz h0 a M) s.heap.size = A at hD ⊢
  have hA : ∀ q : Nat, s.heap.size ≤ q → A q := fun q h => by rw [← hAe]; exact Or.inr h
  have hS : va_S A s.heap s.heap [] := va_S.rf
  have hl := lv_entry ([.ref h0, .int p1, .long p2]) (n := 7) (Nat.le_of_ble_eq_true rfl)
  rw [lg_entry_eq]
  generalize (lg_sl ([.ref h0, .int p1, .long p2]) ++ List.replicate (7 - (lg_sl ([.ref h0, .int p1, .long p2])).length) Slot.unset).toArray = ls at hl ⊢
  have hl : lv_has ls 7 [(0, .ref h0), (1, .int p1), (2, .long p2)] := hl
  refine lv_aload_n hx hb dz_M_close_0 rfl (lv_at hl 0 rfl) ?_
  refine lv_iload_n hx hb dz_M_close_1 rfl (lv_at hl 1 rfl) ?_
  refine vp_callSi (va_Run.run (va_runV (As := [.int p1]) (rest := []) ⟨hx, hb, hml, hown, hz⟩ (ct_M_isBox l dC dI ci cj cz h0 a M hok p1) (cwV 1 hz (zw_gV zi_296 zi_297 zi_26 zi_35 zi_298) rfl rfl rfl (by decide +kernel) ⟨Nat.le_of_ble_eq_true rfl, Nat.le_of_ble_eq_true rfl⟩) (zw_preRV zw_ns_ok hP hK hN (ci := 3) rfl (k := 0) rfl) rfl rfl hl.1 rfl (lv_room (Nat.le_of_ble_eq_true rfl)) dz_M_close_2 ⟨Nat.le_of_ble_eq_true rfl, Nat.le_of_ble_eq_true rfl⟩)) (fun r_1 hr_1 => ?_)
  have hr_1 : r_1 = zm_isBox M p1 := hr_1
  subst hr_1
  refine lv_if_ne (tgt := 11) hx hb dz_M_close_5 (by decide) (fun c_2 => ?_) (fun c_2 => ?_)
  · refine lv_aload_n hx hb dz_M_close_11 rfl (lv_at hl 0 rfl) ?_
    refine lv_lload_n hx hb dz_M_close_12 rfl (lv_at hl 2 rfl) ?_
    refine vp_callSi (va_Run.run (va_runV (As := [.long p2]) (rest := []) ⟨hx, hb, hml, hown, hz⟩ (ct_M_isNoTime l dC dI ci cj cz h0 a M hok p2) (cwV 1 hz (zw_gV zi_300 zi_301 zi_27 zi_35 zi_302) rfl rfl rfl (by decide +kernel) ⟨Nat.le_of_ble_eq_true rfl, Nat.le_of_ble_eq_true rfl⟩) (zw_preRV zw_ns_ok hP hK hN (ci := 3) rfl (k := 0) rfl) rfl rfl hl.1 rfl (lv_room (Nat.le_of_ble_eq_true rfl)) dz_M_close_13 ⟨Nat.le_of_ble_eq_true rfl, Nat.le_of_ble_eq_true rfl⟩)) (fun r_3 hr_3 => ?_)
    have hr_3 : r_3 = zm_isNo M p2 := hr_3
    subst hr_3
    refine lv_if_eq (tgt := 22) hx hb dz_M_close_16 (by decide) (fun c_4 => ?_) (fun c_4 => ?_)
    · refine lv_aload_n hx hb dz_M_close_22 rfl (lv_at hl 0 rfl) ?_
      refine lv_lload_n hx hb dz_M_close_23 rfl (lv_at hl 2 rfl) ?_
      have hFc := zw_free hS hA hD
      refine va_callv (va_runV (As := [.long p2]) (rest := []) ⟨hx, hb, hml, hown, hz⟩ (ct_M_pass l dC dI ci cj cz h0 a M hok s.heap.size p2) (cwV 1 hz (zw_gV zi_303 zi_304 zi_28 zi_35 zi_305) rfl rfl rfl (by decide +kernel) ⟨Nat.le_of_ble_eq_true rfl, Nat.le_of_ble_eq_true rfl⟩) (zw_preUV zw_ns_ok hP hD hK hN (ci := 3) rfl (k := 0) rfl) rfl rfl hl.1 rfl (lv_room (Nat.le_of_ble_eq_true rfl)) dz_M_close_24 ⟨Nat.le_of_ble_eq_true rfl, Nat.le_of_ble_eq_true rfl⟩) hS (fun q _ h => hFc q h) hFc (fun u_5 t_5 H locs ht hvm hw hB hz1 hk1 hS => ?_)
      obtain ⟨hP, hD⟩ := hB
      rw [ht] at hP
      have hD := hD.weaken (fun _ q _ h => hFc q.1 h)
      obtain ⟨S_6, eS_6⟩ : ∃ z, z = (zm_pass M p2) := ⟨_, rfl⟩
      rw [← eS_6] at hP hD
      have hok : zm_ok S_6 := by rw [eS_6]; exact zm_ok_pass hok
      refine lv_aload_n hx hb dz_M_close_27 rfl (lv_at hl 0 rfl) ?_
      refine va_get (D := (dC, dI)) (ci := 3) (v := .ref a.2.1) (C := RzM) (T := TzM) (N := 18) hx hb hz inzM hown hK hP 0 rfl rfl 2 (by decide) (hz _ zi_238) (fun _ h9 => h9) rfl dz_M_close_28 ?_
      refine lv_iload_n hx hb dz_M_close_31 rfl (lv_at hl 1 rfl) ?_
      have hin_7 : vp_in p1 61 := zm_isBox_in hok0 c_2
      refine va_iald hx hb hK hP 2 0 rfl rfl hin_7 dz_M_close_32 ?_
      refine lv_iconst (v := 1) hx hb dz_M_close_33 (by decide) ?_
      refine lv_icmp_eq (tgt := 40) hx hb dz_M_close_34 (by decide) (fun c_8 => ?_) (fun c_8 => ?_)
      · refine lv_aload_n hx hb dz_M_close_40 rfl (lv_at hl 0 rfl) ?_
        refine va_get (D := (dC, dI)) (ci := 3) (v := .ref a.2.2.2.2.1) (C := RzM) (T := TzM) (N := 18) hx hb hz inzM hown hK hP 0 rfl rfl 5 (by decide) (hz _ zi_241) (fun _ h9 => h9) rfl dz_M_close_41 ?_
        refine lv_iload_n hx hb dz_M_close_44 rfl (lv_at hl 1 rfl) ?_
        have hin_9 : vp_in p1 61 := zm_isBox_in hok0 c_2
        refine va_iald hx hb hK hP 5 0 rfl rfl hin_9 dz_M_close_45 ?_
        refine lv_if_le (tgt := 62) hx hb dz_M_close_46 (by decide) (fun c_10 => ?_) (fun c_10 => ?_)
        · refine lv_iconst (v := 0) hx hb dz_M_close_62 (by decide) ?_
          refine lv_istore (lv' := [(4, .int 0), (0, .ref h0), (1, .int p1), (2, .long p2)]) hx hb dz_M_close_63 hl (by decide) rfl (fun ls hl => ?_)
          refine lv_iconst (v := nI 0) hx hb dz_M_close_65 (by decide) ?_
          refine lv_istore (lv' := [(5, .int (nI 0)), (4, .int 0), (0, .ref h0), (1, .int p1), (2, .long p2)]) hx hb dz_M_close_66 hl (by decide) rfl (fun ls hl => ?_)
          refine lv_iload hx hb dz_M_close_68 (lv_at hl 1 rfl) ?_
          refine lv_if_eq (tgt := 102) hx hb dz_M_close_70 (by decide) (fun c_11 => ?_) (fun c_11 => ?_)
          · refine lv_iload hx hb dz_M_close_102 (lv_at hl 1 rfl) ?_
            refine lv_if_eq (tgt := 119) hx hb dz_M_close_104 (by decide) (fun c_12 => ?_) (fun c_12 => ?_)
            · refine lv_aload_n hx hb dz_M_close_119 rfl (lv_at hl 2 rfl) ?_
              refine va_get (D := (dC, dI)) (ci := 3) (v := .ref a.2.1) (C := RzM) (T := TzM) (N := 18) hx hb hz inzM hown hK hP 0 rfl rfl 2 (by decide) (hz _ zi_238) (fun _ h9 => h9) rfl dz_M_close_120 ?_
              refine lv_iload_n hx hb dz_M_close_123 rfl (lv_at hl 3 rfl) ?_
              refine lv_iconst (v := 0) hx hb dz_M_close_124 (by decide) ?_
              have hin_13 : vp_in p1 61 := zm_isBox_in hok0 c_2
              refine va_iast hx hb hK hP hD hS 2 0 rfl rfl hin_13 dz_M_close_125 (fun H locs hP hD hS => ?_)
              obtain ⟨S_14, eS_14⟩ : ∃ z, z = zm_sdr S_6 (upd (zm_dr S_6) p1.toNatClampNeg 0) := ⟨_, rfl⟩
              have hP : va_P (dC, dI) vwCl (zm_W ci cj cz h0 a S_14) H := by rw [eS_14]; exact hP
              have hD : va_D A (zm_W ci cj cz h0 a S_14) := by rw [eS_14]; exact hD
              have hok : zm_ok S_14 := by rw [eS_14]; exact hok
              refine lv_iload hx hb dz_M_close_126 (lv_at hl 1 rfl) ?_
              refine lv_if_ne (tgt := 133) hx hb dz_M_close_128 (by decide) (fun c_15 => ?_) (fun c_15 => ?_)
              · exact absurd (by decide) c_15
              · refine lv_iconst (v := -1) hx hb dz_M_close_131 (by decide) ?_
                have hE_16 : zm_close M p1 p2 = ((-1), S_14) := by subst eS_6 eS_14; simp only [zm_close, if_neg c_2, if_pos c_4, if_pos c_8, if_pos c_10]
                exact W.iret (v := (-1)) hx hb hr (fun t ht hW => ⟨⟨_, (), rfl, by show (-1) = (zm_close M p1 p2).1; rw [hE_16], by show va_P (dC, dI) vwCl (zm_W ci cj cz h0 a ((zm_close M p1 p2).2)) t.heap; rw [ht, hE_16]; exact hP, by show va_D A (zm_W ci cj cz h0 a ((zm_close M p1 p2).2)); rw [hE_16]; exact hD⟩, hS.F ht⟩) hS.2.2 dz_M_close_132
            · exact absurd (by decide) c_12
          · exact absurd (by decide) c_11
        · refine lv_aload_n hx hb dz_M_close_49 rfl (lv_at hl 0 rfl) ?_
          refine va_get (D := (dC, dI)) (ci := 3) (v := .ref a.2.2.2.2.2.1) (C := RzM) (T := TzM) (N := 18) hx hb hz inzM hown hK hP 0 rfl rfl 6 (by decide) (hz _ zi_242) (fun _ h9 => h9) rfl dz_M_close_50 ?_
          refine lv_iload_n hx hb dz_M_close_53 rfl (lv_at hl 1 rfl) ?_
          have hin_17 : vp_in p1 61 := zm_isBox_in hok0 c_2
          refine va_iald hx hb hK hP 6 0 rfl rfl hin_17 dz_M_close_54 ?_
          refine lv_if_ge (tgt := 62) hx hb dz_M_close_55 (by decide) (fun c_18 => ?_) (fun c_18 => ?_)
          · refine lv_iconst (v := 0) hx hb dz_M_close_62 (by decide) ?_
            refine lv_istore (lv' := [(4, .int 0), (0, .ref h0), (1, .int p1), (2, .long p2)]) hx hb dz_M_close_63 hl (by decide) rfl (fun ls hl => ?_)
            refine lv_iconst (v := nI 0) hx hb dz_M_close_65 (by decide) ?_
            refine lv_istore (lv' := [(5, .int (nI 0)), (4, .int 0), (0, .ref h0), (1, .int p1), (2, .long p2)]) hx hb dz_M_close_66 hl (by decide) rfl (fun ls hl => ?_)
            refine lv_iload hx hb dz_M_close_68 (lv_at hl 1 rfl) ?_
            refine lv_if_eq (tgt := 102) hx hb dz_M_close_70 (by decide) (fun c_19 => ?_) (fun c_19 => ?_)
            · refine lv_iload hx hb dz_M_close_102 (lv_at hl 1 rfl) ?_
              refine lv_if_eq (tgt := 119) hx hb dz_M_close_104 (by decide) (fun c_20 => ?_) (fun c_20 => ?_)
              · refine lv_aload_n hx hb dz_M_close_119 rfl (lv_at hl 2 rfl) ?_
                refine va_get (D := (dC, dI)) (ci := 3) (v := .ref a.2.1) (C := RzM) (T := TzM) (N := 18) hx hb hz inzM hown hK hP 0 rfl rfl 2 (by decide) (hz _ zi_238) (fun _ h9 => h9) rfl dz_M_close_120 ?_
                refine lv_iload_n hx hb dz_M_close_123 rfl (lv_at hl 3 rfl) ?_
                refine lv_iconst (v := 0) hx hb dz_M_close_124 (by decide) ?_
                have hin_21 : vp_in p1 61 := zm_isBox_in hok0 c_2
                refine va_iast hx hb hK hP hD hS 2 0 rfl rfl hin_21 dz_M_close_125 (fun H locs hP hD hS => ?_)
                obtain ⟨S_22, eS_22⟩ : ∃ z, z = zm_sdr S_6 (upd (zm_dr S_6) p1.toNatClampNeg 0) := ⟨_, rfl⟩
                have hP : va_P (dC, dI) vwCl (zm_W ci cj cz h0 a S_22) H := by rw [eS_22]; exact hP
                have hD : va_D A (zm_W ci cj cz h0 a S_22) := by rw [eS_22]; exact hD
                have hok : zm_ok S_22 := by rw [eS_22]; exact hok
                refine lv_iload hx hb dz_M_close_126 (lv_at hl 1 rfl) ?_
                refine lv_if_ne (tgt := 133) hx hb dz_M_close_128 (by decide) (fun c_23 => ?_) (fun c_23 => ?_)
                · exact absurd (by decide) c_23
                · refine lv_iconst (v := -1) hx hb dz_M_close_131 (by decide) ?_
                  have hE_24 : zm_close M p1 p2 = ((-1), S_22) := by subst eS_6 eS_22; simp only [zm_close, if_neg c_2, if_pos c_4, if_pos c_8, if_neg c_10, if_pos c_18]
                  exact W.iret (v := (-1)) hx hb hr (fun t ht hW => ⟨⟨_, (), rfl, by show (-1) = (zm_close M p1 p2).1; rw [hE_24], by show va_P (dC, dI) vwCl (zm_W ci cj cz h0 a ((zm_close M p1 p2).2)) t.heap; rw [ht, hE_24]; exact hP, by show va_D A (zm_W ci cj cz h0 a ((zm_close M p1 p2).2)); rw [hE_24]; exact hD⟩, hS.F ht⟩) hS.2.2 dz_M_close_132
              · exact absurd (by decide) c_20
            · exact absurd (by decide) c_19
          · refine lv_iconst (v := 1) hx hb dz_M_close_58 (by decide) ?_
            refine lv_goto (tgt := 63) hx hb dz_M_close_59 (by decide) ?_
            refine lv_istore (lv' := [(4, .int 1), (0, .ref h0), (1, .int p1), (2, .long p2)]) hx hb dz_M_close_63 hl (by decide) rfl (fun ls hl => ?_)
            refine lv_iconst (v := nI 0) hx hb dz_M_close_65 (by decide) ?_
            refine lv_istore (lv' := [(5, .int (nI 0)), (4, .int 1), (0, .ref h0), (1, .int p1), (2, .long p2)]) hx hb dz_M_close_66 hl (by decide) rfl (fun ls hl => ?_)
            have hokS := hok
            have rest : ∀ (ls : Array Slot), lv_has ls 7 [(5, .int (nI (zm_at S_6 (zm_tn S_6) 0))), (4, .int 1), (0, .ref h0), (1, .int p1), (2, .long p2)] → W p l e (headSpec wz_M_close (zw_room 2 0 0)).room s m ([.ref h0, .int p1, .long p2] : List Value).toArray below meth c H locs 0 0 (MQ below (va_Qi (fun (r : Int32) (_ : Unit) => r = (zm_close M p1 p2).1) (fun (_ : Unit) (t : State) => va_P (dC, dI) vwCl (zm_W ci cj cz h0 a ((zm_close M p1 p2).2)) t.heap ∧ va_D A (zm_W ci cj cz h0 a ((zm_close M p1 p2).2))) A) ([.ref h0, .int p1, .long p2] : List Value).toArray s 0 0 A) (F0 m 102 ls []) := by
              intro ls hl
              refine lv_iload hx hb dz_M_close_102 (lv_at hl 1 rfl) ?_
              refine lv_if_eq (tgt := 119) hx hb dz_M_close_104 (by decide) (fun c_25 => ?_) (fun c_25 => ?_)
              · exact absurd c_25 (by decide)
              · refine lv_iload hx hb dz_M_close_107 (lv_at hl 0 rfl) ?_
                refine lv_aload_n hx hb dz_M_close_109 rfl (lv_at hl 2 rfl) ?_
                refine va_get (D := (dC, dI)) (ci := 3) (v := .int (nI (zm_tn S_6))) (C := RzM) (T := TzM) (N := 18) hx hb hz inzM hown hK hP 0 rfl rfl 14 (by decide) (hz _ zi_250) (fun _ h9 => h9) rfl dz_M_close_110 ?_
                refine lv_icmp_ne (tgt := 119) hx hb dz_M_close_113 (by decide) (fun c_26 => ?_) (fun c_26 => ?_)
                · have hXl : zm_at S_6 (zm_tn S_6) 0 < zm_tn S_6 := zm_at_lt hok c_26
                  refine lv_aload_n hx hb dz_M_close_119 rfl (lv_at hl 2 rfl) ?_
                  refine va_get (D := (dC, dI)) (ci := 3) (v := .ref a.2.1) (C := RzM) (T := TzM) (N := 18) hx hb hz inzM hown hK hP 0 rfl rfl 2 (by decide) (hz _ zi_238) (fun _ h9 => h9) rfl dz_M_close_120 ?_
                  refine lv_iload_n hx hb dz_M_close_123 rfl (lv_at hl 3 rfl) ?_
                  refine lv_iconst (v := 0) hx hb dz_M_close_124 (by decide) ?_
                  have hin_27 : vp_in p1 61 := zm_isBox_in hok0 c_2
                  refine va_iast hx hb hK hP hD hS 2 0 rfl rfl hin_27 dz_M_close_125 (fun H locs hP hD hS => ?_)
                  obtain ⟨S_28, eS_28⟩ : ∃ z, z = zm_sdr S_6 (upd (zm_dr S_6) p1.toNatClampNeg 0) := ⟨_, rfl⟩
                  have hP : va_P (dC, dI) vwCl (zm_W ci cj cz h0 a S_28) H := by rw [eS_28]; exact hP
                  have hD : va_D A (zm_W ci cj cz h0 a S_28) := by rw [eS_28]; exact hD
                  have hok : zm_ok S_28 := by rw [eS_28]; exact hok
                  have hXl : zm_at S_6 (zm_tn S_6) 0 < zm_tn S_28 := by rw [eS_28]; exact hXl
                  refine lv_iload hx hb dz_M_close_126 (lv_at hl 1 rfl) ?_
                  refine lv_if_ne (tgt := 133) hx hb dz_M_close_128 (by decide) (fun c_29 => ?_) (fun c_29 => ?_)
                  · refine lv_aload_n hx hb dz_M_close_133 rfl (lv_at hl 2 rfl) ?_
                    refine va_get (D := (dC, dI)) (ci := 3) (v := .ref a.2.2.2.2.2.1) (C := RzM) (T := TzM) (N := 18) hx hb hz inzM hown hK hP 0 rfl rfl 6 (by decide) (hz _ zi_242) (fun _ h9 => h9) rfl dz_M_close_134 ?_
                    refine lv_iload_n hx hb dz_M_close_137 rfl (lv_at hl 3 rfl) ?_
                    refine lv_aload_n hx hb dz_M_close_138 rfl (lv_at hl 2 rfl) ?_
                    refine va_get (D := (dC, dI)) (ci := 3) (v := .ref a.2.2.2.2.2.2.2.2.2.1) (C := RzM) (T := TzM) (N := 18) hx hb hz inzM hown hK hP 0 rfl rfl 15 (by decide) (hz _ zi_251) (fun _ h9 => h9) rfl dz_M_close_139 ?_
                    refine lv_iload hx hb dz_M_close_142 (lv_at hl 0 rfl) ?_
                    have hin_30 : vp_in (nI (zm_at S_6 (zm_tn S_6) 0)) 200 := vp_in_nI (by have := hok.2.1; omega) (by decide)
                    refine va_iald hx hb hK hP 10 0 rfl rfl hin_30 dz_M_close_144 ?_
                    refine W.eq (g2 := F0 m 145 ls [.int (zm_tp S_28 (zm_at S_6 (zm_tn S_6) 0)), .int p1, .ref a.2.2.2.2.2.1]) (congrArg (fun z => F0 m 145 ls (.int ((zm_tp S_28) z) :: [.int p1, .ref a.2.2.2.2.2.1])) (nI_clamp (by have := hok.1; have := hok.2.1; have := hok.2.2; omega))) ?_
                    have hin_31 : vp_in p1 61 := zm_isBox_in hok0 c_2
                    refine va_iast hx hb hK hP hD hS 6 0 rfl rfl hin_31 dz_M_close_145 (fun H locs hP hD hS => ?_)
                    obtain ⟨S_32, eS_32⟩ : ∃ z, z = zm_sco S_28 (upd (zm_co S_28) p1.toNatClampNeg (zm_tp S_28 (zm_at S_6 (zm_tn S_6) 0))) := ⟨_, rfl⟩
                    have hP : va_P (dC, dI) vwCl (zm_W ci cj cz h0 a S_32) H := by rw [eS_32]; exact hP
                    have hD : va_D A (zm_W ci cj cz h0 a S_32) := by rw [eS_32]; exact hD
                    have hok : zm_ok S_32 := by rw [eS_32]; exact hok
                    have hXl : zm_at S_6 (zm_tn S_6) 0 < zm_tn S_32 := by rw [eS_32]; exact hXl
                    refine lv_aload_n hx hb dz_M_close_146 rfl (lv_at hl 2 rfl) ?_
                    refine va_get (D := (dC, dI)) (ci := 3) (v := .ref a.2.2.2.2.2.2.1) (C := RzM) (T := TzM) (N := 18) hx hb hz inzM hown hK hP 0 rfl rfl 7 (by decide) (hz _ zi_243) (fun _ h9 => h9) rfl dz_M_close_147 ?_
                    refine lv_iload_n hx hb dz_M_close_150 rfl (lv_at hl 3 rfl) ?_
                    refine lv_lload_n hx hb dz_M_close_151 rfl (lv_at hl 4 rfl) ?_
                    have hin_33 : vp_in p1 61 := zm_isBox_in hok0 c_2
                    refine va_last hx hb hK hP hD hS 7 1 rfl rfl hin_33 dz_M_close_152 (fun H locs hP hD hS => ?_)
                    obtain ⟨S_34, eS_34⟩ : ∃ z, z = zm_sli S_32 (vp_updL (zm_li S_32) p1.toNatClampNeg p2) := ⟨_, rfl⟩
                    have hP : va_P (dC, dI) vwCl (zm_W ci cj cz h0 a S_34) H := by rw [eS_34]; exact hP
                    have hD : va_D A (zm_W ci cj cz h0 a S_34) := by rw [eS_34]; exact hD
                    have hok : zm_ok S_34 := by rw [eS_34]; exact hok
                    have hXl : zm_at S_6 (zm_tn S_6) 0 < zm_tn S_34 := by rw [eS_34]; exact hXl
                    refine lv_aload_n hx hb dz_M_close_153 rfl (lv_at hl 2 rfl) ?_
                    refine va_get (D := (dC, dI)) (ci := 3) (v := .ref a.2.2.2.2.2.2.2.1) (C := RzM) (T := TzM) (N := 18) hx hb hz inzM hown hK hP 0 rfl rfl 8 (by decide) (hz _ zi_244) (fun _ h9 => h9) rfl dz_M_close_154 ?_
                    refine lv_iload_n hx hb dz_M_close_157 rfl (lv_at hl 3 rfl) ?_
                    refine lv_iconst (v := 0) hx hb dz_M_close_158 (by decide) ?_
                    have hin_35 : vp_in p1 61 := zm_isBox_in hok0 c_2
                    refine va_zast hx hb hK hP hD hS 8 2 rfl rfl hin_35 dz_M_close_159 (fun H locs hP hD hS => ?_)
                    rw [zm_n0] at hP hD
                    obtain ⟨S_36, eS_36⟩ : ∃ z, z = zm_sla S_34 (upd (zm_la S_34) p1.toNatClampNeg 0) := ⟨_, rfl⟩
                    have hP : va_P (dC, dI) vwCl (zm_W ci cj cz h0 a S_36) H := by rw [eS_36]; exact hP
                    have hD : va_D A (zm_W ci cj cz h0 a S_36) := by rw [eS_36]; exact hD
                    have hok : zm_ok S_36 := by rw [eS_36]; exact hok
                    have hXl : zm_at S_6 (zm_tn S_6) 0 < zm_tn S_36 := by rw [eS_36]; exact hXl
                    refine lv_aload_n hx hb dz_M_close_160 rfl (lv_at hl 2 rfl) ?_
                    refine lv_aload_n hx hb dz_M_close_161 rfl (lv_at hl 2 rfl) ?_
                    refine va_get (D := (dC, dI)) (ci := 3) (v := .int (nI (zm_tn S_36))) (C := RzM) (T := TzM) (N := 18) hx hb hz inzM hown hK hP 0 rfl rfl 14 (by decide) (hz _ zi_250) (fun _ h9 => h9) rfl dz_M_close_162 ?_
                    refine lv_iload hx hb dz_M_close_165 (lv_at hl 0 rfl) ?_
                    refine lv_isub hx hb dz_M_close_167 ?_
                    refine W.eq (g2 := F0 m 168 ls [.int (nI (zm_tn S_36 - zm_at S_6 (zm_tn S_6) 0)), .ref h0]) (congrArg (fun z => F0 m 168 ls (.int z :: [.ref h0])) (pk_sub (Nat.le_of_lt hXl))) ?_
                    refine lv_iconst (v := 1) hx hb dz_M_close_168 (by decide) ?_
                    refine lv_isub hx hb dz_M_close_169 ?_
                    refine W.eq (g2 := F0 m 170 ls [.int (nI (zm_tn S_36 - zm_at S_6 (zm_tn S_6) 0 - 1)), .ref h0]) (congrArg (fun z => F0 m 170 ls (.int z :: [.ref h0])) (pk_sub (b := 1) (by omega))) ?_
                    have hne : zm_tn S_36 - zm_at S_6 (zm_tn S_6) 0 - 1 + zm_at S_6 (zm_tn S_6) 0 + 1 = zm_tn S_36 := by omega
                    have h200 : zm_tn S_36 ≤ 200 := hok.2.1
                    refine va_put (D := (dC, dI)) (ci := 3) (v := .int (nI (zm_tn S_36 - zm_at S_6 (zm_tn S_6) 0 - 1))) (ty := .int) (C := RzM) (T := TzM) (N := 18) hx hb hz inzM tyzM tyzM_ok nmzM hown hK hP hD hS 0 rfl rfl 14 (by decide) (hz _ zi_250) (fun _ h9 => h9) rfl (by decide +kernel) rfl rfl (Nat.le_of_ble_eq_true rfl) dz_M_close_170 (fun H locs hP hD hS => ?_)
                    obtain ⟨S_37, eS_37⟩ : ∃ z, z = zm_stn S_36 (zm_tn S_36 - zm_at S_6 (zm_tn S_6) 0 - 1) := ⟨_, rfl⟩
                    have hP : va_P (dC, dI) vwCl (zm_W ci cj cz h0 a S_37) H := by rw [eS_37]; exact hP
                    have hD : va_D A (zm_W ci cj cz h0 a S_37) := by rw [eS_37]; exact hD
                    refine lv_iconst (v := nI 0) hx hb dz_M_close_173 (by decide) ?_
                    refine lv_istore (lv' := [(6, .int (nI 0)), (5, .int (nI (zm_at S_6 (zm_tn S_6) 0))), (4, .int 1), (0, .ref h0), (1, .int p1), (2, .long p2)]) hx hb dz_M_close_174 hl (by decide) rfl (fun ls hl => ?_)
                    have hne : zm_tn S_37 + (zm_at S_6 (zm_tn S_6) 0) + 1 ≤ 200 := by rw [eS_37]; show zm_tn S_36 - (zm_at S_6 (zm_tn S_6) 0) - 1 + (zm_at S_6 (zm_tn S_6) 0) + 1 ≤ 200; omega
                    have loop2 : ∀ (k j : Nat) (f : Nat → Int32) (S_38 : zm_S) (H : Heap) (locs : List Loc) (ls : Array Slot), S_38 = zm_stp S_37 f → j + k = zm_tn S_37 → zm_sh (zm_at S_6 (zm_tn S_6) 0) (zm_tn S_37) 0 (zm_tp S_37) = zm_sh (zm_at S_6 (zm_tn S_6) 0) k j f → va_P (dC, dI) vwCl (zm_W ci cj cz h0 a S_38) H → va_D A (zm_W ci cj cz h0 a S_38) → va_S A s.heap H locs → lv_has ls 7 [(6, .int (nI j)), (5, .int (nI (zm_at S_6 (zm_tn S_6) 0))), (0, .ref h0), (1, .int p1), (2, .long p2)] → W p l e (headSpec wz_M_close (zw_room 2 0 0)).room s m ([.ref h0, .int p1, .long p2] : List Value).toArray below meth c H locs 0 0 (MQ below (va_Qi (fun (r : Int32) (_ : Unit) => r = (zm_close M p1 p2).1) (fun (_ : Unit) (t : State) => va_P (dC, dI) vwCl (zm_W ci cj cz h0 a ((zm_close M p1 p2).2)) t.heap ∧ va_D A (zm_W ci cj cz h0 a ((zm_close M p1 p2).2))) A) ([.ref h0, .int p1, .long p2] : List Value).toArray s 0 0 A) (F0 m 176 ls []) := by
                      intro k
                      induction k with
                      | zero =>
                        intro j f S_38 H locs ls eS_38 hjk hinv hP hD hS hl
                        have hn2 : zm_tn S_38 = zm_tn S_37 := by rw [eS_38]; rfl
                        have hinv : zm_sh (zm_at S_6 (zm_tn S_6) 0) (zm_tn S_37) 0 (zm_tp S_37) = f := hinv
                        subst hinv
                        refine lv_iload hx hb dz_M_close_176 (lv_at hl 0 rfl) ?_
                        refine lv_aload_n hx hb dz_M_close_178 rfl (lv_at hl 2 rfl) ?_
                        refine va_get (D := (dC, dI)) (ci := 3) (v := .int (nI (zm_tn S_38))) (C := RzM) (T := TzM) (N := 18) hx hb hz inzM hown hK hP 0 rfl rfl 14 (by decide) (hz _ zi_250) (fun _ h9 => h9) rfl dz_M_close_179 ?_
                        refine lv_icmp_ge (tgt := 210) hx hb dz_M_close_182 (by decide) (fun c_39 => ?_) (fun c_39 => ?_)
                        · refine lv_aload_n hx hb dz_M_close_210 rfl (lv_at hl 2 rfl) ?_
                          refine va_get (D := (dC, dI)) (ci := 3) (v := .ref a.2.2.2.2.2.1) (C := RzM) (T := TzM) (N := 18) hx hb hz inzM hown hK hP 0 rfl rfl 6 (by decide) (hz _ zi_242) (fun _ h9 => h9) rfl dz_M_close_211 ?_
                          refine lv_iload_n hx hb dz_M_close_214 rfl (lv_at hl 3 rfl) ?_
                          have hin_40 : vp_in p1 61 := zm_isBox_in hok0 c_2
                          refine va_iald hx hb hK hP 6 0 rfl rfl hin_40 dz_M_close_215 ?_
                          have hE_41 : zm_close M p1 p2 = (zm_co S_38 p1.toNatClampNeg, S_38) := by subst eS_6 eS_28 eS_32 eS_34 eS_36 eS_37 eS_38; simp only [zm_close, if_neg c_2, if_pos c_4, if_pos c_8, if_neg c_10, if_neg c_18, if_neg c_26]
                          exact W.iret (v := zm_co S_38 p1.toNatClampNeg) hx hb hr (fun t ht hW => ⟨⟨_, (), rfl, by show zm_co S_38 p1.toNatClampNeg = (zm_close M p1 p2).1; rw [hE_41], by show va_P (dC, dI) vwCl (zm_W ci cj cz h0 a ((zm_close M p1 p2).2)) t.heap; rw [ht, hE_41]; exact hP, by show va_D A (zm_W ci cj cz h0 a ((zm_close M p1 p2).2)); rw [hE_41]; exact hD⟩, hS.F ht⟩) hS.2.2 dz_M_close_216
                        · exact absurd (nI_le (by omega) (by omega)) c_39
                      | succ k ih =>
                        intro j f S_38 H locs ls eS_38 hjk hinv hP hD hS hl
                        have hn2 : zm_tn S_38 = zm_tn S_37 := by rw [eS_38]; rfl
                        have hj : j < zm_tn S_37 := by omega
                        refine lv_iload hx hb dz_M_close_176 (lv_at hl 0 rfl) ?_
                        refine lv_aload_n hx hb dz_M_close_178 rfl (lv_at hl 2 rfl) ?_
                        refine va_get (D := (dC, dI)) (ci := 3) (v := .int (nI (zm_tn S_38))) (C := RzM) (T := TzM) (N := 18) hx hb hz inzM hown hK hP 0 rfl rfl 14 (by decide) (hz _ zi_250) (fun _ h9 => h9) rfl dz_M_close_179 ?_
                        refine lv_icmp_ge (tgt := 210) hx hb dz_M_close_182 (by decide) (fun c_42 => ?_) (fun c_42 => ?_)
                        · exact absurd c_42 (nI_ge (by omega) (by omega))
                        · refine lv_aload_n hx hb dz_M_close_185 rfl (lv_at hl 2 rfl) ?_
                          refine va_get (D := (dC, dI)) (ci := 3) (v := .ref a.2.2.2.2.2.2.2.2.2.1) (C := RzM) (T := TzM) (N := 18) hx hb hz inzM hown hK hP 0 rfl rfl 15 (by decide) (hz _ zi_251) (fun _ h9 => h9) rfl dz_M_close_186 ?_
                          refine lv_iload hx hb dz_M_close_189 (lv_at hl 0 rfl) ?_
                          refine lv_aload_n hx hb dz_M_close_191 rfl (lv_at hl 2 rfl) ?_
                          refine va_get (D := (dC, dI)) (ci := 3) (v := .ref a.2.2.2.2.2.2.2.2.2.1) (C := RzM) (T := TzM) (N := 18) hx hb hz inzM hown hK hP 0 rfl rfl 15 (by decide) (hz _ zi_251) (fun _ h9 => h9) rfl dz_M_close_192 ?_
                          refine lv_iload hx hb dz_M_close_195 (lv_at hl 0 rfl) ?_
                          refine lv_iload hx hb dz_M_close_197 (lv_at hl 1 rfl) ?_
                          refine lv_iadd hx hb dz_M_close_199 ?_
                          refine W.eq (g2 := F0 m 200 ls [.int (nI (j + zm_at S_6 (zm_tn S_6) 0)), .ref a.2.2.2.2.2.2.2.2.2.1, .int (nI j), .ref a.2.2.2.2.2.2.2.2.2.1]) (congrArg (fun z => F0 m 200 ls (.int z :: [.ref a.2.2.2.2.2.2.2.2.2.1, .int (nI j), .ref a.2.2.2.2.2.2.2.2.2.1])) (nI_add _ _)) ?_
                          refine lv_iconst (v := 1) hx hb dz_M_close_200 (by decide) ?_
                          refine lv_iadd hx hb dz_M_close_201 ?_
                          refine W.eq (g2 := F0 m 202 ls [.int (nI (j + zm_at S_6 (zm_tn S_6) 0 + 1)), .ref a.2.2.2.2.2.2.2.2.2.1, .int (nI j), .ref a.2.2.2.2.2.2.2.2.2.1]) (congrArg (fun z => F0 m 202 ls (.int z :: [.ref a.2.2.2.2.2.2.2.2.2.1, .int (nI j), .ref a.2.2.2.2.2.2.2.2.2.1])) (nI_1 _)) ?_
                          have hin_43 : vp_in (nI (j + zm_at S_6 (zm_tn S_6) 0 + 1)) 200 := vp_in_nI (by omega) (by decide)
                          refine va_iald hx hb hK hP 10 0 rfl rfl hin_43 dz_M_close_202 ?_
                          refine W.eq (g2 := F0 m 203 ls [.int (zm_tp S_38 (j + zm_at S_6 (zm_tn S_6) 0 + 1)), .int (nI j), .ref a.2.2.2.2.2.2.2.2.2.1]) (congrArg (fun z => F0 m 203 ls (.int ((zm_tp S_38) z) :: [.int (nI j), .ref a.2.2.2.2.2.2.2.2.2.1])) (nI_clamp (by omega))) ?_
                          have hin_44 : vp_in (nI j) 200 := vp_in_nI (by omega) (by decide)
                          refine va_iast hx hb hK hP hD hS 10 0 rfl rfl hin_44 dz_M_close_203 (fun H locs hP hD hS => ?_)
                          rw [show (nI j).toNatClampNeg = j from nI_clamp (by omega)] at hP hD
                          obtain ⟨S_45, eS_45⟩ : ∃ z, z = zm_stp S_38 (upd (zm_tp S_38) j (zm_tp S_38 (j + zm_at S_6 (zm_tn S_6) 0 + 1))) := ⟨_, rfl⟩
                          have hP : va_P (dC, dI) vwCl (zm_W ci cj cz h0 a S_45) H := by rw [eS_45]; exact hP
                          have hD : va_D A (zm_W ci cj cz h0 a S_45) := by rw [eS_45]; exact hD
                          refine lv_iinc (v := nI (j + 1)) (lv' := [(6, .int (nI (j + 1))), (5, .int (nI (zm_at S_6 (zm_tn S_6) 0))), (0, .ref h0), (1, .int p1), (2, .long p2)]) hx hb dz_M_close_204 hl (k := 0) rfl (nI_1 _) (by decide) rfl (fun ls hl => ?_)
                          refine lv_goto (tgt := 176) hx hb dz_M_close_207 (by decide) ?_
                          exact ih (j + 1) (upd f j (f (j + zm_at S_6 (zm_tn S_6) 0 + 1))) S_45 H locs ls (by rw [eS_45, eS_38]; rfl) (by omega) (by rw [hinv]; rfl) hP hD hS (lv_sub hl [0, 1, 2, 3, 4] rfl)
                    exact loop2 (zm_tn S_37) 0 (zm_tp S_37) S_37 H locs ls rfl (by omega) rfl hP hD hS (lv_sub hl [0, 1, 3, 4, 5] rfl)
                  · exact absurd c_29 (by decide)
                · refine lv_bipush (v := -14) hx hb dz_M_close_116 (by decide) ?_
                  have hE_46 : zm_close M p1 p2 = ((-14), S_6) := by subst eS_6; simp only [zm_close, if_neg c_2, if_pos c_4, if_pos c_8, if_neg c_10, if_neg c_18, if_pos c_26]
                  exact W.iret (v := (-14)) hx hb hr (fun t ht hW => ⟨⟨_, (), rfl, by show (-14) = (zm_close M p1 p2).1; rw [hE_46], by show va_P (dC, dI) vwCl (zm_W ci cj cz h0 a ((zm_close M p1 p2).2)) t.heap; rw [ht, hE_46]; exact hP, by show va_D A (zm_W ci cj cz h0 a ((zm_close M p1 p2).2)); rw [hE_46]; exact hD⟩, hS.F ht⟩) hS.2.2 dz_M_close_118
            have loop : ∀ (k j : Nat) (ls : Array Slot), j + k = zm_tn S_6 → zm_at S_6 (zm_tn S_6) 0 = zm_at S_6 k j → lv_has ls 7 [(5, .int (nI j)), (4, .int 1), (0, .ref h0), (1, .int p1), (2, .long p2)] → W p l e (headSpec wz_M_close (zw_room 2 0 0)).room s m ([.ref h0, .int p1, .long p2] : List Value).toArray below meth c H locs 0 0 (MQ below (va_Qi (fun (r : Int32) (_ : Unit) => r = (zm_close M p1 p2).1) (fun (_ : Unit) (t : State) => va_P (dC, dI) vwCl (zm_W ci cj cz h0 a ((zm_close M p1 p2).2)) t.heap ∧ va_D A (zm_W ci cj cz h0 a ((zm_close M p1 p2).2))) A) ([.ref h0, .int p1, .long p2] : List Value).toArray s 0 0 A) (F0 m 68 ls []) := by
              intro k
              induction k with
              | zero =>
                intro j ls hjk hinv hl
                refine lv_iload hx hb dz_M_close_68 (lv_at hl 1 rfl) ?_
                refine lv_if_eq (tgt := 102) hx hb dz_M_close_70 (by decide) (fun c_47 => ?_) (fun c_47 => ?_)
                · exact absurd c_47 (by decide)
                · refine lv_iload hx hb dz_M_close_73 (lv_at hl 0 rfl) ?_
                  refine lv_aload_n hx hb dz_M_close_75 rfl (lv_at hl 2 rfl) ?_
                  refine va_get (D := (dC, dI)) (ci := 3) (v := .int (nI (zm_tn S_6))) (C := RzM) (T := TzM) (N := 18) hx hb hz inzM hown hK hP 0 rfl rfl 14 (by decide) (hz _ zi_250) (fun _ h9 => h9) rfl dz_M_close_76 ?_
                  refine lv_icmp_ge (tgt := 102) hx hb dz_M_close_79 (by decide) (fun c_48 => ?_) (fun c_48 => ?_)
                  · exact rest ls (by rw [hinv]; exact lv_sub hl [0, 1, 2, 3, 4] rfl)
                  · exact absurd (nI_le (by omega) (by have := hok.2.1; omega)) c_48
              | succ k ih =>
                intro j ls hjk hinv hl
                have hj : j < zm_tn S_6 := by omega
                refine lv_iload hx hb dz_M_close_68 (lv_at hl 1 rfl) ?_
                refine lv_if_eq (tgt := 102) hx hb dz_M_close_70 (by decide) (fun c_49 => ?_) (fun c_49 => ?_)
                · exact absurd c_49 (by decide)
                · refine lv_iload hx hb dz_M_close_73 (lv_at hl 0 rfl) ?_
                  refine lv_aload_n hx hb dz_M_close_75 rfl (lv_at hl 2 rfl) ?_
                  refine va_get (D := (dC, dI)) (ci := 3) (v := .int (nI (zm_tn S_6))) (C := RzM) (T := TzM) (N := 18) hx hb hz inzM hown hK hP 0 rfl rfl 14 (by decide) (hz _ zi_250) (fun _ h9 => h9) rfl dz_M_close_76 ?_
                  refine lv_icmp_ge (tgt := 102) hx hb dz_M_close_79 (by decide) (fun c_50 => ?_) (fun c_50 => ?_)
                  · exact absurd c_50 (nI_ge (by omega) (by have := hok.2.1; omega))
                  · refine lv_aload_n hx hb dz_M_close_82 rfl (lv_at hl 2 rfl) ?_
                    refine lv_aload_n hx hb dz_M_close_83 rfl (lv_at hl 2 rfl) ?_
                    refine va_get (D := (dC, dI)) (ci := 3) (v := .ref a.2.2.2.2.2.2.2.2.2.1) (C := RzM) (T := TzM) (N := 18) hx hb hz inzM hown hK hP 0 rfl rfl 15 (by decide) (hz _ zi_251) (fun _ h9 => h9) rfl dz_M_close_84 ?_
                    refine lv_iload hx hb dz_M_close_87 (lv_at hl 0 rfl) ?_
                    have hin_51 : vp_in (nI j) 200 := vp_in_nI (by have := hok.2.1; omega) (by decide)
                    refine va_iald hx hb hK hP 10 0 rfl rfl hin_51 dz_M_close_89 ?_
                    refine W.eq (g2 := F0 m 90 ls [.int (zm_tp S_6 j), .ref h0]) (congrArg (fun z => F0 m 90 ls (.int ((zm_tp S_6) z) :: [.ref h0])) (nI_clamp (by have := hok.1; have := hok.2.1; have := hok.2.2; omega))) ?_
                    refine vp_callSi (va_Run.run (va_runV (As := [.int (zm_tp S_6 j)]) (rest := []) ⟨hx, hb, hml, hown, hz⟩ (ct_M_isCode l dC dI ci cj cz h0 a S_6 hok (zm_tp S_6 j)) (cwV 1 hz (zw_gV zi_312 zi_313 zi_29 zi_35 zi_314) rfl rfl rfl (by decide +kernel) ⟨Nat.le_of_ble_eq_true rfl, Nat.le_of_ble_eq_true rfl⟩) (zw_preRV zw_ns_ok hP hK hN (ci := 3) rfl (k := 0) rfl) rfl rfl hl.1 rfl (lv_room (Nat.le_of_ble_eq_true rfl)) dz_M_close_90 ⟨Nat.le_of_ble_eq_true rfl, Nat.le_of_ble_eq_true rfl⟩)) (fun r_52 hr_52 => ?_)
                    have hr_52 : r_52 = zm_isCode S_6 (zm_tp S_6 j) := hr_52
                    subst hr_52
                    refine lv_if_eq (tgt := 102) hx hb dz_M_close_93 (by decide) (fun c_53 => ?_) (fun c_53 => ?_)
                    · exact rest ls (by rw [hinv]; simp only [zm_at, if_pos c_53]; exact lv_sub hl [0, 1, 2, 3, 4] rfl)
                    · refine lv_iinc (v := nI (j + 1)) (lv' := [(5, .int (nI (j + 1))), (4, .int 1), (0, .ref h0), (1, .int p1), (2, .long p2)]) hx hb dz_M_close_96 hl (k := 0) rfl (nI_1 _) (by decide) rfl (fun ls hl => ?_)
                      refine lv_goto (tgt := 68) hx hb dz_M_close_99 (by decide) ?_
                      exact ih (j + 1) ls (by omega) (by rw [hinv]; simp only [zm_at, if_neg c_53]) (lv_sub hl [0, 1, 2, 3, 4] rfl)
            exact loop (zm_tn S_6) 0 ls (by omega) rfl (lv_sub hl [0, 1, 2, 3, 4] rfl)
      · refine lv_bipush (v := -13) hx hb dz_M_close_37 (by decide) ?_
        have hE_54 : zm_close M p1 p2 = ((-13), S_6) := by subst eS_6; simp only [zm_close, if_neg c_2, if_pos c_4, if_neg c_8]
        exact W.iret (v := (-13)) hx hb hr (fun t ht hW => ⟨⟨_, (), rfl, by show (-13) = (zm_close M p1 p2).1; rw [hE_54], by show va_P (dC, dI) vwCl (zm_W ci cj cz h0 a ((zm_close M p1 p2).2)) t.heap; rw [ht, hE_54]; exact hP, by show va_D A (zm_W ci cj cz h0 a ((zm_close M p1 p2).2)); rw [hE_54]; exact hD⟩, hS.F ht⟩) hS.2.2 dz_M_close_39
    · refine lv_bipush (v := -12) hx hb dz_M_close_19 (by decide) ?_
      have hE_55 : zm_close M p1 p2 = ((-12), M) := by simp only [zm_close, if_neg c_2, if_neg c_4]
      exact W.iret (v := (-12)) hx hb hr (fun t ht hW => ⟨⟨_, (), rfl, by show (-12) = (zm_close M p1 p2).1; rw [hE_55], by show va_P (dC, dI) vwCl (zm_W ci cj cz h0 a ((zm_close M p1 p2).2)) t.heap; rw [ht, hE_55]; exact hP, by show va_D A (zm_W ci cj cz h0 a ((zm_close M p1 p2).2)); rw [hE_55]; exact hD⟩, hS.F ht⟩) hS.2.2 dz_M_close_21
  · refine lv_bipush (v := -11) hx hb dz_M_close_8 (by decide) ?_
    have hE_56 : zm_close M p1 p2 = ((-11), M) := by simp only [zm_close, if_pos c_2]
    exact W.iret (v := (-11)) hx hb hr (fun t ht hW => ⟨⟨_, (), rfl, by show (-11) = (zm_close M p1 p2).1; rw [hE_56], by show va_P (dC, dI) vwCl (zm_W ci cj cz h0 a ((zm_close M p1 p2).2)) t.heap; rw [ht, hE_56]; exact hP, by show va_D A (zm_W ci cj cz h0 a ((zm_close M p1 p2).2)); rw [hE_56]; exact hD⟩, hS.F ht⟩) hS.2.2 dz_M_close_10

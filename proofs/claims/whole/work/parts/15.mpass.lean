set_option maxHeartbeats 4000000 in
set_option maxRecDepth 100000 in
theorem ct_M_pass (l : Launch) (dC : Nat → ClassId) (dI : Nat → Nat → Nat) (ci cj cz : ClassId) (h0 : Nat) (a : zm_Ad) (M : zm_S) (hok : zm_ok M) (sz : Nat) (p1 : Int64) : Met l yz_M_pass wz_M_pass (zw_room 0 0 0) (zw_U zw_ns (dC, dI) vwCl (zm_tys ci cj cz) [.ref h0, .long p1] (zm_W ci cj cz h0 a M) sz) (va_Qv (fun _ : Unit => True) (fun (_ : Unit) (t : State) => va_P (dC, dI) vwCl (zm_W ci cj cz h0 a (zm_pass M p1)) t.heap ∧ va_D (va_A (zm_W ci cj cz h0 a M) sz) (zm_W ci cj cz h0 a (zm_pass M p1))) (va_A (zm_W ci cj cz h0 a M) sz)) 0 0 (va_A (zm_W ci cj cz h0 a M) sz) := by
  refine Met.ofW (cc := cz_M_pass) (maxL := 5) (ret := none) (by decide) rfl ?_
  intro p e s m args below meth c s₁ B hml hv
  obtain ⟨rfl, hsz, hP, hK, hD0, hN⟩ := hv
  have hx := B.exec
  have hb := B.bytes
  have hr := B.returns
  have hts := atoms_spec (ws := wz_M_pass) B.pre
  have hz : ∀ w ∈ zw_T, w.before ([.ref h0, .long p1] : List Value).toArray s = true := fun w h => hts w (List.mem_cons_of_mem _ h)
  have hown : s.vm.findClass RzM = some m.cls := findClass_of_methodNamed B.named
  have hlocks := B.notSynchronized
  have hok0 := hok
  subst hsz
  have hD := hD0.self (sz := s.heap.size)
  generalize hAe : va_A (zm_W ci cj cz h0 a M) s.heap.size = A at hD ⊢
  have hA : ∀ q : Nat, s.heap.size ≤ q → A q := fun q h => by rw [← hAe]; exact Or.inr h
  have hS : va_S A s.heap s.heap [] := va_S.rf
  have hl := lv_entry ([.ref h0, .long p1]) (n := 5) (Nat.le_of_ble_eq_true rfl)
  rw [lg_entry_eq]
  generalize (lg_sl ([.ref h0, .long p1]) ++ List.replicate (5 - (lg_sl ([.ref h0, .long p1])).length) Slot.unset).toArray = ls at hl ⊢
  have hl : lv_has ls 5 [(0, .ref h0), (1, .long p1)] := hl
  refine lv_aload_n hx hb dz_M_pass_0 rfl (lv_at hl 0 rfl) ?_
  refine lv_lload_n hx hb dz_M_pass_1 rfl (lv_at hl 1 rfl) ?_
  refine va_put (D := (dC, dI)) (ci := 3) (v := .long p1) (ty := .long) (C := RzM) (T := TzM) (N := 18) hx hb hz inzM tyzM tyzM_ok nmzM hown hK hP hD hS 0 rfl rfl 10 (by decide) (hz _ zi_246) (fun _ h9 => h9) rfl (by decide +kernel) rfl rfl (Nat.le_of_ble_eq_true rfl) dz_M_pass_2 (fun H locs hP hD hS => ?_)
  obtain ⟨S_1, eS_1⟩ : ∃ z, z = zm_sT M p1 := ⟨_, rfl⟩
  have hP : va_P (dC, dI) vwCl (zm_W ci cj cz h0 a S_1) H := by rw [eS_1]; exact hP
  have hD : va_D A (zm_W ci cj cz h0 a S_1) := by rw [eS_1]; exact hD
  have hok : zm_ok S_1 := by rw [eS_1]; exact hok
  refine lv_iconst (v := nI (0 + 1)) hx hb dz_M_pass_5 (by decide) ?_
  refine lv_istore_n (lv' := [(3, .int (nI (0 + 1))), (0, .ref h0), (1, .long p1)]) hx hb dz_M_pass_6 rfl hl (by decide) rfl (fun ls hl => ?_)
  have loop : ∀ (k j : Nat) (S1 : zm_S) (H : Heap) (locs : List Loc) (ls : Array Slot), j + k = zm_nb S1 → zm_ok S1 → zm_pass M p1 = zm_lp p1 k j S1 → va_P (dC, dI) vwCl (zm_W ci cj cz h0 a S1) H → va_D A (zm_W ci cj cz h0 a S1) → va_S A s.heap H locs → lv_has ls 5 [(3, .int (nI (j + 1))), (0, .ref h0), (1, .long p1)] → W p l e (headSpec wz_M_pass (zw_room 0 0 0)).room s m ([.ref h0, .long p1] : List Value).toArray below meth c H locs 0 0 (MQ below (va_Qv (fun _ : Unit => True) (fun (_ : Unit) (t : State) => va_P (dC, dI) vwCl (zm_W ci cj cz h0 a (zm_pass M p1)) t.heap ∧ va_D A (zm_W ci cj cz h0 a (zm_pass M p1))) A) ([.ref h0, .long p1] : List Value).toArray s 0 0 A) (F0 m 7 ls []) := by
    intro k
    induction k with
    | zero =>
      intro j S1 H locs ls hjk hok hinv hP hD hS hl
      refine lv_iload_n hx hb dz_M_pass_7 rfl (lv_at hl 0 rfl) ?_
      refine lv_aload_n hx hb dz_M_pass_8 rfl (lv_at hl 1 rfl) ?_
      refine va_get (D := (dC, dI)) (ci := 3) (v := .int (nI (zm_nb S1))) (C := RzM) (T := TzM) (N := 18) hx hb hz inzM hown hK hP 0 rfl rfl 0 (by decide) (hz _ zi_236) (fun _ h9 => h9) rfl dz_M_pass_9 ?_
      refine lv_icmp_gt (tgt := 202) hx hb dz_M_pass_12 (by decide) (fun c_2 => ?_) (fun c_2 => ?_)
      · have hE_3 : zm_pass M p1 = S1 := by rw [hinv]; rfl
        exact W.vret hx hb hr (fun t ht hW => ⟨⟨(), rfl, trivial, by show va_P (dC, dI) vwCl (zm_W ci cj cz h0 a (zm_pass M p1)) t.heap; rw [ht, hE_3]; exact hP, by show va_D A (zm_W ci cj cz h0 a (zm_pass M p1)); rw [hE_3]; exact hD⟩, hS.F ht⟩) hS.2.2 dz_M_pass_202
      · exact absurd (nI_lt (by omega) (by have := hok.1; omega)) c_2
    | succ k ih =>
      intro j S1 H locs ls hjk hok hinv hP hD hS hl
      have hj : j < zm_nb S1 := by omega
      have seg3 : ∀ (S2 : zm_S) (H : Heap) (locs : List Loc) (ls : Array Slot), j + (k + 1) = zm_nb S2 → zm_ok S2 → zm_pass M p1 = zm_lp p1 k (j + 1) (zm_p3 p1 j S2) → va_P (dC, dI) vwCl (zm_W ci cj cz h0 a S2) H → va_D A (zm_W ci cj cz h0 a S2) → va_S A s.heap H locs → lv_has ls 5 [(3, .int (nI (j + 1))), (0, .ref h0), (1, .long p1)] → W p l e (headSpec wz_M_pass (zw_room 0 0 0)).room s m ([.ref h0, .long p1] : List Value).toArray below meth c H locs 0 0 (MQ below (va_Qv (fun _ : Unit => True) (fun (_ : Unit) (t : State) => va_P (dC, dI) vwCl (zm_W ci cj cz h0 a (zm_pass M p1)) t.heap ∧ va_D A (zm_W ci cj cz h0 a (zm_pass M p1))) A) ([.ref h0, .long p1] : List Value).toArray s 0 0 A) (F0 m 146 ls []) := by
        intro S2 H locs ls hjk hok hinv hP hD hS hl
        have hj : j < zm_nb S2 := by omega
        refine lv_aload_n hx hb dz_M_pass_146 rfl (lv_at hl 1 rfl) ?_
        refine va_get (D := (dC, dI)) (ci := 3) (v := .ref a.2.2.2.2.2.1) (C := RzM) (T := TzM) (N := 18) hx hb hz inzM hown hK hP 0 rfl rfl 6 (by decide) (hz _ zi_242) (fun _ h9 => h9) rfl dz_M_pass_147 ?_
        refine lv_iload_n hx hb dz_M_pass_150 rfl (lv_at hl 0 rfl) ?_
        have hin_4 : vp_in (nI (j + 1)) 61 := vp_in_nI (by have := hok.1; omega) (by decide)
        refine va_iald hx hb hK hP 6 0 rfl rfl hin_4 dz_M_pass_151 ?_
        refine W.eq (g2 := F0 m 152 ls [.int (zm_co S2 (j + 1))]) (congrArg (fun z => F0 m 152 ls (.int ((zm_co S2) z) :: [])) (nI_clamp (by have := hok.1; have := hok.2.1; have := hok.2.2; omega))) ?_
        refine lv_if_lt (tgt := 196) hx hb dz_M_pass_152 (by decide) (fun c_5 => ?_) (fun c_5 => ?_)
        · refine lv_iinc (v := nI (j + 1 + 1)) (lv' := [(3, .int (nI (j + 1 + 1))), (0, .ref h0), (1, .long p1)]) hx hb dz_M_pass_196 hl (k := 0) rfl (nI_1 _) (by decide) rfl (fun ls hl => ?_)
          refine lv_goto (tgt := 7) hx hb dz_M_pass_199 (by decide) ?_
          exact ih (j + 1) S2 H locs ls (by omega) hok (by rw [hinv]; simp only [zm_p3, if_pos c_5]) hP hD hS (lv_sub hl [0, 1, 2] rfl)
        · refine lv_aload_n hx hb dz_M_pass_155 rfl (lv_at hl 1 rfl) ?_
          refine va_get (D := (dC, dI)) (ci := 3) (v := .ref a.2.2.2.2.2.2.2.1) (C := RzM) (T := TzM) (N := 18) hx hb hz inzM hown hK hP 0 rfl rfl 8 (by decide) (hz _ zi_244) (fun _ h9 => h9) rfl dz_M_pass_156 ?_
          refine lv_iload_n hx hb dz_M_pass_159 rfl (lv_at hl 0 rfl) ?_
          have hin_6 : vp_in (nI (j + 1)) 61 := vp_in_nI (by have := hok.1; omega) (by decide)
          refine va_zald hx hb hK hP 8 2 rfl rfl hin_6 dz_M_pass_160 ?_
          refine W.eq (g2 := F0 m 161 ls [.int (zm_la S2 (j + 1))]) (congrArg (fun z => F0 m 161 ls (.int ((zm_la S2) z) :: [])) (nI_clamp (by have := hok.1; have := hok.2.1; have := hok.2.2; omega))) ?_
          refine lv_if_ne (tgt := 196) hx hb dz_M_pass_161 (by decide) (fun c_7 => ?_) (fun c_7 => ?_)
          · refine lv_iinc (v := nI (j + 1 + 1)) (lv' := [(3, .int (nI (j + 1 + 1))), (0, .ref h0), (1, .long p1)]) hx hb dz_M_pass_196 hl (k := 0) rfl (nI_1 _) (by decide) rfl (fun ls hl => ?_)
            refine lv_goto (tgt := 7) hx hb dz_M_pass_199 (by decide) ?_
            exact ih (j + 1) S2 H locs ls (by omega) hok (by rw [hinv]; simp only [zm_p3, if_neg c_5, if_neg c_7]) hP hD hS (lv_sub hl [0, 1, 2] rfl)
          · refine lv_lload_n hx hb dz_M_pass_164 rfl (lv_at hl 2 rfl) ?_
            refine lv_aload_n hx hb dz_M_pass_165 rfl (lv_at hl 1 rfl) ?_
            refine va_get (D := (dC, dI)) (ci := 3) (v := .ref a.2.2.2.2.2.2.1) (C := RzM) (T := TzM) (N := 18) hx hb hz inzM hown hK hP 0 rfl rfl 7 (by decide) (hz _ zi_243) (fun _ h9 => h9) rfl dz_M_pass_166 ?_
            refine lv_iload_n hx hb dz_M_pass_169 rfl (lv_at hl 0 rfl) ?_
            have hin_8 : vp_in (nI (j + 1)) 61 := vp_in_nI (by have := hok.1; omega) (by decide)
            refine va_lald hx hb hK hP 7 1 rfl rfl hin_8 dz_M_pass_170 ?_
            refine W.eq (g2 := F0 m 171 ls [.long (zm_li S2 (j + 1)), .long p1]) (congrArg (fun z => F0 m 171 ls (.long ((zm_li S2) z) :: [.long p1])) (nI_clamp (by have := hok.1; have := hok.2.1; have := hok.2.2; omega))) ?_
            refine lv_lsub hx hb dz_M_pass_171 ?_
            refine lv_ldc2 (v := 604800) hx hb hown (hz _ zi_307) dz_M_pass_172 ?_
            refine W.lcmp hx hb dz_M_pass_175 ?_
            refine lv_if_lt (tgt := 196) hx hb dz_M_pass_176 (by decide) (fun c_9 => ?_) (fun c_9 => ?_)
            · refine lv_iinc (v := nI (j + 1 + 1)) (lv' := [(3, .int (nI (j + 1 + 1))), (0, .ref h0), (1, .long p1)]) hx hb dz_M_pass_196 hl (k := 0) rfl (nI_1 _) (by decide) rfl (fun ls hl => ?_)
              refine lv_goto (tgt := 7) hx hb dz_M_pass_199 (by decide) ?_
              exact ih (j + 1) S2 H locs ls (by omega) hok (by rw [hinv]; simp only [zm_p3, if_neg c_5, if_pos c_7, if_pos c_9]) hP hD hS (lv_sub hl [0, 1, 2] rfl)
            · refine lv_aload_n hx hb dz_M_pass_179 rfl (lv_at hl 1 rfl) ?_
              refine va_get (D := (dC, dI)) (ci := 3) (v := .ref a.2.2.2.2.2.2.2.1) (C := RzM) (T := TzM) (N := 18) hx hb hz inzM hown hK hP 0 rfl rfl 8 (by decide) (hz _ zi_244) (fun _ h9 => h9) rfl dz_M_pass_180 ?_
              refine lv_iload_n hx hb dz_M_pass_183 rfl (lv_at hl 0 rfl) ?_
              refine lv_iconst (v := 1) hx hb dz_M_pass_184 (by decide) ?_
              have hin_10 : vp_in (nI (j + 1)) 61 := vp_in_nI (by have := hok.1; omega) (by decide)
              refine va_zast hx hb hK hP hD hS 8 2 rfl rfl hin_10 dz_M_pass_185 (fun H locs hP hD hS => ?_)
              rw [show (nI (j + 1)).toNatClampNeg = (j + 1) from nI_clamp (by have := hok.1; have := hok.2.1; have := hok.2.2; omega)] at hP hD
              rw [zm_n1] at hP hD
              obtain ⟨S_11, eS_11⟩ : ∃ z, z = zm_sla S2 (upd (zm_la S2) (j + 1) 1) := ⟨_, rfl⟩
              have hP : va_P (dC, dI) vwCl (zm_W ci cj cz h0 a S_11) H := by rw [eS_11]; exact hP
              have hD : va_D A (zm_W ci cj cz h0 a S_11) := by rw [eS_11]; exact hD
              have hok : zm_ok S_11 := by rw [eS_11]; exact hok
              have hj : j < zm_nb S_11 := by rw [eS_11]; exact hj
              have hjk : j + (k + 1) = zm_nb S_11 := by rw [eS_11]; exact hjk
              refine lv_aload_n hx hb dz_M_pass_186 rfl (lv_at hl 1 rfl) ?_
              refine lv_dup hx hb dz_M_pass_187 rfl ?_
              refine va_get (D := (dC, dI)) (ci := 3) (v := .int (zm_A S_11)) (C := RzM) (T := TzM) (N := 18) hx hb hz inzM hown hK hP 0 rfl rfl 11 (by decide) (hz _ zi_247) (fun _ h9 => h9) rfl dz_M_pass_188 ?_
              refine lv_iconst (v := 1) hx hb dz_M_pass_191 (by decide) ?_
              refine lv_iadd hx hb dz_M_pass_192 ?_
              refine va_put (D := (dC, dI)) (ci := 3) (v := .int ((zm_A S_11) + 1)) (ty := .int) (C := RzM) (T := TzM) (N := 18) hx hb hz inzM tyzM tyzM_ok nmzM hown hK hP hD hS 0 rfl rfl 11 (by decide) (hz _ zi_247) (fun _ h9 => h9) rfl (by decide +kernel) rfl rfl (Nat.le_of_ble_eq_true rfl) dz_M_pass_193 (fun H locs hP hD hS => ?_)
              obtain ⟨S_12, eS_12⟩ : ∃ z, z = zm_sA S_11 ((zm_A S_11) + 1) := ⟨_, rfl⟩
              have hP : va_P (dC, dI) vwCl (zm_W ci cj cz h0 a S_12) H := by rw [eS_12]; exact hP
              have hD : va_D A (zm_W ci cj cz h0 a S_12) := by rw [eS_12]; exact hD
              have hok : zm_ok S_12 := by rw [eS_12]; exact hok
              have hj : j < zm_nb S_12 := by rw [eS_12]; exact hj
              have hjk : j + (k + 1) = zm_nb S_12 := by rw [eS_12]; exact hjk
              refine lv_iinc (v := nI (j + 1 + 1)) (lv' := [(3, .int (nI (j + 1 + 1))), (0, .ref h0), (1, .long p1)]) hx hb dz_M_pass_196 hl (k := 0) rfl (nI_1 _) (by decide) rfl (fun ls hl => ?_)
              refine lv_goto (tgt := 7) hx hb dz_M_pass_199 (by decide) ?_
              exact ih (j + 1) S_12 H locs ls (by omega) hok (by subst eS_11 eS_12; rw [hinv]; simp only [zm_p3, if_neg c_5, if_pos c_7, if_neg c_9]) hP hD hS (lv_sub hl [0, 1, 2] rfl)
      have seg2 : ∀ (S2 : zm_S) (H : Heap) (locs : List Loc) (ls : Array Slot), j + (k + 1) = zm_nb S2 → zm_ok S2 → zm_pass M p1 = zm_lp p1 k (j + 1) (zm_p3 p1 j (zm_p2 p1 j S2)) → va_P (dC, dI) vwCl (zm_W ci cj cz h0 a S2) H → va_D A (zm_W ci cj cz h0 a S2) → va_S A s.heap H locs → lv_has ls 5 [(3, .int (nI (j + 1))), (0, .ref h0), (1, .long p1)] → W p l e (headSpec wz_M_pass (zw_room 0 0 0)).room s m ([.ref h0, .long p1] : List Value).toArray below meth c H locs 0 0 (MQ below (va_Qv (fun _ : Unit => True) (fun (_ : Unit) (t : State) => va_P (dC, dI) vwCl (zm_W ci cj cz h0 a (zm_pass M p1)) t.heap ∧ va_D A (zm_W ci cj cz h0 a (zm_pass M p1))) A) ([.ref h0, .long p1] : List Value).toArray s 0 0 A) (F0 m 73 ls []) := by
        intro S2 H locs ls hjk hok hinv hP hD hS hl
        have hj : j < zm_nb S2 := by omega
        refine lv_aload_n hx hb dz_M_pass_73 rfl (lv_at hl 1 rfl) ?_
        refine va_get (D := (dC, dI)) (ci := 3) (v := .ref a.2.1) (C := RzM) (T := TzM) (N := 18) hx hb hz inzM hown hK hP 0 rfl rfl 2 (by decide) (hz _ zi_238) (fun _ h9 => h9) rfl dz_M_pass_74 ?_
        refine lv_iload_n hx hb dz_M_pass_77 rfl (lv_at hl 0 rfl) ?_
        have hin_13 : vp_in (nI (j + 1)) 61 := vp_in_nI (by have := hok.1; omega) (by decide)
        refine va_iald hx hb hK hP 2 0 rfl rfl hin_13 dz_M_pass_78 ?_
        refine W.eq (g2 := F0 m 79 ls [.int (zm_dr S2 (j + 1))]) (congrArg (fun z => F0 m 79 ls (.int ((zm_dr S2) z) :: [])) (nI_clamp (by have := hok.1; have := hok.2.1; have := hok.2.2; omega))) ?_
        refine lv_iconst (v := 1) hx hb dz_M_pass_79 (by decide) ?_
        refine lv_icmp_eq (tgt := 93) hx hb dz_M_pass_80 (by decide) (fun c_14 => ?_) (fun c_14 => ?_)
        · refine lv_iconst (v := 1) hx hb dz_M_pass_93 (by decide) ?_
          refine lv_goto (tgt := 98) hx hb dz_M_pass_94 (by decide) ?_
          refine lv_istore (lv' := [(4, .int 1), (3, .int (nI (j + 1))), (0, .ref h0), (1, .long p1)]) hx hb dz_M_pass_98 hl (by decide) rfl (fun ls hl => ?_)
          refine lv_iload hx hb dz_M_pass_100 (lv_at hl 0 rfl) ?_
          refine lv_if_eq (tgt := 146) hx hb dz_M_pass_102 (by decide) (fun c_15 => ?_) (fun c_15 => ?_)
          · exact absurd c_15 (by decide)
          · refine lv_aload_n hx hb dz_M_pass_105 rfl (lv_at hl 2 rfl) ?_
            refine va_get (D := (dC, dI)) (ci := 3) (v := .ref a.2.2.2.1) (C := RzM) (T := TzM) (N := 18) hx hb hz inzM hown hK hP 0 rfl rfl 4 (by decide) (hz _ zi_240) (fun _ h9 => h9) rfl dz_M_pass_106 ?_
            refine lv_iload_n hx hb dz_M_pass_109 rfl (lv_at hl 1 rfl) ?_
            have hin_16 : vp_in (nI (j + 1)) 61 := vp_in_nI (by have := hok.1; omega) (by decide)
            refine va_zald hx hb hK hP 4 2 rfl rfl hin_16 dz_M_pass_110 ?_
            refine W.eq (g2 := F0 m 111 ls [.int (zm_to S2 (j + 1))]) (congrArg (fun z => F0 m 111 ls (.int ((zm_to S2) z) :: [])) (nI_clamp (by have := hok.1; have := hok.2.1; have := hok.2.2; omega))) ?_
            refine lv_if_ne (tgt := 146) hx hb dz_M_pass_111 (by decide) (fun c_17 => ?_) (fun c_17 => ?_)
            · exact seg3 S2 H locs ls hjk hok (by rw [hinv]; simp only [zm_p2, if_pos c_14, if_neg c_17]) hP hD hS (lv_sub hl [1, 2, 3] rfl)
            · refine lv_lload_n hx hb dz_M_pass_114 rfl (lv_at hl 3 rfl) ?_
              refine lv_aload_n hx hb dz_M_pass_115 rfl (lv_at hl 2 rfl) ?_
              refine va_get (D := (dC, dI)) (ci := 3) (v := .ref a.2.2.1) (C := RzM) (T := TzM) (N := 18) hx hb hz inzM hown hK hP 0 rfl rfl 3 (by decide) (hz _ zi_239) (fun _ h9 => h9) rfl dz_M_pass_116 ?_
              refine lv_iload_n hx hb dz_M_pass_119 rfl (lv_at hl 1 rfl) ?_
              have hin_18 : vp_in (nI (j + 1)) 61 := vp_in_nI (by have := hok.1; omega) (by decide)
              refine va_lald hx hb hK hP 3 1 rfl rfl hin_18 dz_M_pass_120 ?_
              refine W.eq (g2 := F0 m 121 ls [.long (zm_si S2 (j + 1)), .long p1]) (congrArg (fun z => F0 m 121 ls (.long ((zm_si S2) z) :: [.long p1])) (nI_clamp (by have := hok.1; have := hok.2.1; have := hok.2.2; omega))) ?_
              refine lv_lsub hx hb dz_M_pass_121 ?_
              refine lv_ldc2 (v := 120) hx hb hown (hz _ zi_306) dz_M_pass_122 ?_
              refine W.lcmp hx hb dz_M_pass_125 ?_
              refine lv_if_lt (tgt := 146) hx hb dz_M_pass_126 (by decide) (fun c_19 => ?_) (fun c_19 => ?_)
              · exact seg3 S2 H locs ls hjk hok (by rw [hinv]; simp only [zm_p2, if_pos c_14, if_pos c_17, if_pos c_19]) hP hD hS (lv_sub hl [1, 2, 3] rfl)
              · refine lv_aload_n hx hb dz_M_pass_129 rfl (lv_at hl 2 rfl) ?_
                refine va_get (D := (dC, dI)) (ci := 3) (v := .ref a.2.2.2.1) (C := RzM) (T := TzM) (N := 18) hx hb hz inzM hown hK hP 0 rfl rfl 4 (by decide) (hz _ zi_240) (fun _ h9 => h9) rfl dz_M_pass_130 ?_
                refine lv_iload_n hx hb dz_M_pass_133 rfl (lv_at hl 1 rfl) ?_
                refine lv_iconst (v := 1) hx hb dz_M_pass_134 (by decide) ?_
                have hin_20 : vp_in (nI (j + 1)) 61 := vp_in_nI (by have := hok.1; omega) (by decide)
                refine va_zast hx hb hK hP hD hS 4 2 rfl rfl hin_20 dz_M_pass_135 (fun H locs hP hD hS => ?_)
                rw [show (nI (j + 1)).toNatClampNeg = (j + 1) from nI_clamp (by have := hok.1; have := hok.2.1; have := hok.2.2; omega)] at hP hD
                rw [zm_n1] at hP hD
                obtain ⟨S_21, eS_21⟩ : ∃ z, z = zm_sto S2 (upd (zm_to S2) (j + 1) 1) := ⟨_, rfl⟩
                have hP : va_P (dC, dI) vwCl (zm_W ci cj cz h0 a S_21) H := by rw [eS_21]; exact hP
                have hD : va_D A (zm_W ci cj cz h0 a S_21) := by rw [eS_21]; exact hD
                have hok : zm_ok S_21 := by rw [eS_21]; exact hok
                have hj : j < zm_nb S_21 := by rw [eS_21]; exact hj
                have hjk : j + (k + 1) = zm_nb S_21 := by rw [eS_21]; exact hjk
                refine lv_aload_n hx hb dz_M_pass_136 rfl (lv_at hl 2 rfl) ?_
                refine lv_dup hx hb dz_M_pass_137 rfl ?_
                refine va_get (D := (dC, dI)) (ci := 3) (v := .int (zm_A S_21)) (C := RzM) (T := TzM) (N := 18) hx hb hz inzM hown hK hP 0 rfl rfl 11 (by decide) (hz _ zi_247) (fun _ h9 => h9) rfl dz_M_pass_138 ?_
                refine lv_iconst (v := 1) hx hb dz_M_pass_141 (by decide) ?_
                refine lv_iadd hx hb dz_M_pass_142 ?_
                refine va_put (D := (dC, dI)) (ci := 3) (v := .int ((zm_A S_21) + 1)) (ty := .int) (C := RzM) (T := TzM) (N := 18) hx hb hz inzM tyzM tyzM_ok nmzM hown hK hP hD hS 0 rfl rfl 11 (by decide) (hz _ zi_247) (fun _ h9 => h9) rfl (by decide +kernel) rfl rfl (Nat.le_of_ble_eq_true rfl) dz_M_pass_143 (fun H locs hP hD hS => ?_)
                obtain ⟨S_22, eS_22⟩ : ∃ z, z = zm_sA S_21 ((zm_A S_21) + 1) := ⟨_, rfl⟩
                have hP : va_P (dC, dI) vwCl (zm_W ci cj cz h0 a S_22) H := by rw [eS_22]; exact hP
                have hD : va_D A (zm_W ci cj cz h0 a S_22) := by rw [eS_22]; exact hD
                have hok : zm_ok S_22 := by rw [eS_22]; exact hok
                have hj : j < zm_nb S_22 := by rw [eS_22]; exact hj
                have hjk : j + (k + 1) = zm_nb S_22 := by rw [eS_22]; exact hjk
                exact seg3 S_22 H locs ls hjk hok (by subst eS_21 eS_22; rw [hinv]; simp only [zm_p2, if_pos c_14, if_pos c_17, if_neg c_19]) hP hD hS (lv_sub hl [1, 2, 3] rfl)
        · refine lv_aload_n hx hb dz_M_pass_83 rfl (lv_at hl 1 rfl) ?_
          refine va_get (D := (dC, dI)) (ci := 3) (v := .ref a.2.1) (C := RzM) (T := TzM) (N := 18) hx hb hz inzM hown hK hP 0 rfl rfl 2 (by decide) (hz _ zi_238) (fun _ h9 => h9) rfl dz_M_pass_84 ?_
          refine lv_iload_n hx hb dz_M_pass_87 rfl (lv_at hl 0 rfl) ?_
          have hin_23 : vp_in (nI (j + 1)) 61 := vp_in_nI (by have := hok.1; omega) (by decide)
          refine va_iald hx hb hK hP 2 0 rfl rfl hin_23 dz_M_pass_88 ?_
          refine W.eq (g2 := F0 m 89 ls [.int (zm_dr S2 (j + 1))]) (congrArg (fun z => F0 m 89 ls (.int ((zm_dr S2) z) :: [])) (nI_clamp (by have := hok.1; have := hok.2.1; have := hok.2.2; omega))) ?_
          refine lv_iconst (v := 2) hx hb dz_M_pass_89 (by decide) ?_
          refine lv_icmp_ne (tgt := 97) hx hb dz_M_pass_90 (by decide) (fun c_24 => ?_) (fun c_24 => ?_)
          · refine lv_iconst (v := 0) hx hb dz_M_pass_97 (by decide) ?_
            refine lv_istore (lv' := [(4, .int 0), (3, .int (nI (j + 1))), (0, .ref h0), (1, .long p1)]) hx hb dz_M_pass_98 hl (by decide) rfl (fun ls hl => ?_)
            refine lv_iload hx hb dz_M_pass_100 (lv_at hl 0 rfl) ?_
            refine lv_if_eq (tgt := 146) hx hb dz_M_pass_102 (by decide) (fun c_25 => ?_) (fun c_25 => ?_)
            · exact seg3 S2 H locs ls hjk hok (by rw [hinv]; simp only [zm_p2, if_neg c_14, if_neg c_24]) hP hD hS (lv_sub hl [1, 2, 3] rfl)
            · exact absurd (by decide) c_25
          · refine lv_iconst (v := 1) hx hb dz_M_pass_93 (by decide) ?_
            refine lv_goto (tgt := 98) hx hb dz_M_pass_94 (by decide) ?_
            refine lv_istore (lv' := [(4, .int 1), (3, .int (nI (j + 1))), (0, .ref h0), (1, .long p1)]) hx hb dz_M_pass_98 hl (by decide) rfl (fun ls hl => ?_)
            refine lv_iload hx hb dz_M_pass_100 (lv_at hl 0 rfl) ?_
            refine lv_if_eq (tgt := 146) hx hb dz_M_pass_102 (by decide) (fun c_26 => ?_) (fun c_26 => ?_)
            · exact absurd c_26 (by decide)
            · refine lv_aload_n hx hb dz_M_pass_105 rfl (lv_at hl 2 rfl) ?_
              refine va_get (D := (dC, dI)) (ci := 3) (v := .ref a.2.2.2.1) (C := RzM) (T := TzM) (N := 18) hx hb hz inzM hown hK hP 0 rfl rfl 4 (by decide) (hz _ zi_240) (fun _ h9 => h9) rfl dz_M_pass_106 ?_
              refine lv_iload_n hx hb dz_M_pass_109 rfl (lv_at hl 1 rfl) ?_
              have hin_27 : vp_in (nI (j + 1)) 61 := vp_in_nI (by have := hok.1; omega) (by decide)
              refine va_zald hx hb hK hP 4 2 rfl rfl hin_27 dz_M_pass_110 ?_
              refine W.eq (g2 := F0 m 111 ls [.int (zm_to S2 (j + 1))]) (congrArg (fun z => F0 m 111 ls (.int ((zm_to S2) z) :: [])) (nI_clamp (by have := hok.1; have := hok.2.1; have := hok.2.2; omega))) ?_
              refine lv_if_ne (tgt := 146) hx hb dz_M_pass_111 (by decide) (fun c_28 => ?_) (fun c_28 => ?_)
              · exact seg3 S2 H locs ls hjk hok (by rw [hinv]; simp only [zm_p2, if_neg c_14, if_pos c_24, if_neg c_28]) hP hD hS (lv_sub hl [1, 2, 3] rfl)
              · refine lv_lload_n hx hb dz_M_pass_114 rfl (lv_at hl 3 rfl) ?_
                refine lv_aload_n hx hb dz_M_pass_115 rfl (lv_at hl 2 rfl) ?_
                refine va_get (D := (dC, dI)) (ci := 3) (v := .ref a.2.2.1) (C := RzM) (T := TzM) (N := 18) hx hb hz inzM hown hK hP 0 rfl rfl 3 (by decide) (hz _ zi_239) (fun _ h9 => h9) rfl dz_M_pass_116 ?_
                refine lv_iload_n hx hb dz_M_pass_119 rfl (lv_at hl 1 rfl) ?_
                have hin_29 : vp_in (nI (j + 1)) 61 := vp_in_nI (by have := hok.1; omega) (by decide)
                refine va_lald hx hb hK hP 3 1 rfl rfl hin_29 dz_M_pass_120 ?_
                refine W.eq (g2 := F0 m 121 ls [.long (zm_si S2 (j + 1)), .long p1]) (congrArg (fun z => F0 m 121 ls (.long ((zm_si S2) z) :: [.long p1])) (nI_clamp (by have := hok.1; have := hok.2.1; have := hok.2.2; omega))) ?_
                refine lv_lsub hx hb dz_M_pass_121 ?_
                refine lv_ldc2 (v := 120) hx hb hown (hz _ zi_306) dz_M_pass_122 ?_
                refine W.lcmp hx hb dz_M_pass_125 ?_
                refine lv_if_lt (tgt := 146) hx hb dz_M_pass_126 (by decide) (fun c_30 => ?_) (fun c_30 => ?_)
                · exact seg3 S2 H locs ls hjk hok (by rw [hinv]; simp only [zm_p2, if_neg c_14, if_pos c_24, if_pos c_28, if_pos c_30]) hP hD hS (lv_sub hl [1, 2, 3] rfl)
                · refine lv_aload_n hx hb dz_M_pass_129 rfl (lv_at hl 2 rfl) ?_
                  refine va_get (D := (dC, dI)) (ci := 3) (v := .ref a.2.2.2.1) (C := RzM) (T := TzM) (N := 18) hx hb hz inzM hown hK hP 0 rfl rfl 4 (by decide) (hz _ zi_240) (fun _ h9 => h9) rfl dz_M_pass_130 ?_
                  refine lv_iload_n hx hb dz_M_pass_133 rfl (lv_at hl 1 rfl) ?_
                  refine lv_iconst (v := 1) hx hb dz_M_pass_134 (by decide) ?_
                  have hin_31 : vp_in (nI (j + 1)) 61 := vp_in_nI (by have := hok.1; omega) (by decide)
                  refine va_zast hx hb hK hP hD hS 4 2 rfl rfl hin_31 dz_M_pass_135 (fun H locs hP hD hS => ?_)
                  rw [show (nI (j + 1)).toNatClampNeg = (j + 1) from nI_clamp (by have := hok.1; have := hok.2.1; have := hok.2.2; omega)] at hP hD
                  rw [zm_n1] at hP hD
                  obtain ⟨S_32, eS_32⟩ : ∃ z, z = zm_sto S2 (upd (zm_to S2) (j + 1) 1) := ⟨_, rfl⟩
                  have hP : va_P (dC, dI) vwCl (zm_W ci cj cz h0 a S_32) H := by rw [eS_32]; exact hP
                  have hD : va_D A (zm_W ci cj cz h0 a S_32) := by rw [eS_32]; exact hD
                  have hok : zm_ok S_32 := by rw [eS_32]; exact hok
                  have hj : j < zm_nb S_32 := by rw [eS_32]; exact hj
                  have hjk : j + (k + 1) = zm_nb S_32 := by rw [eS_32]; exact hjk
                  refine lv_aload_n hx hb dz_M_pass_136 rfl (lv_at hl 2 rfl) ?_
                  refine lv_dup hx hb dz_M_pass_137 rfl ?_
                  refine va_get (D := (dC, dI)) (ci := 3) (v := .int (zm_A S_32)) (C := RzM) (T := TzM) (N := 18) hx hb hz inzM hown hK hP 0 rfl rfl 11 (by decide) (hz _ zi_247) (fun _ h9 => h9) rfl dz_M_pass_138 ?_
                  refine lv_iconst (v := 1) hx hb dz_M_pass_141 (by decide) ?_
                  refine lv_iadd hx hb dz_M_pass_142 ?_
                  refine va_put (D := (dC, dI)) (ci := 3) (v := .int ((zm_A S_32) + 1)) (ty := .int) (C := RzM) (T := TzM) (N := 18) hx hb hz inzM tyzM tyzM_ok nmzM hown hK hP hD hS 0 rfl rfl 11 (by decide) (hz _ zi_247) (fun _ h9 => h9) rfl (by decide +kernel) rfl rfl (Nat.le_of_ble_eq_true rfl) dz_M_pass_143 (fun H locs hP hD hS => ?_)
                  obtain ⟨S_33, eS_33⟩ : ∃ z, z = zm_sA S_32 ((zm_A S_32) + 1) := ⟨_, rfl⟩
                  have hP : va_P (dC, dI) vwCl (zm_W ci cj cz h0 a S_33) H := by rw [eS_33]; exact hP
                  have hD : va_D A (zm_W ci cj cz h0 a S_33) := by rw [eS_33]; exact hD
                  have hok : zm_ok S_33 := by rw [eS_33]; exact hok
                  have hj : j < zm_nb S_33 := by rw [eS_33]; exact hj
                  have hjk : j + (k + 1) = zm_nb S_33 := by rw [eS_33]; exact hjk
                  exact seg3 S_33 H locs ls hjk hok (by subst eS_32 eS_33; rw [hinv]; simp only [zm_p2, if_neg c_14, if_pos c_24, if_pos c_28, if_neg c_30]) hP hD hS (lv_sub hl [1, 2, 3] rfl)
      have hinv : zm_pass M p1 = zm_lp p1 k (j + 1) (zm_p3 p1 j (zm_p2 p1 j (zm_p1 p1 j S1))) := hinv
      refine lv_iload_n hx hb dz_M_pass_7 rfl (lv_at hl 0 rfl) ?_
      refine lv_aload_n hx hb dz_M_pass_8 rfl (lv_at hl 1 rfl) ?_
      refine va_get (D := (dC, dI)) (ci := 3) (v := .int (nI (zm_nb S1))) (C := RzM) (T := TzM) (N := 18) hx hb hz inzM hown hK hP 0 rfl rfl 0 (by decide) (hz _ zi_236) (fun _ h9 => h9) rfl dz_M_pass_9 ?_
      refine lv_icmp_gt (tgt := 202) hx hb dz_M_pass_12 (by decide) (fun c_34 => ?_) (fun c_34 => ?_)
      · exact absurd c_34 (nI_nlt (by omega) (by have := hok.1; omega))
      · refine lv_aload_n hx hb dz_M_pass_15 rfl (lv_at hl 1 rfl) ?_
        refine va_get (D := (dC, dI)) (ci := 3) (v := .ref a.2.2.2.2.2.2.2.2.1) (C := RzM) (T := TzM) (N := 18) hx hb hz inzM hown hK hP 0 rfl rfl 9 (by decide) (hz _ zi_245) (fun _ h9 => h9) rfl dz_M_pass_16 ?_
        refine lv_iload_n hx hb dz_M_pass_19 rfl (lv_at hl 0 rfl) ?_
        have hin_35 : vp_in (nI (j + 1)) 61 := vp_in_nI (by have := hok.1; omega) (by decide)
        refine va_lald hx hb hK hP 9 1 rfl rfl hin_35 dz_M_pass_20 ?_
        refine W.eq (g2 := F0 m 21 ls [.long (zm_ke S1 (j + 1))]) (congrArg (fun z => F0 m 21 ls (.long ((zm_ke S1) z) :: [])) (nI_clamp (by have := hok.1; have := hok.2.1; have := hok.2.2; omega))) ?_
        refine lv_lconst (v := 0) hx hb dz_M_pass_21 (by decide) ?_
        refine W.lcmp hx hb dz_M_pass_22 ?_
        refine lv_if_le (tgt := 73) hx hb dz_M_pass_23 (by decide) (fun c_36 => ?_) (fun c_36 => ?_)
        · exact seg2 S1 H locs ls hjk hok (by rw [hinv]; simp only [zm_p1, if_pos c_36]) hP hD hS (lv_sub hl [0, 1, 2] rfl)
        · refine lv_aload_n hx hb dz_M_pass_26 rfl (lv_at hl 1 rfl) ?_
          refine va_get (D := (dC, dI)) (ci := 3) (v := .ref a.2.2.2.2.2.2.2.2.1) (C := RzM) (T := TzM) (N := 18) hx hb hz inzM hown hK hP 0 rfl rfl 9 (by decide) (hz _ zi_245) (fun _ h9 => h9) rfl dz_M_pass_27 ?_
          refine lv_iload_n hx hb dz_M_pass_30 rfl (lv_at hl 0 rfl) ?_
          have hin_37 : vp_in (nI (j + 1)) 61 := vp_in_nI (by have := hok.1; omega) (by decide)
          refine va_lald hx hb hK hP 9 1 rfl rfl hin_37 dz_M_pass_31 ?_
          refine W.eq (g2 := F0 m 32 ls [.long (zm_ke S1 (j + 1))]) (congrArg (fun z => F0 m 32 ls (.long ((zm_ke S1) z) :: [])) (nI_clamp (by have := hok.1; have := hok.2.1; have := hok.2.2; omega))) ?_
          refine lv_lload_n hx hb dz_M_pass_32 rfl (lv_at hl 2 rfl) ?_
          refine W.lcmp hx hb dz_M_pass_33 ?_
          refine lv_if_gt (tgt := 73) hx hb dz_M_pass_34 (by decide) (fun c_38 => ?_) (fun c_38 => ?_)
          · exact seg2 S1 H locs ls hjk hok (by rw [hinv]; simp only [zm_p1, if_neg c_36, if_pos c_38]) hP hD hS (lv_sub hl [0, 1, 2] rfl)
          · refine lv_aload_n hx hb dz_M_pass_37 rfl (lv_at hl 1 rfl) ?_
            refine va_get (D := (dC, dI)) (ci := 3) (v := .ref a.2.2.2.2.2.2.2.2.1) (C := RzM) (T := TzM) (N := 18) hx hb hz inzM hown hK hP 0 rfl rfl 9 (by decide) (hz _ zi_245) (fun _ h9 => h9) rfl dz_M_pass_38 ?_
            refine lv_iload_n hx hb dz_M_pass_41 rfl (lv_at hl 0 rfl) ?_
            refine lv_lconst (v := 0) hx hb dz_M_pass_42 (by decide) ?_
            have hin_39 : vp_in (nI (j + 1)) 61 := vp_in_nI (by have := hok.1; omega) (by decide)
            refine va_last hx hb hK hP hD hS 9 1 rfl rfl hin_39 dz_M_pass_43 (fun H locs hP hD hS => ?_)
            rw [show (nI (j + 1)).toNatClampNeg = (j + 1) from nI_clamp (by have := hok.1; have := hok.2.1; have := hok.2.2; omega)] at hP hD
            obtain ⟨S_40, eS_40⟩ : ∃ z, z = zm_ske S1 (vp_updL (zm_ke S1) (j + 1) 0) := ⟨_, rfl⟩
            have hP : va_P (dC, dI) vwCl (zm_W ci cj cz h0 a S_40) H := by rw [eS_40]; exact hP
            have hD : va_D A (zm_W ci cj cz h0 a S_40) := by rw [eS_40]; exact hD
            have hok : zm_ok S_40 := by rw [eS_40]; exact hok
            have hj : j < zm_nb S_40 := by rw [eS_40]; exact hj
            have hjk : j + (k + 1) = zm_nb S_40 := by rw [eS_40]; exact hjk
            refine lv_aload_n hx hb dz_M_pass_44 rfl (lv_at hl 1 rfl) ?_
            refine va_get (D := (dC, dI)) (ci := 3) (v := .int (nI (zm_fn S_40))) (C := RzM) (T := TzM) (N := 18) hx hb hz inzM hown hK hP 0 rfl rfl 16 (by decide) (hz _ zi_252) (fun _ h9 => h9) rfl dz_M_pass_45 ?_
            refine lv_bipush (v := 100) hx hb dz_M_pass_48 (by decide) ?_
            refine lv_icmp_ge (tgt := 73) hx hb dz_M_pass_50 (by decide) (fun c_41 => ?_) (fun c_41 => ?_)
            · exact seg2 S_40 H locs ls hjk hok (by subst eS_40; rw [hinv]; simp only [zm_p1, if_neg c_36, if_neg c_38, if_pos c_41]) hP hD hS (lv_sub hl [0, 1, 2] rfl)
            · have hf99 : zm_fn S_40 < 100 := zm_lt100 hok c_41
              refine lv_aload_n hx hb dz_M_pass_53 rfl (lv_at hl 1 rfl) ?_
              refine va_get (D := (dC, dI)) (ci := 3) (v := .ref a.2.2.2.2.2.2.2.2.2.2) (C := RzM) (T := TzM) (N := 18) hx hb hz inzM hown hK hP 0 rfl rfl 17 (by decide) (hz _ zi_253) (fun _ h9 => h9) rfl dz_M_pass_54 ?_
              refine lv_aload_n hx hb dz_M_pass_57 rfl (lv_at hl 1 rfl) ?_
              refine va_get (D := (dC, dI)) (ci := 3) (v := .int (nI (zm_fn S_40))) (C := RzM) (T := TzM) (N := 18) hx hb hz inzM hown hK hP 0 rfl rfl 16 (by decide) (hz _ zi_252) (fun _ h9 => h9) rfl dz_M_pass_58 ?_
              refine lv_iload_n hx hb dz_M_pass_61 rfl (lv_at hl 0 rfl) ?_
              have hin_42 : vp_in (nI (zm_fn S_40)) 100 := vp_in_nI hf99 (by decide)
              refine va_iast hx hb hK hP hD hS 11 0 rfl rfl hin_42 dz_M_pass_62 (fun H locs hP hD hS => ?_)
              rw [show (nI (zm_fn S_40)).toNatClampNeg = (zm_fn S_40) from nI_clamp (by have := hok.1; have := hok.2.1; have := hok.2.2; omega)] at hP hD
              obtain ⟨S_43, eS_43⟩ : ∃ z, z = zm_sfr S_40 (upd (zm_fr S_40) (zm_fn S_40) (nI (j + 1))) := ⟨_, rfl⟩
              have hP : va_P (dC, dI) vwCl (zm_W ci cj cz h0 a S_43) H := by rw [eS_43]; exact hP
              have hD : va_D A (zm_W ci cj cz h0 a S_43) := by rw [eS_43]; exact hD
              have hok : zm_ok S_43 := by rw [eS_43]; exact hok
              have hj : j < zm_nb S_43 := by rw [eS_43]; exact hj
              have hjk : j + (k + 1) = zm_nb S_43 := by rw [eS_43]; exact hjk
              have hf99 : zm_fn S_43 < 100 := by rw [eS_43]; exact hf99
              refine lv_aload_n hx hb dz_M_pass_63 rfl (lv_at hl 1 rfl) ?_
              refine lv_dup hx hb dz_M_pass_64 rfl ?_
              refine va_get (D := (dC, dI)) (ci := 3) (v := .int (nI (zm_fn S_43))) (C := RzM) (T := TzM) (N := 18) hx hb hz inzM hown hK hP 0 rfl rfl 16 (by decide) (hz _ zi_252) (fun _ h9 => h9) rfl dz_M_pass_65 ?_
              refine lv_iconst (v := 1) hx hb dz_M_pass_68 (by decide) ?_
              refine lv_iadd hx hb dz_M_pass_69 ?_
              refine W.eq (g2 := F0 m 70 ls [.int (nI (zm_fn S_43 + 1)), .ref h0]) (congrArg (fun z => F0 m 70 ls (.int z :: [.ref h0])) (nI_1 _)) ?_
              have hf98 := hf99
              refine va_put (D := (dC, dI)) (ci := 3) (v := .int (nI (zm_fn S_43 + 1))) (ty := .int) (C := RzM) (T := TzM) (N := 18) hx hb hz inzM tyzM tyzM_ok nmzM hown hK hP hD hS 0 rfl rfl 16 (by decide) (hz _ zi_252) (fun _ h9 => h9) rfl (by decide +kernel) rfl rfl (Nat.le_of_ble_eq_true rfl) dz_M_pass_70 (fun H locs hP hD hS => ?_)
              obtain ⟨S_44, eS_44⟩ : ∃ z, z = zm_sfn S_43 (zm_fn S_43 + 1) := ⟨_, rfl⟩
              have hP : va_P (dC, dI) vwCl (zm_W ci cj cz h0 a S_44) H := by rw [eS_44]; exact hP
              have hD : va_D A (zm_W ci cj cz h0 a S_44) := by rw [eS_44]; exact hD
              have hj : j < zm_nb S_44 := by rw [eS_44]; exact hj
              have hjk : j + (k + 1) = zm_nb S_44 := by rw [eS_44]; exact hjk
              have hok : zm_ok S_44 := by rw [eS_44]; exact ⟨hok.1, hok.2.1, hf98⟩
              exact seg2 S_44 H locs ls hjk hok (by subst eS_40 eS_43 eS_44; rw [hinv]; simp only [zm_p1, if_neg c_36, if_neg c_38, if_neg c_41]) hP hD hS (lv_sub hl [0, 1, 2] rfl)
  exact loop (zm_nb M) 0 S_1 H locs ls (by rw [eS_1]; show 0 + zm_nb M = zm_nb M; omega) hok (by rw [eS_1]; rfl) hP hD hS (lv_sub hl [0, 1, 2] rfl)
set_option maxHeartbeats 4000000 in
set_option maxRecDepth 100000 in
theorem ct_M_reserve (l : Launch) (dC : Nat → ClassId) (dI : Nat → Nat → Nat) (ci cj cz : ClassId) (h0 : Nat) (a : zm_Ad) (M : zm_S) (hok : zm_ok M) (sz : Nat) (p1 : Int32) (p2 : Int64) : Met l yz_M_reserve wz_M_reserve (zw_room 1 0 0) (zw_U zw_ns (dC, dI) vwCl (zm_tys ci cj cz) [.ref h0, .int p1, .long p2] (zm_W ci cj cz h0 a M) sz) (va_Qi (fun (r : Int32) (_ : Unit) => r = (zm_reserve M p1 p2).1) (fun (_ : Unit) (t : State) => va_P (dC, dI) vwCl (zm_W ci cj cz h0 a ((zm_reserve M p1 p2).2)) t.heap ∧ va_D (va_A (zm_W ci cj cz h0 a M) sz) (zm_W ci cj cz h0 a ((zm_reserve M p1 p2).2))) (va_A (zm_W ci cj cz h0 a M) sz)) 0 0 (va_A (zm_W ci cj cz h0 a M) sz) := by
  refine Met.ofW (cc := cz_M_reserve) (maxL := 7) (ret := (some .int)) (by decide) rfl ?_
  intro p e s m args below meth c s₁ B hml hv
  obtain ⟨rfl, hsz, hP, hK, hD0, hN⟩ := hv
  have hx := B.exec
  have hb := B.bytes
  have hr := B.returns
  have hts := atoms_spec (ws := wz_M_reserve) B.pre
  have hz : ∀ w ∈ zw_T, w.before ([.ref h0, .int p1, .long p2] : List Value).toArray s = true := fun w h => hts w (List.mem_cons_of_mem _ h)
  have hown : s.vm.findClass RzM = some m.cls := findClass_of_methodNamed B.named
  have hlocks := B.notSynchronized
  have hok0 := hok
  subst hsz
  have hD := hD0.self (sz := s.heap.size)
  generalize hAe : va_A (zm_W ci cj cz h0 a M) s.heap.size = A at hD ⊢
  have hA : ∀ q : Nat, s.heap.size ≤ q → A q := fun q h => by rw [← hAe]; exact Or.inr h
  have hS : va_S A s.heap s.heap [] := va_S.rf
  have hl := lv_entry ([.ref h0, .int p1, .long p2]) (n := 7) (Nat.le_of_ble_eq_true rfl)
  rw [lg_entry_eq]
  generalize (lg_sl ([.ref h0, .int p1, .long p2]) ++ List.replicate (7 - (lg_sl ([.ref h0, .int p1, .long p2])).length) Slot.unset).toArray = ls at hl ⊢
  have hl : lv_has ls 7 [(0, .ref h0), (1, .int p1), (2, .long p2)] := hl
  refine lv_iload_n hx hb dz_M_reserve_0 rfl (lv_at hl 1 rfl) ?_
  refine lv_i2l (v := p1.toInt64) hx hb dz_M_reserve_1 rfl ?_
  refine lv_lconst (v := 1) hx hb dz_M_reserve_2 (by decide) ?_
  refine lv_ldc2 (v := 5) hx hb hown (hz _ zi_278) dz_M_reserve_3 ?_
  refine vp_callSi (va_Run.run (va_runS (As := [.long p1.toInt64, .long 1, .long 5]) (rest := []) ⟨hx, hb, hml, hown, hz⟩ (ct_M_within l dC dI ci cj cz p1.toInt64 1 5) (cwS 3 hz (zw_gS zi_279 zi_280 zi_35 zi_281) rfl rfl rfl (by decide +kernel) ⟨Nat.le_of_ble_eq_true rfl, Nat.le_of_ble_eq_true rfl⟩) (zw_preR zw_ns_ok (ws := []) (fun k q h => by simp at h) hK hN) rfl rfl hl.1 rfl (lv_room (Nat.le_of_ble_eq_true rfl)) dz_M_reserve_6 ⟨Nat.le_of_ble_eq_true rfl, Nat.le_of_ble_eq_true rfl⟩)) (fun r_1 hr_1 => ?_)
  have hr_1 : r_1 = zm_within p1.toInt64 1 5 := hr_1
  subst hr_1
  refine lv_if_eq (tgt := 29) hx hb dz_M_reserve_9 (by decide) (fun c_2 => ?_) (fun c_2 => ?_)
  · refine lv_bipush (v := -12) hx hb dz_M_reserve_29 (by decide) ?_
    have hE_3 : zm_reserve M p1 p2 = ((-12), M) := by simp only [zm_reserve, if_pos c_2]
    exact W.iret (v := (-12)) hx hb hr (fun t ht hW => ⟨⟨_, (), rfl, by show (-12) = (zm_reserve M p1 p2).1; rw [hE_3], by show va_P (dC, dI) vwCl (zm_W ci cj cz h0 a ((zm_reserve M p1 p2).2)) t.heap; rw [ht, hE_3]; exact hP, by show va_D A (zm_W ci cj cz h0 a ((zm_reserve M p1 p2).2)); rw [hE_3]; exact hD⟩, hS.F ht⟩) hS.2.2 dz_M_reserve_31
  · refine lv_lload_n hx hb dz_M_reserve_12 rfl (lv_at hl 2 rfl) ?_
    refine lv_aload_n hx hb dz_M_reserve_13 rfl (lv_at hl 0 rfl) ?_
    refine va_get (D := (dC, dI)) (ci := 3) (v := .long (zm_T M)) (C := RzM) (T := TzM) (N := 18) hx hb hz inzM hown hK hP 0 rfl rfl 10 (by decide) (hz _ zi_246) (fun _ h9 => h9) rfl dz_M_reserve_14 ?_
    refine W.lcmp hx hb dz_M_reserve_17 ?_
    refine lv_if_le (tgt := 29) hx hb dz_M_reserve_18 (by decide) (fun c_4 => ?_) (fun c_4 => ?_)
    · refine lv_bipush (v := -12) hx hb dz_M_reserve_29 (by decide) ?_
      have hE_5 : zm_reserve M p1 p2 = ((-12), M) := by simp only [zm_reserve, if_neg c_2, if_pos c_4]
      exact W.iret (v := (-12)) hx hb hr (fun t ht hW => ⟨⟨_, (), rfl, by show (-12) = (zm_reserve M p1 p2).1; rw [hE_5], by show va_P (dC, dI) vwCl (zm_W ci cj cz h0 a ((zm_reserve M p1 p2).2)) t.heap; rw [ht, hE_5]; exact hP, by show va_D A (zm_W ci cj cz h0 a ((zm_reserve M p1 p2).2)); rw [hE_5]; exact hD⟩, hS.F ht⟩) hS.2.2 dz_M_reserve_31
    · refine lv_lload_n hx hb dz_M_reserve_21 rfl (lv_at hl 2 rfl) ?_
      refine lv_ldc2 (v := 2000000000) hx hb hown (hz _ zi_291) dz_M_reserve_22 ?_
      refine W.lcmp hx hb dz_M_reserve_25 ?_
      refine lv_if_le (tgt := 32) hx hb dz_M_reserve_26 (by decide) (fun c_6 => ?_) (fun c_6 => ?_)
      · refine lv_iconst (v := nI 0) hx hb dz_M_reserve_32 (by decide) ?_
        refine lv_istore (lv' := [(4, .int (nI 0)), (0, .ref h0), (1, .int p1), (2, .long p2)]) hx hb dz_M_reserve_33 hl (by decide) rfl (fun ls hl => ?_)
        refine lv_iconst (v := nI (0 + 1)) hx hb dz_M_reserve_35 (by decide) ?_
        refine lv_istore (lv' := [(5, .int (nI (0 + 1))), (4, .int (nI 0)), (0, .ref h0), (1, .int p1), (2, .long p2)]) hx hb dz_M_reserve_36 hl (by decide) rfl (fun ls hl => ?_)
        have loop : ∀ (k j : Nat) (x : Nat) (hxb : x ≤ 60) (ls : Array Slot), j + k = zm_nb M → zm_bs M p1 (zm_nb M) 0 0 = zm_bs M p1 k j x → lv_has ls 7 [(5, .int (nI (j + 1))), (4, .int (nI x)), (0, .ref h0), (1, .int p1), (2, .long p2)] → W p l e (headSpec wz_M_reserve (zw_room 1 0 0)).room s m ([.ref h0, .int p1, .long p2] : List Value).toArray below meth c s.heap [] 0 0 (MQ below (va_Qi (fun (r : Int32) (_ : Unit) => r = (zm_reserve M p1 p2).1) (fun (_ : Unit) (t : State) => va_P (dC, dI) vwCl (zm_W ci cj cz h0 a ((zm_reserve M p1 p2).2)) t.heap ∧ va_D A (zm_W ci cj cz h0 a ((zm_reserve M p1 p2).2))) A) ([.ref h0, .int p1, .long p2] : List Value).toArray s 0 0 A) (F0 m 38 ls []) := by
          intro k
          induction k with
          | zero =>
            intro j x hxb ls hjk hinv hl
            refine lv_iload hx hb dz_M_reserve_38 (lv_at hl 0 rfl) ?_
            refine lv_aload_n hx hb dz_M_reserve_40 rfl (lv_at hl 2 rfl) ?_
            refine va_get (D := (dC, dI)) (ci := 3) (v := .int (nI (zm_nb M))) (C := RzM) (T := TzM) (N := 18) hx hb hz inzM hown hK hP 0 rfl rfl 0 (by decide) (hz _ zi_236) (fun _ h9 => h9) rfl dz_M_reserve_41 ?_
            refine lv_icmp_gt (tgt := 139) hx hb dz_M_reserve_44 (by decide) (fun c_7 => ?_) (fun c_7 => ?_)
            · have hinv : zm_bs M p1 (zm_nb M) 0 0 = x := hinv
              subst hinv
              have hx60 : zm_bs M p1 (zm_nb M) 0 0 ≤ 60 := hxb
              refine lv_iload hx hb dz_M_reserve_139 (lv_at hl 1 rfl) ?_
              refine lv_if_le (tgt := 152) hx hb dz_M_reserve_141 (by decide) (fun c_8 => ?_) (fun c_8 => ?_)
              · refine lv_iload hx hb dz_M_reserve_152 (lv_at hl 1 rfl) ?_
                have hE_9 : zm_reserve M p1 p2 = (nI (zm_bs M p1 (zm_nb M) 0 0), M) := by simp only [zm_reserve, if_neg c_2, if_neg c_4, if_pos c_6, if_pos c_8]
                exact W.iret (v := nI (zm_bs M p1 (zm_nb M) 0 0)) hx hb hr (fun t ht hW => ⟨⟨_, (), rfl, by show nI (zm_bs M p1 (zm_nb M) 0 0) = (zm_reserve M p1 p2).1; rw [hE_9], by show va_P (dC, dI) vwCl (zm_W ci cj cz h0 a ((zm_reserve M p1 p2).2)) t.heap; rw [ht, hE_9]; exact hP, by show va_D A (zm_W ci cj cz h0 a ((zm_reserve M p1 p2).2)); rw [hE_9]; exact hD⟩, hS.F ht⟩) hS.2.2 dz_M_reserve_154
              · refine lv_aload_n hx hb dz_M_reserve_144 rfl (lv_at hl 2 rfl) ?_
                refine va_get (D := (dC, dI)) (ci := 3) (v := .ref a.2.2.2.2.2.2.2.2.1) (C := RzM) (T := TzM) (N := 18) hx hb hz inzM hown hK hP 0 rfl rfl 9 (by decide) (hz _ zi_245) (fun _ h9 => h9) rfl dz_M_reserve_145 ?_
                refine lv_iload hx hb dz_M_reserve_148 (lv_at hl 1 rfl) ?_
                refine lv_lload_n hx hb dz_M_reserve_150 rfl (lv_at hl 4 rfl) ?_
                have hin_10 : vp_in (nI (zm_bs M p1 (zm_nb M) 0 0)) 61 := vp_in_nI (by omega) (by decide)
                refine va_last hx hb hK hP hD hS 9 1 rfl rfl hin_10 dz_M_reserve_151 (fun H locs hP hD hS => ?_)
                rw [show (nI (zm_bs M p1 (zm_nb M) 0 0)).toNatClampNeg = (zm_bs M p1 (zm_nb M) 0 0) from nI_clamp (by omega)] at hP hD
                obtain ⟨S_11, eS_11⟩ : ∃ z, z = zm_ske M (vp_updL (zm_ke M) (zm_bs M p1 (zm_nb M) 0 0) p2) := ⟨_, rfl⟩
                have hP : va_P (dC, dI) vwCl (zm_W ci cj cz h0 a S_11) H := by rw [eS_11]; exact hP
                have hD : va_D A (zm_W ci cj cz h0 a S_11) := by rw [eS_11]; exact hD
                have hok : zm_ok S_11 := by rw [eS_11]; exact hok
                refine lv_iload hx hb dz_M_reserve_152 (lv_at hl 1 rfl) ?_
                have hE_12 : zm_reserve M p1 p2 = (nI (zm_bs M p1 (zm_nb M) 0 0), S_11) := by subst eS_11; simp only [zm_reserve, if_neg c_2, if_neg c_4, if_pos c_6, if_neg c_8]
                exact W.iret (v := nI (zm_bs M p1 (zm_nb M) 0 0)) hx hb hr (fun t ht hW => ⟨⟨_, (), rfl, by show nI (zm_bs M p1 (zm_nb M) 0 0) = (zm_reserve M p1 p2).1; rw [hE_12], by show va_P (dC, dI) vwCl (zm_W ci cj cz h0 a ((zm_reserve M p1 p2).2)) t.heap; rw [ht, hE_12]; exact hP, by show va_D A (zm_W ci cj cz h0 a ((zm_reserve M p1 p2).2)); rw [hE_12]; exact hD⟩, hS.F ht⟩) hS.2.2 dz_M_reserve_154
            · exact absurd (nI_lt (by omega) (by have := hok.1; omega)) c_7
          | succ k ih =>
            intro j x hxb ls hjk hinv hl
            have hj : j < zm_nb M := by omega
            refine lv_iload hx hb dz_M_reserve_38 (lv_at hl 0 rfl) ?_
            refine lv_aload_n hx hb dz_M_reserve_40 rfl (lv_at hl 2 rfl) ?_
            refine va_get (D := (dC, dI)) (ci := 3) (v := .int (nI (zm_nb M))) (C := RzM) (T := TzM) (N := 18) hx hb hz inzM hown hK hP 0 rfl rfl 0 (by decide) (hz _ zi_236) (fun _ h9 => h9) rfl dz_M_reserve_41 ?_
            refine lv_icmp_gt (tgt := 139) hx hb dz_M_reserve_44 (by decide) (fun c_13 => ?_) (fun c_13 => ?_)
            · exact absurd c_13 (nI_nlt (by omega) (by have := hok.1; omega))
            · refine lv_aload_n hx hb dz_M_reserve_47 rfl (lv_at hl 2 rfl) ?_
              refine va_get (D := (dC, dI)) (ci := 3) (v := .ref a.2.1) (C := RzM) (T := TzM) (N := 18) hx hb hz inzM hown hK hP 0 rfl rfl 2 (by decide) (hz _ zi_238) (fun _ h9 => h9) rfl dz_M_reserve_48 ?_
              refine lv_iload hx hb dz_M_reserve_51 (lv_at hl 0 rfl) ?_
              have hin_14 : vp_in (nI (j + 1)) 61 := vp_in_nI (by have := hok.1; omega) (by decide)
              refine va_iald hx hb hK hP 2 0 rfl rfl hin_14 dz_M_reserve_53 ?_
              refine W.eq (g2 := F0 m 54 ls [.int (zm_dr M (j + 1))]) (congrArg (fun z => F0 m 54 ls (.int ((zm_dr M) z) :: [])) (nI_clamp (by have := hok.1; have := hok.2.1; have := hok.2.2; omega))) ?_
              refine lv_if_ne (tgt := 94) hx hb dz_M_reserve_54 (by decide) (fun c_15 => ?_) (fun c_15 => ?_)
              · refine lv_iconst (v := 0) hx hb dz_M_reserve_94 (by decide) ?_
                refine lv_istore (lv' := [(6, .int 0), (5, .int (nI (j + 1))), (4, .int (nI x)), (0, .ref h0), (1, .int p1), (2, .long p2)]) hx hb dz_M_reserve_95 hl (by decide) rfl (fun ls hl => ?_)
                refine lv_iload hx hb dz_M_reserve_97 (lv_at hl 0 rfl) ?_
                refine lv_if_eq (tgt := 129) hx hb dz_M_reserve_99 (by decide) (fun c_16 => ?_) (fun c_16 => ?_)
                · refine lv_iload hx hb dz_M_reserve_129 (lv_at hl 2 rfl) ?_
                  refine lv_istore (lv' := [(4, .int (nI x)), (6, .int 0), (5, .int (nI (j + 1))), (0, .ref h0), (1, .int p1), (2, .long p2)]) hx hb dz_M_reserve_131 hl (by decide) rfl (fun ls hl => ?_)
                  refine lv_iinc (v := nI (j + 1 + 1)) (lv' := [(5, .int (nI (j + 1 + 1))), (4, .int (nI x)), (6, .int 0), (0, .ref h0), (1, .int p1), (2, .long p2)]) hx hb dz_M_reserve_133 hl (k := 2) rfl (nI_1 _) (by decide) rfl (fun ls hl => ?_)
                  refine lv_goto (tgt := 38) hx hb dz_M_reserve_136 (by decide) ?_
                  exact ih (j + 1) x (by have := hok.1; omega) ls (by omega) (by rw [hinv]; simp only [zm_bs, if_neg c_15]) (lv_sub hl [0, 1, 3, 4, 5] rfl)
                · exact absurd (by decide) c_16
              · refine lv_aload_n hx hb dz_M_reserve_57 rfl (lv_at hl 2 rfl) ?_
                refine va_get (D := (dC, dI)) (ci := 3) (v := .ref a.2.2.2.2.1) (C := RzM) (T := TzM) (N := 18) hx hb hz inzM hown hK hP 0 rfl rfl 5 (by decide) (hz _ zi_241) (fun _ h9 => h9) rfl dz_M_reserve_58 ?_
                refine lv_iload hx hb dz_M_reserve_61 (lv_at hl 0 rfl) ?_
                have hin_17 : vp_in (nI (j + 1)) 61 := vp_in_nI (by have := hok.1; omega) (by decide)
                refine va_iald hx hb hK hP 5 0 rfl rfl hin_17 dz_M_reserve_63 ?_
                refine W.eq (g2 := F0 m 64 ls [.int (zm_it M (j + 1))]) (congrArg (fun z => F0 m 64 ls (.int ((zm_it M) z) :: [])) (nI_clamp (by have := hok.1; have := hok.2.1; have := hok.2.2; omega))) ?_
                refine lv_if_ne (tgt := 94) hx hb dz_M_reserve_64 (by decide) (fun c_18 => ?_) (fun c_18 => ?_)
                · refine lv_iconst (v := 0) hx hb dz_M_reserve_94 (by decide) ?_
                  refine lv_istore (lv' := [(6, .int 0), (5, .int (nI (j + 1))), (4, .int (nI x)), (0, .ref h0), (1, .int p1), (2, .long p2)]) hx hb dz_M_reserve_95 hl (by decide) rfl (fun ls hl => ?_)
                  refine lv_iload hx hb dz_M_reserve_97 (lv_at hl 0 rfl) ?_
                  refine lv_if_eq (tgt := 129) hx hb dz_M_reserve_99 (by decide) (fun c_19 => ?_) (fun c_19 => ?_)
                  · refine lv_iload hx hb dz_M_reserve_129 (lv_at hl 2 rfl) ?_
                    refine lv_istore (lv' := [(4, .int (nI x)), (6, .int 0), (5, .int (nI (j + 1))), (0, .ref h0), (1, .int p1), (2, .long p2)]) hx hb dz_M_reserve_131 hl (by decide) rfl (fun ls hl => ?_)
                    refine lv_iinc (v := nI (j + 1 + 1)) (lv' := [(5, .int (nI (j + 1 + 1))), (4, .int (nI x)), (6, .int 0), (0, .ref h0), (1, .int p1), (2, .long p2)]) hx hb dz_M_reserve_133 hl (k := 2) rfl (nI_1 _) (by decide) rfl (fun ls hl => ?_)
                    refine lv_goto (tgt := 38) hx hb dz_M_reserve_136 (by decide) ?_
                    exact ih (j + 1) x (by have := hok.1; omega) ls (by omega) (by rw [hinv]; simp only [zm_bs, if_pos c_15, if_neg c_18]) (lv_sub hl [0, 1, 3, 4, 5] rfl)
                  · exact absurd (by decide) c_19
                · refine lv_aload_n hx hb dz_M_reserve_67 rfl (lv_at hl 2 rfl) ?_
                  refine va_get (D := (dC, dI)) (ci := 3) (v := .ref a.2.2.2.2.2.2.2.2.1) (C := RzM) (T := TzM) (N := 18) hx hb hz inzM hown hK hP 0 rfl rfl 9 (by decide) (hz _ zi_245) (fun _ h9 => h9) rfl dz_M_reserve_68 ?_
                  refine lv_iload hx hb dz_M_reserve_71 (lv_at hl 0 rfl) ?_
                  have hin_20 : vp_in (nI (j + 1)) 61 := vp_in_nI (by have := hok.1; omega) (by decide)
                  refine va_lald hx hb hK hP 9 1 rfl rfl hin_20 dz_M_reserve_73 ?_
                  refine W.eq (g2 := F0 m 74 ls [.long (zm_ke M (j + 1))]) (congrArg (fun z => F0 m 74 ls (.long ((zm_ke M) z) :: [])) (nI_clamp (by have := hok.1; have := hok.2.1; have := hok.2.2; omega))) ?_
                  refine lv_lconst (v := 0) hx hb dz_M_reserve_74 (by decide) ?_
                  refine W.lcmp hx hb dz_M_reserve_75 ?_
                  refine lv_if_ne (tgt := 94) hx hb dz_M_reserve_76 (by decide) (fun c_21 => ?_) (fun c_21 => ?_)
                  · refine lv_iconst (v := 0) hx hb dz_M_reserve_94 (by decide) ?_
                    refine lv_istore (lv' := [(6, .int 0), (5, .int (nI (j + 1))), (4, .int (nI x)), (0, .ref h0), (1, .int p1), (2, .long p2)]) hx hb dz_M_reserve_95 hl (by decide) rfl (fun ls hl => ?_)
                    refine lv_iload hx hb dz_M_reserve_97 (lv_at hl 0 rfl) ?_
                    refine lv_if_eq (tgt := 129) hx hb dz_M_reserve_99 (by decide) (fun c_22 => ?_) (fun c_22 => ?_)
                    · refine lv_iload hx hb dz_M_reserve_129 (lv_at hl 2 rfl) ?_
                      refine lv_istore (lv' := [(4, .int (nI x)), (6, .int 0), (5, .int (nI (j + 1))), (0, .ref h0), (1, .int p1), (2, .long p2)]) hx hb dz_M_reserve_131 hl (by decide) rfl (fun ls hl => ?_)
                      refine lv_iinc (v := nI (j + 1 + 1)) (lv' := [(5, .int (nI (j + 1 + 1))), (4, .int (nI x)), (6, .int 0), (0, .ref h0), (1, .int p1), (2, .long p2)]) hx hb dz_M_reserve_133 hl (k := 2) rfl (nI_1 _) (by decide) rfl (fun ls hl => ?_)
                      refine lv_goto (tgt := 38) hx hb dz_M_reserve_136 (by decide) ?_
                      exact ih (j + 1) x (by have := hok.1; omega) ls (by omega) (by rw [hinv]; simp only [zm_bs, if_pos c_15, if_pos c_18, if_neg c_21]) (lv_sub hl [0, 1, 3, 4, 5] rfl)
                    · exact absurd (by decide) c_22
                  · refine lv_aload_n hx hb dz_M_reserve_79 rfl (lv_at hl 2 rfl) ?_
                    refine va_get (D := (dC, dI)) (ci := 3) (v := .ref a.1) (C := RzM) (T := TzM) (N := 18) hx hb hz inzM hown hK hP 0 rfl rfl 1 (by decide) (hz _ zi_237) (fun _ h9 => h9) rfl dz_M_reserve_80 ?_
                    refine lv_iload hx hb dz_M_reserve_83 (lv_at hl 0 rfl) ?_
                    have hin_23 : vp_in (nI (j + 1)) 61 := vp_in_nI (by have := hok.1; omega) (by decide)
                    refine va_iald hx hb hK hP 1 0 rfl rfl hin_23 dz_M_reserve_85 ?_
                    refine W.eq (g2 := F0 m 86 ls [.int (zm_sz M (j + 1))]) (congrArg (fun z => F0 m 86 ls (.int ((zm_sz M) z) :: [])) (nI_clamp (by have := hok.1; have := hok.2.1; have := hok.2.2; omega))) ?_
                    refine lv_iload_n hx hb dz_M_reserve_86 rfl (lv_at hl 3 rfl) ?_
                    refine lv_icmp_lt (tgt := 94) hx hb dz_M_reserve_87 (by decide) (fun c_24 => ?_) (fun c_24 => ?_)
                    · refine lv_iconst (v := 0) hx hb dz_M_reserve_94 (by decide) ?_
                      refine lv_istore (lv' := [(6, .int 0), (5, .int (nI (j + 1))), (4, .int (nI x)), (0, .ref h0), (1, .int p1), (2, .long p2)]) hx hb dz_M_reserve_95 hl (by decide) rfl (fun ls hl => ?_)
                      refine lv_iload hx hb dz_M_reserve_97 (lv_at hl 0 rfl) ?_
                      refine lv_if_eq (tgt := 129) hx hb dz_M_reserve_99 (by decide) (fun c_25 => ?_) (fun c_25 => ?_)
                      · refine lv_iload hx hb dz_M_reserve_129 (lv_at hl 2 rfl) ?_
                        refine lv_istore (lv' := [(4, .int (nI x)), (6, .int 0), (5, .int (nI (j + 1))), (0, .ref h0), (1, .int p1), (2, .long p2)]) hx hb dz_M_reserve_131 hl (by decide) rfl (fun ls hl => ?_)
                        refine lv_iinc (v := nI (j + 1 + 1)) (lv' := [(5, .int (nI (j + 1 + 1))), (4, .int (nI x)), (6, .int 0), (0, .ref h0), (1, .int p1), (2, .long p2)]) hx hb dz_M_reserve_133 hl (k := 2) rfl (nI_1 _) (by decide) rfl (fun ls hl => ?_)
                        refine lv_goto (tgt := 38) hx hb dz_M_reserve_136 (by decide) ?_
                        exact ih (j + 1) x (by have := hok.1; omega) ls (by omega) (by rw [hinv]; simp only [zm_bs, if_pos c_15, if_pos c_18, if_pos c_21, if_pos c_24]) (lv_sub hl [0, 1, 3, 4, 5] rfl)
                      · exact absurd (by decide) c_25
                    · refine lv_iconst (v := 1) hx hb dz_M_reserve_90 (by decide) ?_
                      refine lv_goto (tgt := 95) hx hb dz_M_reserve_91 (by decide) ?_
                      refine lv_istore (lv' := [(6, .int 1), (5, .int (nI (j + 1))), (4, .int (nI x)), (0, .ref h0), (1, .int p1), (2, .long p2)]) hx hb dz_M_reserve_95 hl (by decide) rfl (fun ls hl => ?_)
                      refine lv_iload hx hb dz_M_reserve_97 (lv_at hl 0 rfl) ?_
                      refine lv_if_eq (tgt := 129) hx hb dz_M_reserve_99 (by decide) (fun c_26 => ?_) (fun c_26 => ?_)
                      · exact absurd c_26 (by decide)
                      · refine lv_iload hx hb dz_M_reserve_102 (lv_at hl 2 rfl) ?_
                        refine lv_if_eq (tgt := 124) hx hb dz_M_reserve_104 (by decide) (fun c_27 => ?_) (fun c_27 => ?_)
                        · refine lv_iload hx hb dz_M_reserve_124 (lv_at hl 1 rfl) ?_
                          refine lv_goto (tgt := 131) hx hb dz_M_reserve_126 (by decide) ?_
                          refine lv_istore (lv' := [(4, .int (nI (j + 1))), (6, .int 1), (5, .int (nI (j + 1))), (0, .ref h0), (1, .int p1), (2, .long p2)]) hx hb dz_M_reserve_131 hl (by decide) rfl (fun ls hl => ?_)
                          refine lv_iinc (v := nI (j + 1 + 1)) (lv' := [(5, .int (nI (j + 1 + 1))), (4, .int (nI (j + 1))), (6, .int 1), (0, .ref h0), (1, .int p1), (2, .long p2)]) hx hb dz_M_reserve_133 hl (k := 2) rfl (nI_1 _) (by decide) rfl (fun ls hl => ?_)
                          refine lv_goto (tgt := 38) hx hb dz_M_reserve_136 (by decide) ?_
                          exact ih (j + 1) (j + 1) (by have := hok.1; omega) ls (by omega) (by rw [hinv]; simp only [zm_bs, if_pos c_15, if_pos c_18, if_pos c_21, if_neg c_24, if_pos c_27]) (lv_sub hl [0, 1, 3, 4, 5] rfl)
                        · refine lv_aload_n hx hb dz_M_reserve_107 rfl (lv_at hl 3 rfl) ?_
                          refine va_get (D := (dC, dI)) (ci := 3) (v := .ref a.1) (C := RzM) (T := TzM) (N := 18) hx hb hz inzM hown hK hP 0 rfl rfl 1 (by decide) (hz _ zi_237) (fun _ h9 => h9) rfl dz_M_reserve_108 ?_
                          refine lv_iload hx hb dz_M_reserve_111 (lv_at hl 1 rfl) ?_
                          have hin_28 : vp_in (nI (j + 1)) 61 := vp_in_nI (by have := hok.1; omega) (by decide)
                          refine va_iald hx hb hK hP 1 0 rfl rfl hin_28 dz_M_reserve_113 ?_
                          refine W.eq (g2 := F0 m 114 ls [.int (zm_sz M (j + 1))]) (congrArg (fun z => F0 m 114 ls (.int ((zm_sz M) z) :: [])) (nI_clamp (by have := hok.1; have := hok.2.1; have := hok.2.2; omega))) ?_
                          refine lv_aload_n hx hb dz_M_reserve_114 rfl (lv_at hl 3 rfl) ?_
                          refine va_get (D := (dC, dI)) (ci := 3) (v := .ref a.1) (C := RzM) (T := TzM) (N := 18) hx hb hz inzM hown hK hP 0 rfl rfl 1 (by decide) (hz _ zi_237) (fun _ h9 => h9) rfl dz_M_reserve_115 ?_
                          refine lv_iload hx hb dz_M_reserve_118 (lv_at hl 2 rfl) ?_
                          have hin_29 : vp_in (nI x) 61 := vp_in_nI (by have := hok.1; omega) (by decide)
                          refine va_iald hx hb hK hP 1 0 rfl rfl hin_29 dz_M_reserve_120 ?_
                          refine W.eq (g2 := F0 m 121 ls [.int (zm_sz M x), .int (zm_sz M (j + 1))]) (congrArg (fun z => F0 m 121 ls (.int ((zm_sz M) z) :: [.int (zm_sz M (j + 1))])) (nI_clamp (by have := hok.1; have := hok.2.1; have := hok.2.2; omega))) ?_
                          refine lv_icmp_ge (tgt := 129) hx hb dz_M_reserve_121 (by decide) (fun c_30 => ?_) (fun c_30 => ?_)
                          · refine lv_iload hx hb dz_M_reserve_129 (lv_at hl 2 rfl) ?_
                            refine lv_istore (lv' := [(4, .int (nI x)), (6, .int 1), (5, .int (nI (j + 1))), (0, .ref h0), (1, .int p1), (2, .long p2)]) hx hb dz_M_reserve_131 hl (by decide) rfl (fun ls hl => ?_)
                            refine lv_iinc (v := nI (j + 1 + 1)) (lv' := [(5, .int (nI (j + 1 + 1))), (4, .int (nI x)), (6, .int 1), (0, .ref h0), (1, .int p1), (2, .long p2)]) hx hb dz_M_reserve_133 hl (k := 2) rfl (nI_1 _) (by decide) rfl (fun ls hl => ?_)
                            refine lv_goto (tgt := 38) hx hb dz_M_reserve_136 (by decide) ?_
                            exact ih (j + 1) x (by have := hok.1; omega) ls (by omega) (by rw [hinv]; simp only [zm_bs, if_pos c_15, if_pos c_18, if_pos c_21, if_neg c_24, if_neg c_27, if_pos c_30]) (lv_sub hl [0, 1, 3, 4, 5] rfl)
                          · refine lv_iload hx hb dz_M_reserve_124 (lv_at hl 1 rfl) ?_
                            refine lv_goto (tgt := 131) hx hb dz_M_reserve_126 (by decide) ?_
                            refine lv_istore (lv' := [(4, .int (nI (j + 1))), (6, .int 1), (5, .int (nI (j + 1))), (0, .ref h0), (1, .int p1), (2, .long p2)]) hx hb dz_M_reserve_131 hl (by decide) rfl (fun ls hl => ?_)
                            refine lv_iinc (v := nI (j + 1 + 1)) (lv' := [(5, .int (nI (j + 1 + 1))), (4, .int (nI (j + 1))), (6, .int 1), (0, .ref h0), (1, .int p1), (2, .long p2)]) hx hb dz_M_reserve_133 hl (k := 2) rfl (nI_1 _) (by decide) rfl (fun ls hl => ?_)
                            refine lv_goto (tgt := 38) hx hb dz_M_reserve_136 (by decide) ?_
                            exact ih (j + 1) (j + 1) (by have := hok.1; omega) ls (by omega) (by rw [hinv]; simp only [zm_bs, if_pos c_15, if_pos c_18, if_pos c_21, if_neg c_24, if_neg c_27, if_neg c_30]) (lv_sub hl [0, 1, 3, 4, 5] rfl)
        exact loop (zm_nb M) 0 0 (by omega) ls (by omega) rfl (lv_sub hl [0, 1, 2, 3, 4] rfl)
      · refine lv_bipush (v := -12) hx hb dz_M_reserve_29 (by decide) ?_
        have hE_31 : zm_reserve M p1 p2 = ((-12), M) := by simp only [zm_reserve, if_neg c_2, if_neg c_4, if_neg c_6]
        exact W.iret (v := (-12)) hx hb hr (fun t ht hW => ⟨⟨_, (), rfl, by show (-12) = (zm_reserve M p1 p2).1; rw [hE_31], by show va_P (dC, dI) vwCl (zm_W ci cj cz h0 a ((zm_reserve M p1 p2).2)) t.heap; rw [ht, hE_31]; exact hP, by show va_D A (zm_W ci cj cz h0 a ((zm_reserve M p1 p2).2)); rw [hE_31]; exact hD⟩, hS.F ht⟩) hS.2.2 dz_M_reserve_31

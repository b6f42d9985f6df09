/-! the keypad -/
theorem zr_wrong {S : zl_S} {M : zm_S} (h : zr S M) (t : Int64) : (zm_wr M t).1 = 0 ∧ zr (zl_wrong S t) (zm_wr M t).2 := by
  have hR : zm_R M = zl_R S := h.2.2.2.2.2.2.1
  obtain ⟨r0, r2⟩ := h.1.2.2.1
  have k1 : (1 : Int32).toInt = 1 := by decide
  have k3 : (3 : Int32).toInt = 3 := by decide
  have ha : (zl_R S + 1).toInt = (zl_R S).toInt + 1 := by
    rw [Int32.toInt_add, k1]
    exact Int.bmod_eq_of_le (by omega) (by omega)
  have eR : zm_R (zm_sR M (zm_R M + 1)) = zl_R S + 1 := by show zm_R M + 1 = _; rw [hR]
  have eL : zl_R (zl_sR S (zl_R S + 1)) = zl_R S + 1 := rfl
  unfold zl_wrong
  simp only [zm_wr]
  rw [eR, eL]
  by_cases c : zl_R S + 1 < 3
  · have c2 : ¬ zl_R S + 1 = 3 := fun q => by
      rw [Int32.lt_iff_toInt_lt, q] at c; omega
    rw [if_pos c, if_neg c2]
    refine ⟨rfl, ⟨h.1.1, h.1.2.1, ⟨?_, ?_⟩, h.1.2.2.2⟩, ?_⟩
    · show 0 ≤ (zl_R S + 1).toInt
      omega
    · show (zl_R S + 1).toInt ≤ 2
      rw [Int32.lt_iff_toInt_lt, k3] at c; omega
    · rw [hR]; exact zE_R h.2 _
  · have c2 : zl_R S + 1 = 3 := by
      rw [Int32.lt_iff_toInt_lt, k3] at c
      exact Int32.toInt_inj.mp (by rw [k3]; omega)
    rw [if_neg c, if_pos c2]
    refine ⟨rfl, ⟨h.1.1, h.1.2.1, ⟨(by decide : (0 : Int) ≤ (0 : Int32).toInt), (by decide : (0 : Int32).toInt ≤ (2 : Int))⟩, h.1.2.2.2⟩, ?_⟩
    have E1 := zE_R h.2 (zm_R M + 1)
    rw [hR] at E1 ⊢
    exact zE_K (zE_R E1 0) (t + 300)
theorem zb_lies1 {b : zb_T} {x : Int32} (hx : ¬ x = -1) (e : zb_Co b = x) : ¬ zb_lies b = 0 := by
  unfold zb_lies
  rw [if_neg (fun q => hx (e.symm.trans q))]
  decide
/-- the box that has a code, in the class's words -/
theorem zl_nc_spec {S : zl_S} {x : Int32} (hx : ¬ x = -1) : ∀ (k j : Nat), j + k = zl_n S → (zl_nc (zl_B S) x k j = 0 ∧ ∀ i, j ≤ i → i < zl_n S → ¬ zb_Co (zl_B S i) = x) ∨ ∃ i, j ≤ i ∧ i < zl_n S ∧ zb_Co (zl_B S i) = x ∧ zl_nc (zl_B S) x k j = nI (i + 1) := by
  intro k
  induction k with
  | zero => intro j hj; exact Or.inl ⟨rfl, fun i h1 h2 => by omega⟩
  | succ k ih =>
    intro j hj
    have next : zb_Co (zl_B S j) ≠ x → zl_nc (zl_B S) x (k + 1) j = zl_nc (zl_B S) x k (j + 1) := fun q => by
      show (if zb_lies (zl_B S j) = 0 then _ else _) = _
      by_cases c : zb_lies (zl_B S j) = 0
      · rw [if_pos c]
      · rw [if_neg c, if_neg q]
    by_cases c : zb_Co (zl_B S j) = x
    · refine Or.inr ⟨j, Nat.le_refl _, by omega, c, ?_⟩
      show (if zb_lies (zl_B S j) = 0 then _ else _) = _
      rw [if_neg (zb_lies1 hx c), if_pos c]
    · rw [next c]
      rcases ih (j + 1) (by omega) with ⟨g1, g2⟩ | ⟨i, g1, g2, g3, g4⟩
      · refine Or.inl ⟨g1, fun i h1 h2 => ?_⟩
        by_cases hij : i = j
        · rw [hij]; exact c
        · exact g2 i (by omega) h2
      · exact Or.inr ⟨i, by omega, g2, g3, g4⟩
theorem zm_ty_none {S : zl_S} {M : zm_S} (h : zr S M) {x : Int32} {t : Int64} : ∀ (k j : Nat), j + k = zl_n S → (∀ i, j ≤ i → i < zl_n S → zb_Co (zl_B S i) = x → ¬ zb_Dr (zl_B S i) = 0) → zm_ty M x t k j = zm_wr M t := by
  intro k
  induction k with
  | zero => intro j _ _; rfl
  | succ k ih =>
    intro j hj hno
    obtain ⟨-, f2, -, -, -, f6, -, -, -⟩ := zr_f h.2 (show j < zl_n S by omega)
    have hr := ih (j + 1) (by omega) (fun i h1 h2 => hno i (by omega) h2)
    show (if zm_co M (j + 1) = x then (if zm_dr M (j + 1) = 0 then _ else _) else _) = _
    rw [f6, f2]
    by_cases c : zb_Co (zl_B S j) = x
    · rw [if_pos c, if_neg (hno j (Nat.le_refl _) (by omega) c)]; exact hr
    · rw [if_neg c]; exact hr
theorem zm_ty_some {S : zl_S} {M : zm_S} (h : zr S M) {x : Int32} {t : Int64} (hx : ¬ x = -1) {i : Nat} (hi : i < zl_n S) (hc : zb_Co (zl_B S i) = x) (hd : zb_Dr (zl_B S i) = 0) : ∀ (k j : Nat), j + k = zl_n S → j ≤ i → zm_ty M x t k j = (nI (i + 1), zm_sR (zm_open (zm_out M (nI (i + 1))).2 (nI (i + 1)) 1) 0) := by
  intro k
  induction k with
  | zero => intro j h1 h2; omega
  | succ k ih =>
    intro j hj hji
    obtain ⟨-, f2, -, -, -, f6, -, -, -⟩ := zr_f h.2 (show j < zl_n S by omega)
    show (if zm_co M (j + 1) = x then (if zm_dr M (j + 1) = 0 then _ else _) else _) = _
    rw [f6, f2]
    by_cases c : zb_Co (zl_B S j) = x
    · have hij : j = i := h.1.2.2.2.2.1 j i (by omega) hi (by rw [c]; exact hx) (by rw [c, hc])
      subst hij
      rw [if_pos c, if_pos hd]
    · rw [if_neg c]
      have hne : j ≠ i := fun q => c (by rw [q]; exact hc)
      exact ih (j + 1) (by omega) (by omega)
theorem zr_type {S : zl_S} {M : zm_S} (h : zr S M) (x : Int32) (t : Int64) : (zl_type S x t).1 = (zm_type M x t).1 ∧ zr (zl_type S x t).2 (zm_type M x t).2 := by
  unfold zl_type
  simp only [zm_type]
  by_cases c : zl_isCode x = 0
  · rw [if_pos c, if_pos ((zr_cde x).mp c)]; exact ⟨rfl, h⟩
  · rw [if_neg c, if_neg (fun q => c ((zr_cde x).mpr q))]
    have hx : ¬ x = -1 := fun q => by
      have hw := (zr_w (x := x) (a := 0) (b := 999999) (A := 0) (B := 999999) (by decide) (by decide))
      have k0 : (0 : Int32).toInt = 0 := by decide
      have km : (-1 : Int32).toInt = -1 := by decide
      have r : ¬ zm_within x.toInt64 0 999999 = 0 := fun q => c ((zr_cde x).mpr q)
      rw [hw, k0, q, km] at r
      omega
    by_cases c2 : zl_isTime S t = 0
    · rw [if_pos c2, if_neg ((zr_no h t).mp c2)]; exact ⟨rfl, h⟩
    · have c3 : zm_isNo M t = 0 := Classical.not_not.mp (fun q => c2 ((zr_no h t).mpr q))
      rw [if_neg c2, if_pos c3]
      have hp := zr_pass h c2
      have hT1 : zl_T (zl_passTo S t) = t := zl_T_pass
      generalize zl_passTo S t = S1 at hp hT1 ⊢
      generalize zm_pass M t = M1 at hp ⊢
      have hK : zm_K M1 = zl_K S1 := hp.2.2.2.2.2.2.2.1
      have hn : zm_nb M1 = zl_n S1 := hp.2.1
      have h60 := (zr_okl hp).1
      rw [hK, hn]
      by_cases c4 : 0 ≤ lg_cmp t (zl_K S1)
      · rw [if_pos c4, if_pos c4]
        have hwr := zr_wrong hp t
        rcases zl_nc_spec (S := S1) hx (zl_n S1) 0 (by omega) with ⟨g1, g2⟩ | ⟨i, -, g2, g3, g4⟩
        · have e1 : zl_boxNumberOfCode S1 x = 0 := g1
          have e2 : zl_boxAt S1 0 = none := by unfold zl_boxAt; rw [if_pos (show (0 : Int32) < 1 by decide)]
          rw [e1, e2]
          rw [zm_ty_none hp (zl_n S1) 0 (by omega) (fun i h1 h2 h3 => absurd h3 (g2 i h1 h2))]
          exact ⟨hwr.1.symm, hwr.2⟩
        · have e1 : zl_boxNumberOfCode S1 x = nI (i + 1) := g4
          rw [e1, zl_boxAt_nI (zr_okl hp) g2]
          by_cases d : zb_Dr (zl_B S1 i) = 0
          · rw [zm_ty_some hp hx g2 g3 d (zl_n S1) 0 (by omega) (by omega)]
            have ho := (zr_out hp g2).2
            have hq := zr_open ho (show i < zl_n (zl_sB S1 i (zb_clear (zl_B S1 i))) from g2) 1
            have eT : zl_T (zl_sB S1 i (zb_clear (zl_B S1 i))) = t := hT1
            rw [eT, zl_BsB, zl_sBB] at hq
            show (if zb_Dr (zl_B S1 i) = 0 then _ else _ : Int32 × zl_S).1 = _ ∧ zr (if zb_Dr (zl_B S1 i) = 0 then _ else _ : Int32 × zl_S).2 _
            rw [if_pos d]
            refine ⟨rfl, ?_⟩
            have eS : zl_sB (zl_sB (zl_sR S1 0) i (zb_clear (zl_B (zl_sR S1 0) i))) i (zb_begin (zl_B (zl_sB (zl_sR S1 0) i (zb_clear (zl_B (zl_sR S1 0) i))) i) 1 t) = zl_sR (zl_sB S1 i (zb_begin (zb_clear (zl_B S1 i)) 1 t)) 0 := by
              rw [zl_BsB, zl_sBB]; rfl
            rw [eS]
            exact ⟨⟨hq.1.1, hq.1.2.1, ⟨(by decide : (0 : Int) ≤ (0 : Int32).toInt), (by decide : (0 : Int32).toInt ≤ (2 : Int))⟩, hq.1.2.2.2⟩, zE_R hq.2 0⟩
          · rw [zm_ty_none hp (zl_n S1) 0 (by omega) (fun k h1 h2 h3 => by
              have hki : k = i := hp.1.2.2.2.2.1 k i h2 g2 (by rw [h3]; exact hx) (by rw [h3, g3])
              rw [hki]; exact d)]
            show (if zb_Dr (zl_B S1 i) = 0 then _ else _ : Int32 × zl_S).1 = _ ∧ zr (if zb_Dr (zl_B S1 i) = 0 then _ else _ : Int32 × zl_S).2 _
            rw [if_neg d]
            exact ⟨hwr.1.symm, hwr.2⟩
      · rw [if_neg c4, if_neg c4]; exact ⟨rfl, hp⟩

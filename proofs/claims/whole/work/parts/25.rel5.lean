theorem zr_tape {S : zl_S} {M : zm_S} (h : zr S M) (x : Int32) : (zl_tape S x).1 = (zm_tape M x).1 ∧ zr (zl_tape S x).2 (zm_tape M x).2 := by
  have hI := h.1
  have h200 := hI.1.2.1
  obtain ⟨e1, e2, e3, e4, e5, e6, e7, e8, e9, e10, e11⟩ := h.2
  unfold zl_tape
  simp only [zm_tape, e8]
  by_cases c : zl_isCode x = 0
  · rw [if_pos c, if_pos ((zr_cde x).mp c)]; exact ⟨rfl, h⟩
  · rw [if_neg c, if_neg (fun q => c ((zr_cde x).mpr q))]
    by_cases c2 : nI (zl_P S).2 < 200
    · have hlt := zt_lt200 h200 c2
      have ea : zt_append (zl_P S) x = (1, (upd (zl_P S).1 (zl_P S).2 x, (zl_P S).2 + 1)) := by
        unfold zt_append
        rw [if_pos c2, nI_clamp (by omega)]
      have cn : ¬ nI (zl_P S).2 = 200 := fun q => by
        have := (nI_eq (a := (zl_P S).2) (b := 200) (by omega) (by omega)).mp q
        omega
      rw [ea]
      rw [if_neg (show ¬ (1 : Int32) = 0 by decide), if_neg cn]
      have hx : 0 ≤ x.toInt := by
        have hw := (zr_w (x := x) (a := 0) (b := 999999) (A := 0) (B := 999999) (by decide) (by decide))
        have k0 : (0 : Int32).toInt = 0 := by decide
        have q : ¬ zm_within x.toInt64 0 999999 = 0 := fun q => c ((zr_cde x).mpr q)
        rw [hw, k0] at q
        omega
      refine ⟨(by show nI ((zl_P S).2 + 1) = nI (zm_tn M + 1); rw [e8]), ⟨⟨hI.1.1, by show (zl_P S).2 + 1 ≤ 200; omega, hI.1.2.2⟩, hI.2.1, hI.2.2.1, hI.2.2.2.1, hI.2.2.2.2.1, ?_⟩, e1, e2, e3, e4, e5, e6, e7, (by show zm_tn M + 1 = (zl_P S).2 + 1; rw [e8]), ?_, e10, e11⟩
      · intro i hi
        have hi : i < (zl_P S).2 + 1 := hi
        show 0 ≤ (upd (zl_P S).1 (zl_P S).2 x i).toInt
        by_cases hk : i = (zl_P S).2
        · rw [hk, pk_us]; exact hx
        · rw [pk_un hk]; exact hI.2.2.2.2.2 i (by omega)
      · intro i hi
        have hi : i < (zl_P S).2 + 1 := hi
        show upd (zm_tp M) (zl_P S).2 x i = upd (zl_P S).1 (zl_P S).2 x i
        by_cases hk : i = (zl_P S).2
        · rw [hk, pk_us, pk_us]
        · rw [pk_un hk, pk_un hk]; exact e9 i (by omega)
    · have hge : (zl_P S).2 = 200 := by
        have : ¬ (zl_P S).2 < 200 := fun q => c2 (nI_lt (b := 200) q (by decide))
        omega
      have ea : zt_append (zl_P S) x = (0, zl_P S) := by unfold zt_append; rw [if_neg c2]
      rw [ea]
      rw [if_pos rfl, if_pos (by rw [hge]; rfl)]
      exact ⟨rfl, h⟩
theorem zr_box {S : zl_S} {M : zm_S} (h : zr S M) (x : Int32) : (zl_addbox S x).1 = (zm_box M x).1 ∧ zr (zl_addbox S x).2 (zm_box M x).2 := by
  have hI := h.1
  have h60 := hI.1.1
  obtain ⟨e1, e2, e3, e4, e5, e6, e7, e8, e9, e10, e11⟩ := h.2
  unfold zl_addbox
  simp only [zm_box, e1]
  by_cases c : zl_isSize x = 0
  · rw [if_pos c, if_pos ((zr_size x).mp c)]; exact ⟨rfl, h⟩
  · rw [if_neg c, if_neg (fun q => c ((zr_size x).mpr q))]
    by_cases c2 : nI (zl_n S) < 60
    · have hlt := zl_lt60 hI.1 c2
      have cn : ¬ nI (zl_n S) = 60 := fun q => by
        have := (nI_eq (a := zl_n S) (b := 60) (by omega) (by omega)).mp q
        omega
      have hx : 1 ≤ x.toInt ∧ x.toInt ≤ 5 := by
        have hw := (zr_w (x := x) (a := 1) (b := 5) (A := 1) (B := 5) (by decide) (by decide))
        have k1 : (1 : Int32).toInt = 1 := by decide
        have k5 : (5 : Int32).toInt = 5 := by decide
        have q : ¬ zm_within x.toInt64 1 5 = 0 := fun q => c ((zr_size x).mpr q)
        rw [hw, k1, k5] at q
        exact Classical.not_not.mp q
      rw [if_pos c2, if_neg cn]
      refine ⟨rfl, ⟨⟨by show zl_n S + 1 ≤ 60; omega, hI.1.2⟩, hI.2.1, hI.2.2.1, ?_, ?_, hI.2.2.2.2.2⟩, rfl, ?_, ?_, e4, e5, e6, e7, e8, e9, e10, e11⟩
      · intro i hi
        have hi : i < zl_n S + 1 := hi
        show zr_bi (va_up (zl_B S) (zl_n S) (zb_init zb_0 x) i)
        by_cases hk : i = zl_n S
        · rw [hk, va_up_self]
          exact ⟨hx, (by decide : (0 : Int) ≤ (0 : Int32).toInt), (by decide : (-1 : Int) ≤ (-1 : Int32).toInt), fun _ => rfl, (by decide : (0 : Int) ≤ (0 : Int64).toInt)⟩
        · rw [va_up_ne _ _ hk]; exact hI.2.2.2.1 i (by omega)
      · intro i j hi hj
        have hi : i < zl_n S + 1 := hi
        have hj : j < zl_n S + 1 := hj
        show zb_Co (va_up (zl_B S) (zl_n S) (zb_init zb_0 x) i) ≠ -1 → zb_Co (va_up (zl_B S) (zl_n S) (zb_init zb_0 x) i) = zb_Co (va_up (zl_B S) (zl_n S) (zb_init zb_0 x) j) → i = j
        intro hn he
        by_cases hk : i = zl_n S
        · rw [hk, va_up_self] at hn; exact absurd rfl hn
        · rw [va_up_ne _ _ hk] at hn he
          by_cases hl : j = zl_n S
          · rw [hl, va_up_self] at he; exact absurd he hn
          · rw [va_up_ne _ _ hl] at he
            exact hI.2.2.2.2.1 i j (by omega) (by omega) hn he
      · intro i hi
        have hi : i < zl_n S + 1 := hi
        show (upd (zm_sz M) (zl_n S + 1) x (i + 1), zm_dr M (i + 1), zm_si M (i + 1), zm_to M (i + 1), zm_it M (i + 1), upd (zm_co M) (zl_n S + 1) (-1) (i + 1), zm_li M (i + 1), zm_la M (i + 1), zm_ke M (i + 1)) = va_up (zl_B S) (zl_n S) (zb_init zb_0 x) i
        by_cases hk : i = zl_n S
        · have h0 := e3 i (by omega)
          rw [hk, va_up_self, pk_us, pk_us]
          rw [hk] at h0
          have g2 : zm_dr M (zl_n S + 1) = 0 := congrArg zb_Dr h0
          have g3 : zm_si M (zl_n S + 1) = 0 := congrArg zb_Os h0
          have g4 : zm_to M (zl_n S + 1) = 0 := congrArg zb_To h0
          have g5 : zm_it M (zl_n S + 1) = 0 := congrArg zb_It h0
          have g7 : zm_li M (zl_n S + 1) = 0 := congrArg zb_Ls h0
          have g8 : zm_la M (zl_n S + 1) = 0 := congrArg zb_La h0
          have g9 : zm_ke M (zl_n S + 1) = 0 := congrArg zb_Ke h0
          rw [g2, g3, g4, g5, g7, g8, g9]
          rfl
        · rw [va_up_ne _ _ hk, pk_un (by omega), pk_un (by omega)]
          exact e2 i (by omega)
      · intro i hi
        have hi : zl_n S + 1 ≤ i := hi
        show (upd (zm_sz M) (zl_n S + 1) x (i + 1), zm_dr M (i + 1), zm_si M (i + 1), zm_to M (i + 1), zm_it M (i + 1), upd (zm_co M) (zl_n S + 1) (-1) (i + 1), zm_li M (i + 1), zm_la M (i + 1), zm_ke M (i + 1)) = zb_0
        rw [pk_un (by omega), pk_un (by omega)]
        exact e3 i (by omega)
    · have hge : zl_n S = 60 := by
        have : ¬ zl_n S < 60 := fun q => c2 (nI_lt (b := 60) q (by decide))
        omega
      rw [if_neg c2, if_pos (by rw [hge]; rfl)]
      exact ⟨rfl, h⟩

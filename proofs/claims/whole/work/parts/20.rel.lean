/-! THE RELATION between the class's state and the reference's -/
def zr_B (M : zm_S) (i : Nat) : zb_T := (zm_sz M (i + 1), zm_dr M (i + 1), zm_si M (i + 1), zm_to M (i + 1), zm_it M (i + 1), zm_co M (i + 1), zm_li M (i + 1), zm_la M (i + 1), zm_ke M (i + 1))
/-- one box: sizes, items, codes, times as they must be -/
def zr_bi (b : zb_T) : Prop := (1 ≤ (zb_Sz b).toInt ∧ (zb_Sz b).toInt ≤ 5) ∧ 0 ≤ (zb_It b).toInt ∧ -1 ≤ (zb_Co b).toInt ∧ (zb_Co b = -1 → zb_La b = 0) ∧ 0 ≤ (zb_Ke b).toInt
/-- what holds of the class's state alone -/
def zr_I (S : zl_S) : Prop := zl_ok S ∧ 0 ≤ (zl_T S).toInt ∧ (0 ≤ (zl_R S).toInt ∧ (zl_R S).toInt ≤ 2) ∧ (∀ i, i < zl_n S → zr_bi (zl_B S i)) ∧ (∀ i j, i < zl_n S → j < zl_n S → zb_Co (zl_B S i) ≠ -1 → zb_Co (zl_B S i) = zb_Co (zl_B S j) → i = j) ∧ (∀ i, i < (zl_P S).2 → 0 ≤ ((zl_P S).1 i).toInt)
/-- the two states agree -/
def zr_E (S : zl_S) (M : zm_S) : Prop := zm_nb M = zl_n S ∧ (∀ i, i < zl_n S → zr_B M i = zl_B S i) ∧ (∀ i, zl_n S ≤ i → zr_B M i = zb_0) ∧ zm_T M = zl_T S ∧ zm_A M = zl_A S ∧ zm_R M = zl_R S ∧ zm_K M = zl_K S ∧ zm_tn M = (zl_P S).2 ∧ (∀ i, i < (zl_P S).2 → zm_tp M i = (zl_P S).1 i) ∧ zm_fn M = zl_k S ∧ (∀ i, i < zl_k S → zm_fr M i = zl_F S i)
def zr (S : zl_S) (M : zm_S) : Prop := zr_I S ∧ zr_E S M
theorem zr_okl {S : zl_S} {M : zm_S} (h : zr S M) : zl_ok S := h.1.1
theorem zr_okm {S : zl_S} {M : zm_S} (h : zr S M) : zm_ok M := by
  obtain ⟨⟨⟨h1, h2, h3⟩, -⟩, e1, -, -, -, -, -, -, e2, -, e3, -⟩ := h
  exact ⟨by rw [e1]; exact h1, by rw [e2]; exact h2, by rw [e3]; exact h3⟩
theorem zr_new : zr zl_new zm_new := by
  refine ⟨⟨⟨Nat.zero_le _, Nat.zero_le _, Nat.zero_le _⟩, by decide, by decide, ?_, ?_, ?_⟩, rfl, ?_, ?_, rfl, rfl, rfl, rfl, rfl, ?_, rfl, ?_⟩
  · intro i hi; exact absurd hi (Nat.not_lt_zero _)
  · intro i j hi; exact absurd hi (Nat.not_lt_zero _)
  · intro i hi; exact absurd hi (Nat.not_lt_zero _)
  · intro i hi; exact absurd hi (Nat.not_lt_zero _)
  · intro i _; rfl
  · intro i hi; exact absurd hi (Nat.not_lt_zero _)
  · intro i hi; exact absurd hi (Nat.not_lt_zero _)

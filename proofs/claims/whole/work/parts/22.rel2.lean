theorem zr_w {x a b : Int32} {A B : Int64} (hA : A.toInt = a.toInt) (hB : B.toInt = b.toInt) : zm_within x.toInt64 A B = 0 ↔ ¬ (a.toInt ≤ x.toInt ∧ x.toInt ≤ b.toInt) := by
  constructor
  · intro h
    have h1 := zm_within_no h
    rw [zm_i2l, hA, hB] at h1
    exact h1
  · intro h
    rcases zm_within_01 x.toInt64 A B with q | q
    · exact q
    · exfalso
      have h1 := zm_within_yes (x := x.toInt64) (y := A) (z := B) (by rw [q]; decide)
      rw [zm_i2l, hA, hB] at h1
      exact h h1
theorem zr_rng {x a b : Int32} {A B : Int64} (hA : A.toInt = a.toInt) (hB : B.toInt = b.toInt) : (if x < a then (0 : Int32) else if b < x then 0 else 1) = 0 ↔ zm_within x.toInt64 A B = 0 := by
  rw [zr_w hA hB]
  by_cases c1 : x < a
  · rw [if_pos c1]
    rw [Int32.lt_iff_toInt_lt] at c1
    exact ⟨fun _ q => by omega, fun _ => rfl⟩
  · rw [if_neg c1]
    rw [Int32.lt_iff_toInt_lt] at c1
    by_cases c2 : b < x
    · rw [if_pos c2]
      rw [Int32.lt_iff_toInt_lt] at c2
      exact ⟨fun _ q => by omega, fun _ => rfl⟩
    · rw [if_neg c2]
      rw [Int32.lt_iff_toInt_lt] at c2
      exact ⟨fun q => absurd q (by decide), fun q => absurd ⟨by omega, by omega⟩ q⟩
theorem zr_size (x : Int32) : zl_isSize x = 0 ↔ zm_within x.toInt64 1 5 = 0 := zr_rng (a := 1) (b := 5) (by decide) (by decide)
theorem zr_itm (x : Int32) : zl_isItem x = 0 ↔ zm_within x.toInt64 1 9999 = 0 := zr_rng (a := 1) (b := 9999) (by decide) (by decide)
theorem zr_cde (x : Int32) : zl_isCode x = 0 ↔ zm_within x.toInt64 0 999999 = 0 := zr_rng (a := 0) (b := 999999) (by decide) (by decide)
theorem zr_evt (x : Int32) : zb_isEvent x = 0 ↔ zm_within x.toInt64 0 4 = 0 := zr_rng (a := 0) (b := 4) (by decide) (by decide)
theorem zr_no {S : zl_S} {M : zm_S} (h : zr S M) (t : Int64) : zl_isTime S t = 0 ↔ ¬ zm_isNo M t = 0 := by
  have hT : zm_T M = zl_T S := h.2.2.2.2.1
  unfold zl_isTime zm_isNo
  rw [hT]
  by_cases c1 : lg_cmp t (zl_T S) < 0
  · rw [if_pos c1, if_pos c1]; exact ⟨fun _ => by decide, fun _ => rfl⟩
  · rw [if_neg c1, if_neg c1]
    by_cases c2 : lg_cmp t 2000000000 ≤ 0
    · have c3 : ¬ 0 < lg_cmp t 2000000000 := by
        rw [lg_cmp_gt]; rw [lg_cmp_le] at c2
        rw [Int64.lt_iff_toInt_lt]; rw [Int64.le_iff_toInt_le] at c2; omega
      rw [if_pos c2, if_neg c3]; exact ⟨fun q => absurd q (by decide), fun q => absurd rfl q⟩
    · have c3 : 0 < lg_cmp t 2000000000 := by
        rw [lg_cmp_gt]; rw [lg_cmp_le] at c2
        rw [Int64.lt_iff_toInt_lt]; rw [Int64.le_iff_toInt_le] at c2; omega
      rw [if_neg c2, if_pos c3]; exact ⟨fun _ => by decide, fun _ => rfl⟩
theorem zr_tge {S : zl_S} (h : zr_I S) {t : Int64} (c : ¬ zl_isTime S t = 0) : 0 ≤ t.toInt := by
  unfold zl_isTime at c
  by_cases c1 : lg_cmp t (zl_T S) < 0
  · rw [if_pos c1] at c; exact absurd rfl c
  · rw [lg_cmp_lt, Int64.lt_iff_toInt_lt] at c1
    have := h.2.1
    omega
theorem zr_at {S : zl_S} {M : zm_S} (h : zr S M) (x : Int32) : (zl_boxAt S x = none ∧ zm_isBox M x = 0) ∨ ∃ i, i < zl_n S ∧ x = nI (i + 1) ∧ zl_boxAt S x = some i ∧ ¬ zm_isBox M x = 0 := by
  have hok := zr_okl h
  have h60 := hok.1
  have hnb : zm_nb M = zl_n S := h.2.1
  have hw : zm_isBox M x = 0 ↔ ¬ (1 ≤ x.toInt ∧ x.toInt ≤ (zl_n S : Int)) := by
    have h1 := zr_w (x := x) (a := 1) (b := nI (zl_n S)) (A := 1) (B := (nI (zl_n S)).toInt64) (by decide) (zm_i2l _)
    rw [nI_toInt (by omega)] at h1
    unfold zm_isBox
    rw [hnb]
    exact h1
  by_cases c : 1 ≤ x.toInt ∧ x.toInt ≤ (zl_n S : Int)
  · refine Or.inr ⟨(x.toInt - 1).toNat, by omega, ?_, ?_, fun q => hw.mp q c⟩
    · exact Int32.toInt_inj.mp (by rw [nI_toInt (by omega)]; omega)
    · have hx : x = nI ((x.toInt - 1).toNat + 1) := Int32.toInt_inj.mp (by rw [nI_toInt (by omega)]; omega)
      have h2 := zl_boxAt_nI (j := (x.toInt - 1).toNat) hok (by omega)
      rw [← hx] at h2
      exact h2
  · refine Or.inl ⟨?_, hw.mpr c⟩
    unfold zl_boxAt
    by_cases c1 : x < 1
    · rw [if_pos c1]
    · rw [if_neg c1]
      by_cases c2 : nI (zl_n S) < x
      · rw [if_pos c2]
      · exfalso
        rw [Int32.lt_iff_toInt_lt] at c1 c2
        rw [nI_toInt (by omega)] at c2
        have h1 : (1 : Int32).toInt = 1 := by decide
        rw [h1] at c1
        exact c ⟨by omega, by omega⟩
theorem zr_cl {i : Nat} (h : i < 60) : (nI (i + 1)).toNatClampNeg = i + 1 := nI_clamp (by omega)
/-- the boxes' fields on both sides -/
theorem zr_f {S : zl_S} {M : zm_S} (h : zr_E S M) {i : Nat} (hi : i < zl_n S) : zm_sz M (i + 1) = zb_Sz (zl_B S i) ∧ zm_dr M (i + 1) = zb_Dr (zl_B S i) ∧ zm_si M (i + 1) = zb_Os (zl_B S i) ∧ zm_to M (i + 1) = zb_To (zl_B S i) ∧ zm_it M (i + 1) = zb_It (zl_B S i) ∧ zm_co M (i + 1) = zb_Co (zl_B S i) ∧ zm_li M (i + 1) = zb_Ls (zl_B S i) ∧ zm_la M (i + 1) = zb_La (zl_B S i) ∧ zm_ke M (i + 1) = zb_Ke (zl_B S i) := by
  have e := h.2.1 i hi
  exact ⟨congrArg zb_Sz e, congrArg zb_Dr e, congrArg zb_Os e, congrArg zb_To e, congrArg zb_It e, congrArg zb_Co e, congrArg zb_Ls e, congrArg zb_La e, congrArg zb_Ke e⟩
theorem zr_item {S : zl_S} {M : zm_S} (h : zr S M) (x : Int32) : zl_item S x = zm_item M x ∧ True := by
  refine ⟨?_, trivial⟩
  rcases zr_at h x with ⟨a1, a2⟩ | ⟨i, hi, rfl, a1, a2⟩
  · simp only [zl_item, zm_item, a1, if_pos a2]
  · obtain ⟨-, -, -, -, f5, -, -, f8, -⟩ := zr_f h.2 hi
    have h60 := (zr_okl h).1
    simp only [zl_item, zm_item, a1, if_neg a2, zr_cl (show i < 60 by omega), f5, f8]
theorem zr_freed {S : zl_S} {M : zm_S} (h : zr S M) (x : Int32) : zl_freed S x = zm_freed M x ∧ True := by
  refine ⟨?_, trivial⟩
  obtain ⟨⟨hok, -⟩, -, -, -, -, -, -, -, -, -, e10, e11⟩ := h
  have h100 := hok.2.2
  have h2 : (nI (zm_fn M) - 1).toInt = (zl_k S : Int) - 1 := by rw [e10]; exact pk_sub_toInt (b := 1) (by omega) (by omega)
  have hw := zr_w (x := x) (a := 0) (b := nI (zm_fn M) - 1) (A := 0) (B := (nI (zm_fn M) - 1).toInt64) (by decide) (zm_i2l _)
  rw [h2] at hw
  have h0 : (0 : Int32).toInt = 0 := by decide
  rw [h0] at hw
  unfold zl_freed zm_freed
  by_cases c1 : x < 0
  · rw [if_pos c1, if_pos (hw.mpr (by rw [Int32.lt_iff_toInt_lt, h0] at c1; omega))]
  · rw [if_neg c1]
    by_cases c2 : nI (zl_k S) ≤ x
    · rw [if_pos c2, if_pos (hw.mpr (by rw [Int32.le_iff_toInt_le, nI_toInt (by omega)] at c2; omega))]
    · rw [if_neg c2]
      rw [Int32.lt_iff_toInt_lt, h0] at c1
      rw [Int32.le_iff_toInt_le, nI_toInt (by omega)] at c2
      have c3 : ¬ 100 ≤ x := by
        rw [Int32.le_iff_toInt_le]
        have h3 : (100 : Int32).toInt = 100 := by decide
        rw [h3]; omega
      rw [if_neg c3, if_neg (fun q => hw.mp q ⟨by omega, by omega⟩)]
      refine (e11 _ ?_).symm
      show x.toInt.toNat < zl_k S
      omega

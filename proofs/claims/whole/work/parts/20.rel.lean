/-! THE RELATION between the class's state and the reference's -/
def zr_B (M : zm_S) (i : Nat) : zb_T := (zm_sz M (i + 1), zm_dr M (i + 1), zm_si M (i + 1), zm_to M (i + 1), zm_it M (i + 1), zm_co M (i + 1), zm_li M (i + 1), zm_la M (i + 1), zm_ke M (i + 1))
/-- one box: sizes, items, codes, times as they must be -/
def zr_bi (b : zb_T) : Prop := (1 ≤ (zb_Sz b).toInt ∧ (zb_Sz b).toInt ≤ 5) ∧ 0 ≤ (zb_It b).toInt ∧ -1 ≤ (zb_Co b).toInt ∧ (zb_Co b = -1 → zb_La b = 0) ∧ 0 ≤ (zb_Ke b).toInt
/-- what holds of the class's state alone -/
def zr_I (S : zl_S) : Prop := zl_ok S ∧ 0 ≤ (zl_T S).toInt ∧ (0 ≤ (zl_R S).toInt ∧ (zl_R S).toInt ≤ 2) ∧ (∀ i, i < zl_n S → zr_bi (zl_B S i)) ∧ (∀ i j, i < zl_n S → j < zl_n S → zb_Co (zl_B S i) ≠ -1 → zb_Co (zl_B S i) = zb_Co (zl_B S j) → i = j) ∧ (∀ i, i < (zl_P S).2 → 0 ≤ ((zl_P S).1 i).toInt)
/-- the two states agree -/
def zr_E (S : zl_S) (M : zm_S) : Prop := zm_nb M = zl_n S ∧ (∀ i, i < zl_n S → zr_B M i = zl_B S i) ∧ (∀ i, zl_n S ≤ i → zr_B M i = zb_0) ∧ zm_T M = zl_T S ∧ zm_A M = zl_A S ∧ zm_R M = zl_R S ∧ zm_K M = zl_K S ∧ zm_tn M = (zl_P S).2 ∧ (∀ i, i < (zl_P S).2 → zm_tp M i = (zl_P S).1 i) ∧ zm_fn M = zl_k S ∧ (∀ i, i < zl_k S → zm_fr M i = zl_F S i)
def zr (S : zl_S) (M : zm_S) : Prop := zr_I S ∧ zr_E S M
theorem zr_okl {S : zl_S} {M : zm_S} (h : zr S M) : zl_ok S := h.1.1
theorem zr_okm {S : zl_S} {M : zm_S} (h : zr S M) : zm_ok M := by
  obtain ⟨⟨⟨h1, h2, h3⟩, -⟩, e1, -, -, -, -, -, -, e2, -, e3, -⟩ := h
  exact ⟨by rw [e1]; exact h1, by rw [e2]; exact h2, by rw [e3]; exact h3⟩
theorem zr_new : zr zl_new zm_new := by
  refine ⟨⟨⟨Nat.zero_le _, Nat.zero_le _, Nat.zero_le _⟩, by decide, by decide, ?_, ?_, ?_⟩, rfl, ?_, ?_, rfl, rfl, rfl, rfl, rfl, ?_, rfl, ?_⟩
  · intro i hi; exact absurd hi (Nat.not_lt_zero _)
  · intro i j hi; exact absurd hi (Nat.not_lt_zero _)
  · intro i hi; exact absurd hi (Nat.not_lt_zero _)
  · intro i hi; exact absurd hi (Nat.not_lt_zero _)
  · intro i _; rfl
  · intro i hi; exact absurd hi (Nat.not_lt_zero _)
  · intro i hi; exact absurd hi (Nat.not_lt_zero _)
theorem zl_sBB {S : zl_S} {i : Nat} {b1 b2 : zb_T} : zl_sB (zl_sB S i b1) i b2 = zl_sB S i b2 := by
  show (va_up (va_up (zl_B S) i b1) i b2, _) = _
  rw [bx_uu]
  rfl
theorem zl_BsB {S : zl_S} {i : Nat} {b : zb_T} : zl_B (zl_sB S i b) i = b := va_up_self _ _ _
theorem zl_BsBn {S : zl_S} {i j : Nat} {b : zb_T} (h : j ≠ i) : zl_B (zl_sB S i b) j = zl_B S j := va_up_ne _ _ h
theorem zr_Eup {S : zl_S} {M N : zm_S} {i : Nat} {b : zb_T} (h : zr_E S M) (hi : i < zl_n S) (hs : zr_B N i = b) (hn : ∀ k, k ≠ i → zr_B N k = zr_B M k) (h0 : zm_nb N = zm_nb M ∧ zm_T N = zm_T M ∧ zm_A N = zm_A M ∧ zm_R N = zm_R M ∧ zm_K N = zm_K M ∧ zm_tn N = zm_tn M ∧ zm_tp N = zm_tp M ∧ zm_fn N = zm_fn M ∧ zm_fr N = zm_fr M) : zr_E (zl_sB S i b) N := by
  obtain ⟨e1, e2, e3, e4, e5, e6, e7, e8, e9, e10, e11⟩ := h
  obtain ⟨f1, f2, f3, f4, f5, f6, f7, f8, f9⟩ := h0
  refine ⟨f1.trans e1, fun k hk => ?_, fun k hk => ?_, f2.trans e4, f3.trans e5, f4.trans e6, f5.trans e7, f6.trans e8, fun k hk => by rw [f7]; exact e9 k hk, f8.trans e10, fun k hk => by rw [f9]; exact e11 k hk⟩
  · by_cases hki : k = i
    · subst hki
      rw [hs, zl_BsB]
    · rw [hn k hki, zl_BsBn hki]
      exact e2 k hk
  · have hk : zl_n S ≤ k := hk
    have hki : k ≠ i := by omega
    rw [hn k hki]
    exact e3 k hk
theorem zE_A {S : zl_S} {M : zm_S} (h : zr_E S M) (v : Int32) : zr_E (zl_sA S v) (zm_sA M v) := by
  obtain ⟨e1, e2, e3, e4, e5, e6, e7, e8, e9, e10, e11⟩ := h
  exact ⟨e1, e2, e3, e4, rfl, e6, e7, e8, e9, e10, e11⟩
theorem zE_T {S : zl_S} {M : zm_S} (h : zr_E S M) (v : Int64) : zr_E (zl_sT S v) (zm_sT M v) := by
  obtain ⟨e1, e2, e3, e4, e5, e6, e7, e8, e9, e10, e11⟩ := h
  exact ⟨e1, e2, e3, rfl, e5, e6, e7, e8, e9, e10, e11⟩
theorem zE_R {S : zl_S} {M : zm_S} (h : zr_E S M) (v : Int32) : zr_E (zl_sR S v) (zm_sR M v) := by
  obtain ⟨e1, e2, e3, e4, e5, e6, e7, e8, e9, e10, e11⟩ := h
  exact ⟨e1, e2, e3, e4, e5, rfl, e7, e8, e9, e10, e11⟩
theorem zE_K {S : zl_S} {M : zm_S} (h : zr_E S M) (v : Int64) : zr_E (zl_sK S v) (zm_sK M v) := by
  obtain ⟨e1, e2, e3, e4, e5, e6, e7, e8, e9, e10, e11⟩ := h
  exact ⟨e1, e2, e3, e4, e5, e6, rfl, e8, e9, e10, e11⟩
/-- the class's own facts behind a change of one box -/
theorem zI_up {S : zl_S} {i : Nat} {b : zb_T} (h : zr_I S) (hi : i < zl_n S) (hb : zr_bi b) (hc : zb_Co b = -1 ∨ ∀ k, k < zl_n S → k ≠ i → zb_Co (zl_B S k) ≠ zb_Co b) : zr_I (zl_sB S i b) := by
  obtain ⟨h1, h2, h3, h4, h5, h6⟩ := h
  refine ⟨h1, h2, h3, fun k hk => ?_, fun k j hk hj hn he => ?_, h6⟩
  · by_cases hki : k = i
    · subst hki; rw [zl_BsB]; exact hb
    · rw [zl_BsBn hki]; exact h4 k hk
  · have hk : k < zl_n S := hk
    have hj : j < zl_n S := hj
    by_cases hki : k = i
    · by_cases hji : j = i
      · rw [hki, hji]
      · exfalso
        rw [hki, zl_BsB] at hn he
        rw [zl_BsBn hji] at he
        rcases hc with hc | hc
        · exact hn hc
        · exact hc j hj hji he.symm
    · by_cases hji : j = i
      · exfalso
        rw [zl_BsBn hki] at hn he
        rw [hji, zl_BsB] at he
        rcases hc with hc | hc
        · rw [hc] at he; exact hn he
        · exact hc k hk hki he
      · rw [zl_BsBn hki] at hn he
        rw [zl_BsBn hji] at he
        exact h5 k j hk hj hn he
/-- a change that leaves the code -/
theorem zI_same {S : zl_S} {i : Nat} {b : zb_T} (h : zr_I S) (hi : i < zl_n S) (hb : zr_bi b) (hc : zb_Co b = zb_Co (zl_B S i)) : zr_I (zl_sB S i b) := by
  refine zI_up h hi hb ?_
  by_cases c : zb_Co (zl_B S i) = -1
  · exact Or.inl (hc.trans c)
  · refine Or.inr (fun k hk hki he => hki ?_)
    rw [hc] at he
    exact (h.2.2.2.2.1 i k hi hk c he.symm).symm
theorem zr_sz_s (M : zm_S) (i : Nat) (v : Int32) : zr_B (zm_ssz M (upd (zm_sz M) (i + 1) v)) i = zb_sSz (zr_B M i) v := by
  show (upd (zm_sz M) (i + 1) v (i + 1), zm_dr M (i + 1), zm_si M (i + 1), zm_to M (i + 1), zm_it M (i + 1), zm_co M (i + 1), zm_li M (i + 1), zm_la M (i + 1), zm_ke M (i + 1)) = _
  rw [pk_us]
  rfl
theorem zr_sz_n (M : zm_S) (i k : Nat) (v : Int32) (h : k ≠ i) : zr_B (zm_ssz M (upd (zm_sz M) (i + 1) v)) k = zr_B M k := by
  show (upd (zm_sz M) (i + 1) v (k + 1), zm_dr M (k + 1), zm_si M (k + 1), zm_to M (k + 1), zm_it M (k + 1), zm_co M (k + 1), zm_li M (k + 1), zm_la M (k + 1), zm_ke M (k + 1)) = _
  rw [pk_un (by omega)]
  rfl
theorem zE_sz {S : zl_S} {M : zm_S} {i : Nat} (h : zr_E S M) (hi : i < zl_n S) (v : Int32) : zr_E (zl_sB S i (zb_sSz (zl_B S i) v)) (zm_ssz M (upd (zm_sz M) (i + 1) v)) := zr_Eup h hi ((zr_sz_s M i v).trans (by rw [h.2.1 i hi])) (fun k hk => zr_sz_n M i k v hk) ⟨rfl, rfl, rfl, rfl, rfl, rfl, rfl, rfl, rfl⟩
theorem zr_dr_s (M : zm_S) (i : Nat) (v : Int32) : zr_B (zm_sdr M (upd (zm_dr M) (i + 1) v)) i = zb_sDr (zr_B M i) v := by
  show (zm_sz M (i + 1), upd (zm_dr M) (i + 1) v (i + 1), zm_si M (i + 1), zm_to M (i + 1), zm_it M (i + 1), zm_co M (i + 1), zm_li M (i + 1), zm_la M (i + 1), zm_ke M (i + 1)) = _
  rw [pk_us]
  rfl
theorem zr_dr_n (M : zm_S) (i k : Nat) (v : Int32) (h : k ≠ i) : zr_B (zm_sdr M (upd (zm_dr M) (i + 1) v)) k = zr_B M k := by
  show (zm_sz M (k + 1), upd (zm_dr M) (i + 1) v (k + 1), zm_si M (k + 1), zm_to M (k + 1), zm_it M (k + 1), zm_co M (k + 1), zm_li M (k + 1), zm_la M (k + 1), zm_ke M (k + 1)) = _
  rw [pk_un (by omega)]
  rfl
theorem zE_dr {S : zl_S} {M : zm_S} {i : Nat} (h : zr_E S M) (hi : i < zl_n S) (v : Int32) : zr_E (zl_sB S i (zb_sDr (zl_B S i) v)) (zm_sdr M (upd (zm_dr M) (i + 1) v)) := zr_Eup h hi ((zr_dr_s M i v).trans (by rw [h.2.1 i hi])) (fun k hk => zr_dr_n M i k v hk) ⟨rfl, rfl, rfl, rfl, rfl, rfl, rfl, rfl, rfl⟩
theorem zr_si_s (M : zm_S) (i : Nat) (v : Int64) : zr_B (zm_ssi M (vp_updL (zm_si M) (i + 1) v)) i = zb_sOs (zr_B M i) v := by
  show (zm_sz M (i + 1), zm_dr M (i + 1), vp_updL (zm_si M) (i + 1) v (i + 1), zm_to M (i + 1), zm_it M (i + 1), zm_co M (i + 1), zm_li M (i + 1), zm_la M (i + 1), zm_ke M (i + 1)) = _
  rw [pk_uLs]
  rfl
theorem zr_si_n (M : zm_S) (i k : Nat) (v : Int64) (h : k ≠ i) : zr_B (zm_ssi M (vp_updL (zm_si M) (i + 1) v)) k = zr_B M k := by
  show (zm_sz M (k + 1), zm_dr M (k + 1), vp_updL (zm_si M) (i + 1) v (k + 1), zm_to M (k + 1), zm_it M (k + 1), zm_co M (k + 1), zm_li M (k + 1), zm_la M (k + 1), zm_ke M (k + 1)) = _
  rw [pk_uLn (by omega)]
  rfl
theorem zE_si {S : zl_S} {M : zm_S} {i : Nat} (h : zr_E S M) (hi : i < zl_n S) (v : Int64) : zr_E (zl_sB S i (zb_sOs (zl_B S i) v)) (zm_ssi M (vp_updL (zm_si M) (i + 1) v)) := zr_Eup h hi ((zr_si_s M i v).trans (by rw [h.2.1 i hi])) (fun k hk => zr_si_n M i k v hk) ⟨rfl, rfl, rfl, rfl, rfl, rfl, rfl, rfl, rfl⟩
theorem zr_to_s (M : zm_S) (i : Nat) (v : Int32) : zr_B (zm_sto M (upd (zm_to M) (i + 1) v)) i = zb_sTo (zr_B M i) v := by
  show (zm_sz M (i + 1), zm_dr M (i + 1), zm_si M (i + 1), upd (zm_to M) (i + 1) v (i + 1), zm_it M (i + 1), zm_co M (i + 1), zm_li M (i + 1), zm_la M (i + 1), zm_ke M (i + 1)) = _
  rw [pk_us]
  rfl
theorem zr_to_n (M : zm_S) (i k : Nat) (v : Int32) (h : k ≠ i) : zr_B (zm_sto M (upd (zm_to M) (i + 1) v)) k = zr_B M k := by
  show (zm_sz M (k + 1), zm_dr M (k + 1), zm_si M (k + 1), upd (zm_to M) (i + 1) v (k + 1), zm_it M (k + 1), zm_co M (k + 1), zm_li M (k + 1), zm_la M (k + 1), zm_ke M (k + 1)) = _
  rw [pk_un (by omega)]
  rfl
theorem zE_to {S : zl_S} {M : zm_S} {i : Nat} (h : zr_E S M) (hi : i < zl_n S) (v : Int32) : zr_E (zl_sB S i (zb_sTo (zl_B S i) v)) (zm_sto M (upd (zm_to M) (i + 1) v)) := zr_Eup h hi ((zr_to_s M i v).trans (by rw [h.2.1 i hi])) (fun k hk => zr_to_n M i k v hk) ⟨rfl, rfl, rfl, rfl, rfl, rfl, rfl, rfl, rfl⟩
theorem zr_it_s (M : zm_S) (i : Nat) (v : Int32) : zr_B (zm_sit M (upd (zm_it M) (i + 1) v)) i = zb_sIt (zr_B M i) v := by
  show (zm_sz M (i + 1), zm_dr M (i + 1), zm_si M (i + 1), zm_to M (i + 1), upd (zm_it M) (i + 1) v (i + 1), zm_co M (i + 1), zm_li M (i + 1), zm_la M (i + 1), zm_ke M (i + 1)) = _
  rw [pk_us]
  rfl
theorem zr_it_n (M : zm_S) (i k : Nat) (v : Int32) (h : k ≠ i) : zr_B (zm_sit M (upd (zm_it M) (i + 1) v)) k = zr_B M k := by
  show (zm_sz M (k + 1), zm_dr M (k + 1), zm_si M (k + 1), zm_to M (k + 1), upd (zm_it M) (i + 1) v (k + 1), zm_co M (k + 1), zm_li M (k + 1), zm_la M (k + 1), zm_ke M (k + 1)) = _
  rw [pk_un (by omega)]
  rfl
theorem zE_it {S : zl_S} {M : zm_S} {i : Nat} (h : zr_E S M) (hi : i < zl_n S) (v : Int32) : zr_E (zl_sB S i (zb_sIt (zl_B S i) v)) (zm_sit M (upd (zm_it M) (i + 1) v)) := zr_Eup h hi ((zr_it_s M i v).trans (by rw [h.2.1 i hi])) (fun k hk => zr_it_n M i k v hk) ⟨rfl, rfl, rfl, rfl, rfl, rfl, rfl, rfl, rfl⟩
theorem zr_co_s (M : zm_S) (i : Nat) (v : Int32) : zr_B (zm_sco M (upd (zm_co M) (i + 1) v)) i = zb_sCo (zr_B M i) v := by
  show (zm_sz M (i + 1), zm_dr M (i + 1), zm_si M (i + 1), zm_to M (i + 1), zm_it M (i + 1), upd (zm_co M) (i + 1) v (i + 1), zm_li M (i + 1), zm_la M (i + 1), zm_ke M (i + 1)) = _
  rw [pk_us]
  rfl
theorem zr_co_n (M : zm_S) (i k : Nat) (v : Int32) (h : k ≠ i) : zr_B (zm_sco M (upd (zm_co M) (i + 1) v)) k = zr_B M k := by
  show (zm_sz M (k + 1), zm_dr M (k + 1), zm_si M (k + 1), zm_to M (k + 1), zm_it M (k + 1), upd (zm_co M) (i + 1) v (k + 1), zm_li M (k + 1), zm_la M (k + 1), zm_ke M (k + 1)) = _
  rw [pk_un (by omega)]
  rfl
theorem zE_co {S : zl_S} {M : zm_S} {i : Nat} (h : zr_E S M) (hi : i < zl_n S) (v : Int32) : zr_E (zl_sB S i (zb_sCo (zl_B S i) v)) (zm_sco M (upd (zm_co M) (i + 1) v)) := zr_Eup h hi ((zr_co_s M i v).trans (by rw [h.2.1 i hi])) (fun k hk => zr_co_n M i k v hk) ⟨rfl, rfl, rfl, rfl, rfl, rfl, rfl, rfl, rfl⟩
theorem zr_li_s (M : zm_S) (i : Nat) (v : Int64) : zr_B (zm_sli M (vp_updL (zm_li M) (i + 1) v)) i = zb_sLs (zr_B M i) v := by
  show (zm_sz M (i + 1), zm_dr M (i + 1), zm_si M (i + 1), zm_to M (i + 1), zm_it M (i + 1), zm_co M (i + 1), vp_updL (zm_li M) (i + 1) v (i + 1), zm_la M (i + 1), zm_ke M (i + 1)) = _
  rw [pk_uLs]
  rfl
theorem zr_li_n (M : zm_S) (i k : Nat) (v : Int64) (h : k ≠ i) : zr_B (zm_sli M (vp_updL (zm_li M) (i + 1) v)) k = zr_B M k := by
  show (zm_sz M (k + 1), zm_dr M (k + 1), zm_si M (k + 1), zm_to M (k + 1), zm_it M (k + 1), zm_co M (k + 1), vp_updL (zm_li M) (i + 1) v (k + 1), zm_la M (k + 1), zm_ke M (k + 1)) = _
  rw [pk_uLn (by omega)]
  rfl
theorem zE_li {S : zl_S} {M : zm_S} {i : Nat} (h : zr_E S M) (hi : i < zl_n S) (v : Int64) : zr_E (zl_sB S i (zb_sLs (zl_B S i) v)) (zm_sli M (vp_updL (zm_li M) (i + 1) v)) := zr_Eup h hi ((zr_li_s M i v).trans (by rw [h.2.1 i hi])) (fun k hk => zr_li_n M i k v hk) ⟨rfl, rfl, rfl, rfl, rfl, rfl, rfl, rfl, rfl⟩
theorem zr_la_s (M : zm_S) (i : Nat) (v : Int32) : zr_B (zm_sla M (upd (zm_la M) (i + 1) v)) i = zb_sLa (zr_B M i) v := by
  show (zm_sz M (i + 1), zm_dr M (i + 1), zm_si M (i + 1), zm_to M (i + 1), zm_it M (i + 1), zm_co M (i + 1), zm_li M (i + 1), upd (zm_la M) (i + 1) v (i + 1), zm_ke M (i + 1)) = _
  rw [pk_us]
  rfl
theorem zr_la_n (M : zm_S) (i k : Nat) (v : Int32) (h : k ≠ i) : zr_B (zm_sla M (upd (zm_la M) (i + 1) v)) k = zr_B M k := by
  show (zm_sz M (k + 1), zm_dr M (k + 1), zm_si M (k + 1), zm_to M (k + 1), zm_it M (k + 1), zm_co M (k + 1), zm_li M (k + 1), upd (zm_la M) (i + 1) v (k + 1), zm_ke M (k + 1)) = _
  rw [pk_un (by omega)]
  rfl
theorem zE_la {S : zl_S} {M : zm_S} {i : Nat} (h : zr_E S M) (hi : i < zl_n S) (v : Int32) : zr_E (zl_sB S i (zb_sLa (zl_B S i) v)) (zm_sla M (upd (zm_la M) (i + 1) v)) := zr_Eup h hi ((zr_la_s M i v).trans (by rw [h.2.1 i hi])) (fun k hk => zr_la_n M i k v hk) ⟨rfl, rfl, rfl, rfl, rfl, rfl, rfl, rfl, rfl⟩
theorem zr_ke_s (M : zm_S) (i : Nat) (v : Int64) : zr_B (zm_ske M (vp_updL (zm_ke M) (i + 1) v)) i = zb_sKe (zr_B M i) v := by
  show (zm_sz M (i + 1), zm_dr M (i + 1), zm_si M (i + 1), zm_to M (i + 1), zm_it M (i + 1), zm_co M (i + 1), zm_li M (i + 1), zm_la M (i + 1), vp_updL (zm_ke M) (i + 1) v (i + 1)) = _
  rw [pk_uLs]
  rfl
theorem zr_ke_n (M : zm_S) (i k : Nat) (v : Int64) (h : k ≠ i) : zr_B (zm_ske M (vp_updL (zm_ke M) (i + 1) v)) k = zr_B M k := by
  show (zm_sz M (k + 1), zm_dr M (k + 1), zm_si M (k + 1), zm_to M (k + 1), zm_it M (k + 1), zm_co M (k + 1), zm_li M (k + 1), zm_la M (k + 1), vp_updL (zm_ke M) (i + 1) v (k + 1)) = _
  rw [pk_uLn (by omega)]
  rfl
theorem zE_ke {S : zl_S} {M : zm_S} {i : Nat} (h : zr_E S M) (hi : i < zl_n S) (v : Int64) : zr_E (zl_sB S i (zb_sKe (zl_B S i) v)) (zm_ske M (vp_updL (zm_ke M) (i + 1) v)) := zr_Eup h hi ((zr_ke_s M i v).trans (by rw [h.2.1 i hi])) (fun k hk => zr_ke_n M i k v hk) ⟨rfl, rfl, rfl, rfl, rfl, rfl, rfl, rfl, rfl⟩

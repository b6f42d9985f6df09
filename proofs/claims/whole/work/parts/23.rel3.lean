def zb_t1 (b : zb_T) (t : Int64) : Int32 × zb_T := if zb_isOpen b = 0 then (0, b) else if zb_To b = 0 then (if lg_cmp (t - (zb_Os b)) 120 < 0 then (0, b) else (1, zb_sTo b 1)) else (0, b)
def zb_t2 (b : zb_T) (t : Int64) : Int32 × zb_T := if zb_lies b = 0 then (0, b) else if zb_La b = 0 then (if lg_cmp (t - (zb_Ls b)) 604800 < 0 then (0, b) else (1, zb_sLa b 1)) else (0, b)
theorem zb_tell_eq (b : zb_T) (t : Int64) : zb_tell b t = ((zb_t1 b t).1 + (zb_t2 (zb_t1 b t).2 t).1, (zb_t2 (zb_t1 b t).2 t).2) := by
  have z00 : (0 : Int32) = 0 + 0 := by decide
  have z10 : (0 + 1 : Int32) = 1 + 0 := by decide
  have z11 : ((0 + 1) + 1 : Int32) = 1 + 1 := by decide
  have key : ∀ (q : zb_T), ((if zb_lies q = 0 then ((0 : Int32), q) else if zb_La q = 0 then (if lg_cmp (t - (zb_Ls q)) 604800 < 0 then (0, q) else (0 + 1, zb_sLa q 1)) else (0, q)) = (0 + (zb_t2 q t).1, (zb_t2 q t).2)) := by
    intro q
    unfold zb_t2
    by_cases c4 : zb_lies q = 0
    · rw [if_pos c4, if_pos c4]; exact Prod.ext z00 rfl
    · rw [if_neg c4, if_neg c4]
      by_cases c5 : zb_La q = 0
      · rw [if_pos c5, if_pos c5]
        by_cases c6 : lg_cmp (t - (zb_Ls q)) 604800 < 0
        · rw [if_pos c6, if_pos c6]; exact Prod.ext z00 rfl
        · rw [if_neg c6, if_neg c6]
      · rw [if_neg c5, if_neg c5]; exact Prod.ext z00 rfl
  have key1 : ∀ (q : zb_T), ((if zb_lies q = 0 then ((0 + 1 : Int32), q) else if zb_La q = 0 then (if lg_cmp (t - (zb_Ls q)) 604800 < 0 then (0 + 1, q) else ((0 + 1) + 1, zb_sLa q 1)) else (0 + 1, q)) = (1 + (zb_t2 q t).1, (zb_t2 q t).2)) := by
    intro q
    unfold zb_t2
    by_cases c4 : zb_lies q = 0
    · rw [if_pos c4, if_pos c4]; exact Prod.ext z10 rfl
    · rw [if_neg c4, if_neg c4]
      by_cases c5 : zb_La q = 0
      · rw [if_pos c5, if_pos c5]
        by_cases c6 : lg_cmp (t - (zb_Ls q)) 604800 < 0
        · rw [if_pos c6, if_pos c6]; exact Prod.ext z10 rfl
        · rw [if_neg c6, if_neg c6]; exact Prod.ext z11 rfl
      · rw [if_neg c5, if_neg c5]; exact Prod.ext z10 rfl
  unfold zb_tell zb_t1
  by_cases c1 : zb_isOpen b = 0
  · rw [if_pos c1, if_pos c1]; exact key b
  · rw [if_neg c1, if_neg c1]
    by_cases c2 : zb_To b = 0
    · rw [if_pos c2, if_pos c2]
      by_cases c3 : lg_cmp (t - (zb_Os b)) 120 < 0
      · rw [if_pos c3, if_pos c3]; exact key b
      · rw [if_neg c3, if_neg c3]; exact key1 (zb_sTo b 1)
    · rw [if_neg c2, if_neg c2]; exact key b
theorem zl_sBid {S : zl_S} {i : Nat} : zl_sB S i (zl_B S i) = S := by
  have e : va_up (zl_B S) i (zl_B S i) = zl_B S := by
    funext k
    by_cases hk : k = i
    · subst hk; exact va_up_self _ _ _
    · exact va_up_ne _ _ hk
  show (va_up (zl_B S) i (zl_B S i), _) = _
  rw [e]
  rfl
theorem zl_id2 {S : zl_S} {i : Nat} : zl_sA (zl_sB S i (zl_B S i)) (zl_A S + 0) = S := by
  rw [zl_sBid, Int32.add_zero]
  rfl
theorem zI_A {S : zl_S} {v : Int32} (h : zr_I S) : zr_I (zl_sA S v) := h
theorem zr_p2 {S : zl_S} {M : zm_S} (h : zr S M) {j : Nat} (hj : j < zl_n S) (t : Int64) : zr (zl_sA (zl_sB S j (zb_t1 (zl_B S j) t).2) (zl_A S + (zb_t1 (zl_B S j) t).1)) (zm_p2 t j M) := by
  obtain ⟨-, f2, f3, f4, -, -, -, -, -⟩ := zr_f h.2 hj
  have hA : zm_A M = zl_A S := h.2.2.2.2.2.1
  have hid : ∀ b, b = zl_B S j → zr (zl_sA (zl_sB S j b) (zl_A S + 0)) M := fun b e => by rw [e, zl_id2]; exact h
  have hfire : zr (zl_sA (zl_sB S j (zb_sTo (zl_B S j) 1)) (zl_A S + 1)) (zm_sA (zm_sto M (upd (zm_to M) (j + 1) 1)) (zm_A (zm_sto M (upd (zm_to M) (j + 1) 1)) + 1)) := by
    refine ⟨zI_A (zI_same h.1 hj ?_ rfl), ?_⟩
    · exact h.1.2.2.2.1 j hj
    · have e : zm_A (zm_sto M (upd (zm_to M) (j + 1) 1)) = zl_A S := hA
      rw [e]
      exact zE_A (zE_to h.2 hj 1) _
  simp only [zm_p2, f2, f3, f4, zb_t1]
  by_cases d1 : zb_Dr (zl_B S j) = 1
  · have o : ¬ zb_isOpen (zl_B S j) = 0 := by unfold zb_isOpen; rw [if_pos d1]; decide
    rw [if_pos d1, if_neg o]
    by_cases c2 : zb_To (zl_B S j) = 0
    · rw [if_pos c2, if_pos c2]
      by_cases c3 : lg_cmp (t - (zb_Os (zl_B S j))) 120 < 0
      · rw [if_pos c3, if_pos c3]; exact hid _ rfl
      · rw [if_neg c3, if_neg c3]; exact hfire
    · rw [if_neg c2, if_neg c2]; exact hid _ rfl
  · rw [if_neg d1]
    by_cases d2 : zb_Dr (zl_B S j) = 2
    · have o : ¬ zb_isOpen (zl_B S j) = 0 := by unfold zb_isOpen; rw [if_neg d1, if_pos d2]; decide
      rw [if_pos d2, if_neg o]
      by_cases c2 : zb_To (zl_B S j) = 0
      · rw [if_pos c2, if_pos c2]
        by_cases c3 : lg_cmp (t - (zb_Os (zl_B S j))) 120 < 0
        · rw [if_pos c3, if_pos c3]; exact hid _ rfl
        · rw [if_neg c3, if_neg c3]; exact hfire
      · rw [if_neg c2, if_neg c2]; exact hid _ rfl
    · have o : zb_isOpen (zl_B S j) = 0 := by unfold zb_isOpen; rw [if_neg d1, if_neg d2]
      rw [if_neg d2, if_pos o]; exact hid _ rfl
theorem zb_lies_iff {b : zb_T} (h : zr_bi b) : zb_lies b = 0 ↔ zb_Co b < 0 := by
  have h3 := h.2.2.1
  have hm : (-1 : Int32).toInt = -1 := by decide
  have h0 : (0 : Int32).toInt = 0 := by decide
  unfold zb_lies
  by_cases c : zb_Co b = -1
  · rw [if_pos c, c]; exact ⟨fun _ => by decide, fun _ => rfl⟩
  · rw [if_neg c]
    refine ⟨fun q => absurd q (by decide), fun q => ?_⟩
    rw [Int32.lt_iff_toInt_lt, h0] at q
    exact absurd (Int32.toInt_inj.mp (by rw [hm]; omega)) c
theorem zr_p3 {S : zl_S} {M : zm_S} (h : zr S M) {j : Nat} (hj : j < zl_n S) (t : Int64) : zr (zl_sA (zl_sB S j (zb_t2 (zl_B S j) t).2) (zl_A S + (zb_t2 (zl_B S j) t).1)) (zm_p3 t j M) := by
  obtain ⟨-, -, -, -, -, f6, f7, f8, -⟩ := zr_f h.2 hj
  have hA : zm_A M = zl_A S := h.2.2.2.2.2.1
  have hbi := h.1.2.2.2.1 j hj
  have hid : ∀ b, b = zl_B S j → zr (zl_sA (zl_sB S j b) (zl_A S + 0)) M := fun b e => by rw [e, zl_id2]; exact h
  simp only [zm_p3, f6, f7, f8, zb_t2]
  by_cases c4 : zb_lies (zl_B S j) = 0
  · rw [if_pos ((zb_lies_iff hbi).mp c4), if_pos c4]; exact hid _ rfl
  · rw [if_neg (fun q => c4 ((zb_lies_iff hbi).mpr q)), if_neg c4]
    by_cases c5 : zb_La (zl_B S j) = 0
    · rw [if_pos c5, if_pos c5]
      by_cases c6 : lg_cmp (t - (zb_Ls (zl_B S j))) 604800 < 0
      · rw [if_pos c6, if_pos c6]; exact hid _ rfl
      · rw [if_neg c6, if_neg c6]
        refine ⟨zI_A (zI_same h.1 hj ?_ rfl), ?_⟩
        · refine ⟨hbi.1, hbi.2.1, hbi.2.2.1, fun q => ?_, hbi.2.2.2.2⟩
          exfalso
          have q : zb_Co (zl_B S j) = -1 := q
          exact c4 (by unfold zb_lies; rw [if_pos q])
        · have e : zm_A (zm_sla M (upd (zm_la M) (j + 1) 1)) = zl_A S := hA
          rw [e]
          exact zE_A (zE_la h.2 hj 1) _
    · rw [if_neg c5, if_neg c5]; exact hid _ rfl
theorem zr_note {S : zl_S} {M : zm_S} (h : zr S M) (x : Int32) : zr (zl_note S x) (if 100 ≤ nI (zm_fn M) then M else zm_sfn (zm_sfr M (upd (zm_fr M) (zm_fn M) x)) (zm_fn (zm_sfr M (upd (zm_fr M) (zm_fn M) x)) + 1)) := by
  have hfn : zm_fn M = zl_k S := h.2.2.2.2.2.2.2.2.2.2.1
  have hI := h.1
  obtain ⟨e1, e2, e3, e4, e5, e6, e7, e8, e9, e10, e11⟩ := h.2
  unfold zl_note
  rw [hfn]
  by_cases c : 100 ≤ nI (zl_k S)
  · rw [if_pos c, if_pos c]; exact h
  · have hlt := zl_lt100 hI.1 c
    rw [if_neg c, if_neg c]
    refine ⟨⟨⟨hI.1.1, hI.1.2.1, by show zl_k S + 1 ≤ 100; omega⟩, hI.2⟩, e1, e2, e3, e4, e5, e6, e7, e8, e9, ?_, ?_⟩
    · show zm_fn M + 1 = zl_k S + 1
      rw [hfn]
    · intro i hi
      have hi : i < zl_k S + 1 := hi
      show upd (zm_fr M) (zl_k S) x i = upd (zl_F S) (nI (zl_k S)).toNatClampNeg x i
      rw [nI_clamp (by omega)]
      by_cases hik : i = zl_k S
      · rw [hik, pk_us, pk_us]
      · rw [pk_un hik, pk_un hik]
        exact e11 i (by omega)
theorem zr_p1 {S : zl_S} {M : zm_S} (h : zr S M) {j : Nat} (hj : j < zl_n S) (t : Int64) : zr (if (zb_free (zl_B S j) t).1 = 0 then zl_sB S j (zb_free (zl_B S j) t).2 else zl_note (zl_sB S j (zb_free (zl_B S j) t).2) (nI (j + 1))) (zm_p1 t j M) := by
  obtain ⟨-, -, -, -, -, -, -, -, f9⟩ := zr_f h.2 hj
  have hbi := h.1.2.2.2.1 j hj
  have hke := hbi.2.2.2.2
  have h0 : (0 : Int64).toInt = 0 := by decide
  simp only [zm_p1, f9]
  by_cases c1 : lg_cmp (zb_Ke (zl_B S j)) 0 = 0
  · have c1b : lg_cmp (zb_Ke (zl_B S j)) 0 ≤ 0 := by
      rw [lg_cmp_eq] at c1; rw [lg_cmp_le, c1, Int64.le_iff_toInt_le]; omega
    have e : zb_free (zl_B S j) t = (0, zl_B S j) := by unfold zb_free; rw [if_pos c1]
    rw [if_pos c1b, e]
    rw [if_pos rfl, zl_sBid]
    exact h
  · have c1b : ¬ lg_cmp (zb_Ke (zl_B S j)) 0 ≤ 0 := by
      intro q
      rw [lg_cmp_le, Int64.le_iff_toInt_le, h0] at q
      exact c1 ((lg_cmp_eq _ _).mpr (Int64.toInt_inj.mp (by rw [h0]; omega)))
    rw [if_neg c1b]
    by_cases c2 : lg_cmp (zb_Ke (zl_B S j)) t ≤ 0
    · have c2b : ¬ 0 < lg_cmp (zb_Ke (zl_B S j)) t := by
        rw [lg_cmp_le, Int64.le_iff_toInt_le] at c2
        rw [lg_cmp_gt, Int64.lt_iff_toInt_lt]; omega
      have e : zb_free (zl_B S j) t = (1, zb_sKe (zl_B S j) 0) := by unfold zb_free; rw [if_neg c1, if_pos c2]
      rw [if_neg c2b, e]
      rw [if_neg (show ¬ (1 : Int32) = 0 by decide)]
      have h1 : zr (zl_sB S j (zb_sKe (zl_B S j) 0)) (zm_ske M (vp_updL (zm_ke M) (j + 1) 0)) := by
        refine ⟨zI_same h.1 hj ⟨hbi.1, hbi.2.1, hbi.2.2.1, hbi.2.2.2.1, ?_⟩ rfl, zE_ke h.2 hj 0⟩
        show 0 ≤ (0 : Int64).toInt
        omega
      exact zr_note h1 (nI (j + 1))
    · have c2b : 0 < lg_cmp (zb_Ke (zl_B S j)) t := by
        rw [lg_cmp_le, Int64.le_iff_toInt_le] at c2
        rw [lg_cmp_gt, Int64.lt_iff_toInt_lt]; omega
      have e : zb_free (zl_B S j) t = (0, zl_B S j) := by unfold zb_free; rw [if_neg c1, if_neg c2]
      rw [if_pos c2b, e]
      rw [if_pos rfl, zl_sBid]
      exact h
theorem zl_sAB {S : zl_S} {i : Nat} {b : zb_T} {v : Int32} : zl_sB (zl_sA S v) i b = zl_sA (zl_sB S i b) v := rfl
theorem zr_two {S : zl_S} {M : zm_S} (h : zr S M) {j : Nat} (hj : j < zl_n S) (t : Int64) : zr (zl_sA (zl_sB S j (zb_tell (zl_B S j) t).2) (zl_A S + (zb_tell (zl_B S j) t).1)) (zm_p3 t j (zm_p2 t j M)) := by
  have h2 := zr_p2 h hj t
  have h3 := zr_p3 h2 (show j < zl_n (zl_sA (zl_sB S j (zb_t1 (zl_B S j) t).2) (zl_A S + (zb_t1 (zl_B S j) t).1)) from hj) t
  have e1 : zl_B (zl_sA (zl_sB S j (zb_t1 (zl_B S j) t).2) (zl_A S + (zb_t1 (zl_B S j) t).1)) j = (zb_t1 (zl_B S j) t).2 := zl_BsB
  rw [e1] at h3
  rw [zb_tell_eq]
  have e2 : zl_A (zl_sA (zl_sB S j (zb_t1 (zl_B S j) t).2) (zl_A S + (zb_t1 (zl_B S j) t).1)) = zl_A S + (zb_t1 (zl_B S j) t).1 := rfl
  rw [e2, zl_sAB, zl_sBB, Int32.add_assoc] at h3
  exact h3
theorem zl_n_p1 {S : zl_S} {j : Nat} {t : Int64} : zl_n (if (zb_free (zl_B S j) t).1 = 0 then zl_sB S j (zb_free (zl_B S j) t).2 else zl_note (zl_sB S j (zb_free (zl_B S j) t).2) (nI (j + 1))) = zl_n S := by
  split
  · rfl
  · exact zl_n_note (S := zl_sB S j (zb_free (zl_B S j) t).2)
theorem zr_step {S : zl_S} {M : zm_S} (h : zr S M) {j : Nat} (hj : j < zl_n S) (t : Int64) : zr (zl_step t j S) (zm_p3 t j (zm_p2 t j (zm_p1 t j M))) := by
  have h1 := zr_p1 h hj t
  have h2 := zr_two h1 (j := j) (by rw [zl_n_p1]; exact hj) t
  unfold zl_step
  by_cases c : (zb_free (zl_B S j) t).1 = 0
  · rw [if_pos c] at h2 ⊢
    exact h2
  · rw [if_neg c] at h2 ⊢
    exact h2
theorem zr_pass0 {t : Int64} : ∀ (k j : Nat) (S : zl_S) (M : zm_S), zr S M → j + k ≤ zl_n S → zr (zl_pass t k j S) (zm_lp t k j M) := by
  intro k
  induction k with
  | zero => intro j S M h _; exact h
  | succ k ih =>
    intro j S M h hk
    exact ih (j + 1) _ _ (zr_step h (by omega) t) (by rw [zl_n_step]; omega)
theorem zr_pass {S : zl_S} {M : zm_S} (h : zr S M) {t : Int64} (c : ¬ zl_isTime S t = 0) : zr (zl_passTo S t) (zm_pass M t) := by
  have ht := zr_tge h.1 c
  have h1 : zr (zl_sT S t) (zm_sT M t) := ⟨⟨h.1.1, ht, h.1.2.2⟩, zE_T h.2 t⟩
  have hn : zm_nb M = zl_n S := h.2.1
  unfold zl_passTo zm_pass
  rw [hn]
  exact zr_pass0 _ _ _ _ h1 (by show 0 + zl_n S ≤ zl_n S; omega)
theorem zr_tick {S : zl_S} {M : zm_S} (h : zr S M) (t : Int64) : (zl_tick S t).1 = (zm_tick M t).1 ∧ zr (zl_tick S t).2 (zm_tick M t).2 := by
  unfold zl_tick zm_tick
  by_cases c : zl_isTime S t = 0
  · rw [if_pos c, if_neg ((zr_no h t).mp c)]
    exact ⟨rfl, h⟩
  · have c2 : zm_isNo M t = 0 := Classical.not_not.mp (fun q => c ((zr_no h t).mpr q))
    rw [if_neg c, if_pos c2]
    have hp := zr_pass h c
    exact ⟨hp.2.2.2.2.2.1.symm, zI_A hp.1, zE_A hp.2 0⟩

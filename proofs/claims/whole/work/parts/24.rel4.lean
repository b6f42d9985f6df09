theorem zl_T_step {S : zl_S} {t : Int64} {j : Nat} : zl_T (zl_step t j S) = zl_T S := by
  unfold zl_step
  split
  · rfl
  · show zl_T (zl_note (zl_sB S j (zb_free (zl_B S j) t).2) (nI (j + 1))) = zl_T S
    unfold zl_note
    split <;> rfl
theorem zl_T_pass0 {t : Int64} : ∀ (k j : Nat) (S : zl_S), zl_T (zl_pass t k j S) = zl_T S := by
  intro k
  induction k with
  | zero => intro j S; rfl
  | succ k ih => intro j S; exact (ih (j + 1) _).trans zl_T_step
theorem zl_T_pass {S : zl_S} {t : Int64} : zl_T (zl_passTo S t) = t := (zl_T_pass0 _ _ (zl_sT S t)).trans rfl
theorem zr_open {S : zl_S} {M : zm_S} (h : zr S M) {i : Nat} (hi : i < zl_n S) (st : Int32) : zr (zl_sB S i (zb_begin (zl_B S i) st (zl_T S))) (zm_open M (nI (i + 1)) st) := by
  have h60 := (zr_okl h).1
  have hT : zm_T M = zl_T S := h.2.2.2.2.1
  refine ⟨zI_same h.1 hi (h.1.2.2.2.1 i hi) rfl, ?_⟩
  have E1 := zE_dr h.2 hi st
  have E2 := zE_si E1 hi (zm_T (zm_sdr M (upd (zm_dr M) (i + 1) st)))
  have E3 := zE_to E2 hi 0
  simp only [zl_BsB, zl_sBB] at E3
  have e : zm_T (zm_sdr M (upd (zm_dr M) (i + 1) st)) = zl_T S := hT
  rw [e] at E3
  simp only [zm_open, zr_cl (show i < 60 by omega)]
  rw [e]
  exact E3
theorem zr_out {S : zl_S} {M : zm_S} (h : zr S M) {i : Nat} (hi : i < zl_n S) : (zm_out M (nI (i + 1))).1 = zb_It (zl_B S i) ∧ zr (zl_sB S i (zb_clear (zl_B S i))) (zm_out M (nI (i + 1))).2 := by
  have h60 := (zr_okl h).1
  have hbi := h.1.2.2.2.1 i hi
  obtain ⟨-, -, -, -, f5, -, -, -, -⟩ := zr_f h.2 hi
  have E1 := zE_it h.2 hi 0
  have E2 := zE_co E1 hi (-1)
  have E3 := zE_la E2 hi 0
  simp only [zl_BsB, zl_sBB] at E3
  simp only [zm_out, zr_cl (show i < 60 by omega)]
  refine ⟨f5, zI_up h.1 hi ⟨hbi.1, ?_, ?_, fun _ => rfl, hbi.2.2.2.2⟩ (Or.inl rfl), E3⟩
  · show 0 ≤ (0 : Int32).toInt
    decide
  · show -1 ≤ (-1 : Int32).toInt
    decide
theorem zb_open_iff (b : zb_T) : zb_isOpen b = 0 ↔ ¬ zb_Dr b = 1 ∧ ¬ zb_Dr b = 2 := by
  unfold zb_isOpen
  by_cases d1 : zb_Dr b = 1
  · rw [if_pos d1]; exact ⟨fun q => absurd q (by decide), fun q => absurd d1 q.1⟩
  · rw [if_neg d1]
    by_cases d2 : zb_Dr b = 2
    · rw [if_pos d2]; exact ⟨fun q => absurd q (by decide), fun q => absurd d2 q.2⟩
    · rw [if_neg d2]; exact ⟨fun _ => ⟨d1, d2⟩, fun _ => rfl⟩
theorem zr_take {S : zl_S} {M : zm_S} (h : zr S M) (x y : Int32) : (zl_take S x y).1 = (zm_take M x y).1 ∧ zr (zl_take S x y).2 (zm_take M x y).2 := by
  rcases zr_at h x with ⟨a1, a2⟩ | ⟨i, hi, rfl, a1, a2⟩
  · simp only [zl_take, zm_take, a1, if_pos a2]
    exact ⟨trivial, h⟩
  · have h60 := (zr_okl h).1
    obtain ⟨-, f2, -, -, -, -, -, -, -⟩ := zr_f h.2 hi
    have hw := zr_w (x := y) (a := 0) (b := 9) (A := 0) (B := 9) (by decide) (by decide)
    have k0 : (0 : Int32).toInt = 0 := by decide
    have k9 : (9 : Int32).toInt = 9 := by decide
    rw [k0, k9] at hw
    simp only [zl_take, zm_take, a1, if_neg a2, zr_cl (show i < 60 by omega), f2]
    by_cases c1 : y < 0
    · rw [if_pos c1, if_pos (hw.mpr (by rw [Int32.lt_iff_toInt_lt, k0] at c1; omega))]
      exact ⟨rfl, h⟩
    · rw [if_neg c1]
      rw [Int32.lt_iff_toInt_lt, k0] at c1
      by_cases c2 : y ≤ 9
      · have c2b := c2
        rw [Int32.le_iff_toInt_le, k9] at c2b
        rw [if_pos c2, if_neg (fun q => hw.mp q ⟨by omega, by omega⟩)]
        by_cases o : zb_isOpen (zl_B S i) = 0
        · have o2 := (zb_open_iff _).mp o
          rw [if_pos o, if_neg o2.1, if_neg o2.2]
          exact ⟨rfl, h⟩
        · have ho := zr_out h hi
          rw [if_neg o]
          by_cases d1 : zb_Dr (zl_B S i) = 1
          · rw [if_pos d1]; exact ⟨ho.1.symm, ho.2⟩
          · have d2 : zb_Dr (zl_B S i) = 2 := Classical.not_not.mp (fun q => o ((zb_open_iff _).mpr ⟨d1, q⟩))
            rw [if_neg d1, if_pos d2]; exact ⟨ho.1.symm, ho.2⟩
      · have c2b := c2
        rw [Int32.le_iff_toInt_le, k9] at c2b
        rw [if_neg c2, if_pos (hw.mpr (by omega))]
        exact ⟨rfl, h⟩
theorem zr_cd0 {S : zl_S} {M : zm_S} (h : zr S M) (x : Int32) : ∀ (k j : Nat), j + k = zl_n S → (match zl_fi (zl_B S) x k j with | none => (-1 : Int32) | some i => zb_Co (zl_B S i)) = zm_cd M x k j := by
  intro k
  induction k with
  | zero => intro j _; rfl
  | succ k ih =>
    intro j hj
    obtain ⟨-, -, -, -, f5, f6, -, -, -⟩ := zr_f h.2 (show j < zl_n S by omega)
    unfold zl_fi zm_cd
    rw [f5, f6]
    by_cases c : zb_It (zl_B S j) = x
    · rw [if_pos c, if_pos c]
    · rw [if_neg c, if_neg c]
      exact ih (j + 1) (by omega)
theorem zr_code {S : zl_S} {M : zm_S} (h : zr S M) (x : Int32) : zl_code S x = zm_code M x ∧ True := by
  refine ⟨?_, trivial⟩
  have hn : zm_nb M = zl_n S := h.2.1
  unfold zl_code zm_code
  by_cases c : zl_isItem x = 0
  · rw [if_pos c, if_pos ((zr_itm x).mp c)]
  · rw [if_neg c, if_neg (fun q => c ((zr_itm x).mpr q)), hn]
    exact zr_cd0 h x (zl_n S) 0 (by omega)
theorem zr_in1 {M : zm_S} (x : Int32) : ∀ (k j : Nat), zm_in M x k j 1 = 1 := by
  intro k
  induction k with
  | zero => intro j; rfl
  | succ k ih =>
    intro j
    unfold zm_in
    rw [if_neg (show ¬ (1 : Int32) = 0 by decide)]
    exact ih (j + 1)
theorem zr_in0 {S : zl_S} {M : zm_S} (h : zr S M) (x : Int32) : ∀ (k j : Nat), j + k = zl_n S → (zl_fi (zl_B S) x k j = none ↔ zm_in M x k j 0 = 0) := by
  intro k
  induction k with
  | zero => intro j _; exact ⟨fun _ => rfl, fun _ => rfl⟩
  | succ k ih =>
    intro j hj
    obtain ⟨-, -, -, -, f5, -, -, -, -⟩ := zr_f h.2 (show j < zl_n S by omega)
    unfold zl_fi zm_in
    rw [if_pos (show (0 : Int32) = 0 from rfl), f5]
    by_cases c : zb_It (zl_B S j) = x
    · rw [if_pos c, if_pos c, zr_in1]
      exact ⟨fun q => (by cases q), fun q => absurd q (by decide)⟩
    · rw [if_neg c, if_neg c]
      exact ih (j + 1) (by omega)
theorem zb_emp (b : zb_T) : zb_isEmpty b = 0 ↔ ¬ zb_It b = 0 := by
  unfold zb_isEmpty
  by_cases c : zb_It b = 0
  · rw [if_pos c]; exact ⟨fun q => absurd q (by decide), fun q => absurd c q⟩
  · rw [if_neg c]; exact ⟨fun _ => c, fun _ => rfl⟩
theorem zb_pos {b : zb_T} (h : zr_bi b) : 0 < zb_It b ↔ ¬ zb_It b = 0 := by
  have h2 := h.2.1
  have k0 : (0 : Int32).toInt = 0 := by decide
  rw [Int32.lt_iff_toInt_lt, k0]
  constructor
  · intro q e; rw [e, k0] at q; omega
  · intro q
    have : ¬ (zb_It b).toInt = 0 := fun e => q (Int32.toInt_inj.mp (by rw [e, k0]))
    omega
theorem zr_put {S : zl_S} {M : zm_S} (h : zr S M) (x y : Int32) (t : Int64) : (zl_put S x y t).1 = (zm_put M x y t).1 ∧ zr (zl_put S x y t).2 (zm_put M x y t).2 := by
  rcases zr_at h x with ⟨a1, a2⟩ | ⟨i, hi, rfl, a1, a2⟩
  · simp only [zl_put, zm_put, a1, if_pos a2]
    exact ⟨trivial, h⟩
  · have h60 := (zr_okl h).1
    simp only [zl_put, zm_put, a1, if_neg a2, zr_cl (show i < 60 by omega)]
    by_cases c1 : zl_isItem y = 0
    · rw [if_pos c1, if_pos ((zr_itm y).mp c1)]; exact ⟨rfl, h⟩
    · rw [if_neg c1, if_neg (fun q => c1 ((zr_itm y).mpr q))]
      have hy : 0 ≤ y.toInt := by
        have hw := (zr_w (x := y) (a := 1) (b := 9999) (A := 1) (B := 9999) (by decide) (by decide))
        have k1 : (1 : Int32).toInt = 1 := by decide
        have q : ¬ zm_within y.toInt64 1 9999 = 0 := fun q => c1 ((zr_itm y).mpr q)
        rw [hw, k1] at q
        omega
      by_cases c2 : zl_isTime S t = 0
      · rw [if_pos c2, if_neg ((zr_no h t).mp c2)]; exact ⟨rfl, h⟩
      · have c3 : zm_isNo M t = 0 := Classical.not_not.mp (fun q => c2 ((zr_no h t).mpr q))
        rw [if_neg c2, if_pos c3]
        have hp := zr_pass h c2
        have hi1 : i < zl_n (zl_passTo S t) := by rw [zl_n_pass]; exact hi
        generalize zl_passTo S t = S1 at hp hi1 ⊢
        generalize zm_pass M t = M1 at hp ⊢
        obtain ⟨-, f2, -, -, f5, -, -, -, -⟩ := zr_f hp.2 hi1
        have hbi := hp.1.2.2.2.1 i hi1
        have hn : zm_nb M1 = zl_n S1 := hp.2.1
        rw [f2, f5, hn]
        by_cases d : zb_Dr (zl_B S1 i) = 1
        · rw [if_pos d, if_pos d]
          by_cases e : zb_isEmpty (zl_B S1 i) = 0
          · rw [if_pos e, if_pos ((zb_pos hbi).mpr ((zb_emp _).mp e))]; exact ⟨rfl, hp⟩
          · rw [if_neg e, if_neg (fun q => e ((zb_emp _).mpr ((zb_pos hbi).mp q)))]
            have hin := zr_in0 hp y (zl_n S1) 0 (by omega)
            cases hf : zl_boxOfItem S1 y with
            | none =>
              rw [if_pos (hin.mp hf)]
              have E1 := zE_it hp.2 hi1 y
              have E2 := zE_ke E1 hi1 0
              simp only [zl_BsB, zl_sBB] at E2
              refine ⟨rfl, zI_same hp.1 hi1 ⟨hbi.1, hy, hbi.2.2.1, hbi.2.2.2.1, ?_⟩ rfl, E2⟩
              show 0 ≤ (0 : Int64).toInt
              decide
            | some k =>
              have hne : ¬ zm_in M1 y (zl_n S1) 0 0 = 0 := fun q => by
                have := hin.mpr q
                rw [show zl_fi (zl_B S1) y (zl_n S1) 0 = zl_boxOfItem S1 y from rfl, hf] at this
                cases this
              rw [if_neg hne]
              exact ⟨rfl, hp⟩
        · rw [if_neg d, if_neg d]; exact ⟨rfl, hp⟩
theorem zr_evs {y : Int32} (h : 0 ≤ y.toInt ∧ y.toInt ≤ 4) : y = 0 ∨ y = 1 ∨ y = 2 ∨ y = 3 ∨ y = 4 := by
  have k0 : (0 : Int32).toInt = 0 := by decide
  have k1 : (1 : Int32).toInt = 1 := by decide
  have k2 : (2 : Int32).toInt = 2 := by decide
  have k3 : (3 : Int32).toInt = 3 := by decide
  have k4 : (4 : Int32).toInt = 4 := by decide
  have hh : y.toInt = 0 ∨ y.toInt = 1 ∨ y.toInt = 2 ∨ y.toInt = 3 ∨ y.toInt = 4 := by omega
  rcases hh with q | q | q | q | q
  · exact Or.inl (Int32.toInt_inj.mp (by rw [q, k0]))
  · exact Or.inr (Or.inl (Int32.toInt_inj.mp (by rw [q, k1])))
  · exact Or.inr (Or.inr (Or.inl (Int32.toInt_inj.mp (by rw [q, k2]))))
  · exact Or.inr (Or.inr (Or.inr (Or.inl (Int32.toInt_inj.mp (by rw [q, k3])))))
  · exact Or.inr (Or.inr (Or.inr (Or.inr (Int32.toInt_inj.mp (by rw [q, k4])))))
theorem zb_unused_iff (b : zb_T) : zb_isUnused b = 0 ↔ ¬ (zb_Dr b = 0 ∧ zb_It b = 0 ∧ lg_cmp (zb_Ke b) 0 = 0) := by
  unfold zb_isUnused
  by_cases c1 : zb_Dr b = 0
  · rw [if_pos c1]
    by_cases c2 : zb_isEmpty b = 0
    · rw [if_pos c2]; exact ⟨fun _ q => (zb_emp b).mp c2 q.2.1, fun _ => rfl⟩
    · rw [if_neg c2]
      have c2b : zb_It b = 0 := Classical.not_not.mp (fun q => c2 ((zb_emp b).mpr q))
      by_cases c3 : lg_cmp (zb_Ke b) 0 = 0
      · rw [if_pos c3]; exact ⟨fun q => absurd q (by decide), fun q => absurd ⟨c1, c2b, c3⟩ q⟩
      · rw [if_neg c3]; exact ⟨fun _ q => c3 q.2.2, fun _ => rfl⟩
  · rw [if_neg c1]; exact ⟨fun _ q => c1 q.1, fun _ => rfl⟩
theorem zr_door {S : zl_S} {M : zm_S} (h : zr S M) (x y : Int32) (t : Int64) : (zl_door S x y t).1 = (zm_door M x y t).1 ∧ zr (zl_door S x y t).2 (zm_door M x y t).2 := by
  rcases zr_at h x with ⟨a1, a2⟩ | ⟨i, hi, rfl, a1, a2⟩
  · simp only [zl_door, zm_door, a1, if_pos a2]
    exact ⟨trivial, h⟩
  · have h60 := (zr_okl h).1
    simp only [zl_door, zm_door, a1, if_neg a2, zr_cl (show i < 60 by omega)]
    by_cases c1 : zb_isEvent y = 0
    · rw [if_pos c1, if_pos ((zr_evt y).mp c1)]; exact ⟨rfl, h⟩
    · rw [if_neg c1, if_neg (fun q => c1 ((zr_evt y).mpr q))]
      have hy : 0 ≤ y.toInt ∧ y.toInt ≤ 4 := by
        have hw := (zr_w (x := y) (a := 0) (b := 4) (A := 0) (B := 4) (by decide) (by decide))
        have k0 : (0 : Int32).toInt = 0 := by decide
        have k4 : (4 : Int32).toInt = 4 := by decide
        have q : ¬ zm_within y.toInt64 0 4 = 0 := fun q => c1 ((zr_evt y).mpr q)
        rw [hw, k0, k4] at q
        exact Classical.not_not.mp q
      by_cases c2 : zl_isTime S t = 0
      · rw [if_pos c2, if_neg ((zr_no h t).mp c2)]; exact ⟨rfl, h⟩
      · have c3 : zm_isNo M t = 0 := Classical.not_not.mp (fun q => c2 ((zr_no h t).mpr q))
        rw [if_neg c2, if_pos c3]
        have hp := zr_pass h c2
        have hi1 : i < zl_n (zl_passTo S t) := by rw [zl_n_pass]; exact hi
        have hT1 : zl_T (zl_passTo S t) = t := zl_T_pass
        generalize zl_passTo S t = S1 at hp hi1 hT1 ⊢
        generalize zm_pass M t = M1 at hp ⊢
        obtain ⟨-, f2, -, -, f5, -, -, -, f9⟩ := zr_f hp.2 hi1
        have hbi := hp.1.2.2.2.1 i hi1
        have hset : ∀ v, zr (zl_sB S1 i (zb_sDr (zl_B S1 i) v)) (zm_sdr M1 (upd (zm_dr M1) (i + 1) v)) := fun v => ⟨zI_same hp.1 hi1 hbi rfl, zE_dr hp.2 hi1 v⟩
        have aset : ∀ v, zm_dr (zm_sdr M1 (upd (zm_dr M1) (i + 1) v)) (i + 1) = v := fun v => pk_us
        have hopn : ∀ v, zr (zl_sB S1 i (zb_begin (zl_B S1 i) v t)) (zm_open M1 (nI (i + 1)) v) := fun v => by
          have q := zr_open hp hi1 v
          rw [hT1] at q
          exact q
        have aopn : ∀ v, zm_dr (zm_open M1 (nI (i + 1)) v) (i + 1) = v := fun v => ((zr_f (hopn v).2 hi1).2.1).trans (by rw [zl_BsB]; rfl)
        simp only [zl_BsB, aset, aopn, f2, f5, f9]
        generalize hb : zl_B S1 i = b at *
        rcases zr_evs hy with rfl | rfl | rfl | rfl | rfl
        · have ea : zb_admits b 0 = if zb_Dr b = 0 then 1 else 0 := rfl
          have eu : zb_undergo b 0 t = zb_begin b 1 t := rfl
          rw [ea, eu, if_pos rfl]
          by_cases d : zb_Dr b = 0
          · rw [if_pos d, if_neg (show ¬ (1 : Int32) = 0 by decide), if_pos d, if_neg (show ¬ (2 : Int32) ≤ 0 by decide)]
            exact ⟨rfl, hopn 1⟩
          · rw [if_neg d, if_pos rfl, if_neg d]; exact ⟨rfl, hp⟩
        · have ea : zb_admits b 1 = if zb_Dr b = 0 then 1 else if zb_Dr b = 1 then 1 else 0 := rfl
          have eu : zb_undergo b 1 t = zb_begin b 2 t := rfl
          rw [ea, eu, if_neg (show ¬ (1 : Int32) = 0 by decide), if_pos rfl]
          by_cases d : zb_Dr b = 0
          · rw [if_pos d, if_neg (show ¬ (1 : Int32) = 0 by decide), if_pos d, if_neg (show ¬ (2 : Int32) ≤ 1 by decide)]
            exact ⟨rfl, hopn 2⟩
          · rw [if_neg d, if_neg d]
            by_cases d1 : zb_Dr b = 1
            · rw [if_pos d1, if_neg (show ¬ (1 : Int32) = 0 by decide), if_pos d1, if_neg (show ¬ (2 : Int32) ≤ 1 by decide)]
              exact ⟨rfl, hopn 2⟩
            · rw [if_neg d1, if_pos rfl, if_neg d1]; exact ⟨rfl, hp⟩
        · have ea : zb_admits b 2 = if zb_Dr b = 2 then 1 else 0 := rfl
          have eu : zb_undergo b 2 t = zb_sDr b 0 := rfl
          rw [ea, eu, if_neg (show ¬ (2 : Int32) = 0 by decide), if_neg (show ¬ (2 : Int32) = 1 by decide), if_pos rfl]
          by_cases d : zb_Dr b = 2
          · rw [if_pos d, if_neg (show ¬ (1 : Int32) = 0 by decide), if_pos d, if_pos (show (2 : Int32) ≤ 2 by decide)]
            exact ⟨rfl, hset 0⟩
          · rw [if_neg d, if_pos rfl, if_neg d]; exact ⟨rfl, hp⟩
        · have ea : zb_admits b 3 = zb_isUnused b := rfl
          have eu : zb_undergo b 3 t = zb_sDr b 3 := rfl
          rw [ea, eu, if_neg (show ¬ (3 : Int32) = 0 by decide), if_neg (show ¬ (3 : Int32) = 1 by decide), if_neg (show ¬ (3 : Int32) = 2 by decide), if_pos rfl]
          by_cases u : zb_isUnused b = 0
          · have u2 := (zb_unused_iff b).mp u
            rw [if_pos u]
            by_cases d : zb_Dr b = 0
            · rw [if_pos d]
              by_cases d2 : zb_It b = 0
              · rw [if_pos d2, if_neg (fun q => u2 ⟨d, d2, q⟩)]; exact ⟨rfl, hp⟩
              · rw [if_neg d2]; exact ⟨rfl, hp⟩
            · rw [if_neg d]; exact ⟨rfl, hp⟩
          · have u2 := Classical.not_not.mp (fun q => u ((zb_unused_iff b).mpr q))
            rw [if_neg u, if_pos u2.1, if_pos u2.2.1, if_pos u2.2.2, if_pos (show (2 : Int32) ≤ 3 by decide)]
            exact ⟨rfl, hset 3⟩
        · have ea : zb_admits b 4 = if zb_Dr b = 3 then 1 else 0 := rfl
          have eu : zb_undergo b 4 t = zb_sDr b 0 := rfl
          rw [ea, eu, if_neg (show ¬ (4 : Int32) = 0 by decide), if_neg (show ¬ (4 : Int32) = 1 by decide), if_neg (show ¬ (4 : Int32) = 2 by decide), if_neg (show ¬ (4 : Int32) = 3 by decide)]
          by_cases d : zb_Dr b = 3
          · rw [if_pos d, if_neg (show ¬ (1 : Int32) = 0 by decide), if_pos d, if_pos (show (2 : Int32) ≤ 4 by decide)]
            exact ⟨rfl, hset 0⟩
          · rw [if_neg d, if_pos rfl, if_neg d]; exact ⟨rfl, hp⟩

/-! reserve -/
theorem zr_su {S : zl_S} {M : zm_S} (h : zr S M) (x : Int32) : ∀ (k j m : Nat) (z : Int32), j + k = zl_n S → m ≤ j → ((m = 0 ∧ z = 6) ∨ (1 ≤ m ∧ z = zb_Sz (zl_B S (m - 1)))) → zl_su (zl_B S) x k j (nI m) z = nI (zm_bs M x k j m) ∧ zm_bs M x k j m ≤ zl_n S := by
  have h60 := (zr_okl h).1
  intro k
  induction k with
  | zero => intro j m z hj hm _; exact ⟨rfl, by show m ≤ _; omega⟩
  | succ k ih =>
    intro j m z hj hm hz
    obtain ⟨f1, f2, -, -, f5, -, -, -, f9⟩ := zr_f h.2 (show j < zl_n S by omega)
    have hbi := h.1.2.2.2.1 j (by omega)
    have skip := ih (j + 1) m z (by omega) (by omega) hz
    have take := ih (j + 1) (j + 1) (zb_Sz (zl_B S j)) (by omega) (Nat.le_refl _) (Or.inr ⟨by omega, rfl⟩)
    unfold zl_su zm_bs
    rw [f1, f2, f5, f9]
    by_cases u : zb_isUnused (zl_B S j) = 0
    · have u2 := (zb_unused_iff _).mp u
      rw [if_pos u]
      by_cases d : zb_Dr (zl_B S j) = 0
      · rw [if_pos d]
        by_cases d2 : zb_It (zl_B S j) = 0
        · rw [if_pos d2, if_neg (fun q => u2 ⟨d, d2, q⟩)]; exact skip
        · rw [if_neg d2]; exact skip
      · rw [if_neg d]; exact skip
    · have u2 := Classical.not_not.mp (fun q => u ((zb_unused_iff _).mpr q))
      rw [if_neg u, if_pos u2.1, if_pos u2.2.1, if_pos u2.2.2]
      by_cases c : zb_Sz (zl_B S j) < x
      · rw [if_pos c, if_pos c]; exact skip
      · rw [if_neg c, if_neg c]
        rcases hz with ⟨rfl, rfl⟩ | ⟨h1, rfl⟩
        · have c6 : ¬ (6 : Int32) ≤ zb_Sz (zl_B S j) := by
            rw [Int32.le_iff_toInt_le]
            have k6 : (6 : Int32).toInt = 6 := by decide
            rw [k6]
            have := hbi.1.2
            omega
          rw [if_neg c6, if_pos (show nI 0 = 0 from nI_0)]
          exact take
        · have hm1 : m - 1 < zl_n S := by omega
          have g1 := (zr_f h.2 hm1).1
          rw [show m - 1 + 1 = m by omega] at g1
          rw [if_neg (show ¬ nI m = 0 from nI_ne0 (by omega) (by omega)), g1]
          by_cases c7 : zb_Sz (zl_B S (m - 1)) ≤ zb_Sz (zl_B S j)
          · rw [if_pos c7, if_pos c7]; exact skip
          · rw [if_neg c7, if_neg c7]; exact take
theorem zr_reserve {S : zl_S} {M : zm_S} (h : zr S M) (x : Int32) (t : Int64) : (zl_reserve S x t).1 = (zm_reserve M x t).1 ∧ zr (zl_reserve S x t).2 (zm_reserve M x t).2 := by
  have h60 := (zr_okl h).1
  have hT : zm_T M = zl_T S := h.2.2.2.2.1
  have hn : zm_nb M = zl_n S := h.2.1
  unfold zl_reserve
  simp only [zm_reserve]
  rw [hT, hn]
  by_cases c : zl_isSize x = 0
  · rw [if_pos c, if_pos ((zr_size x).mp c)]; exact ⟨rfl, h⟩
  · rw [if_neg c, if_neg (fun q => c ((zr_size x).mpr q))]
    by_cases c1 : lg_cmp t (zl_T S) ≤ 0
    · rw [if_pos c1, if_pos c1]; exact ⟨rfl, h⟩
    · rw [if_neg c1, if_neg c1]
      by_cases c2 : lg_cmp t 2000000000 ≤ 0
      · rw [if_pos c2, if_pos c2]
        obtain ⟨q1, q2⟩ := zr_su h x (zl_n S) 0 0 6 (by omega) (Nat.le_refl _) (Or.inl ⟨rfl, rfl⟩)
        have e1 : zl_smallest S x = nI (zm_bs M x (zl_n S) 0 0) := q1
        rw [e1]
        generalize zm_bs M x (zl_n S) 0 0 = r at q2 ⊢
        match r, q2 with
        | 0, _ =>
          have e2 : zl_boxAt S (nI 0) = none := by unfold zl_boxAt; rw [if_pos (show nI 0 < 1 by decide)]
          rw [e2, if_pos (show nI 0 ≤ 0 by decide)]
          exact ⟨nI_0.symm, h⟩
        | r + 1, q2 =>
          rw [zl_boxAt_nI (zr_okl h) (show r < zl_n S by omega), if_neg (show ¬ nI (r + 1) ≤ 0 from nI_nle (by omega) (by omega))]
          have hbi := h.1.2.2.2.1 r (by omega)
          refine ⟨rfl, zI_same h.1 (by omega) ⟨hbi.1, hbi.2.1, hbi.2.2.1, hbi.2.2.2.1, ?_⟩ rfl, zE_ke h.2 (by omega) t⟩
          show 0 ≤ t.toInt
          rw [lg_cmp_le, Int64.le_iff_toInt_le] at c1
          have := h.1.2.1
          omega
      · rw [if_neg c2, if_neg c2]; exact ⟨rfl, h⟩
/-! close -/
theorem zr_ic0 {S : zl_S} {M : zm_S} (h : zr S M) (x : Int32) : ∀ (k j : Nat), j + k = zl_n S → (zm_ic M x k j = 0 ↔ ∀ i, j ≤ i → i < zl_n S → ¬ zb_Co (zl_B S i) = x) := by
  intro k
  induction k with
  | zero => intro j hj; exact ⟨fun _ i h1 h2 => by omega, fun _ => rfl⟩
  | succ k ih =>
    intro j hj
    obtain ⟨-, -, -, -, -, f6, -, -, -⟩ := zr_f h.2 (show j < zl_n S by omega)
    unfold zm_ic
    rw [f6]
    by_cases c : zb_Co (zl_B S j) = x
    · rw [if_pos c]
      exact ⟨fun q => absurd q (by decide), fun q => absurd c (q j (Nat.le_refl _) (by omega))⟩
    · rw [if_neg c, ih (j + 1) (by omega)]
      constructor
      · intro q i h1 h2
        by_cases hij : i = j
        · rw [hij]; exact c
        · exact q i (by omega) h2
      · intro q i h1 h2; exact q i (by omega) h2
theorem zr_isc {S : zl_S} {M : zm_S} (h : zr S M) {x : Int32} (hx : ¬ x = -1) : (zl_boxNumberOfCode S x = 0 ↔ ∀ i, i < zl_n S → ¬ zb_Co (zl_B S i) = x) ∧ (zm_isCode M x = 0 ↔ zl_boxNumberOfCode S x = 0) := by
  have h60 := (zr_okl h).1
  have hn : zm_nb M = zl_n S := h.2.1
  have a : zl_boxNumberOfCode S x = 0 ↔ ∀ i, i < zl_n S → ¬ zb_Co (zl_B S i) = x := by
    rcases zl_nc_spec (S := S) hx (zl_n S) 0 (by omega) with ⟨g1, g2⟩ | ⟨i, -, g2, g3, g4⟩
    · exact ⟨fun _ i hi => g2 i (Nat.zero_le _) hi, fun _ => g1⟩
    · refine ⟨fun q => ?_, fun q => absurd g3 (q i g2)⟩
      exfalso
      have e : zl_boxNumberOfCode S x = nI (i + 1) := g4
      rw [e] at q
      exact nI_ne0 (by omega) (by omega) q
  refine ⟨a, ?_⟩
  rw [a]
  unfold zm_isCode
  rw [hn, zr_ic0 h x (zl_n S) 0 (by omega)]
  exact ⟨fun q i hi => q i (Nat.zero_le _) hi, fun q i _ hi => q i hi⟩
theorem zt_at_nI {q : zt_T} {j : Nat} (h : q.2 ≤ 200) (hj : j < q.2) : zt_at q (nI j) = q.1 j := by
  unfold zt_at
  rw [if_neg (nI_pos (by omega)), if_neg (show ¬ nI q.2 ≤ nI j from nI_ge hj (by omega)), nI_clamp (by omega)]
theorem zr_wc {S : zl_S} {M : zm_S} (h : zr S M) : ∀ (k j : Nat), j + k = (zl_P S).2 → (zm_at M k j < (zl_P S).2 ∧ zl_wc S k j = ((zl_P S).1 (zm_at M k j), zl_sP S (zt_drop (zl_P S) (nI (zm_at M k j) + 1))) ∧ zl_boxNumberOfCode S ((zl_P S).1 (zm_at M k j)) = 0) ∨ (zm_at M k j = (zl_P S).2 ∧ zl_wc S k j = (-1, S)) := by
  have h200 := (zr_okl h).2.1
  have hI := h.1
  intro k
  induction k with
  | zero => intro j hj; exact Or.inr ⟨by show j = _; omega, rfl⟩
  | succ k ih =>
    intro j hj
    have hjl : j < (zl_P S).2 := by omega
    have etp : zm_tp M j = (zl_P S).1 j := h.2.2.2.2.2.2.2.2.2.1 j hjl
    have hpos := hI.2.2.2.2.2 j hjl
    have hx : ¬ (zl_P S).1 j = -1 := fun q => by
      have km : (-1 : Int32).toInt = -1 := by decide
      rw [q, km] at hpos
      omega
    have hisc := (zr_isc h hx).2
    have e1 : zl_wc S (k + 1) j = if zl_boxNumberOfCode S ((zl_P S).1 j) = 0 then ((zl_P S).1 j, zl_sP S (zt_drop (zl_P S) (nI j + 1))) else zl_wc S k (j + 1) := by
      show (if zl_boxNumberOfCode S (zt_at (zl_P S) (nI j)) = 0 then (zt_at (zl_P S) (nI j), _) else _) = _
      rw [zt_at_nI h200 hjl]
    have e2 : zm_at M (k + 1) j = if zm_isCode M ((zl_P S).1 j) = 0 then j else zm_at M k (j + 1) := by
      show (if zm_isCode M (zm_tp M j) = 0 then j else _) = _
      rw [etp]
    rw [e1, e2]
    by_cases c : zl_boxNumberOfCode S ((zl_P S).1 j) = 0
    · rw [if_pos c, if_pos (hisc.mpr c)]
      exact Or.inl ⟨hjl, rfl, c⟩
    · rw [if_neg c, if_neg (fun q => c (hisc.mp q))]
      exact ih (j + 1) (by omega)
theorem zm_sh_at (d : Nat) : ∀ (k j : Nat) (f : Nat → Int32) (i : Nat), zm_sh d k j f i = if j ≤ i ∧ i < j + k then f (i + d + 1) else f i := by
  intro k
  induction k with
  | zero => intro j f i; rw [if_neg (by omega)]; rfl
  | succ k ih =>
    intro j f i
    show zm_sh d k (j + 1) (upd f j (f (j + d + 1))) i = _
    rw [ih]
    by_cases c : j + 1 ≤ i ∧ i < j + 1 + k
    · rw [if_pos c, if_pos (by omega), pk_un (by omega)]
    · rw [if_neg c]
      by_cases hij : i = j
      · rw [hij, if_pos (by omega), pk_us]
      · rw [if_neg (by omega), pk_un hij]
theorem zt_drop_eq {q : zt_T} {X : Nat} (h : q.2 ≤ 200) (hX : X < q.2) : zt_drop q (nI X + 1) = (va_cpy q.1 q.1 (X + 1) 0 (q.2 - (X + 1)), q.2 - (X + 1)) := by
  rw [nI_1]
  unfold zt_drop
  rw [if_neg (show ¬ nI (X + 1) < 1 from nI_nlt (b := 1) (by omega) (by omega)), if_pos (show nI (X + 1) ≤ nI q.2 from nI_le (by omega) (by omega)), pk_sub (by omega), nI_clamp (by omega), nI_clamp (by omega)]
  rfl
theorem zb_wants_iff (b : zb_T) : zb_wantsCode b = 0 ↔ ¬ (¬ zb_It b = 0 ∧ zb_lies b = 0) := by
  unfold zb_wantsCode
  by_cases c1 : zb_isEmpty b = 0
  · rw [if_pos c1]
    by_cases c2 : zb_lies b = 0
    · rw [if_pos c2]; exact ⟨fun q => absurd q (by decide), fun q => absurd ⟨(zb_emp b).mp c1, c2⟩ q⟩
    · rw [if_neg c2]; exact ⟨fun _ q => c2 q.2, fun _ => rfl⟩
  · rw [if_neg c1]
    exact ⟨fun _ q => c1 ((zb_emp b).mpr q.1), fun _ => rfl⟩
theorem zE_tape {S : zl_S} {M : zm_S} (h : zr_E S M) (X : Nat) (hX : X < (zl_P S).2) : zr_E (zl_sP S (va_cpy (zl_P S).1 (zl_P S).1 (X + 1) 0 ((zl_P S).2 - (X + 1)), (zl_P S).2 - (X + 1))) (zm_stp (zm_stn M (zm_tn M - X - 1)) (zm_sh X (zm_tn (zm_stn M (zm_tn M - X - 1))) 0 (zm_tp (zm_stn M (zm_tn M - X - 1))))) := by
  obtain ⟨g1, g2, g3, g4, g5, g6, g7, g8, g9, g10, g11⟩ := h
  refine ⟨g1, g2, g3, g4, g5, g6, g7, ?_, ?_, g10, g11⟩
  · show zm_tn M - X - 1 = (zl_P S).2 - (X + 1)
    rw [g8]; omega
  · intro k hk
    have hk : k < (zl_P S).2 - (X + 1) := hk
    show zm_sh X (zm_tn M - X - 1) 0 (zm_tp M) k = va_cpy (zl_P S).1 (zl_P S).1 (X + 1) 0 ((zl_P S).2 - (X + 1)) k
    rw [zm_sh_at, if_pos (by rw [g8]; omega), pk_cpy_in (by omega) (by omega), show X + 1 + (k - 0) = k + X + 1 by omega]
    exact g9 _ (by omega)
set_option maxHeartbeats 4000000 in
theorem zr_close {S : zl_S} {M : zm_S} (h : zr S M) (x : Int32) (t : Int64) : (zl_close S x t).1 = (zm_close M x t).1 ∧ zr (zl_close S x t).2 (zm_close M x t).2 := by
  rcases zr_at h x with ⟨a1, a2⟩ | ⟨i, hi, rfl, a1, a2⟩
  · simp only [zl_close, zm_close, a1, if_pos a2]
    exact ⟨trivial, h⟩
  · have h60 := (zr_okl h).1
    simp only [zl_close, zm_close, a1, if_neg a2, zr_cl (show i < 60 by omega)]
    by_cases c2 : zl_isTime S t = 0
    · rw [if_pos c2, if_neg ((zr_no h t).mp c2)]; exact ⟨rfl, h⟩
    · have c3 : zm_isNo M t = 0 := Classical.not_not.mp (fun q => c2 ((zr_no h t).mpr q))
      rw [if_neg c2, if_pos c3]
      have hp := zr_pass h c2
      have hi1 : i < zl_n (zl_passTo S t) := by rw [zl_n_pass]; exact hi
      generalize zl_passTo S t = S1 at hp hi1 ⊢
      generalize zm_pass M t = M1 at hp ⊢
      obtain ⟨-, f2, -, -, f5, f6, -, -, -⟩ := zr_f hp.2 hi1
      have hbi := hp.1.2.2.2.1 i hi1
      have h200 := (zr_okl hp).2.1
      have htn : zm_tn M1 = (zl_P S1).2 := hp.2.2.2.2.2.2.2.2.1
      have k0 : (0 : Int32).toInt = 0 := by decide
      rw [f2, f5, f6]
      by_cases d : zb_Dr (zl_B S1 i) = 1
      · rw [if_pos d, if_pos d]
        have hset : zr (zl_sB S1 i (zb_sDr (zl_B S1 i) 0)) (zm_sdr M1 (upd (zm_dr M1) (i + 1) 0)) := ⟨zI_same hp.1 hi1 hbi rfl, zE_dr hp.2 hi1 0⟩
        by_cases e : zb_It (zl_B S1 i) = 0
        · have w0 : zb_wantsCode (zl_B S1 i) = 0 := (zb_wants_iff _).mpr (fun q => q.1 e)
          rw [if_pos w0, if_pos (show zb_It (zl_B S1 i) ≤ 0 by rw [e]; decide)]
          exact ⟨rfl, hset⟩
        · have e2 : ¬ zb_It (zl_B S1 i) ≤ 0 := fun q => by
            have q2 := (zb_pos hbi).mpr e
            rw [Int32.le_iff_toInt_le] at q
            rw [Int32.lt_iff_toInt_lt] at q2
            omega
          rw [if_neg e2]
          by_cases l : zb_lies (zl_B S1 i) = 0
          · have w1 : ¬ zb_wantsCode (zl_B S1 i) = 0 := fun q => (zb_wants_iff _).mp q ⟨e, l⟩
            have l2 : ¬ 0 ≤ zb_Co (zl_B S1 i) := fun q => by
              have q2 := (zb_lies_iff hbi).mp l
              rw [Int32.le_iff_toInt_le] at q
              rw [Int32.lt_iff_toInt_lt] at q2
              omega
            rw [if_neg w1, if_neg l2, htn]
            have hwc := zr_wc hp (zl_P S1).2 0 (by omega)
            have ew : zl_wanted S1 = zl_wc S1 (zl_P S1).2 0 := rfl
            rw [ew]
            generalize zm_at M1 (zl_P S1).2 0 = X at hwc ⊢
            rcases hwc with ⟨hX, e5, hno⟩ | ⟨hX, e5⟩
            · have hpos := hp.1.2.2.2.2.2 X hX
              have hcx : ¬ (zl_P S1).1 X = -1 := fun q => by
                have km : (-1 : Int32).toInt = -1 := by decide
                rw [q, km] at hpos
                omega
              have hnX : ¬ nI X = nI (zl_P S1).2 := fun q => by
                have := (nI_eq (by omega) (by omega)).mp q
                omega
              have etp : zm_tp M1 X = (zl_P S1).1 X := hp.2.2.2.2.2.2.2.2.2.1 X hX
              have hco : zb_Co (zl_B S1 i) = -1 := Classical.not_not.mp (fun q => by
                unfold zb_lies at l
                rw [if_neg q] at l
                exact absurd l (by decide))
              have hla := hbi.2.2.2.1 hco
              rw [e5]
              rw [if_neg hcx, if_neg hnX, zt_drop_eq h200 hX]
              -- the reference's steps, one by one
              have E1 := zE_dr hp.2 hi1 0
              have E2 := zE_co E1 hi1 ((zl_P S1).1 X)
              have E3 := zE_li E2 hi1 t
              have E4 := zE_la E3 hi1 0
              simp only [zl_BsB, zl_sBB] at E4
              have eb : zb_sLa (zb_sLs (zb_sCo (zb_sDr (zl_B S1 i) 0) ((zl_P S1).1 X)) t) 0 = zb_sDr (zb_lay (zl_B S1 i) ((zl_P S1).1 X) t) 0 := by
                show (_, _, _, _, _, _, _, (0 : Int32), _) = (_, _, _, _, _, _, _, zb_La (zl_B S1 i), _)
                rw [hla]
                rfl
              rw [eb] at E4
              have I4 : zr_I (zl_sB S1 i (zb_sDr (zb_lay (zl_B S1 i) ((zl_P S1).1 X) t) 0)) := by
                refine zI_up hp.1 hi1 ⟨hbi.1, hbi.2.1, ?_, fun q => absurd q hcx, hbi.2.2.2.2⟩ (Or.inr (fun k hk _ => ((zr_isc hp hcx).1.mp hno) k hk))
                show -1 ≤ ((zl_P S1).1 X).toInt
                omega
              have e28 : zm_tp (zm_sdr M1 (upd (zm_dr M1) (i + 1) 0)) X = (zl_P S1).1 X := etp
              rw [e28]
              generalize hS4 : zl_sB S1 i (zb_sDr (zb_lay (zl_B S1 i) ((zl_P S1).1 X) t) 0) = S4 at E4 I4
              have hP4 : zl_P S4 = zl_P S1 := by rw [← hS4]; rfl
              have eS : ∀ q : zt_T, zl_sB (zl_sB (zl_sP S1 q) i (zb_lay (zl_B (zl_sP S1 q) i) ((zl_P S1).1 X) t)) i (zb_sDr (zl_B (zl_sB (zl_sP S1 q) i (zb_lay (zl_B (zl_sP S1 q) i) ((zl_P S1).1 X) t)) i) 0) = zl_sP S4 q := by
                intro q
                rw [← hS4, zl_BsB, zl_sBB]
                rfl
              simp only [eS]
              refine ⟨?_, ?_, ?_⟩
              · exact (pk_us (f := zm_co (zm_sdr M1 (upd (zm_dr M1) (i + 1) 0))) (k := i + 1) (x := (zl_P S1).1 X)).symm
              · refine ⟨⟨I4.1.1, ?_, I4.1.2.2⟩, I4.2.1, I4.2.2.1, I4.2.2.2.1, I4.2.2.2.2.1, ?_⟩
                · show (zl_P S1).2 - (X + 1) ≤ 200
                  omega
                · intro k hk
                  have hk : k < (zl_P S1).2 - (X + 1) := hk
                  show 0 ≤ (va_cpy (zl_P S1).1 (zl_P S1).1 (X + 1) 0 ((zl_P S1).2 - (X + 1)) k).toInt
                  rw [pk_cpy_in (by omega) (by omega)]
                  exact hp.1.2.2.2.2.2 _ (by omega)
              · have q := zE_tape E4 X (by rw [hP4]; exact hX)
                rw [hP4] at q
                exact q
            · rw [e5]
              rw [if_pos rfl, if_pos (by rw [hX])]
              exact ⟨rfl, hp⟩
          · have w0 : zb_wantsCode (zl_B S1 i) = 0 := (zb_wants_iff _).mpr (fun q => l q.2)
            have l2 : 0 ≤ zb_Co (zl_B S1 i) := by
              have q2 : ¬ zb_Co (zl_B S1 i) < 0 := fun q => l ((zb_lies_iff hbi).mpr q)
              rw [Int32.lt_iff_toInt_lt] at q2
              rw [Int32.le_iff_toInt_le]
              omega
            rw [if_pos w0, if_pos l2]
            exact ⟨rfl, hset⟩
      · rw [if_neg d, if_neg d]; exact ⟨rfl, hp⟩

/-! THE STATE of the reference. zm_ -/
abbrev zm_S : Type := Nat × (Nat → Int32) × (Nat → Int32) × (Nat → Int64) × (Nat → Int32) × (Nat → Int32) × (Nat → Int32) × (Nat → Int64) × (Nat → Int32) × (Nat → Int64) × Int64 × Int32 × Int32 × Int64 × Nat × (Nat → Int32) × Nat × (Nat → Int32)
def zm_nb (M : zm_S) : Nat := M.1
def zm_sz (M : zm_S) : Nat → Int32 := M.2.1
def zm_dr (M : zm_S) : Nat → Int32 := M.2.2.1
def zm_si (M : zm_S) : Nat → Int64 := M.2.2.2.1
def zm_to (M : zm_S) : Nat → Int32 := M.2.2.2.2.1
def zm_it (M : zm_S) : Nat → Int32 := M.2.2.2.2.2.1
def zm_co (M : zm_S) : Nat → Int32 := M.2.2.2.2.2.2.1
def zm_li (M : zm_S) : Nat → Int64 := M.2.2.2.2.2.2.2.1
def zm_la (M : zm_S) : Nat → Int32 := M.2.2.2.2.2.2.2.2.1
def zm_ke (M : zm_S) : Nat → Int64 := M.2.2.2.2.2.2.2.2.2.1
def zm_T (M : zm_S) : Int64 := M.2.2.2.2.2.2.2.2.2.2.1
def zm_A (M : zm_S) : Int32 := M.2.2.2.2.2.2.2.2.2.2.2.1
def zm_R (M : zm_S) : Int32 := M.2.2.2.2.2.2.2.2.2.2.2.2.1
def zm_K (M : zm_S) : Int64 := M.2.2.2.2.2.2.2.2.2.2.2.2.2.1
def zm_tn (M : zm_S) : Nat := M.2.2.2.2.2.2.2.2.2.2.2.2.2.2.1
def zm_tp (M : zm_S) : Nat → Int32 := M.2.2.2.2.2.2.2.2.2.2.2.2.2.2.2.1
def zm_fn (M : zm_S) : Nat := M.2.2.2.2.2.2.2.2.2.2.2.2.2.2.2.2.1
def zm_fr (M : zm_S) : Nat → Int32 := M.2.2.2.2.2.2.2.2.2.2.2.2.2.2.2.2.2
def zm_snb (M : zm_S) (v : Nat) : zm_S := (v, zm_sz M, zm_dr M, zm_si M, zm_to M, zm_it M, zm_co M, zm_li M, zm_la M, zm_ke M, zm_T M, zm_A M, zm_R M, zm_K M, zm_tn M, zm_tp M, zm_fn M, zm_fr M)
def zm_ssz (M : zm_S) (v : Nat → Int32) : zm_S := (zm_nb M, v, zm_dr M, zm_si M, zm_to M, zm_it M, zm_co M, zm_li M, zm_la M, zm_ke M, zm_T M, zm_A M, zm_R M, zm_K M, zm_tn M, zm_tp M, zm_fn M, zm_fr M)
def zm_sdr (M : zm_S) (v : Nat → Int32) : zm_S := (zm_nb M, zm_sz M, v, zm_si M, zm_to M, zm_it M, zm_co M, zm_li M, zm_la M, zm_ke M, zm_T M, zm_A M, zm_R M, zm_K M, zm_tn M, zm_tp M, zm_fn M, zm_fr M)
def zm_ssi (M : zm_S) (v : Nat → Int64) : zm_S := (zm_nb M, zm_sz M, zm_dr M, v, zm_to M, zm_it M, zm_co M, zm_li M, zm_la M, zm_ke M, zm_T M, zm_A M, zm_R M, zm_K M, zm_tn M, zm_tp M, zm_fn M, zm_fr M)
def zm_sto (M : zm_S) (v : Nat → Int32) : zm_S := (zm_nb M, zm_sz M, zm_dr M, zm_si M, v, zm_it M, zm_co M, zm_li M, zm_la M, zm_ke M, zm_T M, zm_A M, zm_R M, zm_K M, zm_tn M, zm_tp M, zm_fn M, zm_fr M)
def zm_sit (M : zm_S) (v : Nat → Int32) : zm_S := (zm_nb M, zm_sz M, zm_dr M, zm_si M, zm_to M, v, zm_co M, zm_li M, zm_la M, zm_ke M, zm_T M, zm_A M, zm_R M, zm_K M, zm_tn M, zm_tp M, zm_fn M, zm_fr M)
def zm_sco (M : zm_S) (v : Nat → Int32) : zm_S := (zm_nb M, zm_sz M, zm_dr M, zm_si M, zm_to M, zm_it M, v, zm_li M, zm_la M, zm_ke M, zm_T M, zm_A M, zm_R M, zm_K M, zm_tn M, zm_tp M, zm_fn M, zm_fr M)
def zm_sli (M : zm_S) (v : Nat → Int64) : zm_S := (zm_nb M, zm_sz M, zm_dr M, zm_si M, zm_to M, zm_it M, zm_co M, v, zm_la M, zm_ke M, zm_T M, zm_A M, zm_R M, zm_K M, zm_tn M, zm_tp M, zm_fn M, zm_fr M)
def zm_sla (M : zm_S) (v : Nat → Int32) : zm_S := (zm_nb M, zm_sz M, zm_dr M, zm_si M, zm_to M, zm_it M, zm_co M, zm_li M, v, zm_ke M, zm_T M, zm_A M, zm_R M, zm_K M, zm_tn M, zm_tp M, zm_fn M, zm_fr M)
def zm_ske (M : zm_S) (v : Nat → Int64) : zm_S := (zm_nb M, zm_sz M, zm_dr M, zm_si M, zm_to M, zm_it M, zm_co M, zm_li M, zm_la M, v, zm_T M, zm_A M, zm_R M, zm_K M, zm_tn M, zm_tp M, zm_fn M, zm_fr M)
def zm_sT (M : zm_S) (v : Int64) : zm_S := (zm_nb M, zm_sz M, zm_dr M, zm_si M, zm_to M, zm_it M, zm_co M, zm_li M, zm_la M, zm_ke M, v, zm_A M, zm_R M, zm_K M, zm_tn M, zm_tp M, zm_fn M, zm_fr M)
def zm_sA (M : zm_S) (v : Int32) : zm_S := (zm_nb M, zm_sz M, zm_dr M, zm_si M, zm_to M, zm_it M, zm_co M, zm_li M, zm_la M, zm_ke M, zm_T M, v, zm_R M, zm_K M, zm_tn M, zm_tp M, zm_fn M, zm_fr M)
def zm_sR (M : zm_S) (v : Int32) : zm_S := (zm_nb M, zm_sz M, zm_dr M, zm_si M, zm_to M, zm_it M, zm_co M, zm_li M, zm_la M, zm_ke M, zm_T M, zm_A M, v, zm_K M, zm_tn M, zm_tp M, zm_fn M, zm_fr M)
def zm_sK (M : zm_S) (v : Int64) : zm_S := (zm_nb M, zm_sz M, zm_dr M, zm_si M, zm_to M, zm_it M, zm_co M, zm_li M, zm_la M, zm_ke M, zm_T M, zm_A M, zm_R M, v, zm_tn M, zm_tp M, zm_fn M, zm_fr M)
def zm_stn (M : zm_S) (v : Nat) : zm_S := (zm_nb M, zm_sz M, zm_dr M, zm_si M, zm_to M, zm_it M, zm_co M, zm_li M, zm_la M, zm_ke M, zm_T M, zm_A M, zm_R M, zm_K M, v, zm_tp M, zm_fn M, zm_fr M)
def zm_stp (M : zm_S) (v : Nat → Int32) : zm_S := (zm_nb M, zm_sz M, zm_dr M, zm_si M, zm_to M, zm_it M, zm_co M, zm_li M, zm_la M, zm_ke M, zm_T M, zm_A M, zm_R M, zm_K M, zm_tn M, v, zm_fn M, zm_fr M)
def zm_sfn (M : zm_S) (v : Nat) : zm_S := (zm_nb M, zm_sz M, zm_dr M, zm_si M, zm_to M, zm_it M, zm_co M, zm_li M, zm_la M, zm_ke M, zm_T M, zm_A M, zm_R M, zm_K M, zm_tn M, zm_tp M, v, zm_fr M)
def zm_sfr (M : zm_S) (v : Nat → Int32) : zm_S := (zm_nb M, zm_sz M, zm_dr M, zm_si M, zm_to M, zm_it M, zm_co M, zm_li M, zm_la M, zm_ke M, zm_T M, zm_A M, zm_R M, zm_K M, zm_tn M, zm_tp M, zm_fn M, v)
abbrev zm_Ad : Type := Nat × Nat × Nat × Nat × Nat × Nat × Nat × Nat × Nat × Nat × Nat
def zm_fs (a : zm_Ad) (M : zm_S) : List Value := [.int (nI (zm_nb M)), .ref a.1, .ref a.2.1, .ref a.2.2.1, .ref a.2.2.2.1, .ref a.2.2.2.2.1, .ref a.2.2.2.2.2.1, .ref a.2.2.2.2.2.2.1, .ref a.2.2.2.2.2.2.2.1, .ref a.2.2.2.2.2.2.2.2.1, .long (zm_T M), .int (zm_A M), .int (zm_R M), .long (zm_K M), .int (nI (zm_tn M)), .ref a.2.2.2.2.2.2.2.2.2.1, .int (nI (zm_fn M)), .ref a.2.2.2.2.2.2.2.2.2.2]
def zm_W (ci cj cz : ClassId) (h : Nat) (a : zm_Ad) (M : zm_S) : va_W := [(h, .inr (3, zm_fs a M)), (a.1, .inl (ci, 61, .inl (zm_sz M))), (a.2.1, .inl (ci, 61, .inl (zm_dr M))), (a.2.2.1, .inl (cj, 61, .inr (.inl (zm_si M)))), (a.2.2.2.1, .inl (cz, 61, .inl (zm_to M))), (a.2.2.2.2.1, .inl (ci, 61, .inl (zm_it M))), (a.2.2.2.2.2.1, .inl (ci, 61, .inl (zm_co M))), (a.2.2.2.2.2.2.1, .inl (cj, 61, .inr (.inl (zm_li M)))), (a.2.2.2.2.2.2.2.1, .inl (cz, 61, .inl (zm_la M))), (a.2.2.2.2.2.2.2.2.1, .inl (cj, 61, .inr (.inl (zm_ke M)))), (a.2.2.2.2.2.2.2.2.2.1, .inl (ci, 200, .inl (zm_tp M))), (a.2.2.2.2.2.2.2.2.2.2, .inl (ci, 100, .inl (zm_fr M)))]
abbrev zm_tys (ci cj cz : ClassId) : List (ClassId × FieldType) := [(ci, .int), (cj, .long), (cz, .boolean)]
def zm_ok (M : zm_S) : Prop := zm_nb M ≤ 60 ∧ zm_tn M ≤ 200 ∧ zm_fn M ≤ 100
theorem zm_n0 : vp_nar .boolean 0 = 0 := rfl
theorem zm_n1 : vp_nar .boolean 1 = 1 := rfl
def zm_within (p1 : Int64) (p2 : Int64) (p3 : Int64) : Int32 :=
  if lg_cmp p1 p2 < 0 then
    0
  else
  if 0 < lg_cmp p1 p3 then
    0
  else
    1
def zm_isBox (M : zm_S) (p1 : Int32) : Int32 :=
  zm_within p1.toInt64 1 ((nI (zm_nb M)).toInt64)
def zm_isNo (M : zm_S) (p1 : Int64) : Int32 :=
  if lg_cmp p1 (zm_T M) < 0 then
    1
  else
  if lg_cmp p1 2000000000 ≤ 0 then
    0
  else
    1
def zm_box (M : zm_S) (p1 : Int32) : Int32 × zm_S :=
  if zm_within p1.toInt64 1 5 = 0 then
    ((-12), M)
  else
  if nI (zm_nb M) = 60 then
    ((-14), M)
  else
    let S_4 := zm_snb M (zm_nb M + 1)
    let S_6 := zm_ssz S_4 (upd (zm_sz S_4) (zm_nb S_4) p1)
    let S_8 := zm_sco S_6 (upd (zm_co S_6) (zm_nb S_6) (-1))
    (nI (zm_nb S_8), S_8)
def zm_tape (M : zm_S) (p1 : Int32) : Int32 × zm_S :=
  if zm_within p1.toInt64 0 999999 = 0 then
    ((-12), M)
  else
  if nI (zm_tn M) = 200 then
    ((-14), M)
  else
    let S_5 := zm_stp M (upd (zm_tp M) (zm_tn M) p1)
    let S_6 := zm_stn S_5 (zm_tn S_5 + 1)
    (nI (zm_tn S_6), S_6)
def zm_p1 (p1 : Int64) (j : Nat) (S1 : zm_S) : zm_S :=
  if lg_cmp (zm_ke S1 (j + 1)) 0 ≤ 0 then
    S1
  else
  if 0 < lg_cmp (zm_ke S1 (j + 1)) p1 then
    S1
  else
    let S_40 := zm_ske S1 (vp_updL (zm_ke S1) (j + 1) 0)
    if 100 ≤ nI (zm_fn S_40) then
      S_40
    else
      let S_43 := zm_sfr S_40 (upd (zm_fr S_40) (zm_fn S_40) (nI (j + 1)))
      let S_44 := zm_sfn S_43 (zm_fn S_43 + 1)
      S_44
def zm_p2 (p1 : Int64) (j : Nat) (S2 : zm_S) : zm_S :=
  if zm_dr S2 (j + 1) = 1 then
    if zm_to S2 (j + 1) = 0 then
      if lg_cmp (p1 - (zm_si S2 (j + 1))) 120 < 0 then
        S2
      else
        let S_21 := zm_sto S2 (upd (zm_to S2) (j + 1) 1)
        let S_22 := zm_sA S_21 ((zm_A S_21) + 1)
        S_22
    else
      S2
  else
  if zm_dr S2 (j + 1) = 2 then
    if zm_to S2 (j + 1) = 0 then
      if lg_cmp (p1 - (zm_si S2 (j + 1))) 120 < 0 then
        S2
      else
        let S_32 := zm_sto S2 (upd (zm_to S2) (j + 1) 1)
        let S_33 := zm_sA S_32 ((zm_A S_32) + 1)
        S_33
    else
      S2
  else
    S2
def zm_p3 (p1 : Int64) (j : Nat) (S2 : zm_S) : zm_S :=
  if zm_co S2 (j + 1) < 0 then
    S2
  else
  if zm_la S2 (j + 1) = 0 then
    if lg_cmp (p1 - (zm_li S2 (j + 1))) 604800 < 0 then
      S2
    else
      let S_11 := zm_sla S2 (upd (zm_la S2) (j + 1) 1)
      let S_12 := zm_sA S_11 ((zm_A S_11) + 1)
      S_12
  else
    S2
def zm_lp (t : Int64) : Nat → Nat → zm_S → zm_S
  | 0, _, M => M
  | k + 1, j, M => zm_lp t k (j + 1) (zm_p3 t j (zm_p2 t j (zm_p1 t j M)))
def zm_pass (M : zm_S) (t : Int64) : zm_S := zm_lp t (zm_nb M) 0 (zm_sT M t)
def zm_bs (M : zm_S) (x : Int32) : Nat → Nat → Nat → Nat
  | 0, _, b => b
  | k + 1, j, b => if zm_dr M (j + 1) = 0 then if zm_it M (j + 1) = 0 then if lg_cmp (zm_ke M (j + 1)) 0 = 0 then if zm_sz M (j + 1) < x then zm_bs M x k (j + 1) b else if nI b = 0 then zm_bs M x k (j + 1) (j + 1) else if zm_sz M b ≤ zm_sz M (j + 1) then zm_bs M x k (j + 1) b else zm_bs M x k (j + 1) (j + 1) else zm_bs M x k (j + 1) b else zm_bs M x k (j + 1) b else zm_bs M x k (j + 1) b
def zm_reserve (M : zm_S) (p1 : Int32) (p2 : Int64) : Int32 × zm_S :=
  if zm_within p1.toInt64 1 5 = 0 then
    ((-12), M)
  else
  if lg_cmp p2 (zm_T M) ≤ 0 then
    ((-12), M)
  else
  if lg_cmp p2 2000000000 ≤ 0 then
    if nI (zm_bs M p1 (zm_nb M) 0 0) ≤ 0 then
      (nI (zm_bs M p1 (zm_nb M) 0 0), M)
    else
      let S_11 := zm_ske M (vp_updL (zm_ke M) (zm_bs M p1 (zm_nb M) 0 0) p2)
      (nI (zm_bs M p1 (zm_nb M) 0 0), S_11)
  else
    ((-12), M)
def zm_open (M : zm_S) (p1 : Int32) (p2 : Int32) : zm_S :=
  let S_2 := zm_sdr M (upd (zm_dr M) p1.toNatClampNeg p2)
  let S_4 := zm_ssi S_2 (vp_updL (zm_si S_2) p1.toNatClampNeg (zm_T S_2))
  let S_6 := zm_sto S_4 (upd (zm_to S_4) p1.toNatClampNeg 0)
  S_6
def zm_out (M : zm_S) (p1 : Int32) : Int32 × zm_S :=
  let S_3 := zm_sit M (upd (zm_it M) p1.toNatClampNeg 0)
  let S_5 := zm_sco S_3 (upd (zm_co S_3) p1.toNatClampNeg (-1))
  let S_7 := zm_sla S_5 (upd (zm_la S_5) p1.toNatClampNeg 0)
  (zm_it M p1.toNatClampNeg, S_7)
def zm_ic (M : zm_S) (x : Int32) : Nat → Nat → Int32
  | 0, _ => 0
  | k + 1, j => if zm_co M (j + 1) = x then 1 else zm_ic M x k (j + 1)
def zm_isCode (M : zm_S) (p1 : Int32) : Int32 :=
  zm_ic M p1 (zm_nb M) 0
def zm_cd (M : zm_S) (x : Int32) : Nat → Nat → Int32
  | 0, _ => -1
  | k + 1, j => if zm_it M (j + 1) = x then zm_co M (j + 1) else zm_cd M x k (j + 1)
def zm_code (M : zm_S) (p1 : Int32) : Int32 :=
  if zm_within p1.toInt64 1 9999 = 0 then
    (-12)
  else
    zm_cd M p1 (zm_nb M) 0
def zm_in (M : zm_S) (x : Int32) : Nat → Nat → Int32 → Int32
  | 0, _, v => v
  | k + 1, j, v => if v = 0 then (if zm_it M (j + 1) = x then zm_in M x k (j + 1) 1 else zm_in M x k (j + 1) 0) else zm_in M x k (j + 1) 1
def zm_put (M : zm_S) (p1 : Int32) (p2 : Int32) (p3 : Int64) : Int32 × zm_S :=
  if zm_isBox M p1 = 0 then
    ((-11), M)
  else
  if zm_within p2.toInt64 1 9999 = 0 then
    ((-12), M)
  else
  if zm_isNo M p3 = 0 then
    let S_9 := (zm_pass M p3)
    if zm_dr S_9 p1.toNatClampNeg = 1 then
      if 0 < zm_it S_9 p1.toNatClampNeg then
        (0, S_9)
      else
      if zm_in S_9 p2 (zm_nb S_9) 0 0 = 0 then
        let S_19 := zm_sit S_9 (upd (zm_it S_9) p1.toNatClampNeg p2)
        let S_21 := zm_ske S_19 (vp_updL (zm_ke S_19) p1.toNatClampNeg 0)
        (1, S_21)
      else
        (0, S_9)
    else
      (0, S_9)
  else
    ((-12), M)
def zm_wr (M : zm_S) (p2 : Int64) : Int32 × zm_S :=
  let S_10 := zm_sR M ((zm_R M) + 1)
  if zm_R S_10 = 3 then
    let S_13 := zm_sR S_10 0
    let S_14 := zm_sK S_13 (p2 + 300)
    (0, S_14)
  else
    (0, S_10)
def zm_ty (M : zm_S) (x : Int32) (t : Int64) : Nat → Nat → Int32 × zm_S
  | 0, _ => zm_wr M t
  | k + 1, j => if zm_co M (j + 1) = x then (if zm_dr M (j + 1) = 0 then (nI (j + 1), zm_sR (zm_open (zm_out M (nI (j + 1))).2 (nI (j + 1)) 1) 0) else zm_ty M x t k (j + 1)) else zm_ty M x t k (j + 1)
def zm_type (M : zm_S) (p1 : Int32) (p2 : Int64) : Int32 × zm_S :=
  if zm_within p1.toInt64 0 999999 = 0 then
    ((-12), M)
  else
  if zm_isNo M p2 = 0 then
    let S_7 := (zm_pass M p2)
    if 0 ≤ lg_cmp p2 (zm_K S_7) then
      zm_ty S_7 p1 p2 (zm_nb S_7) 0
    else
      ((-1), S_7)
  else
    ((-12), M)
def zm_at (M : zm_S) : Nat → Nat → Nat
  | 0, i => i
  | k + 1, i => if zm_isCode M (zm_tp M i) = 0 then i else zm_at M k (i + 1)
def zm_sh (d : Nat) : Nat → Nat → (Nat → Int32) → (Nat → Int32)
  | 0, _, f => f
  | k + 1, j, f => zm_sh d k (j + 1) (upd f j (f (j + d + 1)))
def zm_close (M : zm_S) (p1 : Int32) (p2 : Int64) : Int32 × zm_S :=
  if zm_isBox M p1 = 0 then
    ((-11), M)
  else
  if zm_isNo M p2 = 0 then
    let S_6 := (zm_pass M p2)
    if zm_dr S_6 p1.toNatClampNeg = 1 then
      if zm_it S_6 p1.toNatClampNeg ≤ 0 then
        let S_14 := zm_sdr S_6 (upd (zm_dr S_6) p1.toNatClampNeg 0)
        ((-1), S_14)
      else
      if 0 ≤ zm_co S_6 p1.toNatClampNeg then
        let S_22 := zm_sdr S_6 (upd (zm_dr S_6) p1.toNatClampNeg 0)
        ((-1), S_22)
      else
      if nI (zm_at S_6 (zm_tn S_6) 0) = nI (zm_tn S_6) then
        ((-14), S_6)
      else
        let S_28 := zm_sdr S_6 (upd (zm_dr S_6) p1.toNatClampNeg 0)
        let S_32 := zm_sco S_28 (upd (zm_co S_28) p1.toNatClampNeg (zm_tp S_28 (zm_at S_6 (zm_tn S_6) 0)))
        let S_34 := zm_sli S_32 (vp_updL (zm_li S_32) p1.toNatClampNeg p2)
        let S_36 := zm_sla S_34 (upd (zm_la S_34) p1.toNatClampNeg 0)
        let S_37 := zm_stn S_36 (zm_tn S_36 - zm_at S_6 (zm_tn S_6) 0 - 1)
        let S_38 := zm_stp S_37 (zm_sh (zm_at S_6 (zm_tn S_6) 0) (zm_tn S_37) 0 (zm_tp S_37))
        (zm_co S_38 p1.toNatClampNeg, S_38)
    else
      ((-13), S_6)
  else
    ((-12), M)
def zm_door (M : zm_S) (p1 : Int32) (p2 : Int32) (p3 : Int64) : Int32 × zm_S :=
  if zm_isBox M p1 = 0 then
    ((-11), M)
  else
  if zm_within p2.toInt64 0 4 = 0 then
    ((-12), M)
  else
  if zm_isNo M p3 = 0 then
    let S_9 := (zm_pass M p3)
    if p2 = 0 then
      if zm_dr S_9 p1.toNatClampNeg = 0 then
        if 2 ≤ p2 then
          if p2 = 3 then
            let S_119 := zm_sdr S_9 (upd (zm_dr S_9) p1.toNatClampNeg 3)
            (zm_dr S_119 p1.toNatClampNeg, S_119)
          else
            let S_115 := zm_sdr S_9 (upd (zm_dr S_9) p1.toNatClampNeg 0)
            (zm_dr S_115 p1.toNatClampNeg, S_115)
        else
          let S_124 := (zm_open S_9 p1 1)
          (zm_dr S_124 p1.toNatClampNeg, S_124)
      else
        ((-13), S_9)
    else
    if p2 = 1 then
      if zm_dr S_9 p1.toNatClampNeg = 0 then
        if 2 ≤ p2 then
          if p2 = 3 then
            let S_81 := zm_sdr S_9 (upd (zm_dr S_9) p1.toNatClampNeg 3)
            (zm_dr S_81 p1.toNatClampNeg, S_81)
          else
            let S_77 := zm_sdr S_9 (upd (zm_dr S_9) p1.toNatClampNeg 0)
            (zm_dr S_77 p1.toNatClampNeg, S_77)
        else
          let S_86 := (zm_open S_9 p1 2)
          (zm_dr S_86 p1.toNatClampNeg, S_86)
      else
      if zm_dr S_9 p1.toNatClampNeg = 1 then
        if 2 ≤ p2 then
          if p2 = 3 then
            let S_100 := zm_sdr S_9 (upd (zm_dr S_9) p1.toNatClampNeg 3)
            (zm_dr S_100 p1.toNatClampNeg, S_100)
          else
            let S_96 := zm_sdr S_9 (upd (zm_dr S_9) p1.toNatClampNeg 0)
            (zm_dr S_96 p1.toNatClampNeg, S_96)
        else
          let S_105 := (zm_open S_9 p1 2)
          (zm_dr S_105 p1.toNatClampNeg, S_105)
      else
        ((-13), S_9)
    else
    if p2 = 2 then
      if zm_dr S_9 p1.toNatClampNeg = 2 then
        if 2 ≤ p2 then
          if p2 = 3 then
            let S_64 := zm_sdr S_9 (upd (zm_dr S_9) p1.toNatClampNeg 3)
            (zm_dr S_64 p1.toNatClampNeg, S_64)
          else
            let S_60 := zm_sdr S_9 (upd (zm_dr S_9) p1.toNatClampNeg 0)
            (zm_dr S_60 p1.toNatClampNeg, S_60)
        else
          let S_69 := (zm_open S_9 p1 2)
          (zm_dr S_69 p1.toNatClampNeg, S_69)
      else
        ((-13), S_9)
    else
    if p2 = 3 then
      if zm_dr S_9 p1.toNatClampNeg = 0 then
        if zm_it S_9 p1.toNatClampNeg = 0 then
          if lg_cmp (zm_ke S_9 p1.toNatClampNeg) 0 = 0 then
            if 2 ≤ p2 then
              let S_45 := zm_sdr S_9 (upd (zm_dr S_9) p1.toNatClampNeg 3)
              (zm_dr S_45 p1.toNatClampNeg, S_45)
            else
              let S_50 := (zm_open S_9 p1 2)
              (zm_dr S_50 p1.toNatClampNeg, S_50)
          else
            ((-13), S_9)
        else
          ((-13), S_9)
      else
        ((-13), S_9)
    else
    if zm_dr S_9 p1.toNatClampNeg = 3 then
      if 2 ≤ p2 then
        let S_22 := zm_sdr S_9 (upd (zm_dr S_9) p1.toNatClampNeg 0)
        (zm_dr S_22 p1.toNatClampNeg, S_22)
      else
        let S_27 := (zm_open S_9 p1 2)
        (zm_dr S_27 p1.toNatClampNeg, S_27)
    else
      ((-13), S_9)
  else
    ((-12), M)
def zm_tick (M : zm_S) (p1 : Int64) : Int32 × zm_S :=
  if zm_isNo M p1 = 0 then
    let S_4 := (zm_pass M p1)
    let S_5 := zm_sA S_4 0
    (zm_A S_4, S_5)
  else
    ((-12), M)
def zm_take (M : zm_S) (p1 : Int32) (p2 : Int32) : Int32 × zm_S :=
  if zm_isBox M p1 = 0 then
    ((-11), M)
  else
  if zm_within p2.toInt64 0 9 = 0 then
    ((-12), M)
  else
  if zm_dr M p1.toNatClampNeg = 1 then
    let S_8 := (zm_out M p1).2
    ((zm_out M p1).1, S_8)
  else
  if zm_dr M p1.toNatClampNeg = 2 then
    let S_14 := (zm_out M p1).2
    ((zm_out M p1).1, S_14)
  else
    (0, M)
def zm_item (M : zm_S) (p1 : Int32) : Int32 :=
  if zm_isBox M p1 = 0 then
    (-11)
  else
  if zm_la M p1.toNatClampNeg = 0 then
    zm_it M p1.toNatClampNeg
  else
    -(zm_it M p1.toNatClampNeg)
def zm_freed (M : zm_S) (p1 : Int32) : Int32 :=
  if zm_within p1.toInt64 0 (((nI (zm_fn M)) - 1).toInt64) = 0 then
    0
  else
    zm_fr M p1.toNatClampNeg
theorem zm_within_01 (x y z : Int64) : zm_within x y z = 0 ∨ zm_within x y z = 1 := by
  unfold zm_within
  by_cases c1 : lg_cmp x y < 0
  · rw [if_pos c1]; exact Or.inl rfl
  · rw [if_neg c1]
    by_cases c2 : 0 < lg_cmp x z
    · rw [if_pos c2]; exact Or.inl rfl
    · rw [if_neg c2]; exact Or.inr rfl
theorem zm_within_nar (x y z : Int64) : narrow .boolean (.int (zm_within x y z)) = .int (zm_within x y z) := by
  rcases zm_within_01 x y z with h | h <;> rw [h] <;> rfl
theorem zm_within_yes {x y z : Int64} (h : ¬ zm_within x y z = 0) : y.toInt ≤ x.toInt ∧ x.toInt ≤ z.toInt := by
  unfold zm_within at h
  by_cases c1 : lg_cmp x y < 0
  · rw [if_pos c1] at h; exact absurd rfl h
  · rw [if_neg c1] at h
    by_cases c2 : 0 < lg_cmp x z
    · rw [if_pos c2] at h; exact absurd rfl h
    · rw [lg_cmp_lt, Int64.lt_iff_toInt_lt] at c1
      rw [lg_cmp_gt, Int64.lt_iff_toInt_lt] at c2
      omega
theorem zm_within_no {x y z : Int64} (h : zm_within x y z = 0) : ¬ (y.toInt ≤ x.toInt ∧ x.toInt ≤ z.toInt) := by
  unfold zm_within at h
  by_cases c1 : lg_cmp x y < 0
  · rw [lg_cmp_lt, Int64.lt_iff_toInt_lt] at c1
    omega
  · rw [if_neg c1] at h
    by_cases c2 : 0 < lg_cmp x z
    · rw [lg_cmp_gt, Int64.lt_iff_toInt_lt] at c2
      omega
    · rw [if_neg c2] at h; exact absurd h (by decide)
theorem zm_i2l (x : Int32) : x.toInt64.toInt = x.toInt := by simp
theorem zm_isBox_in {M : zm_S} {x : Int32} (hok : zm_ok M) (c : ¬ zm_isBox M x = 0) : vp_in x 61 := by
  have h := zm_within_yes (x := x.toInt64) (y := 1) (z := (nI (zm_nb M)).toInt64) c
  rw [zm_i2l, zm_i2l, nI_toInt (by have := hok.1; omega)] at h
  have h1 : (1 : Int64).toInt = 1 := by decide
  rw [h1] at h
  have := hok.1
  exact vp_in_iff.mpr ⟨by omega, by omega⟩
theorem zm_free_in {M : zm_S} {x : Int32} (hok : zm_ok M) (c : ¬ zm_within x.toInt64 0 ((nI (zm_fn M) - 1).toInt64) = 0) : vp_in x 100 := by
  have h := zm_within_yes c
  rw [zm_i2l, zm_i2l] at h
  have h1 : (0 : Int64).toInt = 0 := by decide
  have h2 : (nI (zm_fn M) - 1).toInt = (zm_fn M : Int) - 1 := pk_sub_toInt (b := 1) (by have := hok.2.2; omega) (by omega)
  rw [h1, h2] at h
  have := hok.2.2
  exact vp_in_iff.mpr ⟨by omega, by omega⟩
theorem zm_lt60 {M : zm_S} (hok : zm_ok M) (c : ¬ nI (zm_nb M) = 60) : zm_nb M < 60 := by
  have h : ¬ zm_nb M = 60 := fun q => c (by rw [q]; rfl)
  have := hok.1
  omega
theorem zm_lt200 {M : zm_S} (hok : zm_ok M) (c : ¬ nI (zm_tn M) = 200) : zm_tn M < 200 := by
  have h : ¬ zm_tn M = 200 := fun q => c (by rw [q]; rfl)
  have := hok.2.1
  omega
theorem zm_lt100 {M : zm_S} (hok : zm_ok M) (c : ¬ 100 ≤ nI (zm_fn M)) : zm_fn M < 100 := Nat.lt_of_not_le (fun h => c (nI_le (a := 100) h (by have := hok.2.2; omega)))
theorem zm_at_le {M : zm_S} : ∀ (k i : Nat), zm_at M k i ≤ i + k := by
  intro k
  induction k with
  | zero => intro i; exact Nat.le_refl _
  | succ k ih =>
    intro i
    unfold zm_at
    by_cases c : zm_isCode M (zm_tp M i) = 0
    · rw [if_pos c]; omega
    · rw [if_neg c]
      have := ih (i + 1)
      omega
theorem zm_at_lt {M : zm_S} (_ : zm_ok M) (c : ¬ nI (zm_at M (zm_tn M) 0) = nI (zm_tn M)) : zm_at M (zm_tn M) 0 < zm_tn M := by
  have h1 := zm_at_le (M := M) (zm_tn M) 0
  have h2 : ¬ zm_at M (zm_tn M) 0 = zm_tn M := fun q => c (by rw [q])
  omega
theorem zm_ok_open {M : zm_S} {x y : Int32} (hok : zm_ok M) : zm_ok (zm_open M x y) := hok
theorem zm_ok_out {M : zm_S} {x : Int32} (hok : zm_ok M) : zm_ok (zm_out M x).2 := hok
theorem zm_p3_ok {M : zm_S} {t : Int64} {j : Nat} (hok : zm_ok M) : zm_ok (zm_p3 t j M) ∧ zm_nb (zm_p3 t j M) = zm_nb M := by
  unfold zm_p3
  (repeat' split) <;> exact ⟨hok, rfl⟩
theorem zm_p2_ok {M : zm_S} {t : Int64} {j : Nat} (hok : zm_ok M) : zm_ok (zm_p2 t j M) ∧ zm_nb (zm_p2 t j M) = zm_nb M := by
  unfold zm_p2
  (repeat' split) <;> exact ⟨hok, rfl⟩
theorem zm_p1_ok {M : zm_S} {t : Int64} {j : Nat} (hok : zm_ok M) : zm_ok (zm_p1 t j M) ∧ zm_nb (zm_p1 t j M) = zm_nb M := by
  have hk : ¬ 100 ≤ nI (zm_fn M) → zm_fn M + 1 ≤ 100 := fun c => zm_lt100 hok c
  simp only [zm_p1]
  (repeat' split) <;> first | exact ⟨hok, rfl⟩ | (rename_i c; exact ⟨⟨hok.1, hok.2.1, hk c⟩, rfl⟩)
theorem zm_lp_ok {t : Int64} : ∀ (k j : Nat) (M : zm_S), zm_ok M → zm_ok (zm_lp t k j M) ∧ zm_nb (zm_lp t k j M) = zm_nb M := by
  intro k
  induction k with
  | zero => intro j M h; exact ⟨h, rfl⟩
  | succ k ih =>
    intro j M h
    have h1 := zm_p1_ok (t := t) (j := j) h
    have h2 := zm_p2_ok (t := t) (j := j) h1.1
    have h3 := zm_p3_ok (t := t) (j := j) h2.1
    have h4 := ih (j + 1) _ h3.1
    exact ⟨h4.1, h4.2.trans (h3.2.trans (h2.2.trans h1.2))⟩
theorem zm_ok_pass {M : zm_S} {t : Int64} (hok : zm_ok M) : zm_ok (zm_pass M t) := (zm_lp_ok _ _ (zm_sT M t) hok).1
theorem zm_nb_pass {M : zm_S} {t : Int64} (hok : zm_ok M) : zm_nb (zm_pass M t) = zm_nb M := (zm_lp_ok _ _ (zm_sT M t) hok).2

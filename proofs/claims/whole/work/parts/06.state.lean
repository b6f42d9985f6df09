/-! THE STATE of the class in mathematical words. zb_: a box; zl_: the lockers; zt_: the tape's part of them. -/
abbrev zb_T : Type := Int32 × Int32 × Int64 × Int32 × Int32 × Int32 × Int64 × Int32 × Int64
def zb_Sz (b : zb_T) : Int32 := b.1
def zb_Dr (b : zb_T) : Int32 := b.2.1
def zb_Os (b : zb_T) : Int64 := b.2.2.1
def zb_To (b : zb_T) : Int32 := b.2.2.2.1
def zb_It (b : zb_T) : Int32 := b.2.2.2.2.1
def zb_Co (b : zb_T) : Int32 := b.2.2.2.2.2.1
def zb_Ls (b : zb_T) : Int64 := b.2.2.2.2.2.2.1
def zb_La (b : zb_T) : Int32 := b.2.2.2.2.2.2.2.1
def zb_Ke (b : zb_T) : Int64 := b.2.2.2.2.2.2.2.2
def zb_sSz (b : zb_T) (v : Int32) : zb_T := (v, zb_Dr b, zb_Os b, zb_To b, zb_It b, zb_Co b, zb_Ls b, zb_La b, zb_Ke b)
def zb_sDr (b : zb_T) (v : Int32) : zb_T := (zb_Sz b, v, zb_Os b, zb_To b, zb_It b, zb_Co b, zb_Ls b, zb_La b, zb_Ke b)
def zb_sOs (b : zb_T) (v : Int64) : zb_T := (zb_Sz b, zb_Dr b, v, zb_To b, zb_It b, zb_Co b, zb_Ls b, zb_La b, zb_Ke b)
def zb_sTo (b : zb_T) (v : Int32) : zb_T := (zb_Sz b, zb_Dr b, zb_Os b, v, zb_It b, zb_Co b, zb_Ls b, zb_La b, zb_Ke b)
def zb_sIt (b : zb_T) (v : Int32) : zb_T := (zb_Sz b, zb_Dr b, zb_Os b, zb_To b, v, zb_Co b, zb_Ls b, zb_La b, zb_Ke b)
def zb_sCo (b : zb_T) (v : Int32) : zb_T := (zb_Sz b, zb_Dr b, zb_Os b, zb_To b, zb_It b, v, zb_Ls b, zb_La b, zb_Ke b)
def zb_sLs (b : zb_T) (v : Int64) : zb_T := (zb_Sz b, zb_Dr b, zb_Os b, zb_To b, zb_It b, zb_Co b, v, zb_La b, zb_Ke b)
def zb_sLa (b : zb_T) (v : Int32) : zb_T := (zb_Sz b, zb_Dr b, zb_Os b, zb_To b, zb_It b, zb_Co b, zb_Ls b, v, zb_Ke b)
def zb_sKe (b : zb_T) (v : Int64) : zb_T := (zb_Sz b, zb_Dr b, zb_Os b, zb_To b, zb_It b, zb_Co b, zb_Ls b, zb_La b, v)
def zb_F (b : zb_T) : List Value := [.int (zb_Sz b), .int (zb_Dr b), .long (zb_Os b), .int (zb_To b), .int (zb_It b), .int (zb_Co b), .long (zb_Ls b), .int (zb_La b), .long (zb_Ke b)]
def zb_W (h : Nat) (b : zb_T) : va_W := [(h, .inr (0, zb_F b))]
abbrev zt_T : Type := (Nat → Int32) × Nat
def zt_W (ci : ClassId) (h row : Nat) (q : zt_T) : va_W := [(h, .inr (1, [.ref row, .int (nI q.2)])), (row, .inl (ci, 200, .inl q.1))]
/-- boxes, how many; the tape; what was freed, how many; time, alarms, wrong tries, until when the keypad waits -/
abbrev zl_S : Type := (Nat → zb_T) × Nat × zt_T × (Nat → Int32) × Nat × Int64 × Int32 × Int32 × Int64
def zl_B (S : zl_S) : Nat → zb_T := S.1
def zl_n (S : zl_S) : Nat := S.2.1
def zl_P (S : zl_S) : zt_T := S.2.2.1
def zl_F (S : zl_S) : Nat → Int32 := S.2.2.2.1
def zl_k (S : zl_S) : Nat := S.2.2.2.2.1
def zl_T (S : zl_S) : Int64 := S.2.2.2.2.2.1
def zl_A (S : zl_S) : Int32 := S.2.2.2.2.2.2.1
def zl_R (S : zl_S) : Int32 := S.2.2.2.2.2.2.2.1
def zl_K (S : zl_S) : Int64 := S.2.2.2.2.2.2.2.2
def zl_sB (S : zl_S) (i : Nat) (b : zb_T) : zl_S := (va_up (zl_B S) i b, zl_n S, zl_P S, zl_F S, zl_k S, zl_T S, zl_A S, zl_R S, zl_K S)
def zl_sP (S : zl_S) (q : zt_T) : zl_S := (zl_B S, zl_n S, q, zl_F S, zl_k S, zl_T S, zl_A S, zl_R S, zl_K S)
def zl_sF (S : zl_S) (f : Nat → Int32) : zl_S := (zl_B S, zl_n S, zl_P S, f, zl_k S, zl_T S, zl_A S, zl_R S, zl_K S)
def zl_sk (S : zl_S) (k : Nat) : zl_S := (zl_B S, zl_n S, zl_P S, zl_F S, k, zl_T S, zl_A S, zl_R S, zl_K S)
def zl_sT (S : zl_S) (v : Int64) : zl_S := (zl_B S, zl_n S, zl_P S, zl_F S, zl_k S, v, zl_A S, zl_R S, zl_K S)
def zl_sA (S : zl_S) (v : Int32) : zl_S := (zl_B S, zl_n S, zl_P S, zl_F S, zl_k S, zl_T S, v, zl_R S, zl_K S)
def zl_sR (S : zl_S) (v : Int32) : zl_S := (zl_B S, zl_n S, zl_P S, zl_F S, zl_k S, zl_T S, zl_A S, v, zl_K S)
def zl_sK (S : zl_S) (v : Int64) : zl_S := (zl_B S, zl_n S, zl_P S, zl_F S, zl_k S, zl_T S, zl_A S, zl_R S, v)
def zl_ok (S : zl_S) : Prop := zl_n S ≤ 60 ∧ (zl_P S).2 ≤ 200 ∧ zl_k S ≤ 100
/-- addresses: the row of boxes, the tape, its row, the row of the freed, the boxes -/
abbrev zl_Ad : Type := Nat × Nat × Nat × Nat × (Nat → Nat)
def zl_ab (a : zl_Ad) (i : Nat) : Nat := a.2.2.2.2 i
def zl_refs (n : Nat) (a : zl_Ad) : Nat → Option Nat := fun i => if i < n then some (zl_ab a i) else none
def zl_pool (a : zl_Ad) (B : Nat → zb_T) (n : Nat) : va_W := (List.range n).map (fun i => (zl_ab a i, .inr (0, zb_F (B i))))
def zl_fs (a : zl_Ad) (S : zl_S) : List Value := [.ref a.1, .int (nI (zl_n S)), .ref a.2.1, .ref a.2.2.2.1, .int (nI (zl_k S)), .long (zl_T S), .int (zl_A S), .int (zl_R S), .long (zl_K S)]
def zl_W (cq ci : ClassId) (h : Nat) (a : zl_Ad) (S : zl_S) : va_W := (h, .inr (2, zl_fs a S)) :: (a.1, .inl (cq, 60, .inr (.inr (.inr (.inr (zl_refs (zl_n S) a)))))) :: (a.2.1, .inr (1, [.ref a.2.2.1, .int (nI (zl_P S).2)])) :: (a.2.2.1, .inl (ci, 200, .inl (zl_P S).1)) :: (a.2.2.2.1, .inl (ci, 100, .inl (zl_F S))) :: zl_pool a (zl_B S) (zl_n S)
abbrev zl_tys (cq ci : ClassId) : List (ClassId × FieldType) := [(cq, .object "LockerRows$Box"), (ci, .int)]
theorem zl_pool_at {a : zl_Ad} {B : Nat → zb_T} {n i : Nat} (hi : i < n) : (zl_pool a B n)[i]? = some (zl_ab a i, .inr (0, zb_F (B i))) := by
  simp [zl_pool, hi]
theorem zl_pool_set {a : zl_Ad} {B : Nat → zb_T} {n i : Nat} (b : zb_T) (hi : i < n) : (zl_pool a B n).set i (zl_ab a i, .inr (0, zb_F b)) = zl_pool a (va_up B i b) n := by
  have hl : i < (zl_pool a B n).length := by simpa [zl_pool] using hi
  apply List.ext_getElem?
  intro j
  by_cases hj : j = i
  · subst hj
    rw [List.getElem?_set_self hl, zl_pool_at hi, va_up_self]
  · rw [List.getElem?_set_ne (Ne.symm hj)]
    by_cases h : j < n
    · rw [zl_pool_at h, zl_pool_at h, va_up_ne _ _ hj]
    · rw [List.getElem?_eq_none (by simpa [zl_pool] using h), List.getElem?_eq_none (by simpa [zl_pool] using h)]
theorem zl_box {cq ci : ClassId} {h : Nat} {a : zl_Ad} {S : zl_S} {i : Nat} (hi : i < zl_n S) : (zl_W cq ci h a S)[i + 5]? = some (zl_ab a i, .inr (0, zb_F (zl_B S i))) := by
  show (zl_pool a (zl_B S) (zl_n S))[i]? = _
  exact zl_pool_at hi
theorem zl_box_set {cq ci : ClassId} {h : Nat} {a : zl_Ad} {S : zl_S} {i : Nat} (b : zb_T) (hi : i < zl_n S) : (zl_W cq ci h a S).set (i + 5) (zl_ab a i, .inr (0, zb_F b)) = zl_W cq ci h a (zl_sB S i b) := by
  have e := zl_pool_set (a := a) (B := zl_B S) b hi
  unfold zl_W
  show _ :: _ :: _ :: _ :: _ :: (zl_pool a (zl_B S) (zl_n S)).set i _ = _
  rw [e]
  rfl
/-- behind a call that had one box -/
theorem zl_joinB {D : va_G} {cl : List vw_C} {A : Nat → Prop} {cq ci : ClassId} {h : Nat} {a : zl_Ad} {S : zl_S} {i : Nat} {b : zb_T} {H H1 : Heap} (hi : i < zl_n S) (hP : va_P D cl (zl_W cq ci h a S) H) (hD : va_D A (zl_W cq ci h a S)) (hk : ∀ q : Nat, q < H.size → ¬ va_A (zb_W (zl_ab a i) (zl_B S i)) H.size q → H1[q]? = H[q]?) (hP1 : va_P D cl (zb_W (zl_ab a i) b) H1) : va_P D cl (zl_W cq ci h a (zl_sB S i b)) H1 ∧ va_D A (zl_W cq ci h a (zl_sB S i b)) := by
  rw [← zl_box_set b hi]
  exact zw_join1 hP hD (zl_box hi) hk hP1
/-- behind a call that had the tape -/
theorem zl_joinT {D : va_G} {cl : List vw_C} {A : Nat → Prop} {cq ci : ClassId} {h : Nat} {a : zl_Ad} {S : zl_S} {q1 : zt_T} {H H1 : Heap} (hP : va_P D cl (zl_W cq ci h a S) H) (hD : va_D A (zl_W cq ci h a S)) (hk : ∀ q : Nat, q < H.size → ¬ va_A (zt_W ci a.2.1 a.2.2.1 (zl_P S)) H.size q → H1[q]? = H[q]?) (hP1 : va_P D cl (zt_W ci a.2.1 a.2.2.1 q1) H1) : va_P D cl (zl_W cq ci h a (zl_sP S q1)) H1 ∧ va_D A (zl_W cq ci h a (zl_sP S q1)) :=
  zw_join2 (k := 2) (j := 3) hP hD (by decide) rfl rfl hk hP1
/-! numbers that the walks need -/
theorem zt_lt200 {n : Nat} (h : n ≤ 200) (c : nI n < 200) : n < 200 := (nI_ltI (a := n) (b := 200) (by omega) (by omega)).mp c
theorem zt_in {n : Nat} {x : Int32} (h : n ≤ 200) (c1 : ¬ x < 0) (c2 : ¬ nI n ≤ x) : vp_in x 200 := by
  obtain ⟨j, hj, rfl⟩ := nI_of c1
  exact vp_in_nI (by have h3 : ¬ n ≤ j := fun q => c2 (nI_le q hj); omega) (by omega)
theorem zt_one {n : Nat} {x : Int32} (h : n ≤ 200) (c1 : ¬ x < 1) (c2 : x ≤ nI n) : ∃ j, 1 ≤ j ∧ j ≤ n ∧ x = nI j := by
  have h0 : ¬ x < 0 := fun q => c1 (Int32.lt_trans q (by decide))
  obtain ⟨j, hj, rfl⟩ := nI_of h0
  exact ⟨j, Nat.le_of_not_lt (fun q => c1 (nI_lt (b := 1) q (by decide))), (nI_leI hj (by omega)).mp c2, rfl⟩
theorem zt_copyok {n : Nat} {x : Int32} (h : n ≤ 200) (c1 : ¬ x < 1) (c2 : x ≤ nI n) : ¬ x < 0 ∧ ¬ (nI n - x) < 0 ∧ x.toNatClampNeg + (nI n - x).toNatClampNeg ≤ 200 ∧ (0 : Int32).toNatClampNeg + (nI n - x).toNatClampNeg ≤ 200 := by
  obtain ⟨j, h1, h2, rfl⟩ := zt_one h c1 c2
  rw [pk_sub h2, nI_clamp (by omega), nI_clamp (by omega)]
  exact ⟨nI_pos (by omega), nI_pos (by omega), by omega, by show 0 + _ ≤ _; omega⟩
theorem zt_sub {n : Nat} {x : Int32} (h : n ≤ 200) (c1 : ¬ x < 1) (c2 : x ≤ nI n) : nI n - x = nI (n - x.toNatClampNeg) := by
  obtain ⟨j, h1, h2, rfl⟩ := zt_one h c1 c2
  rw [pk_sub h2, nI_clamp (by omega)]
theorem zl_lt100 {S : zl_S} (hok : zl_ok S) (c : ¬ 100 ≤ nI (zl_k S)) : zl_k S < 100 := Nat.lt_of_not_le (fun h => c (nI_le (a := 100) h (by have := hok.2.2; omega)))
theorem zl_in100 {x : Int32} (c1 : ¬ x < 0) (c3 : ¬ 100 ≤ x) : vp_in x 100 := by
  obtain ⟨j, hj, rfl⟩ := nI_of c1
  exact vp_in_nI (Nat.lt_of_not_le (fun h => c3 (nI_le (a := 100) h hj))) (by omega)
theorem zl_idx {S : zl_S} {x : Int32} (hok : zl_ok S) (c1 : ¬ x < 1) (c2 : ¬ nI (zl_n S) < x) : (x - 1).toNatClampNeg < zl_n S ∧ vp_in (x - 1) 60 := by
  have h0 : ¬ x < 0 := fun q => c1 (Int32.lt_trans q (by decide))
  obtain ⟨j, hj, rfl⟩ := nI_of h0
  have h1 : ¬ j < 1 := fun h => c1 (nI_lt (b := 1) h (by decide))
  have h2 : j ≤ zl_n S := Nat.le_of_not_lt (fun h => c2 (nI_lt h hj))
  obtain ⟨i, rfl⟩ : ∃ i, j = i + 1 := ⟨j - 1, by omega⟩
  have h3 := hok.1
  rw [nI_pred]
  exact ⟨by rw [nI_clamp (by omega)]; omega, vp_in_nI (by omega) (by decide)⟩
theorem zb_D {A : Nat → Prop} {h : Nat} {b b1 : zb_T} (hD : va_D A (zb_W h b)) : va_D A (zb_W h b1) := by
  have h1 : va_D A ((zb_W h b).set 0 (h, .inr (0, zb_F b1))) := hD.set (p := 0) rfl
  exact h1
def zl_isSize (p1 : Int32) : Int32 :=
  if p1 < 1 then
    0
  else
  if 5 < p1 then
    0
  else
    1
def zl_isItem (p1 : Int32) : Int32 :=
  if p1 < 1 then
    0
  else
  if 9999 < p1 then
    0
  else
    1
def zl_isCode (p1 : Int32) : Int32 :=
  if p1 < 0 then
    0
  else
  if 999999 < p1 then
    0
  else
    1
def zb_isEvent (p1 : Int32) : Int32 :=
  if p1 < 0 then
    0
  else
  if 4 < p1 then
    0
  else
    1
def zb_isEmpty (b : zb_T) : Int32 :=
  if zb_It b = 0 then
    1
  else
    0
def zb_lies (b : zb_T) : Int32 :=
  if zb_Co b = (-1) then
    0
  else
    1
def zb_wantsCode (b : zb_T) : Int32 :=
  if zb_isEmpty b = 0 then
    if zb_lies b = 0 then
      1
    else
      0
  else
    0
def zb_isOpen (b : zb_T) : Int32 :=
  if zb_Dr b = 1 then
    1
  else
  if zb_Dr b = 2 then
    1
  else
    0
def zb_isUnused (b : zb_T) : Int32 :=
  if zb_Dr b = 0 then
    if zb_isEmpty b = 0 then
      0
    else
    if lg_cmp (zb_Ke b) 0 = 0 then
      1
    else
      0
  else
    0
def zb_admits (b : zb_T) (p1 : Int32) : Int32 :=
  if p1 = 0 then
    if zb_Dr b = 0 then
      1
    else
      0
  else
  if p1 = 1 then
    if zb_Dr b = 0 then
      1
    else
    if zb_Dr b = 1 then
      1
    else
      0
  else
  if p1 = 2 then
    if zb_Dr b = 2 then
      1
    else
      0
  else
  if p1 = 3 then
    zb_isUnused b
  else
  if p1 = 4 then
    if zb_Dr b = 3 then
      1
    else
      0
  else
    0
def zb_begin (b : zb_T) (p1 : Int32) (p2 : Int64) : zb_T :=
  zb_sTo (zb_sOs (zb_sDr b p1) p2) 0
def zb_undergo (b : zb_T) (p1 : Int32) (p2 : Int64) : zb_T :=
  if p1 = 0 then
    zb_begin b 1 p2
  else
  if p1 = 1 then
    zb_begin b 2 p2
  else
  if p1 = 2 then
    zb_sDr b 0
  else
  if p1 = 3 then
    zb_sDr b 3
  else
    zb_sDr b 0
def zb_receive (b : zb_T) (p1 : Int32) : zb_T :=
  zb_sKe (zb_sIt b p1) 0
def zb_lay (b : zb_T) (p1 : Int32) (p2 : Int64) : zb_T :=
  zb_sLs (zb_sCo b p1) p2
def zb_clear (b : zb_T) : zb_T :=
  zb_sLa (zb_sCo (zb_sIt b 0) (-1)) 0
def zb_free (b : zb_T) (p1 : Int64) : Int32 × zb_T :=
  if lg_cmp (zb_Ke b) 0 = 0 then
    (0, b)
  else
  if lg_cmp (zb_Ke b) p1 ≤ 0 then
    (1, zb_sKe b 0)
  else
    (0, b)
def zb_tell (b : zb_T) (p1 : Int64) : Int32 × zb_T :=
  if zb_isOpen b = 0 then
    if zb_lies b = 0 then
      (0, b)
    else
    if zb_La b = 0 then
      if lg_cmp (p1 - (zb_Ls b)) 604800 < 0 then
        (0, b)
      else
        (0 + 1, zb_sLa b 1)
    else
      (0, b)
  else
  if zb_To b = 0 then
    if lg_cmp (p1 - (zb_Os b)) 120 < 0 then
      if zb_lies b = 0 then
        (0, b)
      else
      if zb_La b = 0 then
        if lg_cmp (p1 - (zb_Ls b)) 604800 < 0 then
          (0, b)
        else
          (0 + 1, zb_sLa b 1)
      else
        (0, b)
    else
    if zb_lies (zb_sTo b 1) = 0 then
      (0 + 1, zb_sTo b 1)
    else
    if zb_La (zb_sTo b 1) = 0 then
      if lg_cmp (p1 - (zb_Ls (zb_sTo b 1))) 604800 < 0 then
        (0 + 1, zb_sTo b 1)
      else
        ((0 + 1) + 1, zb_sLa (zb_sTo b 1) 1)
    else
      (0 + 1, zb_sTo b 1)
  else
  if zb_lies b = 0 then
    (0, b)
  else
  if zb_La b = 0 then
    if lg_cmp (p1 - (zb_Ls b)) 604800 < 0 then
      (0, b)
    else
      (0 + 1, zb_sLa b 1)
  else
    (0, b)
def zb_init (b : zb_T) (p1 : Int32) : zb_T :=
  zb_sSz (zb_sKe (zb_sLa (zb_sLs (zb_sCo (zb_sIt (zb_sTo (zb_sOs (zb_sDr b 0) 0) 0) 0) (-1)) 0) 0) 0) p1
def zt_length (q : zt_T) : Int32 :=
  nI q.2
def zt_append (q : zt_T) (p1 : Int32) : Int32 × zt_T :=
  if nI q.2 < 200 then
    (1, ((upd q.1 (nI q.2).toNatClampNeg p1, q.2).1, ((upd q.1 (nI q.2).toNatClampNeg p1, q.2).2 + 1)))
  else
    (0, q)
def zt_at (q : zt_T) (p1 : Int32) : Int32 :=
  if p1 < 0 then
    (-1)
  else
  if nI q.2 ≤ p1 then
    (-1)
  else
    q.1 p1.toNatClampNeg
def zt_drop (q : zt_T) (p1 : Int32) : zt_T :=
  if p1 < 1 then
    q
  else
  if p1 ≤ nI q.2 then
    ((va_cpy q.1 q.1 p1.toNatClampNeg (0 : Int32).toNatClampNeg ((nI q.2) - p1).toNatClampNeg, q.2).1, ((va_cpy q.1 q.1 p1.toNatClampNeg (0 : Int32).toNatClampNeg ((nI q.2) - p1).toNatClampNeg, q.2).2 - p1.toNatClampNeg))
  else
    q
def zl_isTime (S : zl_S) (p1 : Int64) : Int32 :=
  if lg_cmp p1 (zl_T S) < 0 then
    0
  else
  if 0 < lg_cmp p1 2000000000 then
    0
  else
    1
def zl_boxAt (S : zl_S) (p1 : Int32) : Option Nat :=
  if p1 < 1 then
    none
  else
  if nI (zl_n S) < p1 then
    none
  else
  if 60 < p1 then
    none
  else
    some ((p1 - 1).toNatClampNeg)
def zl_fi (B : Nat → zb_T) (x : Int32) : Nat → Nat → Option Nat
  | 0, _ => none
  | k + 1, j => if zb_It (B j) = x then some j else zl_fi B x k (j + 1)
def zl_nc (B : Nat → zb_T) (x : Int32) : Nat → Nat → Int32
  | 0, _ => 0
  | k + 1, j => if zb_lies (B j) = 0 then zl_nc B x k (j + 1) else if zb_Co (B j) = x then nI (j + 1) else zl_nc B x k (j + 1)
def zl_su (B : Nat → zb_T) (x : Int32) : Nat → Nat → Int32 → Int32 → Int32
  | 0, _, b, _ => b
  | k + 1, j, b, z => if zb_isUnused (B j) = 0 then zl_su B x k (j + 1) b z else if zb_Sz (B j) < x then zl_su B x k (j + 1) b z else if z ≤ zb_Sz (B j) then zl_su B x k (j + 1) b z else zl_su B x k (j + 1) (nI (j + 1)) (zb_Sz (B j))

def zl_boxOfItem (S : zl_S) (x : Int32) : Option Nat := zl_fi (zl_B S) x (zl_n S) 0
def zl_boxNumberOfCode (S : zl_S) (x : Int32) : Int32 := zl_nc (zl_B S) x (zl_n S) 0
def zl_smallest (S : zl_S) (x : Int32) : Int32 := zl_su (zl_B S) x (zl_n S) 0 0 6
def zl_wc (S : zl_S) : Nat → Nat → Int32 × zl_S
  | 0, _ => (-1, S)
  | k + 1, j => if zl_boxNumberOfCode S (zt_at (zl_P S) (nI j)) = 0 then (zt_at (zl_P S) (nI j), zl_sP S (zt_drop (zl_P S) (nI j + 1))) else zl_wc S k (j + 1)
def zl_wanted (S : zl_S) : Int32 × zl_S := zl_wc S (zl_P S).2 0
def zl_wrong (S : zl_S) (p1 : Int64) : zl_S :=
  if zl_R (zl_sR S ((zl_R S) + 1)) < 3 then
    zl_sR S ((zl_R S) + 1)
  else
    zl_sK (zl_sR (zl_sR S ((zl_R S) + 1)) 0) (p1 + 300)
def zl_note (S : zl_S) (p1 : Int32) : zl_S :=
  if 100 ≤ nI (zl_k S) then
    S
  else
    zl_sk (zl_sF S (upd (zl_F S) (nI (zl_k S)).toNatClampNeg p1)) (zl_k (zl_sF S (upd (zl_F S) (nI (zl_k S)).toNatClampNeg p1)) + 1)
def zl_step (p1 : Int64) (j : Nat) (S1 : zl_S) : zl_S :=
  if (zb_free (zl_B S1 j) p1).1 = 0 then
    zl_sA (zl_sB (zl_sB S1 j ((zb_free (zl_B S1 j) p1).2)) j ((zb_tell (zl_B (zl_sB S1 j ((zb_free (zl_B S1 j) p1).2)) j) p1).2)) ((zl_A (zl_sB S1 j ((zb_free (zl_B S1 j) p1).2))) + ((zb_tell (zl_B (zl_sB S1 j ((zb_free (zl_B S1 j) p1).2)) j) p1).1))
  else
    zl_sA (zl_sB (zl_note (zl_sB S1 j ((zb_free (zl_B S1 j) p1).2)) (nI (j + 1))) j ((zb_tell (zl_B (zl_note (zl_sB S1 j ((zb_free (zl_B S1 j) p1).2)) (nI (j + 1))) j) p1).2)) ((zl_A (zl_note (zl_sB S1 j ((zb_free (zl_B S1 j) p1).2)) (nI (j + 1)))) + ((zb_tell (zl_B (zl_note (zl_sB S1 j ((zb_free (zl_B S1 j) p1).2)) (nI (j + 1))) j) p1).1))
def zl_pass (t : Int64) : Nat → Nat → zl_S → zl_S
  | 0, _, S => S
  | k + 1, j, S => zl_pass t k (j + 1) (zl_step t j S)
def zl_passTo (S : zl_S) (t : Int64) : zl_S := zl_pass t (zl_n S) 0 (zl_sT S t)
def zl_tape (S : zl_S) (p1 : Int32) : Int32 × zl_S :=
  if zl_isCode p1 = 0 then
    ((-12), S)
  else
  if (zt_append (zl_P S) p1).1 = 0 then
    ((-14), zl_sP S ((zt_append (zl_P S) p1).2))
  else
    (zt_length (zl_P (zl_sP S ((zt_append (zl_P S) p1).2))), zl_sP S ((zt_append (zl_P S) p1).2))
def zl_reserve (S : zl_S) (p1 : Int32) (p2 : Int64) : Int32 × zl_S :=
  if zl_isSize p1 = 0 then
    ((-12), S)
  else
  if lg_cmp p2 (zl_T S) ≤ 0 then
    ((-12), S)
  else
  if lg_cmp p2 2000000000 ≤ 0 then
    (match zl_boxAt S (zl_smallest S p1) with
    | none =>
      (0, S)
    | some i8 =>
      (zl_smallest S p1, zl_sB S i8 (zb_sKe (zl_B S i8) p2)))
  else
    ((-12), S)
def zl_put (S : zl_S) (p1 : Int32) (p2 : Int32) (p3 : Int64) : Int32 × zl_S :=
  (match zl_boxAt S p1 with
  | none =>
    ((-11), S)
  | some i1 =>
    if zl_isItem p2 = 0 then
      ((-12), S)
    else
    if zl_isTime S p3 = 0 then
      ((-12), S)
    else
    if zb_Dr (zl_B (zl_passTo S p3) i1) = 1 then
      if zb_isEmpty (zl_B (zl_passTo S p3) i1) = 0 then
        (0, zl_passTo S p3)
      else
        (match zl_boxOfItem (zl_passTo S p3) p2 with
        | none =>
          (1, zl_sB (zl_passTo S p3) i1 (zb_receive (zl_B (zl_passTo S p3) i1) p2))
        | some i15 =>
          (0, zl_passTo S p3))
    else
      (0, zl_passTo S p3))
def zl_close (S : zl_S) (p1 : Int32) (p2 : Int64) : Int32 × zl_S :=
  (match zl_boxAt S p1 with
  | none =>
    ((-11), S)
  | some i1 =>
    if zl_isTime S p2 = 0 then
      ((-12), S)
    else
    if zb_Dr (zl_B (zl_passTo S p2) i1) = 1 then
      if zb_wantsCode (zl_B (zl_passTo S p2) i1) = 0 then
        ((-1), zl_sB (zl_passTo S p2) i1 (zb_sDr (zl_B (zl_passTo S p2) i1) 0))
      else
      if (zl_wanted (zl_passTo S p2)).1 = (-1) then
        ((-14), ((zl_wanted (zl_passTo S p2)).2))
      else
        ((zl_wanted (zl_passTo S p2)).1, zl_sB (zl_sB ((zl_wanted (zl_passTo S p2)).2) i1 (zb_lay (zl_B ((zl_wanted (zl_passTo S p2)).2) i1) ((zl_wanted (zl_passTo S p2)).1) p2)) i1 (zb_sDr (zl_B (zl_sB ((zl_wanted (zl_passTo S p2)).2) i1 (zb_lay (zl_B ((zl_wanted (zl_passTo S p2)).2) i1) ((zl_wanted (zl_passTo S p2)).1) p2)) i1) 0))
    else
      ((-13), zl_passTo S p2))
def zl_type (S : zl_S) (p1 : Int32) (p2 : Int64) : Int32 × zl_S :=
  if zl_isCode p1 = 0 then
    ((-12), S)
  else
  if zl_isTime S p2 = 0 then
    ((-12), S)
  else
  if 0 ≤ lg_cmp p2 (zl_K (zl_passTo S p2)) then
    (match zl_boxAt (zl_passTo S p2) (zl_boxNumberOfCode (zl_passTo S p2) p1) with
    | none =>
      (0, zl_wrong (zl_passTo S p2) p2)
    | some i10 =>
      if zb_Dr (zl_B (zl_passTo S p2) i10) = 0 then
        (zl_boxNumberOfCode (zl_passTo S p2) p1, zl_sB (zl_sB (zl_sR (zl_passTo S p2) 0) i10 (zb_clear (zl_B (zl_sR (zl_passTo S p2) 0) i10))) i10 (zb_begin (zl_B (zl_sB (zl_sR (zl_passTo S p2) 0) i10 (zb_clear (zl_B (zl_sR (zl_passTo S p2) 0) i10))) i10) 1 p2))
      else
        (0, zl_wrong (zl_passTo S p2) p2))
  else
    ((-1), zl_passTo S p2)
def zl_code (S : zl_S) (p1 : Int32) : Int32 :=
  if zl_isItem p1 = 0 then
    (-12)
  else
    (match zl_boxOfItem S p1 with
    | none =>
      (-1)
    | some i3 =>
      zb_Co (zl_B S i3))
def zl_door (S : zl_S) (p1 : Int32) (p2 : Int32) (p3 : Int64) : Int32 × zl_S :=
  (match zl_boxAt S p1 with
  | none =>
    ((-11), S)
  | some i1 =>
    if zb_isEvent p2 = 0 then
      ((-12), S)
    else
    if zl_isTime S p3 = 0 then
      ((-12), S)
    else
    if zb_admits (zl_B (zl_passTo S p3) i1) p2 = 0 then
      ((-13), zl_passTo S p3)
    else
      (zb_Dr (zl_B (zl_sB (zl_passTo S p3) i1 (zb_undergo (zl_B (zl_passTo S p3) i1) p2 p3)) i1), zl_sB (zl_passTo S p3) i1 (zb_undergo (zl_B (zl_passTo S p3) i1) p2 p3)))
def zl_tick (S : zl_S) (p1 : Int64) : Int32 × zl_S :=
  if zl_isTime S p1 = 0 then
    ((-12), S)
  else
    (zl_A (zl_passTo S p1), zl_sA (zl_passTo S p1) 0)
def zl_take (S : zl_S) (p1 : Int32) (p2 : Int32) : Int32 × zl_S :=
  (match zl_boxAt S p1 with
  | none =>
    ((-11), S)
  | some i1 =>
    if p2 < 0 then
      ((-12), S)
    else
    if p2 ≤ 9 then
      if zb_isOpen (zl_B S i1) = 0 then
        (0, S)
      else
        (zb_It (zl_B S i1), zl_sB S i1 (zb_clear (zl_B S i1)))
    else
      ((-12), S))
def zl_item (S : zl_S) (p1 : Int32) : Int32 :=
  (match zl_boxAt S p1 with
  | none =>
    (-11)
  | some i1 =>
    if zb_La (zl_B S i1) = 0 then
      zb_It (zl_B S i1)
    else
      -(zb_It (zl_B S i1)))
def zl_freed (S : zl_S) (p1 : Int32) : Int32 :=
  if p1 < 0 then
    0
  else
  if nI (zl_k S) ≤ p1 then
    0
  else
  if 100 ≤ p1 then
    0
  else
    (zl_F S) p1.toNatClampNeg
/-! a box more, and a new object -/
def zb_0 : zb_T := (0, 0, 0, 0, 0, 0, 0, 0, 0)
def zl_new : zl_S := (fun _ => zb_0, 0, (fun _ => 0, 0), fun _ => 0, 0, 0, 0, 0, 0)
def zl_grow (S : zl_S) (b : zb_T) : zl_S := (va_up (zl_B S) (zl_n S) b, zl_n S + 1, zl_P S, zl_F S, zl_k S, zl_T S, zl_A S, zl_R S, zl_K S)
def zl_adUp (a : zl_Ad) (n q : Nat) : zl_Ad := (a.1, a.2.1, a.2.2.1, a.2.2.2.1, va_up a.2.2.2.2 n q)
theorem zl_len {cq ci : ClassId} {h : Nat} {a : zl_Ad} {S : zl_S} : (zl_W cq ci h a S).length = zl_n S + 5 := by
  simp [zl_W, zl_pool]
theorem zl_new_at {cq ci : ClassId} {h : Nat} {a : zl_Ad} {S : zl_S} (x : Nat × va_E) : (zl_W cq ci h a S ++ [x])[zl_n S + 5]? = some x := by
  rw [List.getElem?_append_right (by rw [zl_len]; exact Nat.le_refl _), zl_len, Nat.sub_self]
  rfl
theorem zl_new_set {cq ci : ClassId} {h : Nat} {a : zl_Ad} {S : zl_S} (x y : Nat × va_E) : (zl_W cq ci h a S ++ [x]).set (zl_n S + 5) y = zl_W cq ci h a S ++ [y] := by
  rw [List.set_append_right _ _ (by rw [zl_len]; exact Nat.le_refl _), zl_len, Nat.sub_self]
  rfl
theorem zl_pool_grow {a : zl_Ad} {B : Nat → zb_T} {n q : Nat} {b : zb_T} : zl_pool a B n ++ [(q, .inr (0, zb_F b))] = zl_pool (zl_adUp a n q) (va_up B n b) (n + 1) := by
  have hab : zl_ab (zl_adUp a n q) n = q := va_up_self _ _ _
  unfold zl_pool
  rw [List.range_succ, List.map_append, List.map_cons, List.map_nil, hab, va_up_self]
  congr 1
  apply List.map_congr_left
  intro i hi
  have hne : i ≠ n := Nat.ne_of_lt (List.mem_range.mp hi)
  have h1 : zl_ab (zl_adUp a n q) i = zl_ab a i := va_up_ne _ _ hne
  rw [h1, va_up_ne _ _ hne]
theorem zl_refs_grow {a : zl_Ad} {n q : Nat} : va_up (zl_refs n a) n (some q) = zl_refs (n + 1) (zl_adUp a n q) := by
  funext i
  by_cases hi : i = n
  · subst hi
    rw [va_up_self]
    have hab : zl_ab (zl_adUp a i q) i = q := va_up_self _ _ _
    simp [zl_refs, hab]
  · rw [va_up_ne _ _ hi]
    have hab : zl_ab (zl_adUp a n q) i = zl_ab a i := va_up_ne _ _ hi
    simp only [zl_refs, hab]
    by_cases h : i < n
    · rw [if_pos h, if_pos (by omega)]
    · rw [if_neg h, if_neg (by omega)]
theorem zl_grow_eq {cq ci : ClassId} {h q : Nat} {a : zl_Ad} {S : zl_S} {b : zb_T} : ((zl_W cq ci h a S ++ ([(q, .inr (0, zb_F b))] : va_W) : va_W).set 1 (a.1, .inl (cq, 60, .inr (.inr (.inr (.inr (va_up (zl_refs (zl_n S) a) (zl_n S) (some q)))))))).set 0 (h, .inr (2, (zl_fs a S).set 1 (.int (nI (zl_n S + 1))))) = zl_W cq ci h (zl_adUp a (zl_n S) q) (zl_grow S b) := by
  rw [zl_refs_grow]
  unfold zl_W
  show _ :: _ :: _ :: _ :: _ :: (zl_pool a (zl_B S) (zl_n S) ++ ([(q, .inr (0, zb_F b))] : va_W)) = _
  rw [zl_pool_grow]
  rfl
theorem zl_refs0 (a : zl_Ad) : (fun _ => none) = zl_refs 0 a := by
  funext i
  simp [zl_refs]
theorem zl_lt60 {S : zl_S} (hok : zl_ok S) (c : nI (zl_n S) < 60) : zl_n S < 60 := (nI_ltI (a := zl_n S) (b := 60) (by have := hok.1; omega) (by omega)).mp c
theorem zw_sameI {D : va_G} {cl : List vw_C} {tys : List (ClassId × FieldType)} {s : State} {c1 c2 : ClassId} {i j : Nat} (hK : va_K D cl tys s) (h1 : tys[i]? = some (c1, .int)) (h2 : tys[j]? = some (c2, .int)) : c1 = c2 := Option.some.inj (((hK.2 i _ h1).2).symm.trans (hK.2 j _ h2).2)
def zl_addbox (S : zl_S) (p1 : Int32) : Int32 × zl_S :=
  if zl_isSize p1 = 0 then
    ((-12), S)
  else
  if nI (zl_n S) < 60 then
    (nI (zl_n S + 1), zl_grow S (zb_init zb_0 p1))
  else
    ((-14), S)
theorem zl_boxAt_lt {S : zl_S} {x : Int32} {i : Nat} (hok : zl_ok S) (h : zl_boxAt S x = some i) : i < zl_n S := by
  unfold zl_boxAt at h
  by_cases c1 : x < 1
  · rw [if_pos c1] at h; cases h
  · rw [if_neg c1] at h
    by_cases c2 : nI (zl_n S) < x
    · rw [if_pos c2] at h; cases h
    · rw [if_neg c2] at h
      by_cases c3 : 60 < x
      · rw [if_pos c3] at h; cases h
      · rw [if_neg c3] at h
        rw [← Option.some.inj h]
        exact (zl_idx hok c1 c2).1
theorem zl_boxAt_nI {S : zl_S} {j : Nat} (hok : zl_ok S) (hj : j < zl_n S) : zl_boxAt S (nI (j + 1)) = some j := by
  have h3 := hok.1
  unfold zl_boxAt
  rw [if_neg (show ¬ nI (j + 1) < 1 from nI_nlt (b := 1) (by omega) (by omega)), if_neg (nI_nlt (by omega) (by omega)), if_neg (show ¬ 60 < nI (j + 1) from nI_nlt (a := 60) (by omega) (by omega)), nI_pred, nI_clamp (by omega)]
theorem zl_fi_lt {B : Nat → zb_T} {x : Int32} : ∀ {k j i : Nat}, zl_fi B x k j = some i → i < j + k := by
  intro k
  induction k with
  | zero => intro j i h; simp [zl_fi] at h
  | succ k ih =>
    intro j i h
    unfold zl_fi at h
    by_cases c : zb_It (B j) = x
    · rw [if_pos c] at h
      have := Option.some.inj h
      omega
    · rw [if_neg c] at h
      have := ih h
      omega
theorem zl_boxOfItem_lt {S : zl_S} {x : Int32} {i : Nat} (_ : zl_ok S) (h : zl_boxOfItem S x = some i) : i < zl_n S := by
  have := zl_fi_lt h
  omega
theorem zb_isUnused_01 (b : zb_T) : zb_isUnused b = 0 ∨ zb_isUnused b = 1 := by
  unfold zb_isUnused
  by_cases c1 : zb_Dr b = 0
  · rw [if_pos c1]
    by_cases c2 : zb_isEmpty b = 0
    · rw [if_pos c2]; exact Or.inl rfl
    · rw [if_neg c2]
      by_cases c3 : lg_cmp (zb_Ke b) 0 = 0
      · rw [if_pos c3]; exact Or.inr rfl
      · rw [if_neg c3]; exact Or.inl rfl
  · rw [if_neg c1]; exact Or.inl rfl
theorem zb_isUnused_nar (b : zb_T) : narrow .boolean (.int (zb_isUnused b)) = .int (zb_isUnused b) := by
  rcases zb_isUnused_01 b with h | h <;> rw [h] <;> rfl
theorem zt_append_le {q : zt_T} {x : Int32} (h : q.2 ≤ 200) : (zt_append q x).2.2 ≤ 200 := by
  unfold zt_append
  by_cases c : nI q.2 < 200
  · rw [if_pos c]
    have := zt_lt200 h c
    show q.2 + 1 ≤ 200
    omega
  · rw [if_neg c]; exact h
theorem zl_ok_append {S : zl_S} {x : Int32} (hok : zl_ok S) : zl_ok (zl_sP S (zt_append (zl_P S) x).2) := ⟨hok.1, zt_append_le hok.2.1, hok.2.2⟩
theorem zt_drop_le {q : zt_T} {x : Int32} (h : q.2 ≤ 200) : (zt_drop q x).2 ≤ 200 := by
  unfold zt_drop
  by_cases c1 : x < 1
  · rw [if_pos c1]; exact h
  · rw [if_neg c1]
    by_cases c2 : x ≤ nI q.2
    · rw [if_pos c2]
      show q.2 - _ ≤ 200
      omega
    · rw [if_neg c2]; exact h
theorem zl_ok_drop {S : zl_S} {x : Int32} (hok : zl_ok S) : zl_ok (zl_sP S (zt_drop (zl_P S) x)) := ⟨hok.1, zt_drop_le hok.2.1, hok.2.2⟩
theorem zl_wc_ok {S : zl_S} (hok : zl_ok S) : ∀ (k j : Nat), zl_ok (zl_wc S k j).2 ∧ zl_n (zl_wc S k j).2 = zl_n S := by
  intro k
  induction k with
  | zero => intro j; exact ⟨hok, rfl⟩
  | succ k ih =>
    intro j
    unfold zl_wc
    by_cases c : zl_boxNumberOfCode S (zt_at (zl_P S) (nI j)) = 0
    · rw [if_pos c]; exact ⟨zl_ok_drop hok, rfl⟩
    · rw [if_neg c]; exact ih (j + 1)
theorem zl_wc_n {S : zl_S} : ∀ (k j : Nat), zl_n (zl_wc S k j).2 = zl_n S := by
  intro k
  induction k with
  | zero => intro j; rfl
  | succ k ih =>
    intro j
    unfold zl_wc
    by_cases c : zl_boxNumberOfCode S (zt_at (zl_P S) (nI j)) = 0
    · rw [if_pos c]; rfl
    · rw [if_neg c]; exact ih (j + 1)
theorem zl_ok_wanted {S : zl_S} (hok : zl_ok S) : zl_ok (zl_wanted S).2 := (zl_wc_ok hok _ _).1
theorem zl_n_wanted {S : zl_S} : zl_n (zl_wanted S).2 = zl_n S := zl_wc_n _ _
theorem zl_n_wrong {S : zl_S} {t : Int64} : zl_n (zl_wrong S t) = zl_n S := by
  unfold zl_wrong
  split <;> rfl
theorem zl_ok_wrong {S : zl_S} {t : Int64} (hok : zl_ok S) : zl_ok (zl_wrong S t) := by
  unfold zl_wrong
  split <;> exact hok
theorem zl_n_note {S : zl_S} {x : Int32} : zl_n (zl_note S x) = zl_n S := by
  unfold zl_note
  split <;> rfl
theorem zl_ok_note {S : zl_S} {x : Int32} (hok : zl_ok S) : zl_ok (zl_note S x) := by
  unfold zl_note
  by_cases c : 100 ≤ nI (zl_k S)
  · rw [if_pos c]; exact hok
  · rw [if_neg c]
    have := zl_lt100 hok c
    exact ⟨hok.1, hok.2.1, by show zl_k S + 1 ≤ 100; omega⟩
theorem zl_n_step {S : zl_S} {t : Int64} {j : Nat} : zl_n (zl_step t j S) = zl_n S := by
  unfold zl_step
  split
  · rfl
  · exact zl_n_note (S := zl_sB S j (zb_free (zl_B S j) t).2)
theorem zl_ok_step {S : zl_S} {t : Int64} {j : Nat} (hok : zl_ok S) : zl_ok (zl_step t j S) := by
  unfold zl_step
  split
  · exact hok
  · exact zl_ok_note (S := zl_sB S j (zb_free (zl_B S j) t).2) hok
theorem zl_pass_ok {t : Int64} : ∀ (k j : Nat) (S : zl_S), zl_ok S → zl_ok (zl_pass t k j S) := by
  intro k
  induction k with
  | zero => intro j S h; exact h
  | succ k ih => intro j S h; exact ih (j + 1) _ (zl_ok_step h)
theorem zl_pass_n {t : Int64} : ∀ (k j : Nat) (S : zl_S), zl_n (zl_pass t k j S) = zl_n S := by
  intro k
  induction k with
  | zero => intro j S; rfl
  | succ k ih => intro j S; exact (ih (j + 1) _).trans zl_n_step
theorem zl_ok_pass {S : zl_S} {t : Int64} (hok : zl_ok S) : zl_ok (zl_passTo S t) := zl_pass_ok _ _ (zl_sT S t) hok
theorem zl_n_pass {S : zl_S} {t : Int64} : zl_n (zl_passTo S t) = zl_n S := zl_pass_n _ _ (zl_sT S t)

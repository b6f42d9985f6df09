/-! THE FRAME: what every contract of this claim shares. zw_: worlds and calls. -/
def zw_isN (w : Cond) : Bool := match w with
  | .fieldLinkNest .. => true
  | .methodLinkNest .. => true
  | .arrayOver (.object _) => true
  | _ => false
theorem zw_nWarm {w : Cond} (h : zw_isN w = true) {s U : State} (hW : s.WarmedH U.vm) (hZ : va_Nw w s) : va_Nw w U := by
  unfold zw_isN at h
  split at h
  · exact va_Nw.warmF hW hZ
  · exact va_Nw.warmM hW hZ
  · exact va_AO.moved hW.alike hZ
  · cases h
theorem zw_nSame {w : Cond} (h : zw_isN w = true) {u U : State} (e : u.vm = U.vm) (hZ : va_Nw w u) : va_Nw w U := by
  unfold zw_isN at h
  split at h
  · exact va_Nw.same rfl e hZ
  · exact va_Nw.same rfl e hZ
  · exact va_AO.moved (e ▸ Vm.Alike.refl u.vm) hZ
  · cases h
def zw_N (ns : List Cond) (U : State) : Prop := ∀ w ∈ ns, va_Nw w U
theorem zw_N.warm {ns : List Cond} (hn : ∀ w ∈ ns, zw_isN w = true) {s U : State} (hW : s.WarmedH U.vm) (h : zw_N ns s) : zw_N ns U := fun w hw => zw_nWarm (hn w hw) hW (h w hw)
theorem zw_N.same {ns : List Cond} (hn : ∀ w ∈ ns, zw_isN w = true) {u U : State} (e : u.vm = U.vm) (h : zw_N ns u) : zw_N ns U := fun w hw => zw_nSame (hn w hw) e (h w hw)
/-- a reader's start: the cells, the classes, the nest's words -/
abbrev zw_R (ns : List Cond) (D : va_G) (cl : List vw_C) (tys : List (ClassId × FieldType)) (av : List Value) (ws : va_W) : Array Value → State → Prop := va_Pc av (fun U => va_P D cl ws U.heap ∧ va_K D cl tys U ∧ zw_N ns U)
/-- a writer's start -/
abbrev zw_U (ns : List Cond) (D : va_G) (cl : List vw_C) (tys : List (ClassId × FieldType)) (av : List Value) (ws : va_W) (sz : Nat) : Array Value → State → Prop := va_Pc av (fun U => U.heap.size = sz ∧ va_P D cl ws U.heap ∧ va_K D cl tys U ∧ va_D (fun _ => True) ws ∧ zw_N ns U)
theorem zw_blindR {ns : List Cond} (hn : ∀ w ∈ ns, zw_isN w = true) {D : va_G} {cl : List vw_C} {tys : List (ClassId × FieldType)} {av : List Value} {ws : va_W} : FrameBlind (zw_R ns D cl tys av ws) := by
  intro a U g mk q
  obtain ⟨q0, qP, qK, qN⟩ := q
  exact ⟨q0, qP, va_K.moved (u := U) (U := U.calling g mk a) (Vm.Alike.refl U.vm) qK, qN.same hn (u := U) (U := U.calling g mk a) rfl⟩
theorem zw_blindU {ns : List Cond} (hn : ∀ w ∈ ns, zw_isN w = true) {D : va_G} {cl : List vw_C} {tys : List (ClassId × FieldType)} {av : List Value} {ws : va_W} {sz : Nat} : FrameBlind (zw_U ns D cl tys av ws sz) := by
  intro a U g mk q
  obtain ⟨q0, q1, qP, qK, qD, qN⟩ := q
  exact ⟨q0, q1, qP, va_K.moved (u := U) (U := U.calling g mk a) (Vm.Alike.refl U.vm) qK, qD, qN.same hn (u := U) (U := U.calling g mk a) rfl⟩
theorem zw_preR {ns : List Cond} (hn : ∀ w ∈ ns, zw_isN w = true) {D : va_G} {cl : List vw_C} {tys : List (ClassId × FieldType)} {s : State} {H : Heap} {av : List Value} {ws : va_W} (hP : va_P D cl ws H) (hK : va_K D cl tys s) (hN : zw_N ns s) : PreS s H (zw_R ns D cl tys av ws) av :=
  ⟨zw_blindR hn, fun U hU hW => ⟨rfl, by rw [hU]; exact hP, va_K.moved hW.alike hK, hN.warm hn hW⟩⟩
theorem zw_preU {ns : List Cond} (hn : ∀ w ∈ ns, zw_isN w = true) {D : va_G} {cl : List vw_C} {tys : List (ClassId × FieldType)} {s : State} {H : Heap} {av : List Value} {ws : va_W} {A : Nat → Prop} (hP : va_P D cl ws H) (hD : va_D A ws) (hK : va_K D cl tys s) (hN : zw_N ns s) : PreS s H (zw_U ns D cl tys av ws H.size) av :=
  ⟨zw_blindU hn, fun U hU hW => ⟨rfl, by rw [hU], by rw [hU]; exact hP, va_K.moved hW.alike hK, hD.weaken (fun _ _ _ _ => trivial), hN.warm hn hW⟩⟩
theorem zw_preRV {ns : List Cond} (hn : ∀ w ∈ ns, zw_isN w = true) {D : va_G} {cl : List vw_C} {tys : List (ClassId × FieldType)} {s : State} {H : Heap} {b k ci : Nat} {q : vw_C} {fs : List Value} {As : List Value} {ws : va_W} (hP : va_P D cl ws H) (hK : va_K D cl tys s) (hN : zw_N ns s) (hc : cl[ci]? = some q) (he : ws[k]? = some (b, .inr (ci, fs))) : PreV s H q.1 b (zw_R ns D cl tys (.ref b :: As) ws) As :=
  ⟨zw_blindR hn, va_recv hK hP hc he, (zw_preR hn hP hK hN).2⟩
theorem zw_preUV {ns : List Cond} (hn : ∀ w ∈ ns, zw_isN w = true) {D : va_G} {cl : List vw_C} {tys : List (ClassId × FieldType)} {s : State} {H : Heap} {b k ci : Nat} {q : vw_C} {fs : List Value} {As : List Value} {ws : va_W} {A : Nat → Prop} (hP : va_P D cl ws H) (hD : va_D A ws) (hK : va_K D cl tys s) (hN : zw_N ns s) (hc : cl[ci]? = some q) (he : ws[k]? = some (b, .inr (ci, fs))) : PreV s H q.1 b (zw_U ns D cl tys (.ref b :: As) ws H.size) As :=
  ⟨zw_blindU hn, va_recv hK hP hc he, (zw_preU hn hP hD hK hN).2⟩
theorem zw_free {A : Nat → Prop} {H0 H : Heap} {locs : List Loc} {wc : va_W} (hS : va_S A H0 H locs) (hA : ∀ q, H0.size ≤ q → A q) (hDc : va_D A wc) : ∀ q, va_A wc H.size q → A q := fun q h => h.elim (fun ⟨k, _, hk⟩ => hDc.2 k _ hk) (fun h => hA q (Nat.le_trans hS.1 h))
theorem zw_nil1 {α : Type} {x : α} {i : Nat} {q : α} (h : [x][i + 1]? = some q) : False := by simp at h
theorem zw_P1 {D : va_G} {cl : List vw_C} {ws : va_W} {H : Heap} {k : Nat} {q : Nat × va_E} (hP : va_P D cl ws H) (he : ws[k]? = some q) : va_P D cl [q] H := by
  intro j x hx
  match j, hx with
  | 0, hx => exact (Option.some.inj (show some q = some x from hx)) ▸ hP k q he
  | j + 1, hx => exact (zw_nil1 hx).elim
theorem zw_D1 {A : Nat → Prop} {ws : va_W} {k : Nat} {q : Nat × va_E} (hD : va_D A ws) (he : ws[k]? = some q) : va_D A [q] := by
  refine ⟨fun i j x y hi hj _ => ?_, fun j x hx => ?_⟩
  · match i, j, hi, hj with
    | 0, 0, _, _ => rfl
    | i + 1, _, hi, _ => exact (zw_nil1 hi).elim
    | 0, j + 1, _, hj => exact (zw_nil1 hj).elim
  · match j, hx with
    | 0, hx => exact (Option.some.inj (show some q = some x from hx)) ▸ hD.2 k q he
    | j + 1, hx => exact (zw_nil1 hx).elim
/-- behind a call that had one cell -/
theorem zw_join1 {D : va_G} {cl : List vw_C} {A0 : Nat → Prop} {ws : va_W} {H H1 : Heap} {k a : Nat} {e0 e1 : va_E} (hP : va_P D cl ws H) (hD : va_D A0 ws) (he : ws[k]? = some (a, e0)) (hk : ∀ q : Nat, q < H.size → ¬ va_A [(a, e0)] H.size q → H1[q]? = H[q]?) (hP1 : va_P D cl [(a, e1)] H1) : va_P D cl (ws.set k (a, e1)) H1 ∧ va_D A0 (ws.set k (a, e1)) := by
  refine ⟨?_, hD.set he⟩
  have hl := (List.getElem?_eq_some_iff.mp he).1
  intro j q hj
  by_cases hjk : j = k
  · subst hjk
    rw [List.getElem?_set_self hl] at hj
    exact (Option.some.inj hj) ▸ hP1 0 (a, e1) rfl
  · rw [List.getElem?_set_ne (Ne.symm hjk)] at hj
    have hlt := (hP j q hj).lt
    refine (hP j q hj).kept (hk q.1 hlt ?_)
    intro h
    rcases h with ⟨i, e, h⟩ | h
    · match i, h with
      | 0, h =>
        have h1 : a = q.1 := congrArg Prod.fst (Option.some.inj (show some (a, e0) = some (q.1, e) from h))
        exact hjk (hD.1 j k q (a, e0) hj he h1.symm)
      | i + 1, h => exact zw_nil1 h
    · omega
theorem zw_pair {α : Type} {x y : α} {i : Nat} {q : α} (h : [x, y][i]? = some q) : (i = 0 ∧ x = q) ∨ (i = 1 ∧ y = q) := by
  match i, h with
  | 0, h => exact Or.inl ⟨rfl, Option.some.inj h⟩
  | 1, h => exact Or.inr ⟨rfl, Option.some.inj h⟩
  | i + 2, h => simp at h
/-- behind a call that had two cells -/
theorem zw_join2 {D : va_G} {cl : List vw_C} {A0 : Nat → Prop} {ws : va_W} {H H1 : Heap} {k j a b : Nat} {e0 e1 f0 f1 : va_E} (hP : va_P D cl ws H) (hD : va_D A0 ws) (hkj : k ≠ j) (he : ws[k]? = some (a, e0)) (hf : ws[j]? = some (b, f0)) (hk : ∀ q : Nat, q < H.size → ¬ va_A [(a, e0), (b, f0)] H.size q → H1[q]? = H[q]?) (hP1 : va_P D cl [(a, e1), (b, f1)] H1) : va_P D cl ((ws.set k (a, e1)).set j (b, f1)) H1 ∧ va_D A0 ((ws.set k (a, e1)).set j (b, f1)) := by
  have hl := (List.getElem?_eq_some_iff.mp he).1
  have hl2 := (List.getElem?_eq_some_iff.mp hf).1
  have hf' : (ws.set k (a, e1))[j]? = some (b, f0) := by rw [List.getElem?_set_ne hkj]; exact hf
  refine ⟨?_, (hD.set he).set hf'⟩
  intro i q hi
  by_cases hij : i = j
  · subst hij
    rw [List.getElem?_set_self (by rw [List.length_set]; exact hl2)] at hi
    exact (Option.some.inj hi) ▸ hP1 1 (b, f1) rfl
  · rw [List.getElem?_set_ne (Ne.symm hij)] at hi
    by_cases hik : i = k
    · subst hik
      rw [List.getElem?_set_self hl] at hi
      exact (Option.some.inj hi) ▸ hP1 0 (a, e1) rfl
    · rw [List.getElem?_set_ne (Ne.symm hik)] at hi
      have hlt := (hP i q hi).lt
      refine (hP i q hi).kept (hk q.1 hlt ?_)
      intro h
      rcases h with ⟨n, e, h⟩ | h
      · rcases zw_pair h with ⟨-, h⟩ | ⟨-, h⟩
        · exact hik (hD.1 i k q (a, e0) hi he (congrArg Prod.fst h).symm)
        · exact hij (hD.1 i j q (b, f0) hi hf (congrArg Prod.fst h).symm)
      · omega
/-- behind a call that had the left part, or the right part, of a world -/
theorem zw_joinL {D : va_G} {cl : List vw_C} {A0 : Nat → Prop} {wx wm w1 : va_W} {H H1 : Heap} (hP : va_P D cl (wx ++ wm) H) (hD : va_D A0 (wx ++ wm)) (hk : ∀ q : Nat, q < H.size → ¬ va_A wx H.size q → H1[q]? = H[q]?) (hF : ∀ q, va_A wx H.size q → A0 q) (hP1 : va_P D cl w1 H1) (hD1 : va_D (va_A wx H.size) w1) : va_P D cl (w1 ++ wm) H1 ∧ va_D A0 (w1 ++ wm) := by
  have hm : ∀ (k : Nat) (q : Nat × va_E), wm[k]? = some q → (wx ++ wm)[wx.length + k]? = some q := fun k q h => by
    rw [List.getElem?_append_right (by omega), Nat.add_sub_cancel_left]; exact h
  have apart : ∀ (k : Nat) (q : Nat × va_E), wm[k]? = some q → q.1 < H.size ∧ ¬ va_A wx H.size q.1 := by
    intro k q hq
    have hl := (hP _ q (hm k q hq)).lt
    refine ⟨hl, fun h => ?_⟩
    rcases h with ⟨i, e, h⟩ | h
    · have hi := (List.getElem?_eq_some_iff.mp h).1
      have h2 : (wx ++ wm)[i]? = some (q.1, e) := by rw [List.getElem?_append_left hi]; exact h
      have := hD.1 _ _ _ _ (hm k q hq) h2 rfl
      omega
    · omega
  refine ⟨hP1.app (fun k q hq => ?_), va_D.app (hD1.weaken (fun k q _ h => hF q.1 h)) ⟨fun i j x y hi hj hxy => ?_, fun k q hq => hD.2 _ q (hm k q hq)⟩ (fun i j x y hx hy hxy => ?_)⟩
  · obtain ⟨g1, g2⟩ := apart k q hq
    exact (hP _ q (hm k q hq)).kept (hk q.1 g1 g2)
  · have := hD.1 _ _ _ _ (hm i x hi) (hm j y hj) hxy
    omega
  · exact (apart j y hy).2 (hxy ▸ hD1.2 i x hx)
theorem zw_left {D : va_G} {cl : List vw_C} {wx wm : va_W} {H : Heap} (hP : va_P D cl (wx ++ wm) H) : va_P D cl wx H := fun k q h => hP k q (by rw [List.getElem?_append_left (List.getElem?_eq_some_iff.mp h).1]; exact h)
theorem zw_right {D : va_G} {cl : List vw_C} {wx wm : va_W} {H : Heap} (hP : va_P D cl (wx ++ wm) H) : va_P D cl wm H := fun k q h => hP (wx.length + k) q (by rw [List.getElem?_append_right (by omega), Nat.add_sub_cancel_left]; exact h)
theorem zw_leftD {A : Nat → Prop} {wx wm : va_W} (hD : va_D A (wx ++ wm)) : va_D A wx :=
  ⟨fun i j x y hi hj e => hD.1 i j x y (by rw [List.getElem?_append_left (List.getElem?_eq_some_iff.mp hi).1]; exact hi) (by rw [List.getElem?_append_left (List.getElem?_eq_some_iff.mp hj).1]; exact hj) e, fun k q h => hD.2 k q (by rw [List.getElem?_append_left (List.getElem?_eq_some_iff.mp h).1]; exact h)⟩
theorem zw_swap {D : va_G} {cl : List vw_C} {A : Nat → Prop} {wx wm : va_W} {H : Heap} (h : va_P D cl (wx ++ wm) H ∧ va_D A (wx ++ wm)) : va_P D cl (wm ++ wx) H ∧ va_D A (wm ++ wx) := by
  have h1 : va_P D cl (([] ++ wx) ++ wm) H := h.1
  have h2 : va_D A (([] ++ wx) ++ wm) := h.2
  exact ⟨h1.swap, h2.swap⟩
/-- rooms by depth -/
abbrev zw_room (d c n : Nat) : Room := { frames := d, cells := c, slots := n, locals := 40 * d }
theorem zw_Tg (w : Cond) (h : w ∈ zw_T) : w ∈ zw_T ∧ ((w.onTables && w.keeps) = true ∨ ∃ ty, w = .arrayClass ty) := ⟨h, good_of_word (List.all_eq_true.mp zw_Tgood w h)⟩
theorem zw_g1 {c : Cond} (h : c ∈ zw_T) : GoodIn zw_T (c :: zw_T) := fun w hw => zw_Tg w ((List.mem_cons.mp hw).elim (fun e => e ▸ h) id)
theorem zw_gV {own C : String} {idx : Nat} {y : MethodName} {c : Cond} (h1 : Cond.methodLink own idx y ∈ zw_T) (h2 : Cond.instanceMethod y ∈ zw_T) (h3 : Cond.selects C y y ∈ zw_T) (h4 : Cond.initialized C ∈ zw_T) (h5 : c ∈ zw_T) : GoodIn zw_T (wsV own idx C y (c :: zw_T)) := by
  intro w hw
  unfold wsV at hw
  rcases List.mem_append.mp hw with h | h
  · rcases List.mem_cons.mp h with e | h
    · exact e ▸ zw_Tg _ h1
    · rcases List.mem_cons.mp h with e | h
      · exact e ▸ zw_Tg _ h2
      · rcases List.mem_cons.mp h with e | h
        · exact e ▸ zw_Tg _ h3
        · rcases List.mem_cons.mp h with e | h
          · exact e ▸ zw_Tg _ h4
          · cases h
  · exact zw_g1 h5 w h
theorem zw_gS {own : String} {idx : Nat} {y : MethodName} {c : Cond} (h1 : Cond.methodLink own idx y ∈ zw_T) (h2 : Cond.static y ∈ zw_T) (h3 : Cond.initialized own ∈ zw_T) (h5 : c ∈ zw_T) : GoodIn zw_T (wsS own idx y (c :: zw_T)) := by
  intro w hw
  unfold wsS at hw
  rcases List.mem_append.mp hw with h | h
  · rcases List.mem_cons.mp h with e | h
    · exact e ▸ zw_Tg _ h1
    · rcases List.mem_cons.mp h with e | h
      · exact e ▸ zw_Tg _ h2
      · rcases List.mem_cons.mp h with e | h
        · exact e ▸ zw_Tg _ h3
        · cases h
  · exact zw_g1 h5 w h
theorem zw_ns_ok : ∀ w ∈ zw_ns, zw_isN w = true := by decide +kernel

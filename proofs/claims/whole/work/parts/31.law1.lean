set_option maxHeartbeats 8000000 in
set_option maxRecDepth 100000 in
theorem law_loop {p : Program} {l : Launch} {e : Env} {s : State} {m : MethodId} {below : List Frame} {meth : Method} {c : Code} {dC : Nat → ClassId} {dI : Nat → Nat → Nat} {b L : Nat} {xs : Nat → Int32} (hL : L ≤ 2560) (C0 : lw_At p s m meth c b L xs) {cq ci c1 cj cz : ClassId} {h0 g0 : Nat} {am : zm_Ad} (hK : va_K (dC, dI) vwCl (zl_tys cq ci) s) (hKm : va_K (dC, dI) vwCl (zm_tys c1 cj cz) s) (hN : zw_N zw_ns s) :
    ∀ (n j : Nat) (S : zl_S) (M : zm_S) (a : zl_Ad) (H : Heap) (locs : List Loc) (ls : Array Slot), 5 * j ≤ L → L < 5 * (j + n) → zr S M → va_P (dC, dI) vwCl (zl_W cq ci h0 a S ++ zm_W c1 cj cz g0 am M) H → va_D (fun q : Nat => s.heap.size ≤ q) (zl_W cq ci h0 a S ++ zm_W c1 cj cz g0 am M) → va_S (fun q : Nat => s.heap.size ≤ q) s.heap H locs → lv_has ls 4 [(0, .ref b), (1, .ref h0), (2, .ref g0), (3, .int (nI (5 * j)))] → W p l e room_1 s m #[Value.ref b] below meth c H locs (17 + j) (1238 + 9 * j) (lw_Z below #[Value.ref b] s) (F0 m 18 ls []) := by
  obtain ⟨hx, hb, hr, hml, hown, hts, hX, hbl, hlocks, hgv⟩ := C0
  have hown : s.vm.findClass RzW = some m.cls := hown
  have hz : ∀ w ∈ zw_T, w.before #[Value.ref b] s = true := fun w h => hts w (zw_sub w h)
  have hA : ∀ q : Nat, s.heap.size ≤ q → (fun q : Nat => s.heap.size ≤ q) q := fun _ h => h
  have hbA : ¬ (fun q : Nat => s.heap.size ≤ q) b := Nat.not_le.mpr hbl
  intro n
  induction n with
  | zero => intro j S M a H locs ls h1 h2; exact absurd h2 (by omega)
  | succ n ih =>
    intro j S M a H locs ls hj hjn hzr hP hD hS hl
    have hok := zr_okl hzr
    have hokm := zr_okm hzr
    refine lv_iload_n hx hb dz_W_law_18 rfl (lv_at hl 3 rfl) ?_
    refine lv_aload_n hx hb dz_W_law_19 rfl (lv_at hl 0 rfl) ?_
    refine va_slen hx hb hX hbl hbA hS dz_W_law_20 ?_
    refine lv_iconst (v := 5) hx hb dz_W_law_21 (by decide) ?_
    refine lv_isub hx hb dz_W_law_22 ?_
    refine lv_icmp_gt (tgt := 638) hx hb dz_W_law_23 (by decide) (fun c_1 => ?_) (fun c_1 => ?_)
    · refine lv_iconst (v := 1) hx hb dz_W_law_638 (by decide) ?_
      refine va_forget (fun q hq => hS.2.2 q hq) ?_
      refine W.widen (k := 600000) (n := 7302250) (by omega) (by omega) ?_
      exact lw_ret hx hb hr hlocks dz_W_law_639
    · have h5 : 5 * j + 5 ≤ L := zs_in (by omega) (by omega) c_1
      refine lv_aload_n hx hb dz_W_law_26 rfl (lv_at hl 0 rfl) ?_
      refine lv_iload_n hx hb dz_W_law_27 rfl (lv_at hl 3 rfl) ?_
      have hin_2 : vp_in (nI (5 * j)) L := vp_in_nI (by omega) (by omega)
      refine va_sld hx hb hX hbl hbA hS hin_2 dz_W_law_28 ?_
      refine W.eq (g2 := F0 m 29 ls [.int (xs (5 * j))]) (congrArg (fun z => F0 m 29 ls (.int (xs z) :: [])) (nI_clamp (by omega))) ?_
      refine lv_bipush (v := 15) hx hb dz_W_law_29 (by decide) ?_
      refine lv_iand hx hb dz_W_law_31 ?_
      by_cases c_3 : (xs (5 * j)) &&& 15 = 0
      · refine lv_tableIn (tgt := 96) hx hb dz_W_law_32 (by rw [c_3]; decide) (by rw [c_3]; decide) (by rw [c_3]; rfl) (by decide) ?_
        refine lv_aload_n hx hb dz_W_law_96 rfl (lv_at hl 1 rfl) ?_
        refine lv_aload_n hx hb dz_W_law_97 rfl (lv_at hl 0 rfl) ?_
        refine lv_iload_n hx hb dz_W_law_98 rfl (lv_at hl 3 rfl) ?_
        refine lv_iconst (v := 1) hx hb dz_W_law_99 (by decide) ?_
        refine lv_iadd hx hb dz_W_law_100 ?_
        refine W.eq (g2 := F0 m 101 ls [.int (nI (5 * j + 1)), .ref b, .ref h0]) (congrArg (fun z => F0 m 101 ls (.int z :: [.ref b, .ref h0])) (nI_add _ 1)) ?_
        have hin_4 : vp_in (nI (5 * j + 1)) L := vp_in_nI (by omega) (by omega)
        refine va_sld hx hb hX hbl hbA hS hin_4 dz_W_law_101 ?_
        refine W.eq (g2 := F0 m 102 ls [.int (xs (5 * j + 1)), .ref h0]) (congrArg (fun z => F0 m 102 ls (.int (xs z) :: [.ref h0])) (nI_clamp (by omega))) ?_
        have hPc := zw_left hP
        have hDc := zw_leftD hD
        have hFc := zw_free hS hA hDc
        refine va_calli (va_runV (As := [.int (xs (5 * j + 1))]) (rest := []) ⟨hx, hb, hml, hown, hz⟩ (ct_L_box l dC dI cq ci h0 a S hok H.size (xs (5 * j + 1))) (cwV 1 hz (zw_gV zi_75 zi_76 zi_77 zi_33 zi_78) rfl rfl rfl (by decide +kernel) ⟨Nat.le_of_ble_eq_true rfl, Nat.le_of_ble_eq_true rfl⟩) (zw_preUV zw_ns_ok hPc hDc hK hN (ci := 2) rfl (k := 0) rfl) rfl rfl hl.1 rfl (lv_room (Nat.le_of_ble_eq_true rfl)) dz_W_law_102 ⟨show 17 + j + 1 ≤ 600000 by omega, show 1238 + 9 * j + 9 ≤ 7302250 by omega⟩) hS (fun q _ h => hFc q h) hFc (fun r_5 u_5 t_5 H locs ht hvm hw hB hz1 hk1 hS => ?_)
        have hw : r_5 = (zl_addbox S (xs (5 * j + 1))).1 := hw
        subst hw
        obtain ⟨hP1, hD1⟩ := hB
        rw [ht] at hP1
        obtain ⟨hP, hD⟩ := zw_joinL hP hD hk1 hFc hP1 hD1
        generalize u_5 = a at hP hD
        refine W.widen (k := 17 + j + 1) (n := 1238 + 9 * j + 9) (by omega) (by omega) ?_
        refine lv_aload_n hx hb dz_W_law_105 rfl (lv_at hl 2 rfl) ?_
        refine lv_aload_n hx hb dz_W_law_106 rfl (lv_at hl 0 rfl) ?_
        refine lv_iload_n hx hb dz_W_law_107 rfl (lv_at hl 3 rfl) ?_
        refine lv_iconst (v := 1) hx hb dz_W_law_108 (by decide) ?_
        refine lv_iadd hx hb dz_W_law_109 ?_
        refine W.eq (g2 := F0 m 110 ls [.int (nI (5 * j + 1)), .ref b, .ref g0, .int ((zl_addbox S (xs (5 * j + 1))).1)]) (congrArg (fun z => F0 m 110 ls (.int z :: [.ref b, .ref g0, .int ((zl_addbox S (xs (5 * j + 1))).1)])) (nI_add _ 1)) ?_
        have hin_6 : vp_in (nI (5 * j + 1)) L := vp_in_nI (by omega) (by omega)
        refine va_sld hx hb hX hbl hbA hS hin_6 dz_W_law_110 ?_
        refine W.eq (g2 := F0 m 111 ls [.int (xs (5 * j + 1)), .ref g0, .int ((zl_addbox S (xs (5 * j + 1))).1)]) (congrArg (fun z => F0 m 111 ls (.int (xs z) :: [.ref g0, .int ((zl_addbox S (xs (5 * j + 1))).1)])) (nI_clamp (by omega))) ?_
        obtain ⟨hPs, hDs⟩ := zw_swap ⟨hP, hD⟩
        have hPc := zw_left hPs
        have hDc := zw_leftD hDs
        have hFc := zw_free hS hA hDc
        refine va_calli (va_runV (As := [.int (xs (5 * j + 1))]) (rest := [.int ((zl_addbox S (xs (5 * j + 1))).1)]) ⟨hx, hb, hml, hown, hz⟩ (ct_M_box l dC dI c1 cj cz g0 am M hokm H.size (xs (5 * j + 1))) (cwV 1 hz (zw_gV zi_274 zi_275 zi_276 zi_35 zi_277) rfl rfl rfl (by decide +kernel) ⟨Nat.le_of_ble_eq_true rfl, Nat.le_of_ble_eq_true rfl⟩) (zw_preUV zw_ns_ok hPc hDc hKm hN (ci := 3) rfl (k := 0) rfl) rfl rfl hl.1 rfl (lv_room (Nat.le_of_ble_eq_true rfl)) dz_W_law_111 ⟨show 17 + j + 1 + 0 ≤ 600000 by omega, show 1238 + 9 * j + 9 + 0 ≤ 7302250 by omega⟩) hS (fun q _ h => hFc q h) hFc (fun r_7 u_7 t_7 H locs ht hvm hw hB hz1 hk1 hS => ?_)
        have hw : r_7 = (zm_box M (xs (5 * j + 1))).1 := hw
        subst hw
        obtain ⟨hP1, hD1⟩ := hB
        rw [ht] at hP1
        obtain ⟨hP, hD⟩ := zw_joinL hPs hDs hk1 hFc hP1 hD1
        obtain ⟨hP, hD⟩ := zw_swap ⟨hP, hD⟩
        refine W.widen (k := 17 + j + 1) (n := 1238 + 9 * j + 9) (by omega) (by omega) ?_
        have hrel := zr_box hzr (xs (5 * j + 1))
        refine lv_icmp_eq (tgt := 632) hx hb dz_W_law_114 (by decide) (fun c_8 => ?_) (fun c_8 => ?_)
        · refine lv_iinc (v := nI (5 * (j + 1))) (lv' := [(3, .int (nI (5 * (j + 1)))), (0, .ref b), (1, .ref h0), (2, .ref g0)]) hx hb dz_W_law_632 hl (k := 3) rfl (by rw [show 5 * (j + 1) = 5 * j + 5 by omega]; exact nI_add _ 5) (by decide) rfl (fun ls hl => ?_)
          refine lv_goto (tgt := 18) hx hb dz_W_law_635 (by decide) ?_
          exact ih (j + 1) ((zl_addbox S (xs (5 * j + 1))).2) ((zm_box M (xs (5 * j + 1))).2) a H locs ls (by omega) (by omega) hrel.2 hP hD hS (lv_sub hl [1, 2, 3, 0] rfl)
        · exact absurd hrel.1 c_8
      · by_cases c_9 : (xs (5 * j)) &&& 15 = 1
        · refine lv_tableIn (tgt := 119) hx hb dz_W_law_32 (by rw [c_9]; decide) (by rw [c_9]; decide) (by rw [c_9]; rfl) (by decide) ?_
          refine lv_aload_n hx hb dz_W_law_119 rfl (lv_at hl 1 rfl) ?_
          refine lv_aload_n hx hb dz_W_law_120 rfl (lv_at hl 0 rfl) ?_
          refine lv_iload_n hx hb dz_W_law_121 rfl (lv_at hl 3 rfl) ?_
          refine lv_iconst (v := 1) hx hb dz_W_law_122 (by decide) ?_
          refine lv_iadd hx hb dz_W_law_123 ?_
          refine W.eq (g2 := F0 m 124 ls [.int (nI (5 * j + 1)), .ref b, .ref h0]) (congrArg (fun z => F0 m 124 ls (.int z :: [.ref b, .ref h0])) (nI_add _ 1)) ?_
          have hin_10 : vp_in (nI (5 * j + 1)) L := vp_in_nI (by omega) (by omega)
          refine va_sld hx hb hX hbl hbA hS hin_10 dz_W_law_124 ?_
          refine W.eq (g2 := F0 m 125 ls [.int (xs (5 * j + 1)), .ref h0]) (congrArg (fun z => F0 m 125 ls (.int (xs z) :: [.ref h0])) (nI_clamp (by omega))) ?_
          have hPc := zw_left hP
          have hDc := zw_leftD hD
          have hFc := zw_free hS hA hDc
          refine va_calli (va_runV (As := [.int (xs (5 * j + 1))]) (rest := []) ⟨hx, hb, hml, hown, hz⟩ (ct_L_tape l dC dI cq ci h0 a S hok H.size (xs (5 * j + 1))) (cwV 1 hz (zw_gV zi_104 zi_105 zi_106 zi_33 zi_107) rfl rfl rfl (by decide +kernel) ⟨Nat.le_of_ble_eq_true rfl, Nat.le_of_ble_eq_true rfl⟩) (zw_preUV zw_ns_ok hPc hDc hK hN (ci := 2) rfl (k := 0) rfl) rfl rfl hl.1 rfl (lv_room (Nat.le_of_ble_eq_true rfl)) dz_W_law_125 ⟨show 17 + j + 0 ≤ 600000 by omega, show 1238 + 9 * j + 0 ≤ 7302250 by omega⟩) hS (fun q _ h => hFc q h) hFc (fun r_11 u_11 t_11 H locs ht hvm hw hB hz1 hk1 hS => ?_)
          have hw : r_11 = (zl_tape S (xs (5 * j + 1))).1 := hw
          subst hw
          obtain ⟨hP1, hD1⟩ := hB
          rw [ht] at hP1
          obtain ⟨hP, hD⟩ := zw_joinL hP hD hk1 hFc hP1 hD1
          refine W.widen (k := 17 + j + 1) (n := 1238 + 9 * j + 9) (by omega) (by omega) ?_
          refine lv_aload_n hx hb dz_W_law_128 rfl (lv_at hl 2 rfl) ?_
          refine lv_aload_n hx hb dz_W_law_129 rfl (lv_at hl 0 rfl) ?_
          refine lv_iload_n hx hb dz_W_law_130 rfl (lv_at hl 3 rfl) ?_
          refine lv_iconst (v := 1) hx hb dz_W_law_131 (by decide) ?_
          refine lv_iadd hx hb dz_W_law_132 ?_
          refine W.eq (g2 := F0 m 133 ls [.int (nI (5 * j + 1)), .ref b, .ref g0, .int ((zl_tape S (xs (5 * j + 1))).1)]) (congrArg (fun z => F0 m 133 ls (.int z :: [.ref b, .ref g0, .int ((zl_tape S (xs (5 * j + 1))).1)])) (nI_add _ 1)) ?_
          have hin_12 : vp_in (nI (5 * j + 1)) L := vp_in_nI (by omega) (by omega)
          refine va_sld hx hb hX hbl hbA hS hin_12 dz_W_law_133 ?_
          refine W.eq (g2 := F0 m 134 ls [.int (xs (5 * j + 1)), .ref g0, .int ((zl_tape S (xs (5 * j + 1))).1)]) (congrArg (fun z => F0 m 134 ls (.int (xs z) :: [.ref g0, .int ((zl_tape S (xs (5 * j + 1))).1)])) (nI_clamp (by omega))) ?_
          obtain ⟨hPs, hDs⟩ := zw_swap ⟨hP, hD⟩
          have hPc := zw_left hPs
          have hDc := zw_leftD hDs
          have hFc := zw_free hS hA hDc
          refine va_calli (va_runV (As := [.int (xs (5 * j + 1))]) (rest := [.int ((zl_tape S (xs (5 * j + 1))).1)]) ⟨hx, hb, hml, hown, hz⟩ (ct_M_tape l dC dI c1 cj cz g0 am M hokm H.size (xs (5 * j + 1))) (cwV 1 hz (zw_gV zi_282 zi_283 zi_284 zi_35 zi_285) rfl rfl rfl (by decide +kernel) ⟨Nat.le_of_ble_eq_true rfl, Nat.le_of_ble_eq_true rfl⟩) (zw_preUV zw_ns_ok hPc hDc hKm hN (ci := 3) rfl (k := 0) rfl) rfl rfl hl.1 rfl (lv_room (Nat.le_of_ble_eq_true rfl)) dz_W_law_134 ⟨show 17 + j + 1 + 0 ≤ 600000 by omega, show 1238 + 9 * j + 9 + 0 ≤ 7302250 by omega⟩) hS (fun q _ h => hFc q h) hFc (fun r_13 u_13 t_13 H locs ht hvm hw hB hz1 hk1 hS => ?_)
          have hw : r_13 = (zm_tape M (xs (5 * j + 1))).1 := hw
          subst hw
          obtain ⟨hP1, hD1⟩ := hB
          rw [ht] at hP1
          obtain ⟨hP, hD⟩ := zw_joinL hPs hDs hk1 hFc hP1 hD1
          obtain ⟨hP, hD⟩ := zw_swap ⟨hP, hD⟩
          refine W.widen (k := 17 + j + 1) (n := 1238 + 9 * j + 9) (by omega) (by omega) ?_
          have hrel := zr_tape hzr (xs (5 * j + 1))
          refine lv_icmp_eq (tgt := 632) hx hb dz_W_law_137 (by decide) (fun c_14 => ?_) (fun c_14 => ?_)
          · refine lv_iinc (v := nI (5 * (j + 1))) (lv' := [(3, .int (nI (5 * (j + 1)))), (0, .ref b), (1, .ref h0), (2, .ref g0)]) hx hb dz_W_law_632 hl (k := 3) rfl (by rw [show 5 * (j + 1) = 5 * j + 5 by omega]; exact nI_add _ 5) (by decide) rfl (fun ls hl => ?_)
            refine lv_goto (tgt := 18) hx hb dz_W_law_635 (by decide) ?_
            exact ih (j + 1) ((zl_tape S (xs (5 * j + 1))).2) ((zm_tape M (xs (5 * j + 1))).2) a H locs ls (by omega) (by omega) hrel.2 hP hD hS (lv_sub hl [1, 2, 3, 0] rfl)
          · exact absurd hrel.1 c_14
        · by_cases c_15 : (xs (5 * j)) &&& 15 = 2
          · refine lv_tableIn (tgt := 142) hx hb dz_W_law_32 (by rw [c_15]; decide) (by rw [c_15]; decide) (by rw [c_15]; rfl) (by decide) ?_
            refine lv_aload_n hx hb dz_W_law_142 rfl (lv_at hl 1 rfl) ?_
            refine lv_aload_n hx hb dz_W_law_143 rfl (lv_at hl 0 rfl) ?_
            refine lv_iload_n hx hb dz_W_law_144 rfl (lv_at hl 3 rfl) ?_
            refine lv_iconst (v := 1) hx hb dz_W_law_145 (by decide) ?_
            refine lv_iadd hx hb dz_W_law_146 ?_
            refine W.eq (g2 := F0 m 147 ls [.int (nI (5 * j + 1)), .ref b, .ref h0]) (congrArg (fun z => F0 m 147 ls (.int z :: [.ref b, .ref h0])) (nI_add _ 1)) ?_
            have hin_16 : vp_in (nI (5 * j + 1)) L := vp_in_nI (by omega) (by omega)
            refine va_sld hx hb hX hbl hbA hS hin_16 dz_W_law_147 ?_
            refine W.eq (g2 := F0 m 148 ls [.int (xs (5 * j + 1)), .ref h0]) (congrArg (fun z => F0 m 148 ls (.int (xs z) :: [.ref h0])) (nI_clamp (by omega))) ?_
            refine lv_aload_n hx hb dz_W_law_148 rfl (lv_at hl 0 rfl) ?_
            refine lv_iload_n hx hb dz_W_law_149 rfl (lv_at hl 3 rfl) ?_
            refine lv_iconst (v := 2) hx hb dz_W_law_150 (by decide) ?_
            refine lv_iadd hx hb dz_W_law_151 ?_
            refine W.eq (g2 := F0 m 152 ls [.int (nI (5 * j + 2)), .ref b, .int (xs (5 * j + 1)), .ref h0]) (congrArg (fun z => F0 m 152 ls (.int z :: [.ref b, .int (xs (5 * j + 1)), .ref h0])) (nI_add _ 2)) ?_
            have hin_17 : vp_in (nI (5 * j + 2)) L := vp_in_nI (by omega) (by omega)
            refine va_sld hx hb hX hbl hbA hS hin_17 dz_W_law_152 ?_
            refine W.eq (g2 := F0 m 153 ls [.int (xs (5 * j + 2)), .int (xs (5 * j + 1)), .ref h0]) (congrArg (fun z => F0 m 153 ls (.int (xs z) :: [.int (xs (5 * j + 1)), .ref h0])) (nI_clamp (by omega))) ?_
            refine lv_i2l (v := (xs (5 * j + 2)).toInt64) hx hb dz_W_law_153 rfl ?_
            refine lv_bipush (v := 32) hx hb dz_W_law_154 (by decide) ?_
            refine lv_lshl (v := ((xs (5 * j + 2)).toInt64) <<< ((32 : Int32).toInt64 &&& 63)) hx hb dz_W_law_156 rfl ?_
            refine lv_aload_n hx hb dz_W_law_157 rfl (lv_at hl 0 rfl) ?_
            refine lv_iload_n hx hb dz_W_law_158 rfl (lv_at hl 3 rfl) ?_
            refine lv_iconst (v := 3) hx hb dz_W_law_159 (by decide) ?_
            refine lv_iadd hx hb dz_W_law_160 ?_
            refine W.eq (g2 := F0 m 161 ls [.int (nI (5 * j + 3)), .ref b, .long (((xs (5 * j + 2)).toInt64) <<< ((32 : Int32).toInt64 &&& 63)), .int (xs (5 * j + 1)), .ref h0]) (congrArg (fun z => F0 m 161 ls (.int z :: [.ref b, .long (((xs (5 * j + 2)).toInt64) <<< ((32 : Int32).toInt64 &&& 63)), .int (xs (5 * j + 1)), .ref h0])) (nI_add _ 3)) ?_
            have hin_18 : vp_in (nI (5 * j + 3)) L := vp_in_nI (by omega) (by omega)
            refine va_sld hx hb hX hbl hbA hS hin_18 dz_W_law_161 ?_
            refine W.eq (g2 := F0 m 162 ls [.int (xs (5 * j + 3)), .long (((xs (5 * j + 2)).toInt64) <<< ((32 : Int32).toInt64 &&& 63)), .int (xs (5 * j + 1)), .ref h0]) (congrArg (fun z => F0 m 162 ls (.int (xs z) :: [.long (((xs (5 * j + 2)).toInt64) <<< ((32 : Int32).toInt64 &&& 63)), .int (xs (5 * j + 1)), .ref h0])) (nI_clamp (by omega))) ?_
            refine lv_i2l (v := (xs (5 * j + 3)).toInt64) hx hb dz_W_law_162 rfl ?_
            refine lv_ldc2 (v := 4294967295) hx hb hown (hz _ zi_352) dz_W_law_163 ?_
            refine lv_land hx hb dz_W_law_166 ?_
            refine lv_lor hx hb dz_W_law_167 ?_
            refine W.eq (g2 := F0 m 168 ls [.long (zs_long (xs (5 * j + 2)) (xs (5 * j + 3))), .int (xs (5 * j + 1)), .ref h0]) rfl ?_
            have hPc := zw_left hP
            have hDc := zw_leftD hD
            have hFc := zw_free hS hA hDc
            refine va_calli (va_runV (As := [.int (xs (5 * j + 1)), .long (zs_long (xs (5 * j + 2)) (xs (5 * j + 3)))]) (rest := []) ⟨hx, hb, hml, hown, hz⟩ (ct_L_reserve l dC dI cq ci h0 a S hok H.size (xs (5 * j + 1)) (zs_long (xs (5 * j + 2)) (xs (5 * j + 3)))) (cwV 2 hz (zw_gV zi_116 zi_117 zi_118 zi_33 zi_119) rfl rfl rfl (by decide +kernel) ⟨Nat.le_of_ble_eq_true rfl, Nat.le_of_ble_eq_true rfl⟩) (zw_preUV zw_ns_ok hPc hDc hK hN (ci := 2) rfl (k := 0) rfl) rfl rfl hl.1 rfl (lv_room (Nat.le_of_ble_eq_true rfl)) dz_W_law_168 ⟨show 17 + j + 0 ≤ 600000 by omega, show 1238 + 9 * j + 0 ≤ 7302250 by omega⟩) hS (fun q _ h => hFc q h) hFc (fun r_19 u_19 t_19 H locs ht hvm hw hB hz1 hk1 hS => ?_)
            have hw : r_19 = (zl_reserve S (xs (5 * j + 1)) (zs_long (xs (5 * j + 2)) (xs (5 * j + 3)))).1 := hw
            subst hw
            obtain ⟨hP1, hD1⟩ := hB
            rw [ht] at hP1
            obtain ⟨hP, hD⟩ := zw_joinL hP hD hk1 hFc hP1 hD1
            refine W.widen (k := 17 + j + 1) (n := 1238 + 9 * j + 9) (by omega) (by omega) ?_
            refine lv_aload_n hx hb dz_W_law_171 rfl (lv_at hl 2 rfl) ?_
            refine lv_aload_n hx hb dz_W_law_172 rfl (lv_at hl 0 rfl) ?_
            refine lv_iload_n hx hb dz_W_law_173 rfl (lv_at hl 3 rfl) ?_
            refine lv_iconst (v := 1) hx hb dz_W_law_174 (by decide) ?_
            refine lv_iadd hx hb dz_W_law_175 ?_
            refine W.eq (g2 := F0 m 176 ls [.int (nI (5 * j + 1)), .ref b, .ref g0, .int ((zl_reserve S (xs (5 * j + 1)) (zs_long (xs (5 * j + 2)) (xs (5 * j + 3)))).1)]) (congrArg (fun z => F0 m 176 ls (.int z :: [.ref b, .ref g0, .int ((zl_reserve S (xs (5 * j + 1)) (zs_long (xs (5 * j + 2)) (xs (5 * j + 3)))).1)])) (nI_add _ 1)) ?_
            have hin_20 : vp_in (nI (5 * j + 1)) L := vp_in_nI (by omega) (by omega)
            refine va_sld hx hb hX hbl hbA hS hin_20 dz_W_law_176 ?_
            refine W.eq (g2 := F0 m 177 ls [.int (xs (5 * j + 1)), .ref g0, .int ((zl_reserve S (xs (5 * j + 1)) (zs_long (xs (5 * j + 2)) (xs (5 * j + 3)))).1)]) (congrArg (fun z => F0 m 177 ls (.int (xs z) :: [.ref g0, .int ((zl_reserve S (xs (5 * j + 1)) (zs_long (xs (5 * j + 2)) (xs (5 * j + 3)))).1)])) (nI_clamp (by omega))) ?_
            refine lv_aload_n hx hb dz_W_law_177 rfl (lv_at hl 0 rfl) ?_
            refine lv_iload_n hx hb dz_W_law_178 rfl (lv_at hl 3 rfl) ?_
            refine lv_iconst (v := 2) hx hb dz_W_law_179 (by decide) ?_
            refine lv_iadd hx hb dz_W_law_180 ?_
            refine W.eq (g2 := F0 m 181 ls [.int (nI (5 * j + 2)), .ref b, .int (xs (5 * j + 1)), .ref g0, .int ((zl_reserve S (xs (5 * j + 1)) (zs_long (xs (5 * j + 2)) (xs (5 * j + 3)))).1)]) (congrArg (fun z => F0 m 181 ls (.int z :: [.ref b, .int (xs (5 * j + 1)), .ref g0, .int ((zl_reserve S (xs (5 * j + 1)) (zs_long (xs (5 * j + 2)) (xs (5 * j + 3)))).1)])) (nI_add _ 2)) ?_
            have hin_21 : vp_in (nI (5 * j + 2)) L := vp_in_nI (by omega) (by omega)
            refine va_sld hx hb hX hbl hbA hS hin_21 dz_W_law_181 ?_
            refine W.eq (g2 := F0 m 182 ls [.int (xs (5 * j + 2)), .int (xs (5 * j + 1)), .ref g0, .int ((zl_reserve S (xs (5 * j + 1)) (zs_long (xs (5 * j + 2)) (xs (5 * j + 3)))).1)]) (congrArg (fun z => F0 m 182 ls (.int (xs z) :: [.int (xs (5 * j + 1)), .ref g0, .int ((zl_reserve S (xs (5 * j + 1)) (zs_long (xs (5 * j + 2)) (xs (5 * j + 3)))).1)])) (nI_clamp (by omega))) ?_
            refine lv_i2l (v := (xs (5 * j + 2)).toInt64) hx hb dz_W_law_182 rfl ?_
            refine lv_bipush (v := 32) hx hb dz_W_law_183 (by decide) ?_
            refine lv_lshl (v := ((xs (5 * j + 2)).toInt64) <<< ((32 : Int32).toInt64 &&& 63)) hx hb dz_W_law_185 rfl ?_
            refine lv_aload_n hx hb dz_W_law_186 rfl (lv_at hl 0 rfl) ?_
            refine lv_iload_n hx hb dz_W_law_187 rfl (lv_at hl 3 rfl) ?_
            refine lv_iconst (v := 3) hx hb dz_W_law_188 (by decide) ?_
            refine lv_iadd hx hb dz_W_law_189 ?_
            refine W.eq (g2 := F0 m 190 ls [.int (nI (5 * j + 3)), .ref b, .long (((xs (5 * j + 2)).toInt64) <<< ((32 : Int32).toInt64 &&& 63)), .int (xs (5 * j + 1)), .ref g0, .int ((zl_reserve S (xs (5 * j + 1)) (zs_long (xs (5 * j + 2)) (xs (5 * j + 3)))).1)]) (congrArg (fun z => F0 m 190 ls (.int z :: [.ref b, .long (((xs (5 * j + 2)).toInt64) <<< ((32 : Int32).toInt64 &&& 63)), .int (xs (5 * j + 1)), .ref g0, .int ((zl_reserve S (xs (5 * j + 1)) (zs_long (xs (5 * j + 2)) (xs (5 * j + 3)))).1)])) (nI_add _ 3)) ?_
            have hin_22 : vp_in (nI (5 * j + 3)) L := vp_in_nI (by omega) (by omega)
            refine va_sld hx hb hX hbl hbA hS hin_22 dz_W_law_190 ?_
            refine W.eq (g2 := F0 m 191 ls [.int (xs (5 * j + 3)), .long (((xs (5 * j + 2)).toInt64) <<< ((32 : Int32).toInt64 &&& 63)), .int (xs (5 * j + 1)), .ref g0, .int ((zl_reserve S (xs (5 * j + 1)) (zs_long (xs (5 * j + 2)) (xs (5 * j + 3)))).1)]) (congrArg (fun z => F0 m 191 ls (.int (xs z) :: [.long (((xs (5 * j + 2)).toInt64) <<< ((32 : Int32).toInt64 &&& 63)), .int (xs (5 * j + 1)), .ref g0, .int ((zl_reserve S (xs (5 * j + 1)) (zs_long (xs (5 * j + 2)) (xs (5 * j + 3)))).1)])) (nI_clamp (by omega))) ?_
            refine lv_i2l (v := (xs (5 * j + 3)).toInt64) hx hb dz_W_law_191 rfl ?_
            refine lv_ldc2 (v := 4294967295) hx hb hown (hz _ zi_352) dz_W_law_192 ?_
            refine lv_land hx hb dz_W_law_195 ?_
            refine lv_lor hx hb dz_W_law_196 ?_
            refine W.eq (g2 := F0 m 197 ls [.long (zs_long (xs (5 * j + 2)) (xs (5 * j + 3))), .int (xs (5 * j + 1)), .ref g0, .int ((zl_reserve S (xs (5 * j + 1)) (zs_long (xs (5 * j + 2)) (xs (5 * j + 3)))).1)]) rfl ?_
            obtain ⟨hPs, hDs⟩ := zw_swap ⟨hP, hD⟩
            have hPc := zw_left hPs
            have hDc := zw_leftD hDs
            have hFc := zw_free hS hA hDc
            refine va_calli (va_runV (As := [.int (xs (5 * j + 1)), .long (zs_long (xs (5 * j + 2)) (xs (5 * j + 3)))]) (rest := [.int ((zl_reserve S (xs (5 * j + 1)) (zs_long (xs (5 * j + 2)) (xs (5 * j + 3)))).1)]) ⟨hx, hb, hml, hown, hz⟩ (ct_M_reserve l dC dI c1 cj cz g0 am M hokm H.size (xs (5 * j + 1)) (zs_long (xs (5 * j + 2)) (xs (5 * j + 3)))) (cwV 2 hz (zw_gV zi_287 zi_288 zi_289 zi_35 zi_290) rfl rfl rfl (by decide +kernel) ⟨Nat.le_of_ble_eq_true rfl, Nat.le_of_ble_eq_true rfl⟩) (zw_preUV zw_ns_ok hPc hDc hKm hN (ci := 3) rfl (k := 0) rfl) rfl rfl hl.1 rfl (lv_room (Nat.le_of_ble_eq_true rfl)) dz_W_law_197 ⟨show 17 + j + 1 + 0 ≤ 600000 by omega, show 1238 + 9 * j + 9 + 0 ≤ 7302250 by omega⟩) hS (fun q _ h => hFc q h) hFc (fun r_23 u_23 t_23 H locs ht hvm hw hB hz1 hk1 hS => ?_)
            have hw : r_23 = (zm_reserve M (xs (5 * j + 1)) (zs_long (xs (5 * j + 2)) (xs (5 * j + 3)))).1 := hw
            subst hw
            obtain ⟨hP1, hD1⟩ := hB
            rw [ht] at hP1
            obtain ⟨hP, hD⟩ := zw_joinL hPs hDs hk1 hFc hP1 hD1
            obtain ⟨hP, hD⟩ := zw_swap ⟨hP, hD⟩
            refine W.widen (k := 17 + j + 1) (n := 1238 + 9 * j + 9) (by omega) (by omega) ?_
            have hrel := zr_reserve hzr (xs (5 * j + 1)) (zs_long (xs (5 * j + 2)) (xs (5 * j + 3)))
            refine lv_icmp_eq (tgt := 632) hx hb dz_W_law_200 (by decide) (fun c_24 => ?_) (fun c_24 => ?_)
            · refine lv_iinc (v := nI (5 * (j + 1))) (lv' := [(3, .int (nI (5 * (j + 1)))), (0, .ref b), (1, .ref h0), (2, .ref g0)]) hx hb dz_W_law_632 hl (k := 3) rfl (by rw [show 5 * (j + 1) = 5 * j + 5 by omega]; exact nI_add _ 5) (by decide) rfl (fun ls hl => ?_)
              refine lv_goto (tgt := 18) hx hb dz_W_law_635 (by decide) ?_
              exact ih (j + 1) ((zl_reserve S (xs (5 * j + 1)) (zs_long (xs (5 * j + 2)) (xs (5 * j + 3)))).2) ((zm_reserve M (xs (5 * j + 1)) (zs_long (xs (5 * j + 2)) (xs (5 * j + 3)))).2) a H locs ls (by omega) (by omega) hrel.2 hP hD hS (lv_sub hl [1, 2, 3, 0] rfl)
            · exact absurd hrel.1 c_24
          · by_cases c_25 : (xs (5 * j)) &&& 15 = 3
            · refine lv_tableIn (tgt := 205) hx hb dz_W_law_32 (by rw [c_25]; decide) (by rw [c_25]; decide) (by rw [c_25]; rfl) (by decide) ?_
              refine lv_aload_n hx hb dz_W_law_205 rfl (lv_at hl 1 rfl) ?_
              refine lv_aload_n hx hb dz_W_law_206 rfl (lv_at hl 0 rfl) ?_
              refine lv_iload_n hx hb dz_W_law_207 rfl (lv_at hl 3 rfl) ?_
              refine lv_iconst (v := 1) hx hb dz_W_law_208 (by decide) ?_
              refine lv_iadd hx hb dz_W_law_209 ?_
              refine W.eq (g2 := F0 m 210 ls [.int (nI (5 * j + 1)), .ref b, .ref h0]) (congrArg (fun z => F0 m 210 ls (.int z :: [.ref b, .ref h0])) (nI_add _ 1)) ?_
              have hin_26 : vp_in (nI (5 * j + 1)) L := vp_in_nI (by omega) (by omega)
              refine va_sld hx hb hX hbl hbA hS hin_26 dz_W_law_210 ?_
              refine W.eq (g2 := F0 m 211 ls [.int (xs (5 * j + 1)), .ref h0]) (congrArg (fun z => F0 m 211 ls (.int (xs z) :: [.ref h0])) (nI_clamp (by omega))) ?_
              refine lv_aload_n hx hb dz_W_law_211 rfl (lv_at hl 0 rfl) ?_
              refine lv_iload_n hx hb dz_W_law_212 rfl (lv_at hl 3 rfl) ?_
              refine lv_iconst (v := 2) hx hb dz_W_law_213 (by decide) ?_
              refine lv_iadd hx hb dz_W_law_214 ?_
              refine W.eq (g2 := F0 m 215 ls [.int (nI (5 * j + 2)), .ref b, .int (xs (5 * j + 1)), .ref h0]) (congrArg (fun z => F0 m 215 ls (.int z :: [.ref b, .int (xs (5 * j + 1)), .ref h0])) (nI_add _ 2)) ?_
              have hin_27 : vp_in (nI (5 * j + 2)) L := vp_in_nI (by omega) (by omega)
              refine va_sld hx hb hX hbl hbA hS hin_27 dz_W_law_215 ?_
              refine W.eq (g2 := F0 m 216 ls [.int (xs (5 * j + 2)), .int (xs (5 * j + 1)), .ref h0]) (congrArg (fun z => F0 m 216 ls (.int (xs z) :: [.int (xs (5 * j + 1)), .ref h0])) (nI_clamp (by omega))) ?_
              refine lv_aload_n hx hb dz_W_law_216 rfl (lv_at hl 0 rfl) ?_
              refine lv_iload_n hx hb dz_W_law_217 rfl (lv_at hl 3 rfl) ?_
              refine lv_iconst (v := 3) hx hb dz_W_law_218 (by decide) ?_
              refine lv_iadd hx hb dz_W_law_219 ?_
              refine W.eq (g2 := F0 m 220 ls [.int (nI (5 * j + 3)), .ref b, .int (xs (5 * j + 2)), .int (xs (5 * j + 1)), .ref h0]) (congrArg (fun z => F0 m 220 ls (.int z :: [.ref b, .int (xs (5 * j + 2)), .int (xs (5 * j + 1)), .ref h0])) (nI_add _ 3)) ?_
              have hin_28 : vp_in (nI (5 * j + 3)) L := vp_in_nI (by omega) (by omega)
              refine va_sld hx hb hX hbl hbA hS hin_28 dz_W_law_220 ?_
              refine W.eq (g2 := F0 m 221 ls [.int (xs (5 * j + 3)), .int (xs (5 * j + 2)), .int (xs (5 * j + 1)), .ref h0]) (congrArg (fun z => F0 m 221 ls (.int (xs z) :: [.int (xs (5 * j + 2)), .int (xs (5 * j + 1)), .ref h0])) (nI_clamp (by omega))) ?_
              refine lv_i2l (v := (xs (5 * j + 3)).toInt64) hx hb dz_W_law_221 rfl ?_
              refine lv_bipush (v := 32) hx hb dz_W_law_222 (by decide) ?_
              refine lv_lshl (v := ((xs (5 * j + 3)).toInt64) <<< ((32 : Int32).toInt64 &&& 63)) hx hb dz_W_law_224 rfl ?_
              refine lv_aload_n hx hb dz_W_law_225 rfl (lv_at hl 0 rfl) ?_
              refine lv_iload_n hx hb dz_W_law_226 rfl (lv_at hl 3 rfl) ?_
              refine lv_iconst (v := 4) hx hb dz_W_law_227 (by decide) ?_
              refine lv_iadd hx hb dz_W_law_228 ?_
              refine W.eq (g2 := F0 m 229 ls [.int (nI (5 * j + 4)), .ref b, .long (((xs (5 * j + 3)).toInt64) <<< ((32 : Int32).toInt64 &&& 63)), .int (xs (5 * j + 2)), .int (xs (5 * j + 1)), .ref h0]) (congrArg (fun z => F0 m 229 ls (.int z :: [.ref b, .long (((xs (5 * j + 3)).toInt64) <<< ((32 : Int32).toInt64 &&& 63)), .int (xs (5 * j + 2)), .int (xs (5 * j + 1)), .ref h0])) (nI_add _ 4)) ?_
              have hin_29 : vp_in (nI (5 * j + 4)) L := vp_in_nI (by omega) (by omega)
              refine va_sld hx hb hX hbl hbA hS hin_29 dz_W_law_229 ?_
              refine W.eq (g2 := F0 m 230 ls [.int (xs (5 * j + 4)), .long (((xs (5 * j + 3)).toInt64) <<< ((32 : Int32).toInt64 &&& 63)), .int (xs (5 * j + 2)), .int (xs (5 * j + 1)), .ref h0]) (congrArg (fun z => F0 m 230 ls (.int (xs z) :: [.long (((xs (5 * j + 3)).toInt64) <<< ((32 : Int32).toInt64 &&& 63)), .int (xs (5 * j + 2)), .int (xs (5 * j + 1)), .ref h0])) (nI_clamp (by omega))) ?_
              refine lv_i2l (v := (xs (5 * j + 4)).toInt64) hx hb dz_W_law_230 rfl ?_
              refine lv_ldc2 (v := 4294967295) hx hb hown (hz _ zi_352) dz_W_law_231 ?_
              refine lv_land hx hb dz_W_law_234 ?_
              refine lv_lor hx hb dz_W_law_235 ?_
              refine W.eq (g2 := F0 m 236 ls [.long (zs_long (xs (5 * j + 3)) (xs (5 * j + 4))), .int (xs (5 * j + 2)), .int (xs (5 * j + 1)), .ref h0]) rfl ?_
              have hPc := zw_left hP
              have hDc := zw_leftD hD
              have hFc := zw_free hS hA hDc
              refine va_calli (va_runV (As := [.int (xs (5 * j + 1)), .int (xs (5 * j + 2)), .long (zs_long (xs (5 * j + 3)) (xs (5 * j + 4)))]) (rest := []) ⟨hx, hb, hml, hown, hz⟩ (ct_L_put l dC dI cq ci h0 a S hok H.size (xs (5 * j + 1)) (xs (5 * j + 2)) (zs_long (xs (5 * j + 3)) (xs (5 * j + 4)))) (cwV 3 hz (zw_gV zi_132 zi_133 zi_134 zi_33 zi_135) rfl rfl rfl (by decide +kernel) ⟨Nat.le_of_ble_eq_true rfl, Nat.le_of_ble_eq_true rfl⟩) (zw_preUV zw_ns_ok hPc hDc hK hN (ci := 2) rfl (k := 0) rfl) rfl rfl hl.1 rfl (lv_room (Nat.le_of_ble_eq_true rfl)) dz_W_law_236 ⟨show 17 + j + 0 ≤ 600000 by omega, show 1238 + 9 * j + 0 ≤ 7302250 by omega⟩) hS (fun q _ h => hFc q h) hFc (fun r_30 u_30 t_30 H locs ht hvm hw hB hz1 hk1 hS => ?_)
              have hw : r_30 = (zl_put S (xs (5 * j + 1)) (xs (5 * j + 2)) (zs_long (xs (5 * j + 3)) (xs (5 * j + 4)))).1 := hw
              subst hw
              obtain ⟨hP1, hD1⟩ := hB
              rw [ht] at hP1
              obtain ⟨hP, hD⟩ := zw_joinL hP hD hk1 hFc hP1 hD1
              refine W.widen (k := 17 + j + 1) (n := 1238 + 9 * j + 9) (by omega) (by omega) ?_
              refine lv_aload_n hx hb dz_W_law_239 rfl (lv_at hl 2 rfl) ?_
              refine lv_aload_n hx hb dz_W_law_240 rfl (lv_at hl 0 rfl) ?_
              refine lv_iload_n hx hb dz_W_law_241 rfl (lv_at hl 3 rfl) ?_
              refine lv_iconst (v := 1) hx hb dz_W_law_242 (by decide) ?_
              refine lv_iadd hx hb dz_W_law_243 ?_
              refine W.eq (g2 := F0 m 244 ls [.int (nI (5 * j + 1)), .ref b, .ref g0, .int ((zl_put S (xs (5 * j + 1)) (xs (5 * j + 2)) (zs_long (xs (5 * j + 3)) (xs (5 * j + 4)))).1)]) (congrArg (fun z => F0 m 244 ls (.int z :: [.ref b, .ref g0, .int ((zl_put S (xs (5 * j + 1)) (xs (5 * j + 2)) (zs_long (xs (5 * j + 3)) (xs (5 * j + 4)))).1)])) (nI_add _ 1)) ?_
              have hin_31 : vp_in (nI (5 * j + 1)) L := vp_in_nI (by omega) (by omega)
              refine va_sld hx hb hX hbl hbA hS hin_31 dz_W_law_244 ?_
              refine W.eq (g2 := F0 m 245 ls [.int (xs (5 * j + 1)), .ref g0, .int ((zl_put S (xs (5 * j + 1)) (xs (5 * j + 2)) (zs_long (xs (5 * j + 3)) (xs (5 * j + 4)))).1)]) (congrArg (fun z => F0 m 245 ls (.int (xs z) :: [.ref g0, .int ((zl_put S (xs (5 * j + 1)) (xs (5 * j + 2)) (zs_long (xs (5 * j + 3)) (xs (5 * j + 4)))).1)])) (nI_clamp (by omega))) ?_
              refine lv_aload_n hx hb dz_W_law_245 rfl (lv_at hl 0 rfl) ?_
              refine lv_iload_n hx hb dz_W_law_246 rfl (lv_at hl 3 rfl) ?_
              refine lv_iconst (v := 2) hx hb dz_W_law_247 (by decide) ?_
              refine lv_iadd hx hb dz_W_law_248 ?_
              refine W.eq (g2 := F0 m 249 ls [.int (nI (5 * j + 2)), .ref b, .int (xs (5 * j + 1)), .ref g0, .int ((zl_put S (xs (5 * j + 1)) (xs (5 * j + 2)) (zs_long (xs (5 * j + 3)) (xs (5 * j + 4)))).1)]) (congrArg (fun z => F0 m 249 ls (.int z :: [.ref b, .int (xs (5 * j + 1)), .ref g0, .int ((zl_put S (xs (5 * j + 1)) (xs (5 * j + 2)) (zs_long (xs (5 * j + 3)) (xs (5 * j + 4)))).1)])) (nI_add _ 2)) ?_
              have hin_32 : vp_in (nI (5 * j + 2)) L := vp_in_nI (by omega) (by omega)
              refine va_sld hx hb hX hbl hbA hS hin_32 dz_W_law_249 ?_
              refine W.eq (g2 := F0 m 250 ls [.int (xs (5 * j + 2)), .int (xs (5 * j + 1)), .ref g0, .int ((zl_put S (xs (5 * j + 1)) (xs (5 * j + 2)) (zs_long (xs (5 * j + 3)) (xs (5 * j + 4)))).1)]) (congrArg (fun z => F0 m 250 ls (.int (xs z) :: [.int (xs (5 * j + 1)), .ref g0, .int ((zl_put S (xs (5 * j + 1)) (xs (5 * j + 2)) (zs_long (xs (5 * j + 3)) (xs (5 * j + 4)))).1)])) (nI_clamp (by omega))) ?_
              refine lv_aload_n hx hb dz_W_law_250 rfl (lv_at hl 0 rfl) ?_
              refine lv_iload_n hx hb dz_W_law_251 rfl (lv_at hl 3 rfl) ?_
              refine lv_iconst (v := 3) hx hb dz_W_law_252 (by decide) ?_
              refine lv_iadd hx hb dz_W_law_253 ?_
              refine W.eq (g2 := F0 m 254 ls [.int (nI (5 * j + 3)), .ref b, .int (xs (5 * j + 2)), .int (xs (5 * j + 1)), .ref g0, .int ((zl_put S (xs (5 * j + 1)) (xs (5 * j + 2)) (zs_long (xs (5 * j + 3)) (xs (5 * j + 4)))).1)]) (congrArg (fun z => F0 m 254 ls (.int z :: [.ref b, .int (xs (5 * j + 2)), .int (xs (5 * j + 1)), .ref g0, .int ((zl_put S (xs (5 * j + 1)) (xs (5 * j + 2)) (zs_long (xs (5 * j + 3)) (xs (5 * j + 4)))).1)])) (nI_add _ 3)) ?_
              have hin_33 : vp_in (nI (5 * j + 3)) L := vp_in_nI (by omega) (by omega)
              refine va_sld hx hb hX hbl hbA hS hin_33 dz_W_law_254 ?_
              refine W.eq (g2 := F0 m 255 ls [.int (xs (5 * j + 3)), .int (xs (5 * j + 2)), .int (xs (5 * j + 1)), .ref g0, .int ((zl_put S (xs (5 * j + 1)) (xs (5 * j + 2)) (zs_long (xs (5 * j + 3)) (xs (5 * j + 4)))).1)]) (congrArg (fun z => F0 m 255 ls (.int (xs z) :: [.int (xs (5 * j + 2)), .int (xs (5 * j + 1)), .ref g0, .int ((zl_put S (xs (5 * j + 1)) (xs (5 * j + 2)) (zs_long (xs (5 * j + 3)) (xs (5 * j + 4)))).1)])) (nI_clamp (by omega))) ?_
              refine lv_i2l (v := (xs (5 * j + 3)).toInt64) hx hb dz_W_law_255 rfl ?_
              refine lv_bipush (v := 32) hx hb dz_W_law_256 (by decide) ?_
              refine lv_lshl (v := ((xs (5 * j + 3)).toInt64) <<< ((32 : Int32).toInt64 &&& 63)) hx hb dz_W_law_258 rfl ?_
              refine lv_aload_n hx hb dz_W_law_259 rfl (lv_at hl 0 rfl) ?_
              refine lv_iload_n hx hb dz_W_law_260 rfl (lv_at hl 3 rfl) ?_
              refine lv_iconst (v := 4) hx hb dz_W_law_261 (by decide) ?_
              refine lv_iadd hx hb dz_W_law_262 ?_
              refine W.eq (g2 := F0 m 263 ls [.int (nI (5 * j + 4)), .ref b, .long (((xs (5 * j + 3)).toInt64) <<< ((32 : Int32).toInt64 &&& 63)), .int (xs (5 * j + 2)), .int (xs (5 * j + 1)), .ref g0, .int ((zl_put S (xs (5 * j + 1)) (xs (5 * j + 2)) (zs_long (xs (5 * j + 3)) (xs (5 * j + 4)))).1)]) (congrArg (fun z => F0 m 263 ls (.int z :: [.ref b, .long (((xs (5 * j + 3)).toInt64) <<< ((32 : Int32).toInt64 &&& 63)), .int (xs (5 * j + 2)), .int (xs (5 * j + 1)), .ref g0, .int ((zl_put S (xs (5 * j + 1)) (xs (5 * j + 2)) (zs_long (xs (5 * j + 3)) (xs (5 * j + 4)))).1)])) (nI_add _ 4)) ?_
              have hin_34 : vp_in (nI (5 * j + 4)) L := vp_in_nI (by omega) (by omega)
              refine va_sld hx hb hX hbl hbA hS hin_34 dz_W_law_263 ?_
              refine W.eq (g2 := F0 m 264 ls [.int (xs (5 * j + 4)), .long (((xs (5 * j + 3)).toInt64) <<< ((32 : Int32).toInt64 &&& 63)), .int (xs (5 * j + 2)), .int (xs (5 * j + 1)), .ref g0, .int ((zl_put S (xs (5 * j + 1)) (xs (5 * j + 2)) (zs_long (xs (5 * j + 3)) (xs (5 * j + 4)))).1)]) (congrArg (fun z => F0 m 264 ls (.int (xs z) :: [.long (((xs (5 * j + 3)).toInt64) <<< ((32 : Int32).toInt64 &&& 63)), .int (xs (5 * j + 2)), .int (xs (5 * j + 1)), .ref g0, .int ((zl_put S (xs (5 * j + 1)) (xs (5 * j + 2)) (zs_long (xs (5 * j + 3)) (xs (5 * j + 4)))).1)])) (nI_clamp (by omega))) ?_
              refine lv_i2l (v := (xs (5 * j + 4)).toInt64) hx hb dz_W_law_264 rfl ?_
              refine lv_ldc2 (v := 4294967295) hx hb hown (hz _ zi_352) dz_W_law_265 ?_
              refine lv_land hx hb dz_W_law_268 ?_
              refine lv_lor hx hb dz_W_law_269 ?_
              refine W.eq (g2 := F0 m 270 ls [.long (zs_long (xs (5 * j + 3)) (xs (5 * j + 4))), .int (xs (5 * j + 2)), .int (xs (5 * j + 1)), .ref g0, .int ((zl_put S (xs (5 * j + 1)) (xs (5 * j + 2)) (zs_long (xs (5 * j + 3)) (xs (5 * j + 4)))).1)]) rfl ?_
              obtain ⟨hPs, hDs⟩ := zw_swap ⟨hP, hD⟩
              have hPc := zw_left hPs
              have hDc := zw_leftD hDs
              have hFc := zw_free hS hA hDc
              refine va_calli (va_runV (As := [.int (xs (5 * j + 1)), .int (xs (5 * j + 2)), .long (zs_long (xs (5 * j + 3)) (xs (5 * j + 4)))]) (rest := [.int ((zl_put S (xs (5 * j + 1)) (xs (5 * j + 2)) (zs_long (xs (5 * j + 3)) (xs (5 * j + 4)))).1)]) ⟨hx, hb, hml, hown, hz⟩ (ct_M_put l dC dI c1 cj cz g0 am M hokm H.size (xs (5 * j + 1)) (xs (5 * j + 2)) (zs_long (xs (5 * j + 3)) (xs (5 * j + 4)))) (cwV 3 hz (zw_gV zi_292 zi_293 zi_294 zi_35 zi_295) rfl rfl rfl (by decide +kernel) ⟨Nat.le_of_ble_eq_true rfl, Nat.le_of_ble_eq_true rfl⟩) (zw_preUV zw_ns_ok hPc hDc hKm hN (ci := 3) rfl (k := 0) rfl) rfl rfl hl.1 rfl (lv_room (Nat.le_of_ble_eq_true rfl)) dz_W_law_270 ⟨show 17 + j + 1 + 0 ≤ 600000 by omega, show 1238 + 9 * j + 9 + 0 ≤ 7302250 by omega⟩) hS (fun q _ h => hFc q h) hFc (fun r_35 u_35 t_35 H locs ht hvm hw hB hz1 hk1 hS => ?_)
              have hw : r_35 = (zm_put M (xs (5 * j + 1)) (xs (5 * j + 2)) (zs_long (xs (5 * j + 3)) (xs (5 * j + 4)))).1 := hw
              subst hw
              obtain ⟨hP1, hD1⟩ := hB
              rw [ht] at hP1
              obtain ⟨hP, hD⟩ := zw_joinL hPs hDs hk1 hFc hP1 hD1
              obtain ⟨hP, hD⟩ := zw_swap ⟨hP, hD⟩
              refine W.widen (k := 17 + j + 1) (n := 1238 + 9 * j + 9) (by omega) (by omega) ?_
              have hrel := zr_put hzr (xs (5 * j + 1)) (xs (5 * j + 2)) (zs_long (xs (5 * j + 3)) (xs (5 * j + 4)))
              refine lv_icmp_eq (tgt := 632) hx hb dz_W_law_273 (by decide) (fun c_36 => ?_) (fun c_36 => ?_)
              · refine lv_iinc (v := nI (5 * (j + 1))) (lv' := [(3, .int (nI (5 * (j + 1)))), (0, .ref b), (1, .ref h0), (2, .ref g0)]) hx hb dz_W_law_632 hl (k := 3) rfl (by rw [show 5 * (j + 1) = 5 * j + 5 by omega]; exact nI_add _ 5) (by decide) rfl (fun ls hl => ?_)
                refine lv_goto (tgt := 18) hx hb dz_W_law_635 (by decide) ?_
                exact ih (j + 1) ((zl_put S (xs (5 * j + 1)) (xs (5 * j + 2)) (zs_long (xs (5 * j + 3)) (xs (5 * j + 4)))).2) ((zm_put M (xs (5 * j + 1)) (xs (5 * j + 2)) (zs_long (xs (5 * j + 3)) (xs (5 * j + 4)))).2) a H locs ls (by omega) (by omega) hrel.2 hP hD hS (lv_sub hl [1, 2, 3, 0] rfl)
              · exact absurd hrel.1 c_36
            · by_cases c_37 : (xs (5 * j)) &&& 15 = 4
              · refine lv_tableIn (tgt := 278) hx hb dz_W_law_32 (by rw [c_37]; decide) (by rw [c_37]; decide) (by rw [c_37]; rfl) (by decide) ?_
                refine lv_aload_n hx hb dz_W_law_278 rfl (lv_at hl 1 rfl) ?_
                refine lv_aload_n hx hb dz_W_law_279 rfl (lv_at hl 0 rfl) ?_
                refine lv_iload_n hx hb dz_W_law_280 rfl (lv_at hl 3 rfl) ?_
                refine lv_iconst (v := 1) hx hb dz_W_law_281 (by decide) ?_
                refine lv_iadd hx hb dz_W_law_282 ?_
                refine W.eq (g2 := F0 m 283 ls [.int (nI (5 * j + 1)), .ref b, .ref h0]) (congrArg (fun z => F0 m 283 ls (.int z :: [.ref b, .ref h0])) (nI_add _ 1)) ?_
                have hin_38 : vp_in (nI (5 * j + 1)) L := vp_in_nI (by omega) (by omega)
                refine va_sld hx hb hX hbl hbA hS hin_38 dz_W_law_283 ?_
                refine W.eq (g2 := F0 m 284 ls [.int (xs (5 * j + 1)), .ref h0]) (congrArg (fun z => F0 m 284 ls (.int (xs z) :: [.ref h0])) (nI_clamp (by omega))) ?_
                refine lv_aload_n hx hb dz_W_law_284 rfl (lv_at hl 0 rfl) ?_
                refine lv_iload_n hx hb dz_W_law_285 rfl (lv_at hl 3 rfl) ?_
                refine lv_iconst (v := 2) hx hb dz_W_law_286 (by decide) ?_
                refine lv_iadd hx hb dz_W_law_287 ?_
                refine W.eq (g2 := F0 m 288 ls [.int (nI (5 * j + 2)), .ref b, .int (xs (5 * j + 1)), .ref h0]) (congrArg (fun z => F0 m 288 ls (.int z :: [.ref b, .int (xs (5 * j + 1)), .ref h0])) (nI_add _ 2)) ?_
                have hin_39 : vp_in (nI (5 * j + 2)) L := vp_in_nI (by omega) (by omega)
                refine va_sld hx hb hX hbl hbA hS hin_39 dz_W_law_288 ?_
                refine W.eq (g2 := F0 m 289 ls [.int (xs (5 * j + 2)), .int (xs (5 * j + 1)), .ref h0]) (congrArg (fun z => F0 m 289 ls (.int (xs z) :: [.int (xs (5 * j + 1)), .ref h0])) (nI_clamp (by omega))) ?_
                refine lv_i2l (v := (xs (5 * j + 2)).toInt64) hx hb dz_W_law_289 rfl ?_
                refine lv_bipush (v := 32) hx hb dz_W_law_290 (by decide) ?_
                refine lv_lshl (v := ((xs (5 * j + 2)).toInt64) <<< ((32 : Int32).toInt64 &&& 63)) hx hb dz_W_law_292 rfl ?_
                refine lv_aload_n hx hb dz_W_law_293 rfl (lv_at hl 0 rfl) ?_
                refine lv_iload_n hx hb dz_W_law_294 rfl (lv_at hl 3 rfl) ?_
                refine lv_iconst (v := 3) hx hb dz_W_law_295 (by decide) ?_
                refine lv_iadd hx hb dz_W_law_296 ?_
                refine W.eq (g2 := F0 m 297 ls [.int (nI (5 * j + 3)), .ref b, .long (((xs (5 * j + 2)).toInt64) <<< ((32 : Int32).toInt64 &&& 63)), .int (xs (5 * j + 1)), .ref h0]) (congrArg (fun z => F0 m 297 ls (.int z :: [.ref b, .long (((xs (5 * j + 2)).toInt64) <<< ((32 : Int32).toInt64 &&& 63)), .int (xs (5 * j + 1)), .ref h0])) (nI_add _ 3)) ?_
                have hin_40 : vp_in (nI (5 * j + 3)) L := vp_in_nI (by omega) (by omega)
                refine va_sld hx hb hX hbl hbA hS hin_40 dz_W_law_297 ?_
                refine W.eq (g2 := F0 m 298 ls [.int (xs (5 * j + 3)), .long (((xs (5 * j + 2)).toInt64) <<< ((32 : Int32).toInt64 &&& 63)), .int (xs (5 * j + 1)), .ref h0]) (congrArg (fun z => F0 m 298 ls (.int (xs z) :: [.long (((xs (5 * j + 2)).toInt64) <<< ((32 : Int32).toInt64 &&& 63)), .int (xs (5 * j + 1)), .ref h0])) (nI_clamp (by omega))) ?_
                refine lv_i2l (v := (xs (5 * j + 3)).toInt64) hx hb dz_W_law_298 rfl ?_
                refine lv_ldc2 (v := 4294967295) hx hb hown (hz _ zi_352) dz_W_law_299 ?_
                refine lv_land hx hb dz_W_law_302 ?_
                refine lv_lor hx hb dz_W_law_303 ?_
                refine W.eq (g2 := F0 m 304 ls [.long (zs_long (xs (5 * j + 2)) (xs (5 * j + 3))), .int (xs (5 * j + 1)), .ref h0]) rfl ?_
                have hPc := zw_left hP
                have hDc := zw_leftD hD
                have hFc := zw_free hS hA hDc
                refine va_calli (va_runV (As := [.int (xs (5 * j + 1)), .long (zs_long (xs (5 * j + 2)) (xs (5 * j + 3)))]) (rest := []) ⟨hx, hb, hml, hown, hz⟩ (ct_L_close l dC dI cq ci h0 a S hok H.size (xs (5 * j + 1)) (zs_long (xs (5 * j + 2)) (xs (5 * j + 3)))) (cwV 2 hz (zw_gV zi_165 zi_166 zi_167 zi_33 zi_168) rfl rfl rfl (by decide +kernel) ⟨Nat.le_of_ble_eq_true rfl, Nat.le_of_ble_eq_true rfl⟩) (zw_preUV zw_ns_ok hPc hDc hK hN (ci := 2) rfl (k := 0) rfl) rfl rfl hl.1 rfl (lv_room (Nat.le_of_ble_eq_true rfl)) dz_W_law_304 ⟨show 17 + j + 0 ≤ 600000 by omega, show 1238 + 9 * j + 0 ≤ 7302250 by omega⟩) hS (fun q _ h => hFc q h) hFc (fun r_41 u_41 t_41 H locs ht hvm hw hB hz1 hk1 hS => ?_)
                have hw : r_41 = (zl_close S (xs (5 * j + 1)) (zs_long (xs (5 * j + 2)) (xs (5 * j + 3)))).1 := hw
                subst hw
                obtain ⟨hP1, hD1⟩ := hB
                rw [ht] at hP1
                obtain ⟨hP, hD⟩ := zw_joinL hP hD hk1 hFc hP1 hD1
                refine W.widen (k := 17 + j + 1) (n := 1238 + 9 * j + 9) (by omega) (by omega) ?_
                refine lv_aload_n hx hb dz_W_law_307 rfl (lv_at hl 2 rfl) ?_
                refine lv_aload_n hx hb dz_W_law_308 rfl (lv_at hl 0 rfl) ?_
                refine lv_iload_n hx hb dz_W_law_309 rfl (lv_at hl 3 rfl) ?_
                refine lv_iconst (v := 1) hx hb dz_W_law_310 (by decide) ?_
                refine lv_iadd hx hb dz_W_law_311 ?_
                refine W.eq (g2 := F0 m 312 ls [.int (nI (5 * j + 1)), .ref b, .ref g0, .int ((zl_close S (xs (5 * j + 1)) (zs_long (xs (5 * j + 2)) (xs (5 * j + 3)))).1)]) (congrArg (fun z => F0 m 312 ls (.int z :: [.ref b, .ref g0, .int ((zl_close S (xs (5 * j + 1)) (zs_long (xs (5 * j + 2)) (xs (5 * j + 3)))).1)])) (nI_add _ 1)) ?_
                have hin_42 : vp_in (nI (5 * j + 1)) L := vp_in_nI (by omega) (by omega)
                refine va_sld hx hb hX hbl hbA hS hin_42 dz_W_law_312 ?_
                refine W.eq (g2 := F0 m 313 ls [.int (xs (5 * j + 1)), .ref g0, .int ((zl_close S (xs (5 * j + 1)) (zs_long (xs (5 * j + 2)) (xs (5 * j + 3)))).1)]) (congrArg (fun z => F0 m 313 ls (.int (xs z) :: [.ref g0, .int ((zl_close S (xs (5 * j + 1)) (zs_long (xs (5 * j + 2)) (xs (5 * j + 3)))).1)])) (nI_clamp (by omega))) ?_
                refine lv_aload_n hx hb dz_W_law_313 rfl (lv_at hl 0 rfl) ?_
                refine lv_iload_n hx hb dz_W_law_314 rfl (lv_at hl 3 rfl) ?_
                refine lv_iconst (v := 2) hx hb dz_W_law_315 (by decide) ?_
                refine lv_iadd hx hb dz_W_law_316 ?_
                refine W.eq (g2 := F0 m 317 ls [.int (nI (5 * j + 2)), .ref b, .int (xs (5 * j + 1)), .ref g0, .int ((zl_close S (xs (5 * j + 1)) (zs_long (xs (5 * j + 2)) (xs (5 * j + 3)))).1)]) (congrArg (fun z => F0 m 317 ls (.int z :: [.ref b, .int (xs (5 * j + 1)), .ref g0, .int ((zl_close S (xs (5 * j + 1)) (zs_long (xs (5 * j + 2)) (xs (5 * j + 3)))).1)])) (nI_add _ 2)) ?_
                have hin_43 : vp_in (nI (5 * j + 2)) L := vp_in_nI (by omega) (by omega)
                refine va_sld hx hb hX hbl hbA hS hin_43 dz_W_law_317 ?_
                refine W.eq (g2 := F0 m 318 ls [.int (xs (5 * j + 2)), .int (xs (5 * j + 1)), .ref g0, .int ((zl_close S (xs (5 * j + 1)) (zs_long (xs (5 * j + 2)) (xs (5 * j + 3)))).1)]) (congrArg (fun z => F0 m 318 ls (.int (xs z) :: [.int (xs (5 * j + 1)), .ref g0, .int ((zl_close S (xs (5 * j + 1)) (zs_long (xs (5 * j + 2)) (xs (5 * j + 3)))).1)])) (nI_clamp (by omega))) ?_
                refine lv_i2l (v := (xs (5 * j + 2)).toInt64) hx hb dz_W_law_318 rfl ?_
                refine lv_bipush (v := 32) hx hb dz_W_law_319 (by decide) ?_
                refine lv_lshl (v := ((xs (5 * j + 2)).toInt64) <<< ((32 : Int32).toInt64 &&& 63)) hx hb dz_W_law_321 rfl ?_
                refine lv_aload_n hx hb dz_W_law_322 rfl (lv_at hl 0 rfl) ?_
                refine lv_iload_n hx hb dz_W_law_323 rfl (lv_at hl 3 rfl) ?_
                refine lv_iconst (v := 3) hx hb dz_W_law_324 (by decide) ?_
                refine lv_iadd hx hb dz_W_law_325 ?_
                refine W.eq (g2 := F0 m 326 ls [.int (nI (5 * j + 3)), .ref b, .long (((xs (5 * j + 2)).toInt64) <<< ((32 : Int32).toInt64 &&& 63)), .int (xs (5 * j + 1)), .ref g0, .int ((zl_close S (xs (5 * j + 1)) (zs_long (xs (5 * j + 2)) (xs (5 * j + 3)))).1)]) (congrArg (fun z => F0 m 326 ls (.int z :: [.ref b, .long (((xs (5 * j + 2)).toInt64) <<< ((32 : Int32).toInt64 &&& 63)), .int (xs (5 * j + 1)), .ref g0, .int ((zl_close S (xs (5 * j + 1)) (zs_long (xs (5 * j + 2)) (xs (5 * j + 3)))).1)])) (nI_add _ 3)) ?_
                have hin_44 : vp_in (nI (5 * j + 3)) L := vp_in_nI (by omega) (by omega)
                refine va_sld hx hb hX hbl hbA hS hin_44 dz_W_law_326 ?_
                refine W.eq (g2 := F0 m 327 ls [.int (xs (5 * j + 3)), .long (((xs (5 * j + 2)).toInt64) <<< ((32 : Int32).toInt64 &&& 63)), .int (xs (5 * j + 1)), .ref g0, .int ((zl_close S (xs (5 * j + 1)) (zs_long (xs (5 * j + 2)) (xs (5 * j + 3)))).1)]) (congrArg (fun z => F0 m 327 ls (.int (xs z) :: [.long (((xs (5 * j + 2)).toInt64) <<< ((32 : Int32).toInt64 &&& 63)), .int (xs (5 * j + 1)), .ref g0, .int ((zl_close S (xs (5 * j + 1)) (zs_long (xs (5 * j + 2)) (xs (5 * j + 3)))).1)])) (nI_clamp (by omega))) ?_
                refine lv_i2l (v := (xs (5 * j + 3)).toInt64) hx hb dz_W_law_327 rfl ?_
                refine lv_ldc2 (v := 4294967295) hx hb hown (hz _ zi_352) dz_W_law_328 ?_
                refine lv_land hx hb dz_W_law_331 ?_
                refine lv_lor hx hb dz_W_law_332 ?_
                refine W.eq (g2 := F0 m 333 ls [.long (zs_long (xs (5 * j + 2)) (xs (5 * j + 3))), .int (xs (5 * j + 1)), .ref g0, .int ((zl_close S (xs (5 * j + 1)) (zs_long (xs (5 * j + 2)) (xs (5 * j + 3)))).1)]) rfl ?_
                obtain ⟨hPs, hDs⟩ := zw_swap ⟨hP, hD⟩
                have hPc := zw_left hPs
                have hDc := zw_leftD hDs
                have hFc := zw_free hS hA hDc
                refine va_calli (va_runV (As := [.int (xs (5 * j + 1)), .long (zs_long (xs (5 * j + 2)) (xs (5 * j + 3)))]) (rest := [.int ((zl_close S (xs (5 * j + 1)) (zs_long (xs (5 * j + 2)) (xs (5 * j + 3)))).1)]) ⟨hx, hb, hml, hown, hz⟩ (ct_M_close l dC dI c1 cj cz g0 am M hokm H.size (xs (5 * j + 1)) (zs_long (xs (5 * j + 2)) (xs (5 * j + 3)))) (cwV 2 hz (zw_gV zi_308 zi_309 zi_310 zi_35 zi_311) rfl rfl rfl (by decide +kernel) ⟨Nat.le_of_ble_eq_true rfl, Nat.le_of_ble_eq_true rfl⟩) (zw_preUV zw_ns_ok hPc hDc hKm hN (ci := 3) rfl (k := 0) rfl) rfl rfl hl.1 rfl (lv_room (Nat.le_of_ble_eq_true rfl)) dz_W_law_333 ⟨show 17 + j + 1 + 0 ≤ 600000 by omega, show 1238 + 9 * j + 9 + 0 ≤ 7302250 by omega⟩) hS (fun q _ h => hFc q h) hFc (fun r_45 u_45 t_45 H locs ht hvm hw hB hz1 hk1 hS => ?_)
                have hw : r_45 = (zm_close M (xs (5 * j + 1)) (zs_long (xs (5 * j + 2)) (xs (5 * j + 3)))).1 := hw
                subst hw
                obtain ⟨hP1, hD1⟩ := hB
                rw [ht] at hP1
                obtain ⟨hP, hD⟩ := zw_joinL hPs hDs hk1 hFc hP1 hD1
                obtain ⟨hP, hD⟩ := zw_swap ⟨hP, hD⟩
                refine W.widen (k := 17 + j + 1) (n := 1238 + 9 * j + 9) (by omega) (by omega) ?_
                have hrel := zr_close hzr (xs (5 * j + 1)) (zs_long (xs (5 * j + 2)) (xs (5 * j + 3)))
                refine lv_icmp_eq (tgt := 632) hx hb dz_W_law_336 (by decide) (fun c_46 => ?_) (fun c_46 => ?_)
                · refine lv_iinc (v := nI (5 * (j + 1))) (lv' := [(3, .int (nI (5 * (j + 1)))), (0, .ref b), (1, .ref h0), (2, .ref g0)]) hx hb dz_W_law_632 hl (k := 3) rfl (by rw [show 5 * (j + 1) = 5 * j + 5 by omega]; exact nI_add _ 5) (by decide) rfl (fun ls hl => ?_)
                  refine lv_goto (tgt := 18) hx hb dz_W_law_635 (by decide) ?_
                  exact ih (j + 1) ((zl_close S (xs (5 * j + 1)) (zs_long (xs (5 * j + 2)) (xs (5 * j + 3)))).2) ((zm_close M (xs (5 * j + 1)) (zs_long (xs (5 * j + 2)) (xs (5 * j + 3)))).2) a H locs ls (by omega) (by omega) hrel.2 hP hD hS (lv_sub hl [1, 2, 3, 0] rfl)
                · exact absurd hrel.1 c_46
              · by_cases c_47 : (xs (5 * j)) &&& 15 = 5
                · refine lv_tableIn (tgt := 341) hx hb dz_W_law_32 (by rw [c_47]; decide) (by rw [c_47]; decide) (by rw [c_47]; rfl) (by decide) ?_
                  refine lv_aload_n hx hb dz_W_law_341 rfl (lv_at hl 1 rfl) ?_
                  refine lv_aload_n hx hb dz_W_law_342 rfl (lv_at hl 0 rfl) ?_
                  refine lv_iload_n hx hb dz_W_law_343 rfl (lv_at hl 3 rfl) ?_
                  refine lv_iconst (v := 1) hx hb dz_W_law_344 (by decide) ?_
                  refine lv_iadd hx hb dz_W_law_345 ?_
                  refine W.eq (g2 := F0 m 346 ls [.int (nI (5 * j + 1)), .ref b, .ref h0]) (congrArg (fun z => F0 m 346 ls (.int z :: [.ref b, .ref h0])) (nI_add _ 1)) ?_
                  have hin_48 : vp_in (nI (5 * j + 1)) L := vp_in_nI (by omega) (by omega)
                  refine va_sld hx hb hX hbl hbA hS hin_48 dz_W_law_346 ?_
                  refine W.eq (g2 := F0 m 347 ls [.int (xs (5 * j + 1)), .ref h0]) (congrArg (fun z => F0 m 347 ls (.int (xs z) :: [.ref h0])) (nI_clamp (by omega))) ?_
                  refine lv_aload_n hx hb dz_W_law_347 rfl (lv_at hl 0 rfl) ?_
                  refine lv_iload_n hx hb dz_W_law_348 rfl (lv_at hl 3 rfl) ?_
                  refine lv_iconst (v := 2) hx hb dz_W_law_349 (by decide) ?_
                  refine lv_iadd hx hb dz_W_law_350 ?_
                  refine W.eq (g2 := F0 m 351 ls [.int (nI (5 * j + 2)), .ref b, .int (xs (5 * j + 1)), .ref h0]) (congrArg (fun z => F0 m 351 ls (.int z :: [.ref b, .int (xs (5 * j + 1)), .ref h0])) (nI_add _ 2)) ?_
                  have hin_49 : vp_in (nI (5 * j + 2)) L := vp_in_nI (by omega) (by omega)
                  refine va_sld hx hb hX hbl hbA hS hin_49 dz_W_law_351 ?_
                  refine W.eq (g2 := F0 m 352 ls [.int (xs (5 * j + 2)), .int (xs (5 * j + 1)), .ref h0]) (congrArg (fun z => F0 m 352 ls (.int (xs z) :: [.int (xs (5 * j + 1)), .ref h0])) (nI_clamp (by omega))) ?_
                  refine lv_i2l (v := (xs (5 * j + 2)).toInt64) hx hb dz_W_law_352 rfl ?_
                  refine lv_bipush (v := 32) hx hb dz_W_law_353 (by decide) ?_
                  refine lv_lshl (v := ((xs (5 * j + 2)).toInt64) <<< ((32 : Int32).toInt64 &&& 63)) hx hb dz_W_law_355 rfl ?_
                  refine lv_aload_n hx hb dz_W_law_356 rfl (lv_at hl 0 rfl) ?_
                  refine lv_iload_n hx hb dz_W_law_357 rfl (lv_at hl 3 rfl) ?_
                  refine lv_iconst (v := 3) hx hb dz_W_law_358 (by decide) ?_
                  refine lv_iadd hx hb dz_W_law_359 ?_
                  refine W.eq (g2 := F0 m 360 ls [.int (nI (5 * j + 3)), .ref b, .long (((xs (5 * j + 2)).toInt64) <<< ((32 : Int32).toInt64 &&& 63)), .int (xs (5 * j + 1)), .ref h0]) (congrArg (fun z => F0 m 360 ls (.int z :: [.ref b, .long (((xs (5 * j + 2)).toInt64) <<< ((32 : Int32).toInt64 &&& 63)), .int (xs (5 * j + 1)), .ref h0])) (nI_add _ 3)) ?_
                  have hin_50 : vp_in (nI (5 * j + 3)) L := vp_in_nI (by omega) (by omega)
                  refine va_sld hx hb hX hbl hbA hS hin_50 dz_W_law_360 ?_
                  refine W.eq (g2 := F0 m 361 ls [.int (xs (5 * j + 3)), .long (((xs (5 * j + 2)).toInt64) <<< ((32 : Int32).toInt64 &&& 63)), .int (xs (5 * j + 1)), .ref h0]) (congrArg (fun z => F0 m 361 ls (.int (xs z) :: [.long (((xs (5 * j + 2)).toInt64) <<< ((32 : Int32).toInt64 &&& 63)), .int (xs (5 * j + 1)), .ref h0])) (nI_clamp (by omega))) ?_
                  refine lv_i2l (v := (xs (5 * j + 3)).toInt64) hx hb dz_W_law_361 rfl ?_
                  refine lv_ldc2 (v := 4294967295) hx hb hown (hz _ zi_352) dz_W_law_362 ?_
                  refine lv_land hx hb dz_W_law_365 ?_
                  refine lv_lor hx hb dz_W_law_366 ?_
                  refine W.eq (g2 := F0 m 367 ls [.long (zs_long (xs (5 * j + 2)) (xs (5 * j + 3))), .int (xs (5 * j + 1)), .ref h0]) rfl ?_
                  have hPc := zw_left hP
                  have hDc := zw_leftD hD
                  have hFc := zw_free hS hA hDc
                  refine va_calli (va_runV (As := [.int (xs (5 * j + 1)), .long (zs_long (xs (5 * j + 2)) (xs (5 * j + 3)))]) (rest := []) ⟨hx, hb, hml, hown, hz⟩ (ct_L_type l dC dI cq ci h0 a S hok H.size (xs (5 * j + 1)) (zs_long (xs (5 * j + 2)) (xs (5 * j + 3)))) (cwV 2 hz (zw_gV zi_186 zi_187 zi_188 zi_33 zi_189) rfl rfl rfl (by decide +kernel) ⟨Nat.le_of_ble_eq_true rfl, Nat.le_of_ble_eq_true rfl⟩) (zw_preUV zw_ns_ok hPc hDc hK hN (ci := 2) rfl (k := 0) rfl) rfl rfl hl.1 rfl (lv_room (Nat.le_of_ble_eq_true rfl)) dz_W_law_367 ⟨show 17 + j + 0 ≤ 600000 by omega, show 1238 + 9 * j + 0 ≤ 7302250 by omega⟩) hS (fun q _ h => hFc q h) hFc (fun r_51 u_51 t_51 H locs ht hvm hw hB hz1 hk1 hS => ?_)
                  have hw : r_51 = (zl_type S (xs (5 * j + 1)) (zs_long (xs (5 * j + 2)) (xs (5 * j + 3)))).1 := hw
                  subst hw
                  obtain ⟨hP1, hD1⟩ := hB
                  rw [ht] at hP1
                  obtain ⟨hP, hD⟩ := zw_joinL hP hD hk1 hFc hP1 hD1
                  refine W.widen (k := 17 + j + 1) (n := 1238 + 9 * j + 9) (by omega) (by omega) ?_
                  refine lv_aload_n hx hb dz_W_law_370 rfl (lv_at hl 2 rfl) ?_
                  refine lv_aload_n hx hb dz_W_law_371 rfl (lv_at hl 0 rfl) ?_
                  refine lv_iload_n hx hb dz_W_law_372 rfl (lv_at hl 3 rfl) ?_
                  refine lv_iconst (v := 1) hx hb dz_W_law_373 (by decide) ?_
                  refine lv_iadd hx hb dz_W_law_374 ?_
                  refine W.eq (g2 := F0 m 375 ls [.int (nI (5 * j + 1)), .ref b, .ref g0, .int ((zl_type S (xs (5 * j + 1)) (zs_long (xs (5 * j + 2)) (xs (5 * j + 3)))).1)]) (congrArg (fun z => F0 m 375 ls (.int z :: [.ref b, .ref g0, .int ((zl_type S (xs (5 * j + 1)) (zs_long (xs (5 * j + 2)) (xs (5 * j + 3)))).1)])) (nI_add _ 1)) ?_
                  have hin_52 : vp_in (nI (5 * j + 1)) L := vp_in_nI (by omega) (by omega)
                  refine va_sld hx hb hX hbl hbA hS hin_52 dz_W_law_375 ?_
                  refine W.eq (g2 := F0 m 376 ls [.int (xs (5 * j + 1)), .ref g0, .int ((zl_type S (xs (5 * j + 1)) (zs_long (xs (5 * j + 2)) (xs (5 * j + 3)))).1)]) (congrArg (fun z => F0 m 376 ls (.int (xs z) :: [.ref g0, .int ((zl_type S (xs (5 * j + 1)) (zs_long (xs (5 * j + 2)) (xs (5 * j + 3)))).1)])) (nI_clamp (by omega))) ?_
                  refine lv_aload_n hx hb dz_W_law_376 rfl (lv_at hl 0 rfl) ?_
                  refine lv_iload_n hx hb dz_W_law_377 rfl (lv_at hl 3 rfl) ?_
                  refine lv_iconst (v := 2) hx hb dz_W_law_378 (by decide) ?_
                  refine lv_iadd hx hb dz_W_law_379 ?_
                  refine W.eq (g2 := F0 m 380 ls [.int (nI (5 * j + 2)), .ref b, .int (xs (5 * j + 1)), .ref g0, .int ((zl_type S (xs (5 * j + 1)) (zs_long (xs (5 * j + 2)) (xs (5 * j + 3)))).1)]) (congrArg (fun z => F0 m 380 ls (.int z :: [.ref b, .int (xs (5 * j + 1)), .ref g0, .int ((zl_type S (xs (5 * j + 1)) (zs_long (xs (5 * j + 2)) (xs (5 * j + 3)))).1)])) (nI_add _ 2)) ?_
                  have hin_53 : vp_in (nI (5 * j + 2)) L := vp_in_nI (by omega) (by omega)
                  refine va_sld hx hb hX hbl hbA hS hin_53 dz_W_law_380 ?_
                  refine W.eq (g2 := F0 m 381 ls [.int (xs (5 * j + 2)), .int (xs (5 * j + 1)), .ref g0, .int ((zl_type S (xs (5 * j + 1)) (zs_long (xs (5 * j + 2)) (xs (5 * j + 3)))).1)]) (congrArg (fun z => F0 m 381 ls (.int (xs z) :: [.int (xs (5 * j + 1)), .ref g0, .int ((zl_type S (xs (5 * j + 1)) (zs_long (xs (5 * j + 2)) (xs (5 * j + 3)))).1)])) (nI_clamp (by omega))) ?_
                  refine lv_i2l (v := (xs (5 * j + 2)).toInt64) hx hb dz_W_law_381 rfl ?_
                  refine lv_bipush (v := 32) hx hb dz_W_law_382 (by decide) ?_
                  refine lv_lshl (v := ((xs (5 * j + 2)).toInt64) <<< ((32 : Int32).toInt64 &&& 63)) hx hb dz_W_law_384 rfl ?_
                  refine lv_aload_n hx hb dz_W_law_385 rfl (lv_at hl 0 rfl) ?_
                  refine lv_iload_n hx hb dz_W_law_386 rfl (lv_at hl 3 rfl) ?_
                  refine lv_iconst (v := 3) hx hb dz_W_law_387 (by decide) ?_
                  refine lv_iadd hx hb dz_W_law_388 ?_
                  refine W.eq (g2 := F0 m 389 ls [.int (nI (5 * j + 3)), .ref b, .long (((xs (5 * j + 2)).toInt64) <<< ((32 : Int32).toInt64 &&& 63)), .int (xs (5 * j + 1)), .ref g0, .int ((zl_type S (xs (5 * j + 1)) (zs_long (xs (5 * j + 2)) (xs (5 * j + 3)))).1)]) (congrArg (fun z => F0 m 389 ls (.int z :: [.ref b, .long (((xs (5 * j + 2)).toInt64) <<< ((32 : Int32).toInt64 &&& 63)), .int (xs (5 * j + 1)), .ref g0, .int ((zl_type S (xs (5 * j + 1)) (zs_long (xs (5 * j + 2)) (xs (5 * j + 3)))).1)])) (nI_add _ 3)) ?_
                  have hin_54 : vp_in (nI (5 * j + 3)) L := vp_in_nI (by omega) (by omega)
                  refine va_sld hx hb hX hbl hbA hS hin_54 dz_W_law_389 ?_
                  refine W.eq (g2 := F0 m 390 ls [.int (xs (5 * j + 3)), .long (((xs (5 * j + 2)).toInt64) <<< ((32 : Int32).toInt64 &&& 63)), .int (xs (5 * j + 1)), .ref g0, .int ((zl_type S (xs (5 * j + 1)) (zs_long (xs (5 * j + 2)) (xs (5 * j + 3)))).1)]) (congrArg (fun z => F0 m 390 ls (.int (xs z) :: [.long (((xs (5 * j + 2)).toInt64) <<< ((32 : Int32).toInt64 &&& 63)), .int (xs (5 * j + 1)), .ref g0, .int ((zl_type S (xs (5 * j + 1)) (zs_long (xs (5 * j + 2)) (xs (5 * j + 3)))).1)])) (nI_clamp (by omega))) ?_
                  refine lv_i2l (v := (xs (5 * j + 3)).toInt64) hx hb dz_W_law_390 rfl ?_
                  refine lv_ldc2 (v := 4294967295) hx hb hown (hz _ zi_352) dz_W_law_391 ?_
                  refine lv_land hx hb dz_W_law_394 ?_
                  refine lv_lor hx hb dz_W_law_395 ?_
                  refine W.eq (g2 := F0 m 396 ls [.long (zs_long (xs (5 * j + 2)) (xs (5 * j + 3))), .int (xs (5 * j + 1)), .ref g0, .int ((zl_type S (xs (5 * j + 1)) (zs_long (xs (5 * j + 2)) (xs (5 * j + 3)))).1)]) rfl ?_
                  obtain ⟨hPs, hDs⟩ := zw_swap ⟨hP, hD⟩
                  have hPc := zw_left hPs
                  have hDc := zw_leftD hDs
                  have hFc := zw_free hS hA hDc
                  refine va_calli (va_runV (As := [.int (xs (5 * j + 1)), .long (zs_long (xs (5 * j + 2)) (xs (5 * j + 3)))]) (rest := [.int ((zl_type S (xs (5 * j + 1)) (zs_long (xs (5 * j + 2)) (xs (5 * j + 3)))).1)]) ⟨hx, hb, hml, hown, hz⟩ (ct_M_type l dC dI c1 cj cz g0 am M hokm H.size (xs (5 * j + 1)) (zs_long (xs (5 * j + 2)) (xs (5 * j + 3)))) (cwV 2 hz (zw_gV zi_315 zi_316 zi_317 zi_35 zi_318) rfl rfl rfl (by decide +kernel) ⟨Nat.le_of_ble_eq_true rfl, Nat.le_of_ble_eq_true rfl⟩) (zw_preUV zw_ns_ok hPc hDc hKm hN (ci := 3) rfl (k := 0) rfl) rfl rfl hl.1 rfl (lv_room (Nat.le_of_ble_eq_true rfl)) dz_W_law_396 ⟨show 17 + j + 1 + 0 ≤ 600000 by omega, show 1238 + 9 * j + 9 + 0 ≤ 7302250 by omega⟩) hS (fun q _ h => hFc q h) hFc (fun r_55 u_55 t_55 H locs ht hvm hw hB hz1 hk1 hS => ?_)
                  have hw : r_55 = (zm_type M (xs (5 * j + 1)) (zs_long (xs (5 * j + 2)) (xs (5 * j + 3)))).1 := hw
                  subst hw
                  obtain ⟨hP1, hD1⟩ := hB
                  rw [ht] at hP1
                  obtain ⟨hP, hD⟩ := zw_joinL hPs hDs hk1 hFc hP1 hD1
                  obtain ⟨hP, hD⟩ := zw_swap ⟨hP, hD⟩
                  refine W.widen (k := 17 + j + 1) (n := 1238 + 9 * j + 9) (by omega) (by omega) ?_
                  have hrel := zr_type hzr (xs (5 * j + 1)) (zs_long (xs (5 * j + 2)) (xs (5 * j + 3)))
                  refine lv_icmp_eq (tgt := 632) hx hb dz_W_law_399 (by decide) (fun c_56 => ?_) (fun c_56 => ?_)
                  · refine lv_iinc (v := nI (5 * (j + 1))) (lv' := [(3, .int (nI (5 * (j + 1)))), (0, .ref b), (1, .ref h0), (2, .ref g0)]) hx hb dz_W_law_632 hl (k := 3) rfl (by rw [show 5 * (j + 1) = 5 * j + 5 by omega]; exact nI_add _ 5) (by decide) rfl (fun ls hl => ?_)
                    refine lv_goto (tgt := 18) hx hb dz_W_law_635 (by decide) ?_
                    exact ih (j + 1) ((zl_type S (xs (5 * j + 1)) (zs_long (xs (5 * j + 2)) (xs (5 * j + 3)))).2) ((zm_type M (xs (5 * j + 1)) (zs_long (xs (5 * j + 2)) (xs (5 * j + 3)))).2) a H locs ls (by omega) (by omega) hrel.2 hP hD hS (lv_sub hl [1, 2, 3, 0] rfl)
                  · exact absurd hrel.1 c_56
                · by_cases c_57 : (xs (5 * j)) &&& 15 = 6
                  · refine lv_tableIn (tgt := 404) hx hb dz_W_law_32 (by rw [c_57]; decide) (by rw [c_57]; decide) (by rw [c_57]; rfl) (by decide) ?_
                    refine lv_aload_n hx hb dz_W_law_404 rfl (lv_at hl 1 rfl) ?_
                    refine lv_aload_n hx hb dz_W_law_405 rfl (lv_at hl 0 rfl) ?_
                    refine lv_iload_n hx hb dz_W_law_406 rfl (lv_at hl 3 rfl) ?_
                    refine lv_iconst (v := 1) hx hb dz_W_law_407 (by decide) ?_
                    refine lv_iadd hx hb dz_W_law_408 ?_
                    refine W.eq (g2 := F0 m 409 ls [.int (nI (5 * j + 1)), .ref b, .ref h0]) (congrArg (fun z => F0 m 409 ls (.int z :: [.ref b, .ref h0])) (nI_add _ 1)) ?_
                    have hin_58 : vp_in (nI (5 * j + 1)) L := vp_in_nI (by omega) (by omega)
                    refine va_sld hx hb hX hbl hbA hS hin_58 dz_W_law_409 ?_
                    refine W.eq (g2 := F0 m 410 ls [.int (xs (5 * j + 1)), .ref h0]) (congrArg (fun z => F0 m 410 ls (.int (xs z) :: [.ref h0])) (nI_clamp (by omega))) ?_
                    have hPc := zw_left hP
                    refine vp_callSi (va_Run.run (va_runV (As := [.int (xs (5 * j + 1))]) (rest := []) ⟨hx, hb, hml, hown, hz⟩ (ct_L_code l dC dI cq ci h0 a S hok (xs (5 * j + 1))) (cwV 1 hz (zw_gV zi_198 zi_199 zi_200 zi_33 zi_201) rfl rfl rfl (by decide +kernel) ⟨Nat.le_of_ble_eq_true rfl, Nat.le_of_ble_eq_true rfl⟩) (zw_preRV zw_ns_ok hPc hK hN (ci := 2) rfl (k := 0) rfl) rfl rfl hl.1 rfl (lv_room (Nat.le_of_ble_eq_true rfl)) dz_W_law_410 ⟨show 17 + j + 0 ≤ 600000 by omega, show 1238 + 9 * j + 0 ≤ 7302250 by omega⟩)) (fun r_59 hr_59 => ?_)
                    have hr_59 : r_59 = zl_code S (xs (5 * j + 1)) := hr_59
                    subst hr_59
                    refine W.widen (k := 17 + j + 1) (n := 1238 + 9 * j + 9) (by omega) (by omega) ?_
                    refine lv_aload_n hx hb dz_W_law_413 rfl (lv_at hl 2 rfl) ?_
                    refine lv_aload_n hx hb dz_W_law_414 rfl (lv_at hl 0 rfl) ?_
                    refine lv_iload_n hx hb dz_W_law_415 rfl (lv_at hl 3 rfl) ?_
                    refine lv_iconst (v := 1) hx hb dz_W_law_416 (by decide) ?_
                    refine lv_iadd hx hb dz_W_law_417 ?_
                    refine W.eq (g2 := F0 m 418 ls [.int (nI (5 * j + 1)), .ref b, .ref g0, .int (zl_code S (xs (5 * j + 1)))]) (congrArg (fun z => F0 m 418 ls (.int z :: [.ref b, .ref g0, .int (zl_code S (xs (5 * j + 1)))])) (nI_add _ 1)) ?_
                    have hin_60 : vp_in (nI (5 * j + 1)) L := vp_in_nI (by omega) (by omega)
                    refine va_sld hx hb hX hbl hbA hS hin_60 dz_W_law_418 ?_
                    refine W.eq (g2 := F0 m 419 ls [.int (xs (5 * j + 1)), .ref g0, .int (zl_code S (xs (5 * j + 1)))]) (congrArg (fun z => F0 m 419 ls (.int (xs z) :: [.ref g0, .int (zl_code S (xs (5 * j + 1)))])) (nI_clamp (by omega))) ?_
                    obtain ⟨hPs, hDs⟩ := zw_swap ⟨hP, hD⟩
                    have hPc := zw_left hPs
                    refine vp_callSi (va_Run.run (va_runV (As := [.int (xs (5 * j + 1))]) (rest := [.int (zl_code S (xs (5 * j + 1)))]) ⟨hx, hb, hml, hown, hz⟩ (ct_M_code l dC dI c1 cj cz g0 am M hokm (xs (5 * j + 1))) (cwV 1 hz (zw_gV zi_326 zi_327 zi_328 zi_35 zi_329) rfl rfl rfl (by decide +kernel) ⟨Nat.le_of_ble_eq_true rfl, Nat.le_of_ble_eq_true rfl⟩) (zw_preRV zw_ns_ok hPc hKm hN (ci := 3) rfl (k := 0) rfl) rfl rfl hl.1 rfl (lv_room (Nat.le_of_ble_eq_true rfl)) dz_W_law_419 ⟨show 17 + j + 1 + 0 ≤ 600000 by omega, show 1238 + 9 * j + 9 + 0 ≤ 7302250 by omega⟩)) (fun r_61 hr_61 => ?_)
                    have hr_61 : r_61 = zm_code M (xs (5 * j + 1)) := hr_61
                    subst hr_61
                    refine W.widen (k := 17 + j + 1) (n := 1238 + 9 * j + 9) (by omega) (by omega) ?_
                    have hrel := zr_code hzr (xs (5 * j + 1))
                    refine lv_icmp_eq (tgt := 632) hx hb dz_W_law_422 (by decide) (fun c_62 => ?_) (fun c_62 => ?_)
                    · refine lv_iinc (v := nI (5 * (j + 1))) (lv' := [(3, .int (nI (5 * (j + 1)))), (0, .ref b), (1, .ref h0), (2, .ref g0)]) hx hb dz_W_law_632 hl (k := 3) rfl (by rw [show 5 * (j + 1) = 5 * j + 5 by omega]; exact nI_add _ 5) (by decide) rfl (fun ls hl => ?_)
                      refine lv_goto (tgt := 18) hx hb dz_W_law_635 (by decide) ?_
                      exact ih (j + 1) S M a H locs ls (by omega) (by omega) hzr hP hD hS (lv_sub hl [1, 2, 3, 0] rfl)
                    · exact absurd hrel.1 c_62
                  · by_cases c_63 : (xs (5 * j)) &&& 15 = 7
                    · refine lv_tableIn (tgt := 427) hx hb dz_W_law_32 (by rw [c_63]; decide) (by rw [c_63]; decide) (by rw [c_63]; rfl) (by decide) ?_
                      refine lv_aload_n hx hb dz_W_law_427 rfl (lv_at hl 1 rfl) ?_
                      refine lv_aload_n hx hb dz_W_law_428 rfl (lv_at hl 0 rfl) ?_
                      refine lv_iload_n hx hb dz_W_law_429 rfl (lv_at hl 3 rfl) ?_
                      refine lv_iconst (v := 1) hx hb dz_W_law_430 (by decide) ?_
                      refine lv_iadd hx hb dz_W_law_431 ?_
                      refine W.eq (g2 := F0 m 432 ls [.int (nI (5 * j + 1)), .ref b, .ref h0]) (congrArg (fun z => F0 m 432 ls (.int z :: [.ref b, .ref h0])) (nI_add _ 1)) ?_
                      have hin_64 : vp_in (nI (5 * j + 1)) L := vp_in_nI (by omega) (by omega)
                      refine va_sld hx hb hX hbl hbA hS hin_64 dz_W_law_432 ?_
                      refine W.eq (g2 := F0 m 433 ls [.int (xs (5 * j + 1)), .ref h0]) (congrArg (fun z => F0 m 433 ls (.int (xs z) :: [.ref h0])) (nI_clamp (by omega))) ?_
                      refine lv_aload_n hx hb dz_W_law_433 rfl (lv_at hl 0 rfl) ?_
                      refine lv_iload_n hx hb dz_W_law_434 rfl (lv_at hl 3 rfl) ?_
                      refine lv_iconst (v := 2) hx hb dz_W_law_435 (by decide) ?_
                      refine lv_iadd hx hb dz_W_law_436 ?_
                      refine W.eq (g2 := F0 m 437 ls [.int (nI (5 * j + 2)), .ref b, .int (xs (5 * j + 1)), .ref h0]) (congrArg (fun z => F0 m 437 ls (.int z :: [.ref b, .int (xs (5 * j + 1)), .ref h0])) (nI_add _ 2)) ?_
                      have hin_65 : vp_in (nI (5 * j + 2)) L := vp_in_nI (by omega) (by omega)
                      refine va_sld hx hb hX hbl hbA hS hin_65 dz_W_law_437 ?_
                      refine W.eq (g2 := F0 m 438 ls [.int (xs (5 * j + 2)), .int (xs (5 * j + 1)), .ref h0]) (congrArg (fun z => F0 m 438 ls (.int (xs z) :: [.int (xs (5 * j + 1)), .ref h0])) (nI_clamp (by omega))) ?_
                      refine lv_aload_n hx hb dz_W_law_438 rfl (lv_at hl 0 rfl) ?_
                      refine lv_iload_n hx hb dz_W_law_439 rfl (lv_at hl 3 rfl) ?_
                      refine lv_iconst (v := 3) hx hb dz_W_law_440 (by decide) ?_
                      refine lv_iadd hx hb dz_W_law_441 ?_
                      refine W.eq (g2 := F0 m 442 ls [.int (nI (5 * j + 3)), .ref b, .int (xs (5 * j + 2)), .int (xs (5 * j + 1)), .ref h0]) (congrArg (fun z => F0 m 442 ls (.int z :: [.ref b, .int (xs (5 * j + 2)), .int (xs (5 * j + 1)), .ref h0])) (nI_add _ 3)) ?_
                      have hin_66 : vp_in (nI (5 * j + 3)) L := vp_in_nI (by omega) (by omega)
                      refine va_sld hx hb hX hbl hbA hS hin_66 dz_W_law_442 ?_
                      refine W.eq (g2 := F0 m 443 ls [.int (xs (5 * j + 3)), .int (xs (5 * j + 2)), .int (xs (5 * j + 1)), .ref h0]) (congrArg (fun z => F0 m 443 ls (.int (xs z) :: [.int (xs (5 * j + 2)), .int (xs (5 * j + 1)), .ref h0])) (nI_clamp (by omega))) ?_
                      refine lv_i2l (v := (xs (5 * j + 3)).toInt64) hx hb dz_W_law_443 rfl ?_
                      refine lv_bipush (v := 32) hx hb dz_W_law_444 (by decide) ?_
                      refine lv_lshl (v := ((xs (5 * j + 3)).toInt64) <<< ((32 : Int32).toInt64 &&& 63)) hx hb dz_W_law_446 rfl ?_
                      refine lv_aload_n hx hb dz_W_law_447 rfl (lv_at hl 0 rfl) ?_
                      refine lv_iload_n hx hb dz_W_law_448 rfl (lv_at hl 3 rfl) ?_
                      refine lv_iconst (v := 4) hx hb dz_W_law_449 (by decide) ?_
                      refine lv_iadd hx hb dz_W_law_450 ?_
                      refine W.eq (g2 := F0 m 451 ls [.int (nI (5 * j + 4)), .ref b, .long (((xs (5 * j + 3)).toInt64) <<< ((32 : Int32).toInt64 &&& 63)), .int (xs (5 * j + 2)), .int (xs (5 * j + 1)), .ref h0]) (congrArg (fun z => F0 m 451 ls (.int z :: [.ref b, .long (((xs (5 * j + 3)).toInt64) <<< ((32 : Int32).toInt64 &&& 63)), .int (xs (5 * j + 2)), .int (xs (5 * j + 1)), .ref h0])) (nI_add _ 4)) ?_
                      have hin_67 : vp_in (nI (5 * j + 4)) L := vp_in_nI (by omega) (by omega)
                      refine va_sld hx hb hX hbl hbA hS hin_67 dz_W_law_451 ?_
                      refine W.eq (g2 := F0 m 452 ls [.int (xs (5 * j + 4)), .long (((xs (5 * j + 3)).toInt64) <<< ((32 : Int32).toInt64 &&& 63)), .int (xs (5 * j + 2)), .int (xs (5 * j + 1)), .ref h0]) (congrArg (fun z => F0 m 452 ls (.int (xs z) :: [.long (((xs (5 * j + 3)).toInt64) <<< ((32 : Int32).toInt64 &&& 63)), .int (xs (5 * j + 2)), .int (xs (5 * j + 1)), .ref h0])) (nI_clamp (by omega))) ?_
                      refine lv_i2l (v := (xs (5 * j + 4)).toInt64) hx hb dz_W_law_452 rfl ?_
                      refine lv_ldc2 (v := 4294967295) hx hb hown (hz _ zi_352) dz_W_law_453 ?_
                      refine lv_land hx hb dz_W_law_456 ?_
                      refine lv_lor hx hb dz_W_law_457 ?_
                      refine W.eq (g2 := F0 m 458 ls [.long (zs_long (xs (5 * j + 3)) (xs (5 * j + 4))), .int (xs (5 * j + 2)), .int (xs (5 * j + 1)), .ref h0]) rfl ?_
                      have hPc := zw_left hP
                      have hDc := zw_leftD hD
                      have hFc := zw_free hS hA hDc
                      refine va_calli (va_runV (As := [.int (xs (5 * j + 1)), .int (xs (5 * j + 2)), .long (zs_long (xs (5 * j + 3)) (xs (5 * j + 4)))]) (rest := []) ⟨hx, hb, hml, hown, hz⟩ (ct_L_door l dC dI cq ci h0 a S hok H.size (xs (5 * j + 1)) (xs (5 * j + 2)) (zs_long (xs (5 * j + 3)) (xs (5 * j + 4)))) (cwV 3 hz (zw_gV zi_202 zi_203 zi_204 zi_33 zi_205) rfl rfl rfl (by decide +kernel) ⟨Nat.le_of_ble_eq_true rfl, Nat.le_of_ble_eq_true rfl⟩) (zw_preUV zw_ns_ok hPc hDc hK hN (ci := 2) rfl (k := 0) rfl) rfl rfl hl.1 rfl (lv_room (Nat.le_of_ble_eq_true rfl)) dz_W_law_458 ⟨show 17 + j + 0 ≤ 600000 by omega, show 1238 + 9 * j + 0 ≤ 7302250 by omega⟩) hS (fun q _ h => hFc q h) hFc (fun r_68 u_68 t_68 H locs ht hvm hw hB hz1 hk1 hS => ?_)
                      have hw : r_68 = (zl_door S (xs (5 * j + 1)) (xs (5 * j + 2)) (zs_long (xs (5 * j + 3)) (xs (5 * j + 4)))).1 := hw
                      subst hw
                      obtain ⟨hP1, hD1⟩ := hB
                      rw [ht] at hP1
                      obtain ⟨hP, hD⟩ := zw_joinL hP hD hk1 hFc hP1 hD1
                      refine W.widen (k := 17 + j + 1) (n := 1238 + 9 * j + 9) (by omega) (by omega) ?_
                      refine lv_aload_n hx hb dz_W_law_461 rfl (lv_at hl 2 rfl) ?_
                      refine lv_aload_n hx hb dz_W_law_462 rfl (lv_at hl 0 rfl) ?_
                      refine lv_iload_n hx hb dz_W_law_463 rfl (lv_at hl 3 rfl) ?_
                      refine lv_iconst (v := 1) hx hb dz_W_law_464 (by decide) ?_
                      refine lv_iadd hx hb dz_W_law_465 ?_
                      refine W.eq (g2 := F0 m 466 ls [.int (nI (5 * j + 1)), .ref b, .ref g0, .int ((zl_door S (xs (5 * j + 1)) (xs (5 * j + 2)) (zs_long (xs (5 * j + 3)) (xs (5 * j + 4)))).1)]) (congrArg (fun z => F0 m 466 ls (.int z :: [.ref b, .ref g0, .int ((zl_door S (xs (5 * j + 1)) (xs (5 * j + 2)) (zs_long (xs (5 * j + 3)) (xs (5 * j + 4)))).1)])) (nI_add _ 1)) ?_
                      have hin_69 : vp_in (nI (5 * j + 1)) L := vp_in_nI (by omega) (by omega)
                      refine va_sld hx hb hX hbl hbA hS hin_69 dz_W_law_466 ?_
                      refine W.eq (g2 := F0 m 467 ls [.int (xs (5 * j + 1)), .ref g0, .int ((zl_door S (xs (5 * j + 1)) (xs (5 * j + 2)) (zs_long (xs (5 * j + 3)) (xs (5 * j + 4)))).1)]) (congrArg (fun z => F0 m 467 ls (.int (xs z) :: [.ref g0, .int ((zl_door S (xs (5 * j + 1)) (xs (5 * j + 2)) (zs_long (xs (5 * j + 3)) (xs (5 * j + 4)))).1)])) (nI_clamp (by omega))) ?_
                      refine lv_aload_n hx hb dz_W_law_467 rfl (lv_at hl 0 rfl) ?_
                      refine lv_iload_n hx hb dz_W_law_468 rfl (lv_at hl 3 rfl) ?_
                      refine lv_iconst (v := 2) hx hb dz_W_law_469 (by decide) ?_
                      refine lv_iadd hx hb dz_W_law_470 ?_
                      refine W.eq (g2 := F0 m 471 ls [.int (nI (5 * j + 2)), .ref b, .int (xs (5 * j + 1)), .ref g0, .int ((zl_door S (xs (5 * j + 1)) (xs (5 * j + 2)) (zs_long (xs (5 * j + 3)) (xs (5 * j + 4)))).1)]) (congrArg (fun z => F0 m 471 ls (.int z :: [.ref b, .int (xs (5 * j + 1)), .ref g0, .int ((zl_door S (xs (5 * j + 1)) (xs (5 * j + 2)) (zs_long (xs (5 * j + 3)) (xs (5 * j + 4)))).1)])) (nI_add _ 2)) ?_
                      have hin_70 : vp_in (nI (5 * j + 2)) L := vp_in_nI (by omega) (by omega)
                      refine va_sld hx hb hX hbl hbA hS hin_70 dz_W_law_471 ?_
                      refine W.eq (g2 := F0 m 472 ls [.int (xs (5 * j + 2)), .int (xs (5 * j + 1)), .ref g0, .int ((zl_door S (xs (5 * j + 1)) (xs (5 * j + 2)) (zs_long (xs (5 * j + 3)) (xs (5 * j + 4)))).1)]) (congrArg (fun z => F0 m 472 ls (.int (xs z) :: [.int (xs (5 * j + 1)), .ref g0, .int ((zl_door S (xs (5 * j + 1)) (xs (5 * j + 2)) (zs_long (xs (5 * j + 3)) (xs (5 * j + 4)))).1)])) (nI_clamp (by omega))) ?_
                      refine lv_aload_n hx hb dz_W_law_472 rfl (lv_at hl 0 rfl) ?_
                      refine lv_iload_n hx hb dz_W_law_473 rfl (lv_at hl 3 rfl) ?_
                      refine lv_iconst (v := 3) hx hb dz_W_law_474 (by decide) ?_
                      refine lv_iadd hx hb dz_W_law_475 ?_
                      refine W.eq (g2 := F0 m 476 ls [.int (nI (5 * j + 3)), .ref b, .int (xs (5 * j + 2)), .int (xs (5 * j + 1)), .ref g0, .int ((zl_door S (xs (5 * j + 1)) (xs (5 * j + 2)) (zs_long (xs (5 * j + 3)) (xs (5 * j + 4)))).1)]) (congrArg (fun z => F0 m 476 ls (.int z :: [.ref b, .int (xs (5 * j + 2)), .int (xs (5 * j + 1)), .ref g0, .int ((zl_door S (xs (5 * j + 1)) (xs (5 * j + 2)) (zs_long (xs (5 * j + 3)) (xs (5 * j + 4)))).1)])) (nI_add _ 3)) ?_
                      have hin_71 : vp_in (nI (5 * j + 3)) L := vp_in_nI (by omega) (by omega)
                      refine va_sld hx hb hX hbl hbA hS hin_71 dz_W_law_476 ?_
                      refine W.eq (g2 := F0 m 477 ls [.int (xs (5 * j + 3)), .int (xs (5 * j + 2)), .int (xs (5 * j + 1)), .ref g0, .int ((zl_door S (xs (5 * j + 1)) (xs (5 * j + 2)) (zs_long (xs (5 * j + 3)) (xs (5 * j + 4)))).1)]) (congrArg (fun z => F0 m 477 ls (.int (xs z) :: [.int (xs (5 * j + 2)), .int (xs (5 * j + 1)), .ref g0, .int ((zl_door S (xs (5 * j + 1)) (xs (5 * j + 2)) (zs_long (xs (5 * j + 3)) (xs (5 * j + 4)))).1)])) (nI_clamp (by omega))) ?_
                      refine lv_i2l (v := (xs (5 * j + 3)).toInt64) hx hb dz_W_law_477 rfl ?_
                      refine lv_bipush (v := 32) hx hb dz_W_law_478 (by decide) ?_
                      refine lv_lshl (v := ((xs (5 * j + 3)).toInt64) <<< ((32 : Int32).toInt64 &&& 63)) hx hb dz_W_law_480 rfl ?_
                      refine lv_aload_n hx hb dz_W_law_481 rfl (lv_at hl 0 rfl) ?_
                      refine lv_iload_n hx hb dz_W_law_482 rfl (lv_at hl 3 rfl) ?_
                      refine lv_iconst (v := 4) hx hb dz_W_law_483 (by decide) ?_
                      refine lv_iadd hx hb dz_W_law_484 ?_
                      refine W.eq (g2 := F0 m 485 ls [.int (nI (5 * j + 4)), .ref b, .long (((xs (5 * j + 3)).toInt64) <<< ((32 : Int32).toInt64 &&& 63)), .int (xs (5 * j + 2)), .int (xs (5 * j + 1)), .ref g0, .int ((zl_door S (xs (5 * j + 1)) (xs (5 * j + 2)) (zs_long (xs (5 * j + 3)) (xs (5 * j + 4)))).1)]) (congrArg (fun z => F0 m 485 ls (.int z :: [.ref b, .long (((xs (5 * j + 3)).toInt64) <<< ((32 : Int32).toInt64 &&& 63)), .int (xs (5 * j + 2)), .int (xs (5 * j + 1)), .ref g0, .int ((zl_door S (xs (5 * j + 1)) (xs (5 * j + 2)) (zs_long (xs (5 * j + 3)) (xs (5 * j + 4)))).1)])) (nI_add _ 4)) ?_
                      have hin_72 : vp_in (nI (5 * j + 4)) L := vp_in_nI (by omega) (by omega)
                      refine va_sld hx hb hX hbl hbA hS hin_72 dz_W_law_485 ?_
                      refine W.eq (g2 := F0 m 486 ls [.int (xs (5 * j + 4)), .long (((xs (5 * j + 3)).toInt64) <<< ((32 : Int32).toInt64 &&& 63)), .int (xs (5 * j + 2)), .int (xs (5 * j + 1)), .ref g0, .int ((zl_door S (xs (5 * j + 1)) (xs (5 * j + 2)) (zs_long (xs (5 * j + 3)) (xs (5 * j + 4)))).1)]) (congrArg (fun z => F0 m 486 ls (.int (xs z) :: [.long (((xs (5 * j + 3)).toInt64) <<< ((32 : Int32).toInt64 &&& 63)), .int (xs (5 * j + 2)), .int (xs (5 * j + 1)), .ref g0, .int ((zl_door S (xs (5 * j + 1)) (xs (5 * j + 2)) (zs_long (xs (5 * j + 3)) (xs (5 * j + 4)))).1)])) (nI_clamp (by omega))) ?_
                      refine lv_i2l (v := (xs (5 * j + 4)).toInt64) hx hb dz_W_law_486 rfl ?_
                      refine lv_ldc2 (v := 4294967295) hx hb hown (hz _ zi_352) dz_W_law_487 ?_
                      refine lv_land hx hb dz_W_law_490 ?_
                      refine lv_lor hx hb dz_W_law_491 ?_
                      refine W.eq (g2 := F0 m 492 ls [.long (zs_long (xs (5 * j + 3)) (xs (5 * j + 4))), .int (xs (5 * j + 2)), .int (xs (5 * j + 1)), .ref g0, .int ((zl_door S (xs (5 * j + 1)) (xs (5 * j + 2)) (zs_long (xs (5 * j + 3)) (xs (5 * j + 4)))).1)]) rfl ?_
                      obtain ⟨hPs, hDs⟩ := zw_swap ⟨hP, hD⟩
                      have hPc := zw_left hPs
                      have hDc := zw_leftD hDs
                      have hFc := zw_free hS hA hDc
                      refine va_calli (va_runV (As := [.int (xs (5 * j + 1)), .int (xs (5 * j + 2)), .long (zs_long (xs (5 * j + 3)) (xs (5 * j + 4)))]) (rest := [.int ((zl_door S (xs (5 * j + 1)) (xs (5 * j + 2)) (zs_long (xs (5 * j + 3)) (xs (5 * j + 4)))).1)]) ⟨hx, hb, hml, hown, hz⟩ (ct_M_door l dC dI c1 cj cz g0 am M hokm H.size (xs (5 * j + 1)) (xs (5 * j + 2)) (zs_long (xs (5 * j + 3)) (xs (5 * j + 4)))) (cwV 3 hz (zw_gV zi_330 zi_331 zi_332 zi_35 zi_333) rfl rfl rfl (by decide +kernel) ⟨Nat.le_of_ble_eq_true rfl, Nat.le_of_ble_eq_true rfl⟩) (zw_preUV zw_ns_ok hPc hDc hKm hN (ci := 3) rfl (k := 0) rfl) rfl rfl hl.1 rfl (lv_room (Nat.le_of_ble_eq_true rfl)) dz_W_law_492 ⟨show 17 + j + 1 + 0 ≤ 600000 by omega, show 1238 + 9 * j + 9 + 0 ≤ 7302250 by omega⟩) hS (fun q _ h => hFc q h) hFc (fun r_73 u_73 t_73 H locs ht hvm hw hB hz1 hk1 hS => ?_)
                      have hw : r_73 = (zm_door M (xs (5 * j + 1)) (xs (5 * j + 2)) (zs_long (xs (5 * j + 3)) (xs (5 * j + 4)))).1 := hw
                      subst hw
                      obtain ⟨hP1, hD1⟩ := hB
                      rw [ht] at hP1
                      obtain ⟨hP, hD⟩ := zw_joinL hPs hDs hk1 hFc hP1 hD1
                      obtain ⟨hP, hD⟩ := zw_swap ⟨hP, hD⟩
                      refine W.widen (k := 17 + j + 1) (n := 1238 + 9 * j + 9) (by omega) (by omega) ?_
                      have hrel := zr_door hzr (xs (5 * j + 1)) (xs (5 * j + 2)) (zs_long (xs (5 * j + 3)) (xs (5 * j + 4)))
                      refine lv_icmp_eq (tgt := 632) hx hb dz_W_law_495 (by decide) (fun c_74 => ?_) (fun c_74 => ?_)
                      · refine lv_iinc (v := nI (5 * (j + 1))) (lv' := [(3, .int (nI (5 * (j + 1)))), (0, .ref b), (1, .ref h0), (2, .ref g0)]) hx hb dz_W_law_632 hl (k := 3) rfl (by rw [show 5 * (j + 1) = 5 * j + 5 by omega]; exact nI_add _ 5) (by decide) rfl (fun ls hl => ?_)
                        refine lv_goto (tgt := 18) hx hb dz_W_law_635 (by decide) ?_
                        exact ih (j + 1) ((zl_door S (xs (5 * j + 1)) (xs (5 * j + 2)) (zs_long (xs (5 * j + 3)) (xs (5 * j + 4)))).2) ((zm_door M (xs (5 * j + 1)) (xs (5 * j + 2)) (zs_long (xs (5 * j + 3)) (xs (5 * j + 4)))).2) a H locs ls (by omega) (by omega) hrel.2 hP hD hS (lv_sub hl [1, 2, 3, 0] rfl)
                      · exact absurd hrel.1 c_74
                    · by_cases c_75 : (xs (5 * j)) &&& 15 = 8
                      · refine lv_tableIn (tgt := 500) hx hb dz_W_law_32 (by rw [c_75]; decide) (by rw [c_75]; decide) (by rw [c_75]; rfl) (by decide) ?_
                        refine lv_aload_n hx hb dz_W_law_500 rfl (lv_at hl 1 rfl) ?_
                        refine lv_aload_n hx hb dz_W_law_501 rfl (lv_at hl 0 rfl) ?_
                        refine lv_iload_n hx hb dz_W_law_502 rfl (lv_at hl 3 rfl) ?_
                        refine lv_iconst (v := 1) hx hb dz_W_law_503 (by decide) ?_
                        refine lv_iadd hx hb dz_W_law_504 ?_
                        refine W.eq (g2 := F0 m 505 ls [.int (nI (5 * j + 1)), .ref b, .ref h0]) (congrArg (fun z => F0 m 505 ls (.int z :: [.ref b, .ref h0])) (nI_add _ 1)) ?_
                        have hin_76 : vp_in (nI (5 * j + 1)) L := vp_in_nI (by omega) (by omega)
                        refine va_sld hx hb hX hbl hbA hS hin_76 dz_W_law_505 ?_
                        refine W.eq (g2 := F0 m 506 ls [.int (xs (5 * j + 1)), .ref h0]) (congrArg (fun z => F0 m 506 ls (.int (xs z) :: [.ref h0])) (nI_clamp (by omega))) ?_
                        refine lv_i2l (v := (xs (5 * j + 1)).toInt64) hx hb dz_W_law_506 rfl ?_
                        refine lv_bipush (v := 32) hx hb dz_W_law_507 (by decide) ?_
                        refine lv_lshl (v := ((xs (5 * j + 1)).toInt64) <<< ((32 : Int32).toInt64 &&& 63)) hx hb dz_W_law_509 rfl ?_
                        refine lv_aload_n hx hb dz_W_law_510 rfl (lv_at hl 0 rfl) ?_
                        refine lv_iload_n hx hb dz_W_law_511 rfl (lv_at hl 3 rfl) ?_
                        refine lv_iconst (v := 2) hx hb dz_W_law_512 (by decide) ?_
                        refine lv_iadd hx hb dz_W_law_513 ?_
                        refine W.eq (g2 := F0 m 514 ls [.int (nI (5 * j + 2)), .ref b, .long (((xs (5 * j + 1)).toInt64) <<< ((32 : Int32).toInt64 &&& 63)), .ref h0]) (congrArg (fun z => F0 m 514 ls (.int z :: [.ref b, .long (((xs (5 * j + 1)).toInt64) <<< ((32 : Int32).toInt64 &&& 63)), .ref h0])) (nI_add _ 2)) ?_
                        have hin_77 : vp_in (nI (5 * j + 2)) L := vp_in_nI (by omega) (by omega)
                        refine va_sld hx hb hX hbl hbA hS hin_77 dz_W_law_514 ?_
                        refine W.eq (g2 := F0 m 515 ls [.int (xs (5 * j + 2)), .long (((xs (5 * j + 1)).toInt64) <<< ((32 : Int32).toInt64 &&& 63)), .ref h0]) (congrArg (fun z => F0 m 515 ls (.int (xs z) :: [.long (((xs (5 * j + 1)).toInt64) <<< ((32 : Int32).toInt64 &&& 63)), .ref h0])) (nI_clamp (by omega))) ?_
                        refine lv_i2l (v := (xs (5 * j + 2)).toInt64) hx hb dz_W_law_515 rfl ?_
                        refine lv_ldc2 (v := 4294967295) hx hb hown (hz _ zi_352) dz_W_law_516 ?_
                        refine lv_land hx hb dz_W_law_519 ?_
                        refine lv_lor hx hb dz_W_law_520 ?_
                        refine W.eq (g2 := F0 m 521 ls [.long (zs_long (xs (5 * j + 1)) (xs (5 * j + 2))), .ref h0]) rfl ?_
                        have hPc := zw_left hP
                        have hDc := zw_leftD hD
                        have hFc := zw_free hS hA hDc
                        refine va_calli (va_runV (As := [.long (zs_long (xs (5 * j + 1)) (xs (5 * j + 2)))]) (rest := []) ⟨hx, hb, hml, hown, hz⟩ (ct_L_tick l dC dI cq ci h0 a S hok H.size (zs_long (xs (5 * j + 1)) (xs (5 * j + 2)))) (cwV 1 hz (zw_gV zi_214 zi_215 zi_216 zi_33 zi_217) rfl rfl rfl (by decide +kernel) ⟨Nat.le_of_ble_eq_true rfl, Nat.le_of_ble_eq_true rfl⟩) (zw_preUV zw_ns_ok hPc hDc hK hN (ci := 2) rfl (k := 0) rfl) rfl rfl hl.1 rfl (lv_room (Nat.le_of_ble_eq_true rfl)) dz_W_law_521 ⟨show 17 + j + 0 ≤ 600000 by omega, show 1238 + 9 * j + 0 ≤ 7302250 by omega⟩) hS (fun q _ h => hFc q h) hFc (fun r_78 u_78 t_78 H locs ht hvm hw hB hz1 hk1 hS => ?_)
                        have hw : r_78 = (zl_tick S (zs_long (xs (5 * j + 1)) (xs (5 * j + 2)))).1 := hw
                        subst hw
                        obtain ⟨hP1, hD1⟩ := hB
                        rw [ht] at hP1
                        obtain ⟨hP, hD⟩ := zw_joinL hP hD hk1 hFc hP1 hD1
                        refine W.widen (k := 17 + j + 1) (n := 1238 + 9 * j + 9) (by omega) (by omega) ?_
                        refine lv_aload_n hx hb dz_W_law_524 rfl (lv_at hl 2 rfl) ?_
                        refine lv_aload_n hx hb dz_W_law_525 rfl (lv_at hl 0 rfl) ?_
                        refine lv_iload_n hx hb dz_W_law_526 rfl (lv_at hl 3 rfl) ?_
                        refine lv_iconst (v := 1) hx hb dz_W_law_527 (by decide) ?_
                        refine lv_iadd hx hb dz_W_law_528 ?_
                        refine W.eq (g2 := F0 m 529 ls [.int (nI (5 * j + 1)), .ref b, .ref g0, .int ((zl_tick S (zs_long (xs (5 * j + 1)) (xs (5 * j + 2)))).1)]) (congrArg (fun z => F0 m 529 ls (.int z :: [.ref b, .ref g0, .int ((zl_tick S (zs_long (xs (5 * j + 1)) (xs (5 * j + 2)))).1)])) (nI_add _ 1)) ?_
                        have hin_79 : vp_in (nI (5 * j + 1)) L := vp_in_nI (by omega) (by omega)
                        refine va_sld hx hb hX hbl hbA hS hin_79 dz_W_law_529 ?_
                        refine W.eq (g2 := F0 m 530 ls [.int (xs (5 * j + 1)), .ref g0, .int ((zl_tick S (zs_long (xs (5 * j + 1)) (xs (5 * j + 2)))).1)]) (congrArg (fun z => F0 m 530 ls (.int (xs z) :: [.ref g0, .int ((zl_tick S (zs_long (xs (5 * j + 1)) (xs (5 * j + 2)))).1)])) (nI_clamp (by omega))) ?_
                        refine lv_i2l (v := (xs (5 * j + 1)).toInt64) hx hb dz_W_law_530 rfl ?_
                        refine lv_bipush (v := 32) hx hb dz_W_law_531 (by decide) ?_
                        refine lv_lshl (v := ((xs (5 * j + 1)).toInt64) <<< ((32 : Int32).toInt64 &&& 63)) hx hb dz_W_law_533 rfl ?_
                        refine lv_aload_n hx hb dz_W_law_534 rfl (lv_at hl 0 rfl) ?_
                        refine lv_iload_n hx hb dz_W_law_535 rfl (lv_at hl 3 rfl) ?_
                        refine lv_iconst (v := 2) hx hb dz_W_law_536 (by decide) ?_
                        refine lv_iadd hx hb dz_W_law_537 ?_
                        refine W.eq (g2 := F0 m 538 ls [.int (nI (5 * j + 2)), .ref b, .long (((xs (5 * j + 1)).toInt64) <<< ((32 : Int32).toInt64 &&& 63)), .ref g0, .int ((zl_tick S (zs_long (xs (5 * j + 1)) (xs (5 * j + 2)))).1)]) (congrArg (fun z => F0 m 538 ls (.int z :: [.ref b, .long (((xs (5 * j + 1)).toInt64) <<< ((32 : Int32).toInt64 &&& 63)), .ref g0, .int ((zl_tick S (zs_long (xs (5 * j + 1)) (xs (5 * j + 2)))).1)])) (nI_add _ 2)) ?_
                        have hin_80 : vp_in (nI (5 * j + 2)) L := vp_in_nI (by omega) (by omega)
                        refine va_sld hx hb hX hbl hbA hS hin_80 dz_W_law_538 ?_
                        refine W.eq (g2 := F0 m 539 ls [.int (xs (5 * j + 2)), .long (((xs (5 * j + 1)).toInt64) <<< ((32 : Int32).toInt64 &&& 63)), .ref g0, .int ((zl_tick S (zs_long (xs (5 * j + 1)) (xs (5 * j + 2)))).1)]) (congrArg (fun z => F0 m 539 ls (.int (xs z) :: [.long (((xs (5 * j + 1)).toInt64) <<< ((32 : Int32).toInt64 &&& 63)), .ref g0, .int ((zl_tick S (zs_long (xs (5 * j + 1)) (xs (5 * j + 2)))).1)])) (nI_clamp (by omega))) ?_
                        refine lv_i2l (v := (xs (5 * j + 2)).toInt64) hx hb dz_W_law_539 rfl ?_
                        refine lv_ldc2 (v := 4294967295) hx hb hown (hz _ zi_352) dz_W_law_540 ?_
                        refine lv_land hx hb dz_W_law_543 ?_
                        refine lv_lor hx hb dz_W_law_544 ?_
                        refine W.eq (g2 := F0 m 545 ls [.long (zs_long (xs (5 * j + 1)) (xs (5 * j + 2))), .ref g0, .int ((zl_tick S (zs_long (xs (5 * j + 1)) (xs (5 * j + 2)))).1)]) rfl ?_
                        obtain ⟨hPs, hDs⟩ := zw_swap ⟨hP, hD⟩
                        have hPc := zw_left hPs
                        have hDc := zw_leftD hDs
                        have hFc := zw_free hS hA hDc
                        refine va_calli (va_runV (As := [.long (zs_long (xs (5 * j + 1)) (xs (5 * j + 2)))]) (rest := [.int ((zl_tick S (zs_long (xs (5 * j + 1)) (xs (5 * j + 2)))).1)]) ⟨hx, hb, hml, hown, hz⟩ (ct_M_tick l dC dI c1 cj cz g0 am M hokm H.size (zs_long (xs (5 * j + 1)) (xs (5 * j + 2)))) (cwV 1 hz (zw_gV zi_335 zi_336 zi_337 zi_35 zi_338) rfl rfl rfl (by decide +kernel) ⟨Nat.le_of_ble_eq_true rfl, Nat.le_of_ble_eq_true rfl⟩) (zw_preUV zw_ns_ok hPc hDc hKm hN (ci := 3) rfl (k := 0) rfl) rfl rfl hl.1 rfl (lv_room (Nat.le_of_ble_eq_true rfl)) dz_W_law_545 ⟨show 17 + j + 1 + 0 ≤ 600000 by omega, show 1238 + 9 * j + 9 + 0 ≤ 7302250 by omega⟩) hS (fun q _ h => hFc q h) hFc (fun r_81 u_81 t_81 H locs ht hvm hw hB hz1 hk1 hS => ?_)
                        have hw : r_81 = (zm_tick M (zs_long (xs (5 * j + 1)) (xs (5 * j + 2)))).1 := hw
                        subst hw
                        obtain ⟨hP1, hD1⟩ := hB
                        rw [ht] at hP1
                        obtain ⟨hP, hD⟩ := zw_joinL hPs hDs hk1 hFc hP1 hD1
                        obtain ⟨hP, hD⟩ := zw_swap ⟨hP, hD⟩
                        refine W.widen (k := 17 + j + 1) (n := 1238 + 9 * j + 9) (by omega) (by omega) ?_
                        have hrel := zr_tick hzr (zs_long (xs (5 * j + 1)) (xs (5 * j + 2)))
                        refine lv_icmp_eq (tgt := 632) hx hb dz_W_law_548 (by decide) (fun c_82 => ?_) (fun c_82 => ?_)
                        · refine lv_iinc (v := nI (5 * (j + 1))) (lv' := [(3, .int (nI (5 * (j + 1)))), (0, .ref b), (1, .ref h0), (2, .ref g0)]) hx hb dz_W_law_632 hl (k := 3) rfl (by rw [show 5 * (j + 1) = 5 * j + 5 by omega]; exact nI_add _ 5) (by decide) rfl (fun ls hl => ?_)
                          refine lv_goto (tgt := 18) hx hb dz_W_law_635 (by decide) ?_
                          exact ih (j + 1) ((zl_tick S (zs_long (xs (5 * j + 1)) (xs (5 * j + 2)))).2) ((zm_tick M (zs_long (xs (5 * j + 1)) (xs (5 * j + 2)))).2) a H locs ls (by omega) (by omega) hrel.2 hP hD hS (lv_sub hl [1, 2, 3, 0] rfl)
                        · exact absurd hrel.1 c_82
                      · by_cases c_83 : (xs (5 * j)) &&& 15 = 9
                        · refine lv_tableIn (tgt := 553) hx hb dz_W_law_32 (by rw [c_83]; decide) (by rw [c_83]; decide) (by rw [c_83]; rfl) (by decide) ?_
                          refine lv_aload_n hx hb dz_W_law_553 rfl (lv_at hl 1 rfl) ?_
                          refine lv_aload_n hx hb dz_W_law_554 rfl (lv_at hl 0 rfl) ?_
                          refine lv_iload_n hx hb dz_W_law_555 rfl (lv_at hl 3 rfl) ?_
                          refine lv_iconst (v := 1) hx hb dz_W_law_556 (by decide) ?_
                          refine lv_iadd hx hb dz_W_law_557 ?_
                          refine W.eq (g2 := F0 m 558 ls [.int (nI (5 * j + 1)), .ref b, .ref h0]) (congrArg (fun z => F0 m 558 ls (.int z :: [.ref b, .ref h0])) (nI_add _ 1)) ?_
                          have hin_84 : vp_in (nI (5 * j + 1)) L := vp_in_nI (by omega) (by omega)
                          refine va_sld hx hb hX hbl hbA hS hin_84 dz_W_law_558 ?_
                          refine W.eq (g2 := F0 m 559 ls [.int (xs (5 * j + 1)), .ref h0]) (congrArg (fun z => F0 m 559 ls (.int (xs z) :: [.ref h0])) (nI_clamp (by omega))) ?_
                          refine lv_aload_n hx hb dz_W_law_559 rfl (lv_at hl 0 rfl) ?_
                          refine lv_iload_n hx hb dz_W_law_560 rfl (lv_at hl 3 rfl) ?_
                          refine lv_iconst (v := 2) hx hb dz_W_law_561 (by decide) ?_
                          refine lv_iadd hx hb dz_W_law_562 ?_
                          refine W.eq (g2 := F0 m 563 ls [.int (nI (5 * j + 2)), .ref b, .int (xs (5 * j + 1)), .ref h0]) (congrArg (fun z => F0 m 563 ls (.int z :: [.ref b, .int (xs (5 * j + 1)), .ref h0])) (nI_add _ 2)) ?_
                          have hin_85 : vp_in (nI (5 * j + 2)) L := vp_in_nI (by omega) (by omega)
                          refine va_sld hx hb hX hbl hbA hS hin_85 dz_W_law_563 ?_
                          refine W.eq (g2 := F0 m 564 ls [.int (xs (5 * j + 2)), .int (xs (5 * j + 1)), .ref h0]) (congrArg (fun z => F0 m 564 ls (.int (xs z) :: [.int (xs (5 * j + 1)), .ref h0])) (nI_clamp (by omega))) ?_
                          have hPc := zw_left hP
                          have hDc := zw_leftD hD
                          have hFc := zw_free hS hA hDc
                          refine va_calli (va_runV (As := [.int (xs (5 * j + 1)), .int (xs (5 * j + 2))]) (rest := []) ⟨hx, hb, hml, hown, hz⟩ (ct_L_take l dC dI cq ci h0 a S hok H.size (xs (5 * j + 1)) (xs (5 * j + 2))) (cwV 2 hz (zw_gV zi_218 zi_219 zi_220 zi_33 zi_221) rfl rfl rfl (by decide +kernel) ⟨Nat.le_of_ble_eq_true rfl, Nat.le_of_ble_eq_true rfl⟩) (zw_preUV zw_ns_ok hPc hDc hK hN (ci := 2) rfl (k := 0) rfl) rfl rfl hl.1 rfl (lv_room (Nat.le_of_ble_eq_true rfl)) dz_W_law_564 ⟨show 17 + j + 0 ≤ 600000 by omega, show 1238 + 9 * j + 0 ≤ 7302250 by omega⟩) hS (fun q _ h => hFc q h) hFc (fun r_86 u_86 t_86 H locs ht hvm hw hB hz1 hk1 hS => ?_)
                          have hw : r_86 = (zl_take S (xs (5 * j + 1)) (xs (5 * j + 2))).1 := hw
                          subst hw
                          obtain ⟨hP1, hD1⟩ := hB
                          rw [ht] at hP1
                          obtain ⟨hP, hD⟩ := zw_joinL hP hD hk1 hFc hP1 hD1
                          refine W.widen (k := 17 + j + 1) (n := 1238 + 9 * j + 9) (by omega) (by omega) ?_
                          refine lv_aload_n hx hb dz_W_law_567 rfl (lv_at hl 2 rfl) ?_
                          refine lv_aload_n hx hb dz_W_law_568 rfl (lv_at hl 0 rfl) ?_
                          refine lv_iload_n hx hb dz_W_law_569 rfl (lv_at hl 3 rfl) ?_
                          refine lv_iconst (v := 1) hx hb dz_W_law_570 (by decide) ?_
                          refine lv_iadd hx hb dz_W_law_571 ?_
                          refine W.eq (g2 := F0 m 572 ls [.int (nI (5 * j + 1)), .ref b, .ref g0, .int ((zl_take S (xs (5 * j + 1)) (xs (5 * j + 2))).1)]) (congrArg (fun z => F0 m 572 ls (.int z :: [.ref b, .ref g0, .int ((zl_take S (xs (5 * j + 1)) (xs (5 * j + 2))).1)])) (nI_add _ 1)) ?_
                          have hin_87 : vp_in (nI (5 * j + 1)) L := vp_in_nI (by omega) (by omega)
                          refine va_sld hx hb hX hbl hbA hS hin_87 dz_W_law_572 ?_
                          refine W.eq (g2 := F0 m 573 ls [.int (xs (5 * j + 1)), .ref g0, .int ((zl_take S (xs (5 * j + 1)) (xs (5 * j + 2))).1)]) (congrArg (fun z => F0 m 573 ls (.int (xs z) :: [.ref g0, .int ((zl_take S (xs (5 * j + 1)) (xs (5 * j + 2))).1)])) (nI_clamp (by omega))) ?_
                          refine lv_aload_n hx hb dz_W_law_573 rfl (lv_at hl 0 rfl) ?_
                          refine lv_iload_n hx hb dz_W_law_574 rfl (lv_at hl 3 rfl) ?_
                          refine lv_iconst (v := 2) hx hb dz_W_law_575 (by decide) ?_
                          refine lv_iadd hx hb dz_W_law_576 ?_
                          refine W.eq (g2 := F0 m 577 ls [.int (nI (5 * j + 2)), .ref b, .int (xs (5 * j + 1)), .ref g0, .int ((zl_take S (xs (5 * j + 1)) (xs (5 * j + 2))).1)]) (congrArg (fun z => F0 m 577 ls (.int z :: [.ref b, .int (xs (5 * j + 1)), .ref g0, .int ((zl_take S (xs (5 * j + 1)) (xs (5 * j + 2))).1)])) (nI_add _ 2)) ?_
                          have hin_88 : vp_in (nI (5 * j + 2)) L := vp_in_nI (by omega) (by omega)
                          refine va_sld hx hb hX hbl hbA hS hin_88 dz_W_law_577 ?_
                          refine W.eq (g2 := F0 m 578 ls [.int (xs (5 * j + 2)), .int (xs (5 * j + 1)), .ref g0, .int ((zl_take S (xs (5 * j + 1)) (xs (5 * j + 2))).1)]) (congrArg (fun z => F0 m 578 ls (.int (xs z) :: [.int (xs (5 * j + 1)), .ref g0, .int ((zl_take S (xs (5 * j + 1)) (xs (5 * j + 2))).1)])) (nI_clamp (by omega))) ?_
                          obtain ⟨hPs, hDs⟩ := zw_swap ⟨hP, hD⟩
                          have hPc := zw_left hPs
                          have hDc := zw_leftD hDs
                          have hFc := zw_free hS hA hDc
                          refine va_calli (va_runV (As := [.int (xs (5 * j + 1)), .int (xs (5 * j + 2))]) (rest := [.int ((zl_take S (xs (5 * j + 1)) (xs (5 * j + 2))).1)]) ⟨hx, hb, hml, hown, hz⟩ (ct_M_take l dC dI c1 cj cz g0 am M hokm H.size (xs (5 * j + 1)) (xs (5 * j + 2))) (cwV 2 hz (zw_gV zi_339 zi_340 zi_341 zi_35 zi_342) rfl rfl rfl (by decide +kernel) ⟨Nat.le_of_ble_eq_true rfl, Nat.le_of_ble_eq_true rfl⟩) (zw_preUV zw_ns_ok hPc hDc hKm hN (ci := 3) rfl (k := 0) rfl) rfl rfl hl.1 rfl (lv_room (Nat.le_of_ble_eq_true rfl)) dz_W_law_578 ⟨show 17 + j + 1 + 0 ≤ 600000 by omega, show 1238 + 9 * j + 9 + 0 ≤ 7302250 by omega⟩) hS (fun q _ h => hFc q h) hFc (fun r_89 u_89 t_89 H locs ht hvm hw hB hz1 hk1 hS => ?_)
                          have hw : r_89 = (zm_take M (xs (5 * j + 1)) (xs (5 * j + 2))).1 := hw
                          subst hw
                          obtain ⟨hP1, hD1⟩ := hB
                          rw [ht] at hP1
                          obtain ⟨hP, hD⟩ := zw_joinL hPs hDs hk1 hFc hP1 hD1
                          obtain ⟨hP, hD⟩ := zw_swap ⟨hP, hD⟩
                          refine W.widen (k := 17 + j + 1) (n := 1238 + 9 * j + 9) (by omega) (by omega) ?_
                          have hrel := zr_take hzr (xs (5 * j + 1)) (xs (5 * j + 2))
                          refine lv_icmp_eq (tgt := 632) hx hb dz_W_law_581 (by decide) (fun c_90 => ?_) (fun c_90 => ?_)
                          · refine lv_iinc (v := nI (5 * (j + 1))) (lv' := [(3, .int (nI (5 * (j + 1)))), (0, .ref b), (1, .ref h0), (2, .ref g0)]) hx hb dz_W_law_632 hl (k := 3) rfl (by rw [show 5 * (j + 1) = 5 * j + 5 by omega]; exact nI_add _ 5) (by decide) rfl (fun ls hl => ?_)
                            refine lv_goto (tgt := 18) hx hb dz_W_law_635 (by decide) ?_
                            exact ih (j + 1) ((zl_take S (xs (5 * j + 1)) (xs (5 * j + 2))).2) ((zm_take M (xs (5 * j + 1)) (xs (5 * j + 2))).2) a H locs ls (by omega) (by omega) hrel.2 hP hD hS (lv_sub hl [1, 2, 3, 0] rfl)
                          · exact absurd hrel.1 c_90
                        · by_cases c_91 : (xs (5 * j)) &&& 15 = 10
                          · refine lv_tableIn (tgt := 586) hx hb dz_W_law_32 (by rw [c_91]; decide) (by rw [c_91]; decide) (by rw [c_91]; rfl) (by decide) ?_
                            refine lv_aload_n hx hb dz_W_law_586 rfl (lv_at hl 1 rfl) ?_
                            refine lv_aload_n hx hb dz_W_law_587 rfl (lv_at hl 0 rfl) ?_
                            refine lv_iload_n hx hb dz_W_law_588 rfl (lv_at hl 3 rfl) ?_
                            refine lv_iconst (v := 1) hx hb dz_W_law_589 (by decide) ?_
                            refine lv_iadd hx hb dz_W_law_590 ?_
                            refine W.eq (g2 := F0 m 591 ls [.int (nI (5 * j + 1)), .ref b, .ref h0]) (congrArg (fun z => F0 m 591 ls (.int z :: [.ref b, .ref h0])) (nI_add _ 1)) ?_
                            have hin_92 : vp_in (nI (5 * j + 1)) L := vp_in_nI (by omega) (by omega)
                            refine va_sld hx hb hX hbl hbA hS hin_92 dz_W_law_591 ?_
                            refine W.eq (g2 := F0 m 592 ls [.int (xs (5 * j + 1)), .ref h0]) (congrArg (fun z => F0 m 592 ls (.int (xs z) :: [.ref h0])) (nI_clamp (by omega))) ?_
                            have hPc := zw_left hP
                            refine vp_callSi (va_Run.run (va_runV (As := [.int (xs (5 * j + 1))]) (rest := []) ⟨hx, hb, hml, hown, hz⟩ (ct_L_item l dC dI cq ci h0 a S hok (xs (5 * j + 1))) (cwV 1 hz (zw_gV zi_222 zi_223 zi_224 zi_33 zi_225) rfl rfl rfl (by decide +kernel) ⟨Nat.le_of_ble_eq_true rfl, Nat.le_of_ble_eq_true rfl⟩) (zw_preRV zw_ns_ok hPc hK hN (ci := 2) rfl (k := 0) rfl) rfl rfl hl.1 rfl (lv_room (Nat.le_of_ble_eq_true rfl)) dz_W_law_592 ⟨show 17 + j + 0 ≤ 600000 by omega, show 1238 + 9 * j + 0 ≤ 7302250 by omega⟩)) (fun r_93 hr_93 => ?_)
                            have hr_93 : r_93 = zl_item S (xs (5 * j + 1)) := hr_93
                            subst hr_93
                            refine W.widen (k := 17 + j + 1) (n := 1238 + 9 * j + 9) (by omega) (by omega) ?_
                            refine lv_aload_n hx hb dz_W_law_595 rfl (lv_at hl 2 rfl) ?_
                            refine lv_aload_n hx hb dz_W_law_596 rfl (lv_at hl 0 rfl) ?_
                            refine lv_iload_n hx hb dz_W_law_597 rfl (lv_at hl 3 rfl) ?_
                            refine lv_iconst (v := 1) hx hb dz_W_law_598 (by decide) ?_
                            refine lv_iadd hx hb dz_W_law_599 ?_
                            refine W.eq (g2 := F0 m 600 ls [.int (nI (5 * j + 1)), .ref b, .ref g0, .int (zl_item S (xs (5 * j + 1)))]) (congrArg (fun z => F0 m 600 ls (.int z :: [.ref b, .ref g0, .int (zl_item S (xs (5 * j + 1)))])) (nI_add _ 1)) ?_
                            have hin_94 : vp_in (nI (5 * j + 1)) L := vp_in_nI (by omega) (by omega)
                            refine va_sld hx hb hX hbl hbA hS hin_94 dz_W_law_600 ?_
                            refine W.eq (g2 := F0 m 601 ls [.int (xs (5 * j + 1)), .ref g0, .int (zl_item S (xs (5 * j + 1)))]) (congrArg (fun z => F0 m 601 ls (.int (xs z) :: [.ref g0, .int (zl_item S (xs (5 * j + 1)))])) (nI_clamp (by omega))) ?_
                            obtain ⟨hPs, hDs⟩ := zw_swap ⟨hP, hD⟩
                            have hPc := zw_left hPs
                            refine vp_callSi (va_Run.run (va_runV (As := [.int (xs (5 * j + 1))]) (rest := [.int (zl_item S (xs (5 * j + 1)))]) ⟨hx, hb, hml, hown, hz⟩ (ct_M_item l dC dI c1 cj cz g0 am M hokm (xs (5 * j + 1))) (cwV 1 hz (zw_gV zi_344 zi_345 zi_346 zi_35 zi_347) rfl rfl rfl (by decide +kernel) ⟨Nat.le_of_ble_eq_true rfl, Nat.le_of_ble_eq_true rfl⟩) (zw_preRV zw_ns_ok hPc hKm hN (ci := 3) rfl (k := 0) rfl) rfl rfl hl.1 rfl (lv_room (Nat.le_of_ble_eq_true rfl)) dz_W_law_601 ⟨show 17 + j + 1 + 0 ≤ 600000 by omega, show 1238 + 9 * j + 9 + 0 ≤ 7302250 by omega⟩)) (fun r_95 hr_95 => ?_)
                            have hr_95 : r_95 = zm_item M (xs (5 * j + 1)) := hr_95
                            subst hr_95
                            refine W.widen (k := 17 + j + 1) (n := 1238 + 9 * j + 9) (by omega) (by omega) ?_
                            have hrel := zr_item hzr (xs (5 * j + 1))
                            refine lv_icmp_eq (tgt := 632) hx hb dz_W_law_604 (by decide) (fun c_96 => ?_) (fun c_96 => ?_)
                            · refine lv_iinc (v := nI (5 * (j + 1))) (lv' := [(3, .int (nI (5 * (j + 1)))), (0, .ref b), (1, .ref h0), (2, .ref g0)]) hx hb dz_W_law_632 hl (k := 3) rfl (by rw [show 5 * (j + 1) = 5 * j + 5 by omega]; exact nI_add _ 5) (by decide) rfl (fun ls hl => ?_)
                              refine lv_goto (tgt := 18) hx hb dz_W_law_635 (by decide) ?_
                              exact ih (j + 1) S M a H locs ls (by omega) (by omega) hzr hP hD hS (lv_sub hl [1, 2, 3, 0] rfl)
                            · exact absurd hrel.1 c_96
                          · by_cases c_97 : (xs (5 * j)) &&& 15 = 11
                            · refine lv_tableIn (tgt := 609) hx hb dz_W_law_32 (by rw [c_97]; decide) (by rw [c_97]; decide) (by rw [c_97]; rfl) (by decide) ?_
                              refine lv_aload_n hx hb dz_W_law_609 rfl (lv_at hl 1 rfl) ?_
                              refine lv_aload_n hx hb dz_W_law_610 rfl (lv_at hl 0 rfl) ?_
                              refine lv_iload_n hx hb dz_W_law_611 rfl (lv_at hl 3 rfl) ?_
                              refine lv_iconst (v := 1) hx hb dz_W_law_612 (by decide) ?_
                              refine lv_iadd hx hb dz_W_law_613 ?_
                              refine W.eq (g2 := F0 m 614 ls [.int (nI (5 * j + 1)), .ref b, .ref h0]) (congrArg (fun z => F0 m 614 ls (.int z :: [.ref b, .ref h0])) (nI_add _ 1)) ?_
                              have hin_98 : vp_in (nI (5 * j + 1)) L := vp_in_nI (by omega) (by omega)
                              refine va_sld hx hb hX hbl hbA hS hin_98 dz_W_law_614 ?_
                              refine W.eq (g2 := F0 m 615 ls [.int (xs (5 * j + 1)), .ref h0]) (congrArg (fun z => F0 m 615 ls (.int (xs z) :: [.ref h0])) (nI_clamp (by omega))) ?_
                              have hPc := zw_left hP
                              refine vp_callSi (va_Run.run (va_runV (As := [.int (xs (5 * j + 1))]) (rest := []) ⟨hx, hb, hml, hown, hz⟩ (ct_L_freed l dC dI cq ci h0 a S hok (xs (5 * j + 1))) (cwV 1 hz (zw_gV zi_226 zi_227 zi_228 zi_33 zi_229) rfl rfl rfl (by decide +kernel) ⟨Nat.le_of_ble_eq_true rfl, Nat.le_of_ble_eq_true rfl⟩) (zw_preRV zw_ns_ok hPc hK hN (ci := 2) rfl (k := 0) rfl) rfl rfl hl.1 rfl (lv_room (Nat.le_of_ble_eq_true rfl)) dz_W_law_615 ⟨show 17 + j + 0 ≤ 600000 by omega, show 1238 + 9 * j + 0 ≤ 7302250 by omega⟩)) (fun r_99 hr_99 => ?_)
                              have hr_99 : r_99 = zl_freed S (xs (5 * j + 1)) := hr_99
                              subst hr_99
                              refine W.widen (k := 17 + j + 1) (n := 1238 + 9 * j + 9) (by omega) (by omega) ?_
                              refine lv_aload_n hx hb dz_W_law_618 rfl (lv_at hl 2 rfl) ?_
                              refine lv_aload_n hx hb dz_W_law_619 rfl (lv_at hl 0 rfl) ?_
                              refine lv_iload_n hx hb dz_W_law_620 rfl (lv_at hl 3 rfl) ?_
                              refine lv_iconst (v := 1) hx hb dz_W_law_621 (by decide) ?_
                              refine lv_iadd hx hb dz_W_law_622 ?_
                              refine W.eq (g2 := F0 m 623 ls [.int (nI (5 * j + 1)), .ref b, .ref g0, .int (zl_freed S (xs (5 * j + 1)))]) (congrArg (fun z => F0 m 623 ls (.int z :: [.ref b, .ref g0, .int (zl_freed S (xs (5 * j + 1)))])) (nI_add _ 1)) ?_
                              have hin_100 : vp_in (nI (5 * j + 1)) L := vp_in_nI (by omega) (by omega)
                              refine va_sld hx hb hX hbl hbA hS hin_100 dz_W_law_623 ?_
                              refine W.eq (g2 := F0 m 624 ls [.int (xs (5 * j + 1)), .ref g0, .int (zl_freed S (xs (5 * j + 1)))]) (congrArg (fun z => F0 m 624 ls (.int (xs z) :: [.ref g0, .int (zl_freed S (xs (5 * j + 1)))])) (nI_clamp (by omega))) ?_
                              obtain ⟨hPs, hDs⟩ := zw_swap ⟨hP, hD⟩
                              have hPc := zw_left hPs
                              refine vp_callSi (va_Run.run (va_runV (As := [.int (xs (5 * j + 1))]) (rest := [.int (zl_freed S (xs (5 * j + 1)))]) ⟨hx, hb, hml, hown, hz⟩ (ct_M_freed l dC dI c1 cj cz g0 am M hokm (xs (5 * j + 1))) (cwV 1 hz (zw_gV zi_348 zi_349 zi_350 zi_35 zi_351) rfl rfl rfl (by decide +kernel) ⟨Nat.le_of_ble_eq_true rfl, Nat.le_of_ble_eq_true rfl⟩) (zw_preRV zw_ns_ok hPc hKm hN (ci := 3) rfl (k := 0) rfl) rfl rfl hl.1 rfl (lv_room (Nat.le_of_ble_eq_true rfl)) dz_W_law_624 ⟨show 17 + j + 1 + 0 ≤ 600000 by omega, show 1238 + 9 * j + 9 + 0 ≤ 7302250 by omega⟩)) (fun r_101 hr_101 => ?_)
                              have hr_101 : r_101 = zm_freed M (xs (5 * j + 1)) := hr_101
                              subst hr_101
                              refine W.widen (k := 17 + j + 1) (n := 1238 + 9 * j + 9) (by omega) (by omega) ?_
                              have hrel := zr_freed hzr (xs (5 * j + 1))
                              refine lv_icmp_eq (tgt := 632) hx hb dz_W_law_627 (by decide) (fun c_102 => ?_) (fun c_102 => ?_)
                              · refine lv_iinc (v := nI (5 * (j + 1))) (lv' := [(3, .int (nI (5 * (j + 1)))), (0, .ref b), (1, .ref h0), (2, .ref g0)]) hx hb dz_W_law_632 hl (k := 3) rfl (by rw [show 5 * (j + 1) = 5 * j + 5 by omega]; exact nI_add _ 5) (by decide) rfl (fun ls hl => ?_)
                                refine lv_goto (tgt := 18) hx hb dz_W_law_635 (by decide) ?_
                                exact ih (j + 1) S M a H locs ls (by omega) (by omega) hzr hP hD hS (lv_sub hl [1, 2, 3, 0] rfl)
                              · exact absurd hrel.1 c_102
                            · have o_103 : ((xs (5 * j)) &&& 15).toInt < 0 ∨ 11 < ((xs (5 * j)) &&& 15).toInt := by
                                have e0 := lv_neT c_3 (a := 0) rfl
                                have e1 := lv_neT c_9 (a := 1) rfl
                                have e2 := lv_neT c_15 (a := 2) rfl
                                have e3 := lv_neT c_25 (a := 3) rfl
                                have e4 := lv_neT c_37 (a := 4) rfl
                                have e5 := lv_neT c_47 (a := 5) rfl
                                have e6 := lv_neT c_57 (a := 6) rfl
                                have e7 := lv_neT c_63 (a := 7) rfl
                                have e8 := lv_neT c_75 (a := 8) rfl
                                have e9 := lv_neT c_83 (a := 9) rfl
                                have e10 := lv_neT c_91 (a := 10) rfl
                                have e11 := lv_neT c_97 (a := 11) rfl
                                omega
                              refine lv_tableOut (tgt := 632) hx hb dz_W_law_32 o_103 (by decide) ?_
                              refine lv_iinc (v := nI (5 * (j + 1))) (lv' := [(3, .int (nI (5 * (j + 1)))), (0, .ref b), (1, .ref h0), (2, .ref g0)]) hx hb dz_W_law_632 hl (k := 3) rfl (by rw [show 5 * (j + 1) = 5 * j + 5 by omega]; exact nI_add _ 5) (by decide) rfl (fun ls hl => ?_)
                              refine lv_goto (tgt := 18) hx hb dz_W_law_635 (by decide) ?_
                              refine W.widen (k := 17 + j + 1) (n := 1238 + 9 * j + 9) (by omega) (by omega) ?_
                              exact ih (j + 1) S M a H locs ls (by omega) (by omega) hzr hP hD hS (lv_sub hl [1, 2, 3, 0] rfl)

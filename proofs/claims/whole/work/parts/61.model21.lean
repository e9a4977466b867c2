set_option maxHeartbeats 1000000 in
theorem c_X11_manyOpen (V : Vt) (d : Nat) (σ : Sg) (κ : Sg) (n : Nat) (lw : Lw) (hM : MR κ σ n) : CT layM V mX11_manyOpen (d + 1) [rf V 0] σ (Ri fun v σ' => nI (cnt (κ.1 14) n) = v ∧ ME σ σ') := by
  refine CT.of (own := RX11) rfl (by decide) (Nat.le_of_ble_eq_true rfl) (fun X (hx : Ok V RX11 cX11_manyOpen 1 (d + 1) X) (he : En layM V (some .int) (Ri fun v σ' => nI (cnt (κ.1 14) n) = v ∧ ME σ σ') X) => ?_)
  change WS layM V 1 X σ 0 [(0, rf V 0)] []
  refine WS.aload_n hx dX11_manyOpen_0 rfl 0 rfl ?_
  refine WS.callVv (st := []) [] hx (c_X11_begins V d σ κ n lw hM) okX11_begins lm11_231 rfl rfl rfl rfl (Nat.le_of_ble_eq_true rfl) dX11_manyOpen_1 (fun σ2 h3 => ?_)
  obtain ⟨me1, mt1⟩ := h3
  show WS layM V 1 X σ2 4 [(0, rf V 0)] []
  refine WS.aload_n hx dX11_manyOpen_4 rfl 0 rfl ?_
  refine WS.getI hx okX11 lf11_213 rfl rfl dX11_manyOpen_5 ?_
  exact WS.iret hx he dX11_manyOpen_8 ⟨_, rfl, mt1.2.2.2.1.symm, me1⟩
set_option maxHeartbeats 1000000 in
theorem c_X11_count (V : Vt) (d : Nat) (σ : Sg) (κ : Sg) (n : Nat) (lw : Lw) (hM : MR κ σ n) (q : Int32) : CT layM V mX11_count (d + 2) [rf V 0, .int q] σ (Ri fun v σ' => v = (if q = 0 then nI n else if q = 1 then nI (cnt (κ.1 14) n) else if q = 2 then σ.1 0 8 else if q = 3 then σ.1 0 5 else if q = 4 then σ.1 0 35 else if q = 5 then σ.1 0 38 else -1) ∧ ME σ σ') := by
  refine CT.of (own := RX11) rfl (by decide) (Nat.le_of_ble_eq_true rfl) (fun X (hx : Ok V RX11 cX11_count 2 (d + 2) X) (he : En layM V (some .int) (Ri fun v σ' => v = (if q = 0 then nI n else if q = 1 then nI (cnt (κ.1 14) n) else if q = 2 then σ.1 0 8 else if q = 3 then σ.1 0 5 else if q = 4 then σ.1 0 35 else if q = 5 then σ.1 0 38 else -1) ∧ ME σ σ') X) => ?_)
  change WS layM V 2 X σ 0 [(0, rf V 0), (1, .int q)] []
  have hn := hM.n
  have hs := hM.s
  refine WS.iload_n hx dX11_count_0 rfl 1 rfl ?_
  by_cases s1_0 : q = 0
  · refine WS.tableIn (off := 39) (tgt := 40) hx dX11_count_1 (by rw [s1_0]; decide) (by rw [s1_0]; decide) (by rw [s1_0]; decide) (by decide) ?_
    show WS layM V 2 X σ 40 [(0, rf V 0), (1, .int q)] []
    refine WS.aload_n hx dX11_count_40 rfl 0 rfl ?_
    refine WS.getI hx okX11 lf11_97 rfl rfl dX11_count_41 ?_
    exact WS.iret hx he dX11_count_44 ⟨_, rfl, by rw [s1_0]; exact hs, ME.rf⟩
  by_cases s1_1 : q = 1
  · refine WS.tableIn (off := 44) (tgt := 45) hx dX11_count_1 (by rw [s1_1]; decide) (by rw [s1_1]; decide) (by rw [s1_1]; decide) (by decide) ?_
    show WS layM V 2 X σ 45 [(0, rf V 0), (1, .int q)] []
    refine WS.aload_n hx dX11_count_45 rfl 0 rfl ?_
    refine WS.callVi (st := []) [] hx (c_X11_manyOpen V d σ κ n lw hM) okX11_manyOpen lm11_362 rfl rfl rfl rfl (Nat.le_of_ble_eq_true rfl) dX11_count_46 (fun v1 σ2 h3 => ?_)
    obtain ⟨rfl, me46⟩ := h3
    show WS layM V 2 X σ2 49 [(0, rf V 0), (1, .int q)] [.int (nI (cnt (κ.1 14) n))]
    exact WS.iret hx he dX11_count_49 ⟨_, rfl, by rw [s1_1]; rfl, me46⟩
  by_cases s1_2 : q = 2
  · refine WS.tableIn (off := 49) (tgt := 50) hx dX11_count_1 (by rw [s1_2]; decide) (by rw [s1_2]; decide) (by rw [s1_2]; decide) (by decide) ?_
    show WS layM V 2 X σ 50 [(0, rf V 0), (1, .int q)] []
    refine WS.aload_n hx dX11_count_50 rfl 0 rfl ?_
    refine WS.getI hx okX11 lf11_149 rfl rfl dX11_count_51 ?_
    exact WS.iret hx he dX11_count_54 ⟨_, rfl, by rw [s1_2]; rfl, ME.rf⟩
  by_cases s1_3 : q = 3
  · refine WS.tableIn (off := 54) (tgt := 55) hx dX11_count_1 (by rw [s1_3]; decide) (by rw [s1_3]; decide) (by rw [s1_3]; decide) (by decide) ?_
    show WS layM V 2 X σ 55 [(0, rf V 0), (1, .int q)] []
    refine WS.aload_n hx dX11_count_55 rfl 0 rfl ?_
    refine WS.getI hx okX11 lf11_90 rfl rfl dX11_count_56 ?_
    exact WS.iret hx he dX11_count_59 ⟨_, rfl, by rw [s1_3]; rfl, ME.rf⟩
  by_cases s1_4 : q = 4
  · refine WS.tableIn (off := 59) (tgt := 60) hx dX11_count_1 (by rw [s1_4]; decide) (by rw [s1_4]; decide) (by rw [s1_4]; decide) (by decide) ?_
    show WS layM V 2 X σ 60 [(0, rf V 0), (1, .int q)] []
    refine WS.aload_n hx dX11_count_60 rfl 0 rfl ?_
    refine WS.getI hx okX11 lf11_317 rfl rfl dX11_count_61 ?_
    exact WS.iret hx he dX11_count_64 ⟨_, rfl, by rw [s1_4]; rfl, ME.rf⟩
  by_cases s1_5 : q = 5
  · refine WS.tableIn (off := 64) (tgt := 65) hx dX11_count_1 (by rw [s1_5]; decide) (by rw [s1_5]; decide) (by rw [s1_5]; decide) (by decide) ?_
    show WS layM V 2 X σ 65 [(0, rf V 0), (1, .int q)] []
    refine WS.aload_n hx dX11_count_65 rfl 0 rfl ?_
    refine WS.getI hx okX11 lf11_322 rfl rfl dX11_count_66 ?_
    exact WS.iret hx he dX11_count_69 ⟨_, rfl, by rw [s1_5]; rfl, ME.rf⟩
  refine WS.tableOut (tgt := 70) hx dX11_count_1 (sw_out q 0 5 (by simp only [i_eq, tI_0, tI_1, tI_2, tI_3, tI_4, tI_5] at *; omega)) (by decide) ?_
  show WS layM V 2 X σ 70 [(0, rf V 0), (1, .int q)] []
  refine WS.iconst (v := (-1)) hx dX11_count_70 (by decide) ?_
  exact WS.iret hx he dX11_count_71 ⟨_, rfl, by rw [if_neg s1_0, if_neg s1_1, if_neg s1_2, if_neg s1_3, if_neg s1_4, if_neg s1_5], ME.rf⟩
set_option maxHeartbeats 1000000 in
theorem c_X11_isBody (V : Vt) (d : Nat) (σ : Sg) (z : Nat) (hz : σ.1 0 35 = nI z) (hz2 : z ≤ 50) (b : Int32) : CT layM V mX11_isBody (d + 1) [rf V 0, .int b] σ (Rb (0 ≤ b.toInt ∧ b.toInt < z) σ) := by
  refine CT.of (own := RX11) rfl (by decide) (Nat.le_of_ble_eq_true rfl) (fun X (hx : Ok V RX11 cX11_isBody 2 (d + 1) X) (he : En layM V (some .boolean) (Rb (0 ≤ b.toInt ∧ b.toInt < z) σ) X) => ?_)
  change WS layM V 2 X σ 0 [(0, rf V 0), (1, .int b)] []
  have hnI : (nI z).toInt = (z : Int) := nI_c (by omega)
  have e1 : (nI z - 1).toInt = (z : Int) - 1 := by rw [i_sub (by rw [hnI, tI_1]; omega) (by rw [hnI, tI_1]; omega), hnI, tI_1]
  refine WS.iload_n hx dX11_isBody_0 rfl 1 rfl ?_
  refine WS.i2l hx dX11_isBody_1 ?_
  refine WS.lconst (v := 0) hx dX11_isBody_2 rfl ?_
  refine WS.aload_n hx dX11_isBody_3 rfl 0 rfl ?_
  refine WS.getI hx okX11 lf11_317 rfl rfl dX11_isBody_4 ?_
  refine WS.as rfl rfl (congrArg (fun z => Value.int z :: _) (show σ.1 0 35 = nI z from hz)) ?_
  skip
  refine WS.iconst (v := 1) hx dX11_isBody_7 (by decide) ?_
  refine WS.isub hx dX11_isBody_8 ?_
  refine WS.i2l hx dX11_isBody_9 ?_
  refine WS.callSi (st := []) [.long (Int32.toInt64 b), .long 0, .long (Int32.toInt64 ((nI z) - 1))] hx (c_X11_within V d σ (Int32.toInt64 b) 0 (Int32.toInt64 ((nI z) - 1))) okX11_within lm11_100 rfl rfl (Nat.le_of_ble_eq_true rfl) dX11_isBody_10 (fun v1 σ2 h3 => ?_)
  rcases h3 with ⟨rfl, rfl, hb10⟩ | ⟨rfl, rfl, hb10⟩
  · skip
    show WS layM V 2 X σ 13 [(0, rf V 0), (1, .int b)] [.int 1]
    exact WS.zret hx he dX11_isBody_13 (Or.inr rfl) (Rb.t (by (try simp only [l_int, tL_0, tL_1, tL_2, tL_4, tL_5, tL_6, tL_7, tL_9, tL_10, tL_12, tL_15, tL_30, tL_40, tL_60, tL_99, tL_255, tL_1023, tL_m1, lc_lt, lc_gt, lc_ge, lc_le, lc_eq, l6_le, l6_lt, l6_eq, tI_m133, tI_m226, i_le, i_lt, i_eq, tI_0, tI_1] at hb10); (try simp only [l_int, tL_0, tL_1, tL_2, tL_4, tL_5, tL_6, tL_7, tL_9, tL_10, tL_12, tL_15, tL_30, tL_40, tL_60, tL_99, tL_255, tL_1023, tL_m1, lc_lt, lc_gt, lc_ge, lc_le, lc_eq, l6_le, l6_lt, l6_eq, tI_m133, tI_m226, i_le, i_lt, i_eq, tI_0, tI_1]); omega))
  · skip
    show WS layM V 2 X σ 13 [(0, rf V 0), (1, .int b)] [.int 0]
    exact WS.zret hx he dX11_isBody_13 (Or.inl rfl) (Rb.f (by (try simp only [l_int, tL_0, tL_1, tL_2, tL_4, tL_5, tL_6, tL_7, tL_9, tL_10, tL_12, tL_15, tL_30, tL_40, tL_60, tL_99, tL_255, tL_1023, tL_m1, lc_lt, lc_gt, lc_ge, lc_le, lc_eq, l6_le, l6_lt, l6_eq, tI_m133, tI_m226, i_le, i_lt, i_eq, tI_0, tI_1] at hb10); (try simp only [l_int, tL_0, tL_1, tL_2, tL_4, tL_5, tL_6, tL_7, tL_9, tL_10, tL_12, tL_15, tL_30, tL_40, tL_60, tL_99, tL_255, tL_1023, tL_m1, lc_lt, lc_gt, lc_ge, lc_le, lc_eq, l6_le, l6_lt, l6_eq, tI_m133, tI_m226, i_le, i_lt, i_eq, tI_0, tI_1]); omega))
set_option maxHeartbeats 1000000 in
theorem c_X11_kindOf (V : Vt) (d : Nat) (σ : Sg) (j : Nat) (hj : j < 50) : CT layM V mX11_kindOf (d) [rf V 0, .int (nI j)] σ (Ro (σ.1 21 j) σ) := by
  refine CT.of (own := RX11) rfl (by decide) (Nat.le_of_ble_eq_true rfl) (fun X (hx : Ok V RX11 cX11_kindOf 2 (d) X) (he : En layM V (some .int) (Ro (σ.1 21 j) σ) X) => ?_)
  change WS layM V 2 X σ 0 [(0, rf V 0), (1, .int (nI j))] []
  refine WS.aload_n hx dX11_kindOf_0 rfl 0 rfl ?_
  refine WS.getR hx okX11 lf11_71 rfl rfl dX11_kindOf_1 ?_
  refine WS.iload_n hx dX11_kindOf_4 rfl 1 rfl ?_
  refine WS.iald hx rfl (vp_in_nI (by omega) (by decide)) dX11_kindOf_5 ?_
  exact WS.iret hx he dX11_kindOf_6 (Ro.i (by (try simp only [nn_nI (show j < 2 ^ 31 by omega), nI_clamp (show j < 2 ^ 31 by omega)])))
def bodM (σ : Sg) (z : Nat) (k : Int32) : Sg := stI (stI σ 21 z k) 0 35 (nI (z + 1))
set_option maxHeartbeats 1000000 in
theorem c_X11_body (V : Vt) (d : Nat) (σ : Sg) (z : Nat) (hz : σ.1 0 35 = nI z) (hz2 : z ≤ 50) (k : Int32) : CT layM V mX11_body (d + 1) [rf V 0, .int k] σ (Ri fun v σ' => (if ¬ (0 ≤ k.toInt ∧ k.toInt ≤ 7) then v = -1 ∧ σ' = σ else (if z = 50 then v = -3 ∧ σ' = σ else (v = nI z ∧ σ' = bodM σ z k)))) := by
  refine CT.of (own := RX11) rfl (by decide) (Nat.le_of_ble_eq_true rfl) (fun X (hx : Ok V RX11 cX11_body 2 (d + 1) X) (he : En layM V (some .int) (Ri fun v σ' => (if ¬ (0 ≤ k.toInt ∧ k.toInt ≤ 7) then v = -1 ∧ σ' = σ else (if z = 50 then v = -3 ∧ σ' = σ else (v = nI z ∧ σ' = bodM σ z k)))) X) => ?_)
  change WS layM V 2 X σ 0 [(0, rf V 0), (1, .int k)] []
  have hzI : (nI z).toInt = (z : Int) := nI_c (by omega)
  refine WS.iload_n hx dX11_body_0 rfl 1 rfl ?_
  refine WS.i2l hx dX11_body_1 ?_
  refine WS.lconst (v := 0) hx dX11_body_2 rfl ?_
  refine WS.ldc2 (v := 7) hx lc11_320 dX11_body_3 ?_
  refine WS.callSi (st := []) [.long (Int32.toInt64 k), .long 0, .long 7] hx (c_X11_within V d σ (Int32.toInt64 k) 0 7) okX11_within lm11_100 rfl rfl (Nat.le_of_ble_eq_true rfl) dX11_body_6 (fun v1 σ2 h3 => ?_)
  rcases h3 with ⟨rfl, rfl, hb6⟩ | ⟨rfl, rfl, hb6⟩
  · skip
    show WS layM V 2 X σ 9 [(0, rf V 0), (1, .int k)] [.int 1]
    refine WS.if_ne (tgt := 14) hx dX11_body_9 (by decide) (fun _ => ?_) (fun h => absurd h (by decide))
    refine WS.aload_n hx dX11_body_14 rfl 0 rfl ?_
    refine WS.getI hx okX11 lf11_317 rfl rfl dX11_body_15 ?_
    refine WS.as rfl rfl (congrArg (fun z => Value.int z :: _) (show σ.1 0 35 = nI z from hz)) ?_
    skip
    refine WS.bipush (v := 50) hx dX11_body_18 (by decide) ?_
    refine WS.icmp_ne (tgt := 26) hx dX11_body_20 (by decide) (fun c20 => ?_) (fun c20 => ?_)
    · skip
      show WS layM V 2 X σ 26 [(0, rf V 0), (1, .int k)] []
      refine WS.aload_n hx dX11_body_26 rfl 0 rfl ?_
      refine WS.getR hx okX11 lf11_71 rfl rfl dX11_body_27 ?_
      refine WS.aload_n hx dX11_body_30 rfl 0 rfl ?_
      refine WS.getI hx okX11 lf11_317 rfl rfl dX11_body_31 ?_
      refine WS.as rfl rfl (congrArg (fun z => Value.int z :: _) (show σ.1 0 35 = nI z from hz)) ?_
      skip
      refine WS.iload_n hx dX11_body_34 rfl 1 rfl ?_
      refine WS.iast hx rfl (vp_in_nI (by (try simp only [l_int, tL_0, tL_1, tL_2, tL_4, tL_5, tL_6, tL_7, tL_9, tL_10, tL_12, tL_15, tL_30, tL_40, tL_60, tL_99, tL_255, tL_1023, tL_m1, lc_lt, lc_gt, lc_ge, lc_le, lc_eq, l6_le, l6_lt, l6_eq, tI_m133, tI_m226, i_le, i_lt, i_eq, tI_m3, tI_m1, tI_0, tI_1, tI_50] at hb6); (try simp only [l_int, tL_0, tL_1, tL_2, tL_4, tL_5, tL_6, tL_7, tL_9, tL_10, tL_12, tL_15, tL_30, tL_40, tL_60, tL_99, tL_255, tL_1023, tL_m1, lc_lt, lc_gt, lc_ge, lc_le, lc_eq, l6_le, l6_lt, l6_eq, tI_m133, tI_m226, i_le, i_lt, i_eq, tI_m3, tI_m1, tI_0, tI_1, tI_50] at c20); (try simp only [l_int, tL_0, tL_1, tL_2, tL_4, tL_5, tL_6, tL_7, tL_9, tL_10, tL_12, tL_15, tL_30, tL_40, tL_60, tL_99, tL_255, tL_1023, tL_m1, lc_lt, lc_gt, lc_ge, lc_le, lc_eq, l6_le, l6_lt, l6_eq, tI_m133, tI_m226, i_le, i_lt, i_eq, tI_m3, tI_m1, tI_0, tI_1, tI_50]); omega) (by decide)) dX11_body_35 ?_
      refine WS.aload_n hx dX11_body_36 rfl 0 rfl ?_
      refine WS.dup hx dX11_body_37 rfl ?_
      refine WS.getI hx okX11 lf11_317 rfl rfl dX11_body_38 ?_
      refine WS.as rfl rfl (congrArg (fun z => Value.int z :: _) (show (stI σ 21 (nn (nI z)) k).1 0 35 = nI z from hz)) ?_
      skip
      refine WS.iconst (v := 1) hx dX11_body_41 (by decide) ?_
      refine WS.iadd hx dX11_body_42 ?_
      refine WS.as rfl rfl (congrArg (fun z => Value.int z :: _) (show (nI z) + 1 = nI (z + 1) from nI_1 z)) ?_
      skip
      refine WS.putI hx okX11 lf11_317 rfl rfl rfl rfl dX11_body_43 ?_
      refine WS.aload_n hx dX11_body_46 rfl 0 rfl ?_
      refine WS.getI hx okX11 lf11_317 rfl rfl dX11_body_47 ?_
      refine WS.as rfl rfl (congrArg (fun z => Value.int z :: _) (show (stI (stI σ 21 (nn (nI z)) k) 0 35 (nI (z + 1))).1 0 35 = nI (z + 1) from rfl)) ?_
      skip
      refine WS.iconst (v := 1) hx dX11_body_50 (by decide) ?_
      refine WS.isub hx dX11_body_51 ?_
      refine WS.as rfl rfl (congrArg (fun z => Value.int z :: _) (show (nI (z + 1)) - 1 = nI z from nI_pred z)) ?_
      skip
      exact WS.iret hx he dX11_body_52 ⟨_, rfl, by (try dsimp only); rw [if_neg (fun h => h (by (try simp only [l_int, tL_0, tL_1, tL_2, tL_4, tL_5, tL_6, tL_7, tL_9, tL_10, tL_12, tL_15, tL_30, tL_40, tL_60, tL_99, tL_255, tL_1023, tL_m1, lc_lt, lc_gt, lc_ge, lc_le, lc_eq, l6_le, l6_lt, l6_eq, tI_m133, tI_m226, i_le, i_lt, i_eq, tI_m3, tI_m1, tI_0, tI_1, tI_50] at hb6); (try simp only [l_int, tL_0, tL_1, tL_2, tL_4, tL_5, tL_6, tL_7, tL_9, tL_10, tL_12, tL_15, tL_30, tL_40, tL_60, tL_99, tL_255, tL_1023, tL_m1, lc_lt, lc_gt, lc_ge, lc_le, lc_eq, l6_le, l6_lt, l6_eq, tI_m133, tI_m226, i_le, i_lt, i_eq, tI_m3, tI_m1, tI_0, tI_1, tI_50] at c20); omega)), if_neg (by (try simp only [l_int, tL_0, tL_1, tL_2, tL_4, tL_5, tL_6, tL_7, tL_9, tL_10, tL_12, tL_15, tL_30, tL_40, tL_60, tL_99, tL_255, tL_1023, tL_m1, lc_lt, lc_gt, lc_ge, lc_le, lc_eq, l6_le, l6_lt, l6_eq, tI_m133, tI_m226, i_le, i_lt, i_eq, tI_m3, tI_m1, tI_0, tI_1, tI_50] at hb6); (try simp only [l_int, tL_0, tL_1, tL_2, tL_4, tL_5, tL_6, tL_7, tL_9, tL_10, tL_12, tL_15, tL_30, tL_40, tL_60, tL_99, tL_255, tL_1023, tL_m1, lc_lt, lc_gt, lc_ge, lc_le, lc_eq, l6_le, l6_lt, l6_eq, tI_m133, tI_m226, i_le, i_lt, i_eq, tI_m3, tI_m1, tI_0, tI_1, tI_50] at c20); (try simp only [l_int, tL_0, tL_1, tL_2, tL_4, tL_5, tL_6, tL_7, tL_9, tL_10, tL_12, tL_15, tL_30, tL_40, tL_60, tL_99, tL_255, tL_1023, tL_m1, lc_lt, lc_gt, lc_ge, lc_le, lc_eq, l6_le, l6_lt, l6_eq, tI_m133, tI_m226, i_le, i_lt, i_eq, tI_m3, tI_m1, tI_0, tI_1, tI_50]); omega)]; exact ⟨rfl, by unfold bodM; (try simp only [nn_nI (show z < 2 ^ 31 by omega), nI_clamp (show z < 2 ^ 31 by omega)])⟩⟩
    · skip
      show WS layM V 2 X σ 23 [(0, rf V 0), (1, .int k)] []
      refine WS.bipush (v := (-3)) hx dX11_body_23 (by decide) ?_
      exact WS.iret hx he dX11_body_25 ⟨_, rfl, by (try dsimp only); rw [if_neg (fun h => h (by (try simp only [l_int, tL_0, tL_1, tL_2, tL_4, tL_5, tL_6, tL_7, tL_9, tL_10, tL_12, tL_15, tL_30, tL_40, tL_60, tL_99, tL_255, tL_1023, tL_m1, lc_lt, lc_gt, lc_ge, lc_le, lc_eq, l6_le, l6_lt, l6_eq, tI_m133, tI_m226, i_le, i_lt, i_eq, tI_m3, tI_m1, tI_0, tI_1, tI_50] at hb6); (try simp only [l_int, tL_0, tL_1, tL_2, tL_4, tL_5, tL_6, tL_7, tL_9, tL_10, tL_12, tL_15, tL_30, tL_40, tL_60, tL_99, tL_255, tL_1023, tL_m1, lc_lt, lc_gt, lc_ge, lc_le, lc_eq, l6_le, l6_lt, l6_eq, tI_m133, tI_m226, i_le, i_lt, i_eq, tI_m3, tI_m1, tI_0, tI_1, tI_50] at c20); omega)), if_pos (by (try simp only [l_int, tL_0, tL_1, tL_2, tL_4, tL_5, tL_6, tL_7, tL_9, tL_10, tL_12, tL_15, tL_30, tL_40, tL_60, tL_99, tL_255, tL_1023, tL_m1, lc_lt, lc_gt, lc_ge, lc_le, lc_eq, l6_le, l6_lt, l6_eq, tI_m133, tI_m226, i_le, i_lt, i_eq, tI_m3, tI_m1, tI_0, tI_1, tI_50] at hb6); (try simp only [l_int, tL_0, tL_1, tL_2, tL_4, tL_5, tL_6, tL_7, tL_9, tL_10, tL_12, tL_15, tL_30, tL_40, tL_60, tL_99, tL_255, tL_1023, tL_m1, lc_lt, lc_gt, lc_ge, lc_le, lc_eq, l6_le, l6_lt, l6_eq, tI_m133, tI_m226, i_le, i_lt, i_eq, tI_m3, tI_m1, tI_0, tI_1, tI_50] at c20); (try simp only [l_int, tL_0, tL_1, tL_2, tL_4, tL_5, tL_6, tL_7, tL_9, tL_10, tL_12, tL_15, tL_30, tL_40, tL_60, tL_99, tL_255, tL_1023, tL_m1, lc_lt, lc_gt, lc_ge, lc_le, lc_eq, l6_le, l6_lt, l6_eq, tI_m133, tI_m226, i_le, i_lt, i_eq, tI_m3, tI_m1, tI_0, tI_1, tI_50]); omega)]; exact ⟨rfl, rfl⟩⟩
  · skip
    show WS layM V 2 X σ 9 [(0, rf V 0), (1, .int k)] [.int 0]
    refine WS.if_ne (tgt := 14) hx dX11_body_9 (by decide) (fun h => absurd (by decide) h) (fun _ => ?_)
    refine WS.iconst (v := (-1)) hx dX11_body_12 (by decide) ?_
    exact WS.iret hx he dX11_body_13 ⟨_, rfl, by (try dsimp only); rw [if_pos (fun h => by (try simp only [l_int, tL_0, tL_1, tL_2, tL_4, tL_5, tL_6, tL_7, tL_9, tL_10, tL_12, tL_15, tL_30, tL_40, tL_60, tL_99, tL_255, tL_1023, tL_m1, lc_lt, lc_gt, lc_ge, lc_le, lc_eq, l6_le, l6_lt, l6_eq, tI_m133, tI_m226, i_le, i_lt, i_eq, tI_m3, tI_m1, tI_0, tI_1, tI_50] at hb6); (try simp only [l_int, tL_0, tL_1, tL_2, tL_4, tL_5, tL_6, tL_7, tL_9, tL_10, tL_12, tL_15, tL_30, tL_40, tL_60, tL_99, tL_255, tL_1023, tL_m1, lc_lt, lc_gt, lc_ge, lc_le, lc_eq, l6_le, l6_lt, l6_eq, tI_m133, tI_m226, i_le, i_lt, i_eq, tI_m3, tI_m1, tI_0, tI_1, tI_50]); omega)]; exact ⟨rfl, rfl⟩⟩
def abM (k : Int32) : Int32 := if k = 3 then 2 else if k = 4 then 1 else if k = 5 then 3 else if k = 7 then 4 else 0
set_option maxHeartbeats 1000000 in
theorem c_X11_above (V : Vt) (d : Nat) (σ : Sg) (k : Int32) : CT layM V mX11_above (d) [.int k] σ (Ro (abM k) σ) := by
  refine CT.of (own := RX11) rfl (by decide) (Nat.le_of_ble_eq_true rfl) (fun X (hx : Ok V RX11 cX11_above 1 (d) X) (he : En layM V (some .int) (Ro (abM k) σ) X) => ?_)
  change WS layM V 1 X σ 0 [(0, .int k)] []
  refine WS.iload_n hx dX11_above_0 rfl 0 rfl ?_
  refine WS.iconst (v := 3) hx dX11_above_1 (by decide) ?_
  refine WS.icmp_ne (tgt := 9) hx dX11_above_2 (by decide) (fun c2 => ?_) (fun c2 => ?_)
  · skip
    show WS layM V 1 X σ 9 [(0, .int k)] []
    refine WS.iload_n hx dX11_above_9 rfl 0 rfl ?_
    refine WS.iconst (v := 4) hx dX11_above_10 (by decide) ?_
    refine WS.icmp_ne (tgt := 18) hx dX11_above_11 (by decide) (fun c11 => ?_) (fun c11 => ?_)
    · skip
      show WS layM V 1 X σ 18 [(0, .int k)] []
      refine WS.iload_n hx dX11_above_18 rfl 0 rfl ?_
      refine WS.iconst (v := 5) hx dX11_above_19 (by decide) ?_
      refine WS.icmp_ne (tgt := 27) hx dX11_above_20 (by decide) (fun c20 => ?_) (fun c20 => ?_)
      · skip
        show WS layM V 1 X σ 27 [(0, .int k)] []
        refine WS.iload_n hx dX11_above_27 rfl 0 rfl ?_
        refine WS.bipush (v := 7) hx dX11_above_28 (by decide) ?_
        refine WS.icmp_ne (tgt := 37) hx dX11_above_30 (by decide) (fun c30 => ?_) (fun c30 => ?_)
        · skip
          show WS layM V 1 X σ 37 [(0, .int k)] []
          refine WS.iconst (v := 0) hx dX11_above_37 (by decide) ?_
          exact WS.iret hx he dX11_above_38 (Ro.i (by unfold abM; rw [if_neg c2]; rw [if_neg c11]; rw [if_neg c20]; rw [if_neg c30]))
        · skip
          show WS layM V 1 X σ 33 [(0, .int k)] []
          refine WS.iconst (v := 4) hx dX11_above_33 (by decide) ?_
          refine WS.goto (tgt := 38) hx dX11_above_34 (by decide) ?_
          exact WS.iret hx he dX11_above_38 (Ro.i (by unfold abM; rw [if_neg c2]; rw [if_neg c11]; rw [if_neg c20]; rw [if_pos c30]))
      · skip
        show WS layM V 1 X σ 23 [(0, .int k)] []
        refine WS.iconst (v := 3) hx dX11_above_23 (by decide) ?_
        refine WS.goto (tgt := 38) hx dX11_above_24 (by decide) ?_
        exact WS.iret hx he dX11_above_38 (Ro.i (by unfold abM; rw [if_neg c2]; rw [if_neg c11]; rw [if_pos c20]))
    · skip
      show WS layM V 1 X σ 14 [(0, .int k)] []
      refine WS.iconst (v := 1) hx dX11_above_14 (by decide) ?_
      refine WS.goto (tgt := 38) hx dX11_above_15 (by decide) ?_
      exact WS.iret hx he dX11_above_38 (Ro.i (by unfold abM; rw [if_neg c2]; rw [if_pos c11]))
  · skip
    show WS layM V 1 X σ 5 [(0, .int k)] []
    refine WS.iconst (v := 2) hx dX11_above_5 (by decide) ?_
    refine WS.goto (tgt := 38) hx dX11_above_6 (by decide) ?_
    exact WS.iret hx he dX11_above_38 (Ro.i (by unfold abM; rw [if_pos c2]))
set_option maxHeartbeats 1000000 in
theorem c_X11_trace (V : Vt) (d : Nat) (σ : Sg) (r : Nat) (hr : σ.1 0 38 = nI r) (hr2 : r ≤ 2147483647) (i : Int32) : CT layM V mX11_trace (d) [rf V 0, .int i] σ (Ri fun v σ' => σ = σ' ∧ (trcC r i → v = σ.1 22 (nn i)) ∧ (¬ trcC r i → v = -1)) := by
  refine CT.of (own := RX11) rfl (by decide) (Nat.le_of_ble_eq_true rfl) (fun X (hx : Ok V RX11 cX11_trace 2 (d) X) (he : En layM V (some .int) (Ri fun v σ' => σ = σ' ∧ (trcC r i → v = σ.1 22 (nn i)) ∧ (¬ trcC r i → v = -1)) X) => ?_)
  change WS layM V 2 X σ 0 [(0, rf V 0), (1, .int i)] []
  have hrI : (nI r).toInt = (r : Int) := nI_c hr2
  refine WS.iload_n hx dX11_trace_0 rfl 1 rfl ?_
  refine WS.if_lt (tgt := 27) hx dX11_trace_1 (by decide) (fun c1 => ?_) (fun c1 => ?_)
  · skip
    show WS layM V 2 X σ 27 [(0, rf V 0), (1, .int i)] []
    refine WS.iconst (v := (-1)) hx dX11_trace_27 (by decide) ?_
    exact WS.iret hx he dX11_trace_28 ⟨_, rfl, rfl, fun h => by unfold trcC at h; exfalso; (try simp only [l_int, tL_0, tL_1, tL_2, tL_4, tL_5, tL_6, tL_7, tL_9, tL_10, tL_12, tL_15, tL_30, tL_40, tL_60, tL_99, tL_255, tL_1023, tL_m1, lc_lt, lc_gt, lc_ge, lc_le, lc_eq, l6_le, l6_lt, l6_eq, tI_m133, tI_m226, i_le, i_lt, i_eq, tI_m1, tI_0, tI_1, tI_24] at c1); (try simp only [l_int, tL_0, tL_1, tL_2, tL_4, tL_5, tL_6, tL_7, tL_9, tL_10, tL_12, tL_15, tL_30, tL_40, tL_60, tL_99, tL_255, tL_1023, tL_m1, lc_lt, lc_gt, lc_ge, lc_le, lc_eq, l6_le, l6_lt, l6_eq, tI_m133, tI_m226, i_le, i_lt, i_eq, tI_m1, tI_0, tI_1, tI_24]); omega, fun _ => rfl⟩
  · skip
    show WS layM V 2 X σ 4 [(0, rf V 0), (1, .int i)] []
    refine WS.iload_n hx dX11_trace_4 rfl 1 rfl ?_
    refine WS.aload_n hx dX11_trace_5 rfl 0 rfl ?_
    refine WS.getI hx okX11 lf11_322 rfl rfl dX11_trace_6 ?_
    refine WS.as rfl rfl (congrArg (fun z => Value.int z :: _) (show σ.1 0 38 = nI r from hr)) ?_
    skip
    refine WS.icmp_ge (tgt := 27) hx dX11_trace_9 (by decide) (fun c9 => ?_) (fun c9 => ?_)
    · skip
      show WS layM V 2 X σ 27 [(0, rf V 0), (1, .int i)] []
      refine WS.iconst (v := (-1)) hx dX11_trace_27 (by decide) ?_
      exact WS.iret hx he dX11_trace_28 ⟨_, rfl, rfl, fun h => by unfold trcC at h; exfalso; (try simp only [l_int, tL_0, tL_1, tL_2, tL_4, tL_5, tL_6, tL_7, tL_9, tL_10, tL_12, tL_15, tL_30, tL_40, tL_60, tL_99, tL_255, tL_1023, tL_m1, lc_lt, lc_gt, lc_ge, lc_le, lc_eq, l6_le, l6_lt, l6_eq, tI_m133, tI_m226, i_le, i_lt, i_eq, tI_m1, tI_0, tI_1, tI_24] at c1); (try simp only [l_int, tL_0, tL_1, tL_2, tL_4, tL_5, tL_6, tL_7, tL_9, tL_10, tL_12, tL_15, tL_30, tL_40, tL_60, tL_99, tL_255, tL_1023, tL_m1, lc_lt, lc_gt, lc_ge, lc_le, lc_eq, l6_le, l6_lt, l6_eq, tI_m133, tI_m226, i_le, i_lt, i_eq, tI_m1, tI_0, tI_1, tI_24] at c9); (try simp only [l_int, tL_0, tL_1, tL_2, tL_4, tL_5, tL_6, tL_7, tL_9, tL_10, tL_12, tL_15, tL_30, tL_40, tL_60, tL_99, tL_255, tL_1023, tL_m1, lc_lt, lc_gt, lc_ge, lc_le, lc_eq, l6_le, l6_lt, l6_eq, tI_m133, tI_m226, i_le, i_lt, i_eq, tI_m1, tI_0, tI_1, tI_24]); omega, fun _ => rfl⟩
    · skip
      show WS layM V 2 X σ 12 [(0, rf V 0), (1, .int i)] []
      refine WS.iload_n hx dX11_trace_12 rfl 1 rfl ?_
      refine WS.bipush (v := 24) hx dX11_trace_13 (by decide) ?_
      refine WS.icmp_ge (tgt := 27) hx dX11_trace_15 (by decide) (fun c15 => ?_) (fun c15 => ?_)
      · skip
        show WS layM V 2 X σ 27 [(0, rf V 0), (1, .int i)] []
        refine WS.iconst (v := (-1)) hx dX11_trace_27 (by decide) ?_
        exact WS.iret hx he dX11_trace_28 ⟨_, rfl, rfl, fun h => by unfold trcC at h; exfalso; (try simp only [l_int, tL_0, tL_1, tL_2, tL_4, tL_5, tL_6, tL_7, tL_9, tL_10, tL_12, tL_15, tL_30, tL_40, tL_60, tL_99, tL_255, tL_1023, tL_m1, lc_lt, lc_gt, lc_ge, lc_le, lc_eq, l6_le, l6_lt, l6_eq, tI_m133, tI_m226, i_le, i_lt, i_eq, tI_m1, tI_0, tI_1, tI_24] at c1); (try simp only [l_int, tL_0, tL_1, tL_2, tL_4, tL_5, tL_6, tL_7, tL_9, tL_10, tL_12, tL_15, tL_30, tL_40, tL_60, tL_99, tL_255, tL_1023, tL_m1, lc_lt, lc_gt, lc_ge, lc_le, lc_eq, l6_le, l6_lt, l6_eq, tI_m133, tI_m226, i_le, i_lt, i_eq, tI_m1, tI_0, tI_1, tI_24] at c9); (try simp only [l_int, tL_0, tL_1, tL_2, tL_4, tL_5, tL_6, tL_7, tL_9, tL_10, tL_12, tL_15, tL_30, tL_40, tL_60, tL_99, tL_255, tL_1023, tL_m1, lc_lt, lc_gt, lc_ge, lc_le, lc_eq, l6_le, l6_lt, l6_eq, tI_m133, tI_m226, i_le, i_lt, i_eq, tI_m1, tI_0, tI_1, tI_24] at c15); (try simp only [l_int, tL_0, tL_1, tL_2, tL_4, tL_5, tL_6, tL_7, tL_9, tL_10, tL_12, tL_15, tL_30, tL_40, tL_60, tL_99, tL_255, tL_1023, tL_m1, lc_lt, lc_gt, lc_ge, lc_le, lc_eq, l6_le, l6_lt, l6_eq, tI_m133, tI_m226, i_le, i_lt, i_eq, tI_m1, tI_0, tI_1, tI_24]); omega, fun _ => rfl⟩
      · skip
        show WS layM V 2 X σ 18 [(0, rf V 0), (1, .int i)] []
        refine WS.aload_n hx dX11_trace_18 rfl 0 rfl ?_
        refine WS.getR hx okX11 lf11_74 rfl rfl dX11_trace_19 ?_
        refine WS.iload_n hx dX11_trace_22 rfl 1 rfl ?_
        refine WS.iald hx rfl (vp_in_iff.mpr (by (try simp only [l_int, tL_0, tL_1, tL_2, tL_4, tL_5, tL_6, tL_7, tL_9, tL_10, tL_12, tL_15, tL_30, tL_40, tL_60, tL_99, tL_255, tL_1023, tL_m1, lc_lt, lc_gt, lc_ge, lc_le, lc_eq, l6_le, l6_lt, l6_eq, tI_m133, tI_m226, i_le, i_lt, i_eq, tI_m1, tI_0, tI_1, tI_24] at c1); (try simp only [l_int, tL_0, tL_1, tL_2, tL_4, tL_5, tL_6, tL_7, tL_9, tL_10, tL_12, tL_15, tL_30, tL_40, tL_60, tL_99, tL_255, tL_1023, tL_m1, lc_lt, lc_gt, lc_ge, lc_le, lc_eq, l6_le, l6_lt, l6_eq, tI_m133, tI_m226, i_le, i_lt, i_eq, tI_m1, tI_0, tI_1, tI_24] at c9); (try simp only [l_int, tL_0, tL_1, tL_2, tL_4, tL_5, tL_6, tL_7, tL_9, tL_10, tL_12, tL_15, tL_30, tL_40, tL_60, tL_99, tL_255, tL_1023, tL_m1, lc_lt, lc_gt, lc_ge, lc_le, lc_eq, l6_le, l6_lt, l6_eq, tI_m133, tI_m226, i_le, i_lt, i_eq, tI_m1, tI_0, tI_1, tI_24] at c15); omega)) dX11_trace_23 ?_
        refine WS.goto (tgt := 28) hx dX11_trace_24 (by decide) ?_
        exact WS.iret hx he dX11_trace_28 ⟨_, rfl, rfl, fun _ => rfl, fun h => absurd (show trcC r i from by unfold trcC; (try simp only [l_int, tL_0, tL_1, tL_2, tL_4, tL_5, tL_6, tL_7, tL_9, tL_10, tL_12, tL_15, tL_30, tL_40, tL_60, tL_99, tL_255, tL_1023, tL_m1, lc_lt, lc_gt, lc_ge, lc_le, lc_eq, l6_le, l6_lt, l6_eq, tI_m133, tI_m226, i_le, i_lt, i_eq, tI_m1, tI_0, tI_1, tI_24] at c1); (try simp only [l_int, tL_0, tL_1, tL_2, tL_4, tL_5, tL_6, tL_7, tL_9, tL_10, tL_12, tL_15, tL_30, tL_40, tL_60, tL_99, tL_255, tL_1023, tL_m1, lc_lt, lc_gt, lc_ge, lc_le, lc_eq, l6_le, l6_lt, l6_eq, tI_m133, tI_m226, i_le, i_lt, i_eq, tI_m1, tI_0, tI_1, tI_24] at c9); (try simp only [l_int, tL_0, tL_1, tL_2, tL_4, tL_5, tL_6, tL_7, tL_9, tL_10, tL_12, tL_15, tL_30, tL_40, tL_60, tL_99, tL_255, tL_1023, tL_m1, lc_lt, lc_gt, lc_ge, lc_le, lc_eq, l6_le, l6_lt, l6_eq, tI_m133, tI_m226, i_le, i_lt, i_eq, tI_m1, tI_0, tI_1, tI_24] at c15); (try simp only [l_int, tL_0, tL_1, tL_2, tL_4, tL_5, tL_6, tL_7, tL_9, tL_10, tL_12, tL_15, tL_30, tL_40, tL_60, tL_99, tL_255, tL_1023, tL_m1, lc_lt, lc_gt, lc_ge, lc_le, lc_eq, l6_le, l6_lt, l6_eq, tI_m133, tI_m226, i_le, i_lt, i_eq, tI_m1, tI_0, tI_1, tI_24]); omega) h⟩
set_option maxHeartbeats 1000000 in
theorem c_X11_keep (V : Vt) (d : Nat) (σ : Sg) (z : Nat) (hz : σ.1 0 35 = nI z) (hz2 : z ≤ 50) (f x : Int32) : CT layM V mX11_keep (d + 2) [rf V 0, .int f, .int x] σ (Ri fun v σ' => (if ¬ ((0 ≤ f.toInt ∧ f.toInt ≤ 5) ∧ (x.toInt = -1 ∨ (0 ≤ x.toInt ∧ x.toInt < z))) then v = -1 ∧ σ' = σ else (v = 1 ∧ σ' = stI (stI σ 23 (nn f) x) 24 (nn f) 0))) := by
  refine CT.of (own := RX11) rfl (by decide) (Nat.le_of_ble_eq_true rfl) (fun X (hx : Ok V RX11 cX11_keep 3 (d + 2) X) (he : En layM V (some .int) (Ri fun v σ' => (if ¬ ((0 ≤ f.toInt ∧ f.toInt ≤ 5) ∧ (x.toInt = -1 ∨ (0 ≤ x.toInt ∧ x.toInt < z))) then v = -1 ∧ σ' = σ else (v = 1 ∧ σ' = stI (stI σ 23 (nn f) x) 24 (nn f) 0))) X) => ?_)
  change WS layM V 3 X σ 0 [(0, rf V 0), (1, .int f), (2, .int x)] []
  refine WS.iload_n hx dX11_keep_0 rfl 1 rfl ?_
  refine WS.callSi (st := []) [.int f] hx (c_X11_isShelf V d σ f) okX11_isShelf lm11_119 rfl rfl (Nat.le_of_ble_eq_true rfl) dX11_keep_1 (fun v1 σ2 h3 => ?_)
  rcases h3 with ⟨rfl, rfl, hb1⟩ | ⟨rfl, rfl, hb1⟩
  · skip
    show WS layM V 3 X σ 4 [(0, rf V 0), (1, .int f), (2, .int x)] [.int 1]
    refine WS.if_eq (tgt := 20) hx dX11_keep_4 (by decide) (fun h => absurd h (by decide)) (fun _ => ?_)
    refine WS.iload_n hx dX11_keep_7 rfl 2 rfl ?_
    refine WS.iconst (v := (-1)) hx dX11_keep_8 (by decide) ?_
    refine WS.icmp_eq (tgt := 22) hx dX11_keep_9 (by decide) (fun c9 => ?_) (fun c9 => ?_)
    · skip
      show WS layM V 3 X σ 22 [(0, rf V 0), (1, .int f), (2, .int x)] []
      refine WS.aload_n hx dX11_keep_22 rfl 0 rfl ?_
      refine WS.getR hx okX11 lf11_77 rfl rfl dX11_keep_23 ?_
      refine WS.iload_n hx dX11_keep_26 rfl 1 rfl ?_
      refine WS.iload_n hx dX11_keep_27 rfl 2 rfl ?_
      refine WS.iast hx rfl (sh_in hb1) dX11_keep_28 ?_
      refine WS.aload_n hx dX11_keep_29 rfl 0 rfl ?_
      refine WS.getR hx okX11 lf11_80 rfl rfl dX11_keep_30 ?_
      refine WS.iload_n hx dX11_keep_33 rfl 1 rfl ?_
      refine WS.iconst (v := 0) hx dX11_keep_34 (by decide) ?_
      refine WS.iast hx rfl (sh_in hb1) dX11_keep_35 ?_
      refine WS.iconst (v := 1) hx dX11_keep_36 (by decide) ?_
      exact WS.iret hx he dX11_keep_37 ⟨_, rfl, by (try dsimp only); rw [if_neg (fun h => h (by (try simp only [l_int, tL_0, tL_1, tL_2, tL_4, tL_5, tL_6, tL_7, tL_9, tL_10, tL_12, tL_15, tL_30, tL_40, tL_60, tL_99, tL_255, tL_1023, tL_m1, lc_lt, lc_gt, lc_ge, lc_le, lc_eq, l6_le, l6_lt, l6_eq, tI_m133, tI_m226, i_le, i_lt, i_eq, tI_m1, tI_0, tI_1] at hb1); (try simp only [l_int, tL_0, tL_1, tL_2, tL_4, tL_5, tL_6, tL_7, tL_9, tL_10, tL_12, tL_15, tL_30, tL_40, tL_60, tL_99, tL_255, tL_1023, tL_m1, lc_lt, lc_gt, lc_ge, lc_le, lc_eq, l6_le, l6_lt, l6_eq, tI_m133, tI_m226, i_le, i_lt, i_eq, tI_m1, tI_0, tI_1] at c9); omega))]; exact ⟨rfl, rfl⟩⟩
    · skip
      show WS layM V 3 X σ 12 [(0, rf V 0), (1, .int f), (2, .int x)] []
      refine WS.aload_n hx dX11_keep_12 rfl 0 rfl ?_
      refine WS.iload_n hx dX11_keep_13 rfl 2 rfl ?_
      refine WS.callVi (st := []) [.int x] hx (c_X11_isBody V d σ z hz hz2 x) okX11_isBody lm11_346 rfl rfl rfl rfl (Nat.le_of_ble_eq_true rfl) dX11_keep_14 (fun v4 σ5 h6 => ?_)
      rcases h6 with ⟨rfl, rfl, hb14⟩ | ⟨rfl, rfl, hb14⟩
      · skip
        show WS layM V 3 X σ 17 [(0, rf V 0), (1, .int f), (2, .int x)] [.int 1]
        refine WS.if_ne (tgt := 22) hx dX11_keep_17 (by decide) (fun _ => ?_) (fun h => absurd h (by decide))
        refine WS.aload_n hx dX11_keep_22 rfl 0 rfl ?_
        refine WS.getR hx okX11 lf11_77 rfl rfl dX11_keep_23 ?_
        refine WS.iload_n hx dX11_keep_26 rfl 1 rfl ?_
        refine WS.iload_n hx dX11_keep_27 rfl 2 rfl ?_
        refine WS.iast hx rfl (sh_in hb1) dX11_keep_28 ?_
        refine WS.aload_n hx dX11_keep_29 rfl 0 rfl ?_
        refine WS.getR hx okX11 lf11_80 rfl rfl dX11_keep_30 ?_
        refine WS.iload_n hx dX11_keep_33 rfl 1 rfl ?_
        refine WS.iconst (v := 0) hx dX11_keep_34 (by decide) ?_
        refine WS.iast hx rfl (sh_in hb1) dX11_keep_35 ?_
        refine WS.iconst (v := 1) hx dX11_keep_36 (by decide) ?_
        exact WS.iret hx he dX11_keep_37 ⟨_, rfl, by (try dsimp only); rw [if_neg (fun h => h (by (try simp only [l_int, tL_0, tL_1, tL_2, tL_4, tL_5, tL_6, tL_7, tL_9, tL_10, tL_12, tL_15, tL_30, tL_40, tL_60, tL_99, tL_255, tL_1023, tL_m1, lc_lt, lc_gt, lc_ge, lc_le, lc_eq, l6_le, l6_lt, l6_eq, tI_m133, tI_m226, i_le, i_lt, i_eq, tI_m1, tI_0, tI_1] at hb1); (try simp only [l_int, tL_0, tL_1, tL_2, tL_4, tL_5, tL_6, tL_7, tL_9, tL_10, tL_12, tL_15, tL_30, tL_40, tL_60, tL_99, tL_255, tL_1023, tL_m1, lc_lt, lc_gt, lc_ge, lc_le, lc_eq, l6_le, l6_lt, l6_eq, tI_m133, tI_m226, i_le, i_lt, i_eq, tI_m1, tI_0, tI_1] at c9); (try simp only [l_int, tL_0, tL_1, tL_2, tL_4, tL_5, tL_6, tL_7, tL_9, tL_10, tL_12, tL_15, tL_30, tL_40, tL_60, tL_99, tL_255, tL_1023, tL_m1, lc_lt, lc_gt, lc_ge, lc_le, lc_eq, l6_le, l6_lt, l6_eq, tI_m133, tI_m226, i_le, i_lt, i_eq, tI_m1, tI_0, tI_1] at hb14); omega))]; exact ⟨rfl, rfl⟩⟩
      · skip
        show WS layM V 3 X σ 17 [(0, rf V 0), (1, .int f), (2, .int x)] [.int 0]
        refine WS.if_ne (tgt := 22) hx dX11_keep_17 (by decide) (fun h => absurd (by decide) h) (fun _ => ?_)
        refine WS.iconst (v := (-1)) hx dX11_keep_20 (by decide) ?_
        exact WS.iret hx he dX11_keep_21 ⟨_, rfl, by (try dsimp only); rw [if_pos (fun h => by (try simp only [l_int, tL_0, tL_1, tL_2, tL_4, tL_5, tL_6, tL_7, tL_9, tL_10, tL_12, tL_15, tL_30, tL_40, tL_60, tL_99, tL_255, tL_1023, tL_m1, lc_lt, lc_gt, lc_ge, lc_le, lc_eq, l6_le, l6_lt, l6_eq, tI_m133, tI_m226, i_le, i_lt, i_eq, tI_m1, tI_0, tI_1] at hb1); (try simp only [l_int, tL_0, tL_1, tL_2, tL_4, tL_5, tL_6, tL_7, tL_9, tL_10, tL_12, tL_15, tL_30, tL_40, tL_60, tL_99, tL_255, tL_1023, tL_m1, lc_lt, lc_gt, lc_ge, lc_le, lc_eq, l6_le, l6_lt, l6_eq, tI_m133, tI_m226, i_le, i_lt, i_eq, tI_m1, tI_0, tI_1] at c9); (try simp only [l_int, tL_0, tL_1, tL_2, tL_4, tL_5, tL_6, tL_7, tL_9, tL_10, tL_12, tL_15, tL_30, tL_40, tL_60, tL_99, tL_255, tL_1023, tL_m1, lc_lt, lc_gt, lc_ge, lc_le, lc_eq, l6_le, l6_lt, l6_eq, tI_m133, tI_m226, i_le, i_lt, i_eq, tI_m1, tI_0, tI_1] at hb14); (try simp only [l_int, tL_0, tL_1, tL_2, tL_4, tL_5, tL_6, tL_7, tL_9, tL_10, tL_12, tL_15, tL_30, tL_40, tL_60, tL_99, tL_255, tL_1023, tL_m1, lc_lt, lc_gt, lc_ge, lc_le, lc_eq, l6_le, l6_lt, l6_eq, tI_m133, tI_m226, i_le, i_lt, i_eq, tI_m1, tI_0, tI_1]); omega)]; exact ⟨rfl, rfl⟩⟩
  · skip
    show WS layM V 3 X σ 4 [(0, rf V 0), (1, .int f), (2, .int x)] [.int 0]
    refine WS.if_eq (tgt := 20) hx dX11_keep_4 (by decide) (fun _ => ?_) (fun h => absurd (by decide) h)
    refine WS.iconst (v := (-1)) hx dX11_keep_20 (by decide) ?_
    exact WS.iret hx he dX11_keep_21 ⟨_, rfl, by (try dsimp only); rw [if_pos (fun h => by (try simp only [l_int, tL_0, tL_1, tL_2, tL_4, tL_5, tL_6, tL_7, tL_9, tL_10, tL_12, tL_15, tL_30, tL_40, tL_60, tL_99, tL_255, tL_1023, tL_m1, lc_lt, lc_gt, lc_ge, lc_le, lc_eq, l6_le, l6_lt, l6_eq, tI_m133, tI_m226, i_le, i_lt, i_eq, tI_m1, tI_0, tI_1] at hb1); (try simp only [l_int, tL_0, tL_1, tL_2, tL_4, tL_5, tL_6, tL_7, tL_9, tL_10, tL_12, tL_15, tL_30, tL_40, tL_60, tL_99, tL_255, tL_1023, tL_m1, lc_lt, lc_gt, lc_ge, lc_le, lc_eq, l6_le, l6_lt, l6_eq, tI_m133, tI_m226, i_le, i_lt, i_eq, tI_m1, tI_0, tI_1]); omega)]; exact ⟨rfl, rfl⟩⟩

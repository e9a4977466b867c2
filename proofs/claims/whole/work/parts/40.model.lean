theorem l_int (x : Int32) : (Int32.toInt64 x).toInt = x.toInt := Int32.toInt_toInt64 x
theorem l6_le {x y : Int64} : x ≤ y ↔ x.toInt ≤ y.toInt := Int64.le_iff_toInt_le
theorem l6_lt {x y : Int64} : x < y ↔ x.toInt < y.toInt := Int64.lt_iff_toInt_lt
theorem l6_eq {x y : Int64} : x = y ↔ x.toInt = y.toInt := Int64.toInt_inj.symm
theorem tL_0 : (0 : Int64).toInt = 0 := by decide
theorem tL_1 : (1 : Int64).toInt = 1 := by decide
theorem tL_2 : (2 : Int64).toInt = 2 := by decide
theorem tL_4 : (4 : Int64).toInt = 4 := by decide
theorem tL_5 : (5 : Int64).toInt = 5 := by decide
theorem tL_6 : (6 : Int64).toInt = 6 := by decide
theorem tL_7 : (7 : Int64).toInt = 7 := by decide
theorem tL_9 : (9 : Int64).toInt = 9 := by decide
theorem tL_10 : (10 : Int64).toInt = 10 := by decide
theorem tL_12 : (12 : Int64).toInt = 12 := by decide
theorem tL_15 : (15 : Int64).toInt = 15 := by decide
theorem tL_30 : (30 : Int64).toInt = 30 := by decide
theorem tL_40 : (40 : Int64).toInt = 40 := by decide
theorem tL_60 : (60 : Int64).toInt = 60 := by decide
theorem tL_99 : (99 : Int64).toInt = 99 := by decide
theorem tL_255 : (255 : Int64).toInt = 255 := by decide
theorem tL_1023 : (1023 : Int64).toInt = 1023 := by decide
theorem tL_m1 : (-1 : Int64).toInt = -1 := by decide
theorem lc_lt {x y : Int64} : (lg_cmp x y).toInt < 0 ↔ x.toInt < y.toInt := by rw [← l6_lt, ← lg_cmp_lt, i_lt, tI_0]
theorem lc_gt {x y : Int64} : 0 < (lg_cmp x y).toInt ↔ y.toInt < x.toInt := by rw [← l6_lt, ← lg_cmp_gt, i_lt, tI_0]
theorem lc_ge {x y : Int64} : 0 ≤ (lg_cmp x y).toInt ↔ y.toInt ≤ x.toInt := by rw [← l6_le, ← lg_cmp_ge, i_le, tI_0]
theorem lc_le {x y : Int64} : (lg_cmp x y).toInt ≤ 0 ↔ x.toInt ≤ y.toInt := by rw [← l6_le, ← lg_cmp_le, i_le, tI_0]
theorem lc_eq {x y : Int64} : (lg_cmp x y).toInt = 0 ↔ x.toInt = y.toInt := by rw [← l6_eq, ← lg_cmp_eq, i_eq, tI_0]
set_option maxHeartbeats 1000000 in
theorem c_X11_within (V : Vt) (d : Nat) (σ : Sg) (a b c : Int64) : CT layM V mX11_within (d) [.long a, .long b, .long c] σ (Rb (b.toInt ≤ a.toInt ∧ a.toInt ≤ c.toInt) σ) := by
  refine CT.of (own := RX11) rfl (by decide) (Nat.le_of_ble_eq_true rfl) (fun X (hx : Ok V RX11 cX11_within 6 (d) X) (he : En layM V (some .boolean) (Rb (b.toInt ≤ a.toInt ∧ a.toInt ≤ c.toInt) σ) X) => ?_)
  change WS layM V 6 X σ 0 [(0, .long a), (2, .long b), (4, .long c)] []
  refine WS.lload_n hx dX11_within_0 rfl 0 rfl ?_
  refine WS.lload_n hx dX11_within_1 rfl 1 rfl ?_
  refine WS.lcmp hx dX11_within_2 ?_
  refine WS.if_lt (tgt := 17) hx dX11_within_3 (by decide) (fun c3 => ?_) (fun c3 => ?_)
  · skip
    show WS layM V 6 X σ 17 [(0, .long a), (2, .long b), (4, .long c)] []
    refine WS.iconst (v := 0) hx dX11_within_17 (by decide) ?_
    exact WS.zret hx he dX11_within_18 (Or.inl rfl) (Rb.f (by (try simp only [l_int, tL_0, tL_1, tL_2, tL_4, tL_5, tL_6, tL_7, tL_9, tL_10, tL_12, tL_15, tL_30, tL_40, tL_60, tL_99, tL_255, tL_1023, tL_m1, lc_lt, lc_gt, lc_ge, lc_le, lc_eq, l6_le, l6_lt, l6_eq, i_le, i_lt, i_eq, tI_0, tI_1] at c3); (try simp only [l_int, tL_0, tL_1, tL_2, tL_4, tL_5, tL_6, tL_7, tL_9, tL_10, tL_12, tL_15, tL_30, tL_40, tL_60, tL_99, tL_255, tL_1023, tL_m1, lc_lt, lc_gt, lc_ge, lc_le, lc_eq, l6_le, l6_lt, l6_eq, i_le, i_lt, i_eq, tI_0, tI_1]); omega))
  · skip
    show WS layM V 6 X σ 6 [(0, .long a), (2, .long b), (4, .long c)] []
    refine WS.lload_n hx dX11_within_6 rfl 0 rfl ?_
    refine WS.lload hx dX11_within_7 2 rfl ?_
    refine WS.lcmp hx dX11_within_9 ?_
    refine WS.if_gt (tgt := 17) hx dX11_within_10 (by decide) (fun c10 => ?_) (fun c10 => ?_)
    · skip
      show WS layM V 6 X σ 17 [(0, .long a), (2, .long b), (4, .long c)] []
      refine WS.iconst (v := 0) hx dX11_within_17 (by decide) ?_
      exact WS.zret hx he dX11_within_18 (Or.inl rfl) (Rb.f (by (try simp only [l_int, tL_0, tL_1, tL_2, tL_4, tL_5, tL_6, tL_7, tL_9, tL_10, tL_12, tL_15, tL_30, tL_40, tL_60, tL_99, tL_255, tL_1023, tL_m1, lc_lt, lc_gt, lc_ge, lc_le, lc_eq, l6_le, l6_lt, l6_eq, i_le, i_lt, i_eq, tI_0, tI_1] at c3); (try simp only [l_int, tL_0, tL_1, tL_2, tL_4, tL_5, tL_6, tL_7, tL_9, tL_10, tL_12, tL_15, tL_30, tL_40, tL_60, tL_99, tL_255, tL_1023, tL_m1, lc_lt, lc_gt, lc_ge, lc_le, lc_eq, l6_le, l6_lt, l6_eq, i_le, i_lt, i_eq, tI_0, tI_1] at c10); (try simp only [l_int, tL_0, tL_1, tL_2, tL_4, tL_5, tL_6, tL_7, tL_9, tL_10, tL_12, tL_15, tL_30, tL_40, tL_60, tL_99, tL_255, tL_1023, tL_m1, lc_lt, lc_gt, lc_ge, lc_le, lc_eq, l6_le, l6_lt, l6_eq, i_le, i_lt, i_eq, tI_0, tI_1]); omega))
    · skip
      show WS layM V 6 X σ 13 [(0, .long a), (2, .long b), (4, .long c)] []
      refine WS.iconst (v := 1) hx dX11_within_13 (by decide) ?_
      refine WS.goto (tgt := 18) hx dX11_within_14 (by decide) ?_
      exact WS.zret hx he dX11_within_18 (Or.inr rfl) (Rb.t (by (try simp only [l_int, tL_0, tL_1, tL_2, tL_4, tL_5, tL_6, tL_7, tL_9, tL_10, tL_12, tL_15, tL_30, tL_40, tL_60, tL_99, tL_255, tL_1023, tL_m1, lc_lt, lc_gt, lc_ge, lc_le, lc_eq, l6_le, l6_lt, l6_eq, i_le, i_lt, i_eq, tI_0, tI_1] at c3); (try simp only [l_int, tL_0, tL_1, tL_2, tL_4, tL_5, tL_6, tL_7, tL_9, tL_10, tL_12, tL_15, tL_30, tL_40, tL_60, tL_99, tL_255, tL_1023, tL_m1, lc_lt, lc_gt, lc_ge, lc_le, lc_eq, l6_le, l6_lt, l6_eq, i_le, i_lt, i_eq, tI_0, tI_1] at c10); (try simp only [l_int, tL_0, tL_1, tL_2, tL_4, tL_5, tL_6, tL_7, tL_9, tL_10, tL_12, tL_15, tL_30, tL_40, tL_60, tL_99, tL_255, tL_1023, tL_m1, lc_lt, lc_gt, lc_ge, lc_le, lc_eq, l6_le, l6_lt, l6_eq, i_le, i_lt, i_eq, tI_0, tI_1]); omega))
set_option maxHeartbeats 1000000 in
theorem c_X11_isThought (V : Vt) (d : Nat) (σ : Sg) (a : Int64) : CT layM V mX11_isThought (d + 1) [.long a] σ (Rb (0 ≤ a.toInt ∧ a.toInt ≤ 15) σ) := by
  refine CT.of (own := RX11) rfl (by decide) (Nat.le_of_ble_eq_true rfl) (fun X (hx : Ok V RX11 cX11_isThought 2 (d + 1) X) (he : En layM V (some .boolean) (Rb (0 ≤ a.toInt ∧ a.toInt ≤ 15) σ) X) => ?_)
  change WS layM V 2 X σ 0 [(0, .long a)] []
  refine WS.lload_n hx dX11_isThought_0 rfl 0 rfl ?_
  refine WS.lconst (v := 0) hx dX11_isThought_1 rfl ?_
  refine WS.ldc2 (v := 15) hx lc11_104 dX11_isThought_2 ?_
  refine WS.callSi (st := []) [.long a, .long 0, .long 15] hx (c_X11_within V d σ a 0 15) okX11_within lm11_100 rfl rfl (Nat.le_of_ble_eq_true rfl) dX11_isThought_5 (fun v1 σ2 h3 => ?_)
  rcases h3 with ⟨rfl, rfl, hb5⟩ | ⟨rfl, rfl, hb5⟩
  · skip
    show WS layM V 2 X σ 8 [(0, .long a)] [.int 1]
    exact WS.zret hx he dX11_isThought_8 (Or.inr rfl) (Rb.t (by (try simp only [l_int, tL_0, tL_1, tL_2, tL_4, tL_5, tL_6, tL_7, tL_9, tL_10, tL_12, tL_15, tL_30, tL_40, tL_60, tL_99, tL_255, tL_1023, tL_m1, lc_lt, lc_gt, lc_ge, lc_le, lc_eq, l6_le, l6_lt, l6_eq, i_le, i_lt, i_eq, tI_0, tI_1] at hb5); (try simp only [l_int, tL_0, tL_1, tL_2, tL_4, tL_5, tL_6, tL_7, tL_9, tL_10, tL_12, tL_15, tL_30, tL_40, tL_60, tL_99, tL_255, tL_1023, tL_m1, lc_lt, lc_gt, lc_ge, lc_le, lc_eq, l6_le, l6_lt, l6_eq, i_le, i_lt, i_eq, tI_0, tI_1]); omega))
  · skip
    show WS layM V 2 X σ 8 [(0, .long a)] [.int 0]
    exact WS.zret hx he dX11_isThought_8 (Or.inl rfl) (Rb.f (by (try simp only [l_int, tL_0, tL_1, tL_2, tL_4, tL_5, tL_6, tL_7, tL_9, tL_10, tL_12, tL_15, tL_30, tL_40, tL_60, tL_99, tL_255, tL_1023, tL_m1, lc_lt, lc_gt, lc_ge, lc_le, lc_eq, l6_le, l6_lt, l6_eq, i_le, i_lt, i_eq, tI_0, tI_1] at hb5); (try simp only [l_int, tL_0, tL_1, tL_2, tL_4, tL_5, tL_6, tL_7, tL_9, tL_10, tL_12, tL_15, tL_30, tL_40, tL_60, tL_99, tL_255, tL_1023, tL_m1, lc_lt, lc_gt, lc_ge, lc_le, lc_eq, l6_le, l6_lt, l6_eq, i_le, i_lt, i_eq, tI_0, tI_1]); omega))
set_option maxHeartbeats 1000000 in
theorem c_X11_mayCome (V : Vt) (d : Nat) (σ : Sg) (a b c : Int64) : CT layM V mX11_mayCome (d + 2) [.long a, .long b, .long c] σ (Rb ((0 ≤ a.toInt ∧ a.toInt ≤ 9) ∧ (0 ≤ b.toInt ∧ b.toInt ≤ 15) ∧ (0 ≤ c.toInt ∧ c.toInt ≤ 9)) σ) := by
  refine CT.of (own := RX11) rfl (by decide) (Nat.le_of_ble_eq_true rfl) (fun X (hx : Ok V RX11 cX11_mayCome 6 (d + 2) X) (he : En layM V (some .boolean) (Rb ((0 ≤ a.toInt ∧ a.toInt ≤ 9) ∧ (0 ≤ b.toInt ∧ b.toInt ≤ 15) ∧ (0 ≤ c.toInt ∧ c.toInt ≤ 9)) σ) X) => ?_)
  change WS layM V 6 X σ 0 [(0, .long a), (2, .long b), (4, .long c)] []
  refine WS.lload_n hx dX11_mayCome_0 rfl 0 rfl ?_
  refine WS.lconst (v := 0) hx dX11_mayCome_1 rfl ?_
  refine WS.ldc2 (v := 9) hx lc11_106 dX11_mayCome_2 ?_
  refine WS.callSi (st := []) [.long a, .long 0, .long 9] hx (c_X11_within V (d + 1) σ a 0 9) okX11_within lm11_100 rfl rfl (Nat.le_of_ble_eq_true rfl) dX11_mayCome_5 (fun v1 σ2 h3 => ?_)
  rcases h3 with ⟨rfl, rfl, hb5⟩ | ⟨rfl, rfl, hb5⟩
  · skip
    show WS layM V 6 X σ 8 [(0, .long a), (2, .long b), (4, .long c)] [.int 1]
    refine WS.if_eq (tgt := 34) hx dX11_mayCome_8 (by decide) (fun h => absurd h (by decide)) (fun _ => ?_)
    refine WS.lload_n hx dX11_mayCome_11 rfl 1 rfl ?_
    refine WS.callSi (st := []) [.long b] hx (c_X11_isThought V d σ b) okX11_isThought lm11_108 rfl rfl (Nat.le_of_ble_eq_true rfl) dX11_mayCome_12 (fun v4 σ5 h6 => ?_)
    rcases h6 with ⟨rfl, rfl, hb12⟩ | ⟨rfl, rfl, hb12⟩
    · skip
      show WS layM V 6 X σ 15 [(0, .long a), (2, .long b), (4, .long c)] [.int 1]
      refine WS.if_eq (tgt := 34) hx dX11_mayCome_15 (by decide) (fun h => absurd h (by decide)) (fun _ => ?_)
      refine WS.lload hx dX11_mayCome_18 2 rfl ?_
      refine WS.lconst (v := 0) hx dX11_mayCome_20 rfl ?_
      refine WS.ldc2 (v := 9) hx lc11_106 dX11_mayCome_21 ?_
      refine WS.callSi (st := []) [.long c, .long 0, .long 9] hx (c_X11_within V (d + 1) σ c 0 9) okX11_within lm11_100 rfl rfl (Nat.le_of_ble_eq_true rfl) dX11_mayCome_24 (fun v7 σ8 h9 => ?_)
      rcases h9 with ⟨rfl, rfl, hb24⟩ | ⟨rfl, rfl, hb24⟩
      · skip
        show WS layM V 6 X σ 27 [(0, .long a), (2, .long b), (4, .long c)] [.int 1]
        refine WS.if_eq (tgt := 34) hx dX11_mayCome_27 (by decide) (fun h => absurd h (by decide)) (fun _ => ?_)
        refine WS.iconst (v := 1) hx dX11_mayCome_30 (by decide) ?_
        refine WS.goto (tgt := 35) hx dX11_mayCome_31 (by decide) ?_
        exact WS.zret hx he dX11_mayCome_35 (Or.inr rfl) (Rb.t (by (try simp only [l_int, tL_0, tL_1, tL_2, tL_4, tL_5, tL_6, tL_7, tL_9, tL_10, tL_12, tL_15, tL_30, tL_40, tL_60, tL_99, tL_255, tL_1023, tL_m1, lc_lt, lc_gt, lc_ge, lc_le, lc_eq, l6_le, l6_lt, l6_eq, i_le, i_lt, i_eq, tI_0, tI_1] at hb5); (try simp only [l_int, tL_0, tL_1, tL_2, tL_4, tL_5, tL_6, tL_7, tL_9, tL_10, tL_12, tL_15, tL_30, tL_40, tL_60, tL_99, tL_255, tL_1023, tL_m1, lc_lt, lc_gt, lc_ge, lc_le, lc_eq, l6_le, l6_lt, l6_eq, i_le, i_lt, i_eq, tI_0, tI_1] at hb12); (try simp only [l_int, tL_0, tL_1, tL_2, tL_4, tL_5, tL_6, tL_7, tL_9, tL_10, tL_12, tL_15, tL_30, tL_40, tL_60, tL_99, tL_255, tL_1023, tL_m1, lc_lt, lc_gt, lc_ge, lc_le, lc_eq, l6_le, l6_lt, l6_eq, i_le, i_lt, i_eq, tI_0, tI_1] at hb24); (try simp only [l_int, tL_0, tL_1, tL_2, tL_4, tL_5, tL_6, tL_7, tL_9, tL_10, tL_12, tL_15, tL_30, tL_40, tL_60, tL_99, tL_255, tL_1023, tL_m1, lc_lt, lc_gt, lc_ge, lc_le, lc_eq, l6_le, l6_lt, l6_eq, i_le, i_lt, i_eq, tI_0, tI_1]); omega))
      · skip
        show WS layM V 6 X σ 27 [(0, .long a), (2, .long b), (4, .long c)] [.int 0]
        refine WS.if_eq (tgt := 34) hx dX11_mayCome_27 (by decide) (fun _ => ?_) (fun h => absurd (by decide) h)
        refine WS.iconst (v := 0) hx dX11_mayCome_34 (by decide) ?_
        exact WS.zret hx he dX11_mayCome_35 (Or.inl rfl) (Rb.f (by (try simp only [l_int, tL_0, tL_1, tL_2, tL_4, tL_5, tL_6, tL_7, tL_9, tL_10, tL_12, tL_15, tL_30, tL_40, tL_60, tL_99, tL_255, tL_1023, tL_m1, lc_lt, lc_gt, lc_ge, lc_le, lc_eq, l6_le, l6_lt, l6_eq, i_le, i_lt, i_eq, tI_0, tI_1] at hb5); (try simp only [l_int, tL_0, tL_1, tL_2, tL_4, tL_5, tL_6, tL_7, tL_9, tL_10, tL_12, tL_15, tL_30, tL_40, tL_60, tL_99, tL_255, tL_1023, tL_m1, lc_lt, lc_gt, lc_ge, lc_le, lc_eq, l6_le, l6_lt, l6_eq, i_le, i_lt, i_eq, tI_0, tI_1] at hb12); (try simp only [l_int, tL_0, tL_1, tL_2, tL_4, tL_5, tL_6, tL_7, tL_9, tL_10, tL_12, tL_15, tL_30, tL_40, tL_60, tL_99, tL_255, tL_1023, tL_m1, lc_lt, lc_gt, lc_ge, lc_le, lc_eq, l6_le, l6_lt, l6_eq, i_le, i_lt, i_eq, tI_0, tI_1] at hb24); (try simp only [l_int, tL_0, tL_1, tL_2, tL_4, tL_5, tL_6, tL_7, tL_9, tL_10, tL_12, tL_15, tL_30, tL_40, tL_60, tL_99, tL_255, tL_1023, tL_m1, lc_lt, lc_gt, lc_ge, lc_le, lc_eq, l6_le, l6_lt, l6_eq, i_le, i_lt, i_eq, tI_0, tI_1]); omega))
    · skip
      show WS layM V 6 X σ 15 [(0, .long a), (2, .long b), (4, .long c)] [.int 0]
      refine WS.if_eq (tgt := 34) hx dX11_mayCome_15 (by decide) (fun _ => ?_) (fun h => absurd (by decide) h)
      refine WS.iconst (v := 0) hx dX11_mayCome_34 (by decide) ?_
      exact WS.zret hx he dX11_mayCome_35 (Or.inl rfl) (Rb.f (by (try simp only [l_int, tL_0, tL_1, tL_2, tL_4, tL_5, tL_6, tL_7, tL_9, tL_10, tL_12, tL_15, tL_30, tL_40, tL_60, tL_99, tL_255, tL_1023, tL_m1, lc_lt, lc_gt, lc_ge, lc_le, lc_eq, l6_le, l6_lt, l6_eq, i_le, i_lt, i_eq, tI_0, tI_1] at hb5); (try simp only [l_int, tL_0, tL_1, tL_2, tL_4, tL_5, tL_6, tL_7, tL_9, tL_10, tL_12, tL_15, tL_30, tL_40, tL_60, tL_99, tL_255, tL_1023, tL_m1, lc_lt, lc_gt, lc_ge, lc_le, lc_eq, l6_le, l6_lt, l6_eq, i_le, i_lt, i_eq, tI_0, tI_1] at hb12); (try simp only [l_int, tL_0, tL_1, tL_2, tL_4, tL_5, tL_6, tL_7, tL_9, tL_10, tL_12, tL_15, tL_30, tL_40, tL_60, tL_99, tL_255, tL_1023, tL_m1, lc_lt, lc_gt, lc_ge, lc_le, lc_eq, l6_le, l6_lt, l6_eq, i_le, i_lt, i_eq, tI_0, tI_1]); omega))
  · skip
    show WS layM V 6 X σ 8 [(0, .long a), (2, .long b), (4, .long c)] [.int 0]
    refine WS.if_eq (tgt := 34) hx dX11_mayCome_8 (by decide) (fun _ => ?_) (fun h => absurd (by decide) h)
    refine WS.iconst (v := 0) hx dX11_mayCome_34 (by decide) ?_
    exact WS.zret hx he dX11_mayCome_35 (Or.inl rfl) (Rb.f (by (try simp only [l_int, tL_0, tL_1, tL_2, tL_4, tL_5, tL_6, tL_7, tL_9, tL_10, tL_12, tL_15, tL_30, tL_40, tL_60, tL_99, tL_255, tL_1023, tL_m1, lc_lt, lc_gt, lc_ge, lc_le, lc_eq, l6_le, l6_lt, l6_eq, i_le, i_lt, i_eq, tI_0, tI_1] at hb5); (try simp only [l_int, tL_0, tL_1, tL_2, tL_4, tL_5, tL_6, tL_7, tL_9, tL_10, tL_12, tL_15, tL_30, tL_40, tL_60, tL_99, tL_255, tL_1023, tL_m1, lc_lt, lc_gt, lc_ge, lc_le, lc_eq, l6_le, l6_lt, l6_eq, i_le, i_lt, i_eq, tI_0, tI_1]); omega))
set_option maxHeartbeats 1000000 in
theorem c_X11_isShelf (V : Vt) (d : Nat) (σ : Sg) (a : Int32) : CT layM V mX11_isShelf (d + 1) [.int a] σ (Rb (0 ≤ a.toInt ∧ a.toInt ≤ 5) σ) := by
  refine CT.of (own := RX11) rfl (by decide) (Nat.le_of_ble_eq_true rfl) (fun X (hx : Ok V RX11 cX11_isShelf 1 (d + 1) X) (he : En layM V (some .boolean) (Rb (0 ≤ a.toInt ∧ a.toInt ≤ 5) σ) X) => ?_)
  change WS layM V 1 X σ 0 [(0, .int a)] []
  refine WS.iload_n hx dX11_isShelf_0 rfl 0 rfl ?_
  refine WS.i2l hx dX11_isShelf_1 ?_
  refine WS.lconst (v := 0) hx dX11_isShelf_2 rfl ?_
  refine WS.ldc2 (v := 5) hx lc11_130 dX11_isShelf_3 ?_
  refine WS.callSi (st := []) [.long (Int32.toInt64 a), .long 0, .long 5] hx (c_X11_within V d σ (Int32.toInt64 a) 0 5) okX11_within lm11_100 rfl rfl (Nat.le_of_ble_eq_true rfl) dX11_isShelf_6 (fun v1 σ2 h3 => ?_)
  rcases h3 with ⟨rfl, rfl, hb6⟩ | ⟨rfl, rfl, hb6⟩
  · skip
    show WS layM V 1 X σ 9 [(0, .int a)] [.int 1]
    exact WS.zret hx he dX11_isShelf_9 (Or.inr rfl) (Rb.t (by (try simp only [l_int, tL_0, tL_1, tL_2, tL_4, tL_5, tL_6, tL_7, tL_9, tL_10, tL_12, tL_15, tL_30, tL_40, tL_60, tL_99, tL_255, tL_1023, tL_m1, lc_lt, lc_gt, lc_ge, lc_le, lc_eq, l6_le, l6_lt, l6_eq, i_le, i_lt, i_eq, tI_0, tI_1] at hb6); (try simp only [l_int, tL_0, tL_1, tL_2, tL_4, tL_5, tL_6, tL_7, tL_9, tL_10, tL_12, tL_15, tL_30, tL_40, tL_60, tL_99, tL_255, tL_1023, tL_m1, lc_lt, lc_gt, lc_ge, lc_le, lc_eq, l6_le, l6_lt, l6_eq, i_le, i_lt, i_eq, tI_0, tI_1]); omega))
  · skip
    show WS layM V 1 X σ 9 [(0, .int a)] [.int 0]
    exact WS.zret hx he dX11_isShelf_9 (Or.inl rfl) (Rb.f (by (try simp only [l_int, tL_0, tL_1, tL_2, tL_4, tL_5, tL_6, tL_7, tL_9, tL_10, tL_12, tL_15, tL_30, tL_40, tL_60, tL_99, tL_255, tL_1023, tL_m1, lc_lt, lc_gt, lc_ge, lc_le, lc_eq, l6_le, l6_lt, l6_eq, i_le, i_lt, i_eq, tI_0, tI_1] at hb6); (try simp only [l_int, tL_0, tL_1, tL_2, tL_4, tL_5, tL_6, tL_7, tL_9, tL_10, tL_12, tL_15, tL_30, tL_40, tL_60, tL_99, tL_255, tL_1023, tL_m1, lc_lt, lc_gt, lc_ge, lc_le, lc_eq, l6_le, l6_lt, l6_eq, i_le, i_lt, i_eq, tI_0, tI_1]); omega))
set_option maxHeartbeats 1000000 in
theorem c_X11_isIn (V : Vt) (d : Nat) (σ : Sg) (a b : Int32) : CT layM V mX11_isIn (d) [.int a, .int b] σ (Rb ((a >>> (b &&& 31)) &&& 1 = 1) σ) := by
  refine CT.of (own := RX11) rfl (by decide) (Nat.le_of_ble_eq_true rfl) (fun X (hx : Ok V RX11 cX11_isIn 2 (d) X) (he : En layM V (some .boolean) (Rb ((a >>> (b &&& 31)) &&& 1 = 1) σ) X) => ?_)
  change WS layM V 2 X σ 0 [(0, .int a), (1, .int b)] []
  refine WS.iload_n hx dX11_isIn_0 rfl 0 rfl ?_
  refine WS.iload_n hx dX11_isIn_1 rfl 1 rfl ?_
  refine WS.ishr hx dX11_isIn_2 ?_
  refine WS.iconst (v := 1) hx dX11_isIn_3 (by decide) ?_
  refine WS.iand hx dX11_isIn_4 ?_
  refine WS.iconst (v := 1) hx dX11_isIn_5 (by decide) ?_
  refine WS.icmp_ne (tgt := 13) hx dX11_isIn_6 (by decide) (fun c6 => ?_) (fun c6 => ?_)
  · skip
    show WS layM V 2 X σ 13 [(0, .int a), (1, .int b)] []
    refine WS.iconst (v := 0) hx dX11_isIn_13 (by decide) ?_
    exact WS.zret hx he dX11_isIn_14 (Or.inl rfl) (Rb.f c6)
  · skip
    show WS layM V 2 X σ 9 [(0, .int a), (1, .int b)] []
    refine WS.iconst (v := 1) hx dX11_isIn_9 (by decide) ?_
    refine WS.goto (tgt := 14) hx dX11_isIn_10 (by decide) ?_
    exact WS.zret hx he dX11_isIn_14 (Or.inr rfl) (Rb.t c6)
def btM (x : Int32) : Nat → Int32
  | 0 => 0
  | k + 1 => btM x k + ((x >>> (nI k &&& 31)) &&& 1)
set_option maxHeartbeats 1000000 in
theorem lp_X11_bitsOf (V : Vt) (d : Nat) (σ : Sg) (x : Int32) (X : Xt) (hx : Ok V RX11 cX11_bitsOf 3 d X) (he : En layM V (some .int) (Ro (btM x 16) σ) X) : ∀ i : Nat, i ≤ 16 → WS layM V 3 X σ 4 [(2, .int (nI i)), (1, .int (btM x i)), (0, .int x)] [] := by
  intro i
  induction hm : 16 - i using Nat.strongRecOn generalizing i with
  | _ m9 ih =>
    intro hi
    have hiI : (nI i).toInt = (i : Int) := nI_c (by omega)
    refine WS.iload_n hx dX11_bitsOf_4 rfl 0 rfl ?_
    refine WS.bipush (v := 16) hx dX11_bitsOf_5 (by decide) ?_
    refine WS.icmp_ge (tgt := 24) hx dX11_bitsOf_7 (by decide) (fun c7 => ?_) (fun c7 => ?_)
    · skip
      show WS layM V 3 X σ 24 [(2, .int (nI i)), (1, .int (btM x i)), (0, .int x)] []
      refine WS.iload_n hx dX11_bitsOf_24 rfl 1 rfl ?_
      exact WS.iret hx he dX11_bitsOf_25 (Ro.i (by rw [show i = 16 by (try simp only [l_int, tL_0, tL_1, tL_2, tL_4, tL_5, tL_6, tL_7, tL_9, tL_10, tL_12, tL_15, tL_30, tL_40, tL_60, tL_99, tL_255, tL_1023, tL_m1, lc_lt, lc_gt, lc_ge, lc_le, lc_eq, l6_le, l6_lt, l6_eq, i_le, i_lt, i_eq, tI_0, tI_1, tI_16] at c7); (try simp only [l_int, tL_0, tL_1, tL_2, tL_4, tL_5, tL_6, tL_7, tL_9, tL_10, tL_12, tL_15, tL_30, tL_40, tL_60, tL_99, tL_255, tL_1023, tL_m1, lc_lt, lc_gt, lc_ge, lc_le, lc_eq, l6_le, l6_lt, l6_eq, i_le, i_lt, i_eq, tI_0, tI_1, tI_16]); omega]))
    · skip
      show WS layM V 3 X σ 10 [(2, .int (nI i)), (1, .int (btM x i)), (0, .int x)] []
      refine WS.iload_n hx dX11_bitsOf_10 rfl 1 rfl ?_
      refine WS.iload_n hx dX11_bitsOf_11 rfl 2 rfl ?_
      refine WS.iload_n hx dX11_bitsOf_12 rfl 0 rfl ?_
      refine WS.ishr hx dX11_bitsOf_13 ?_
      refine WS.iconst (v := 1) hx dX11_bitsOf_14 (by decide) ?_
      refine WS.iand hx dX11_bitsOf_15 ?_
      refine WS.iadd hx dX11_bitsOf_16 ?_
      refine WS.istore_n (lo' := [(1, .int ((btM x i) + ((x >>> ((nI i) &&& 31)) &&& 1))), (2, .int (nI i)), (0, .int x)]) hx dX11_bitsOf_17 rfl (by decide) rfl ?_
      refine WS.iinc (v := nI (i + 1)) (lo' := [(2, .int (nI (i + 1))), (1, .int ((btM x i) + ((x >>> ((nI i) &&& 31)) &&& 1))), (0, .int x)]) hx dX11_bitsOf_18 1 rfl (nI_1 _) (by decide) rfl ?_
      refine WS.goto (tgt := 4) hx dX11_bitsOf_21 (by decide) ?_
      exact WS.los [0, 1, 2] rfl (ih _ (by (try simp only [l_int, tL_0, tL_1, tL_2, tL_4, tL_5, tL_6, tL_7, tL_9, tL_10, tL_12, tL_15, tL_30, tL_40, tL_60, tL_99, tL_255, tL_1023, tL_m1, lc_lt, lc_gt, lc_ge, lc_le, lc_eq, l6_le, l6_lt, l6_eq, i_le, i_lt, i_eq, tI_0, tI_1, tI_16] at c7); (try simp only [l_int, tL_0, tL_1, tL_2, tL_4, tL_5, tL_6, tL_7, tL_9, tL_10, tL_12, tL_15, tL_30, tL_40, tL_60, tL_99, tL_255, tL_1023, tL_m1, lc_lt, lc_gt, lc_ge, lc_le, lc_eq, l6_le, l6_lt, l6_eq, i_le, i_lt, i_eq, tI_0, tI_1, tI_16]); omega) (i + 1) rfl (by (try simp only [l_int, tL_0, tL_1, tL_2, tL_4, tL_5, tL_6, tL_7, tL_9, tL_10, tL_12, tL_15, tL_30, tL_40, tL_60, tL_99, tL_255, tL_1023, tL_m1, lc_lt, lc_gt, lc_ge, lc_le, lc_eq, l6_le, l6_lt, l6_eq, i_le, i_lt, i_eq, tI_0, tI_1, tI_16] at c7); (try simp only [l_int, tL_0, tL_1, tL_2, tL_4, tL_5, tL_6, tL_7, tL_9, tL_10, tL_12, tL_15, tL_30, tL_40, tL_60, tL_99, tL_255, tL_1023, tL_m1, lc_lt, lc_gt, lc_ge, lc_le, lc_eq, l6_le, l6_lt, l6_eq, i_le, i_lt, i_eq, tI_0, tI_1, tI_16]); omega))
set_option maxHeartbeats 1000000 in
theorem c_X11_bitsOf (V : Vt) (d : Nat) (σ : Sg) (x : Int32) : CT layM V mX11_bitsOf (d) [.int x] σ (Ro (btM x 16) σ) := by
  refine CT.of (own := RX11) rfl (by decide) (Nat.le_of_ble_eq_true rfl) (fun X (hx : Ok V RX11 cX11_bitsOf 3 (d) X) (he : En layM V (some .int) (Ro (btM x 16) σ) X) => ?_)
  change WS layM V 3 X σ 0 [(0, .int x)] []
  refine WS.iconst (v := 0) hx dX11_bitsOf_0 (by decide) ?_
  refine WS.istore_n (lo' := [(1, .int 0), (0, .int x)]) hx dX11_bitsOf_1 rfl (by decide) rfl ?_
  refine WS.iconst (v := 0) hx dX11_bitsOf_2 (by decide) ?_
  refine WS.istore_n (lo' := [(2, .int 0), (1, .int 0), (0, .int x)]) hx dX11_bitsOf_3 rfl (by decide) rfl ?_
  exact WS.los [0, 1, 2] rfl (lp_X11_bitsOf V d σ x X hx he 0 (Nat.zero_le _))
def pN (q j : Nat) : Nat := if q ≤ 4 then 10 * q + j else if q ≤ 6 then 50 + 16 * (q - 5) + j else 82 + j
def lnN (q : Nat) : Nat := if q ≤ 4 then 10 else if q ≤ 6 then 16 else 1
/-- the model's numbers are those of a quarry κ -/
def MR (κ μ : Sg) (n : Nat) : Prop := QI κ n ∧ μ.1 0 6 = nI n ∧ ∀ q j, q < 8 → j < lnN q → μ.1 1 (pN q j) = κ.1 (11 + q) j
theorem MR.q {κ μ : Sg} {n : Nat} (h : MR κ μ n) : QI κ n := h.1
theorem MR.s {κ μ : Sg} {n : Nat} (h : MR κ μ n) : μ.1 0 6 = nI n := h.2.1
theorem MR.n {κ μ : Sg} {n : Nat} (h : MR κ μ n) : n ≤ 10 := h.1.1
theorem MR.b {κ μ : Sg} {n j : Nat} (h : MR κ μ n) (hj : j < 10) : μ.1 1 j = κ.1 11 j := by
  have := h.2.2 0 j (by decide) hj
  rwa [show pN 0 j = j by unfold pN; simp] at this
theorem MR.a {κ μ : Sg} {n j : Nat} (h : MR κ μ n) (hj : j < 10) : μ.1 1 (10 + j) = κ.1 12 j := h.2.2 1 j (by decide) hj
theorem MR.l {κ μ : Sg} {n j : Nat} (h : MR κ μ n) (hj : j < 10) : μ.1 1 (20 + j) = κ.1 13 j := h.2.2 2 j (by decide) hj
theorem MR.o {κ μ : Sg} {n j : Nat} (h : MR κ μ n) (hj : j < 10) : μ.1 1 (30 + j) = κ.1 14 j := h.2.2 3 j (by decide) hj
theorem MR.d {κ μ : Sg} {n j : Nat} (h : MR κ μ n) (hj : j < 10) : μ.1 1 (40 + j) = κ.1 15 j := h.2.2 4 j (by decide) hj
theorem MR.L {κ μ : Sg} {n j : Nat} (h : MR κ μ n) (hj : j < 16) : μ.1 1 (50 + j) = κ.1 16 j := h.2.2 5 j (by decide) hj
theorem MR.w {κ μ : Sg} {n j : Nat} (h : MR κ μ n) (hj : j < 16) : μ.1 1 (66 + j) = κ.1 17 j := h.2.2 6 j (by decide) hj
theorem MR.y {κ μ : Sg} {n : Nat} (h : MR κ μ n) : μ.1 1 82 = κ.1 18 0 := h.2.2 7 0 (by decide) (by decide)
theorem pN_inj {q j r k : Nat} (hq : q < 8) (hj : j < lnN q) (hr : r < 8) (hk : k < lnN r) (h : pN q j = pN r k) : q = r ∧ j = k := by
  unfold lnN at hj hk
  unfold pN at h
  split at hj <;> split at hk <;> (try split at hj) <;> (try split at hk) <;> simp [*] at h <;> (repeat' split at h) <;> omega
theorem pN_lt {q j : Nat} (hq : q < 8) (hj : j < lnN q) : pN q j < 83 := by
  unfold lnN at hj
  unfold pN
  split at hj <;> (try split at hj) <;> simp [*] <;> omega
def pm (b q : Int32) : Nat := pN (nn q) (nn b)
theorem hasC_N {n : Nat} {b q : Int32} (hn : n ≤ 10) (h : hasC n b q) : nn q < 8 ∧ nn b < lnN (nn q) ∧ numId q = 11 + nn q := by
  obtain ⟨h1, h2, h3, h4, h5, h6⟩ := h
  have e1 := nn_int h1
  have e2 := nn_int h3
  refine ⟨by omega, ?_, ?_⟩
  · unfold lnN
    split
    · have := h4 (by omega); omega
    · split
      · have := h5 (by omega); omega
      · have := h6 (by omega); omega
  · unfold numId
    split
    · rfl
    · omega
theorem MR.at {κ μ : Sg} {n : Nat} {b q : Int32} (h : MR κ μ n) (hc : hasC n b q) : μ.1 1 (pm b q) = κ.1 (numId q) (nn b) := by
  obtain ⟨a, b1, c⟩ := hasC_N h.n hc
  rw [c]; exact h.2.2 _ _ a b1
theorem rg_up {f : Nat → Int32} {k M : Nat} {x : Int32} {m : Nat} (h : ∀ j, j < M → rg (f j) m) (hx : rg x m) : ∀ j, j < M → rg (upd f k x j) m := by
  intro j hj
  by_cases e : j = k
  · rw [e, pk_us]; exact hx
  · rw [pk_un e]; exact h j hj
theorem QI_bec {κ : Sg} {n : Nat} {b q x : Int32} (h : QI κ n) (hc : hasC n b q) (hs : isSoC q x) : QI (stI κ (numId q) (nn b) x) n := by
  obtain ⟨h1, h2, q1, q2, q3, q4, q5, q6, q7, q8⟩ := h
  obtain ⟨a, -, c⟩ := hasC_N h1 hc
  have hb9 := hc.2.2.1
  have h7 := hc.2.2.2.2.2
  have hr : ∀ m : Nat, (zt_f 0 (nn q)).toInt ≤ m → rg x m := fun m hm => ⟨hs.2.2.1, Int.le_trans hs.2.2.2 hm⟩
  rw [c]
  have e1 := nn_int hc.1
  have : nn q = 0 ∨ nn q = 1 ∨ nn q = 2 ∨ nn q = 3 ∨ nn q = 4 ∨ nn q = 5 ∨ nn q = 6 ∨ nn q = 7 := by omega
  rcases this with e | e | e | e | e | e | e | e <;> rw [e] at hr ⊢
  · exact ⟨h1, h2, rg_up q1 (hr 9 (by decide)), q2, q3, q4, q5, q6, q7, q8⟩
  · exact ⟨h1, h2, q1, rg_up q2 (hr 15 (by decide)), q3, q4, q5, q6, q7, q8⟩
  · exact ⟨h1, h2, q1, q2, rg_up q3 (hr 9 (by decide)), q4, q5, q6, q7, q8⟩
  · exact ⟨h1, h2, q1, q2, q3, rg_up q4 (hr 1 (by decide)), q5, q6, q7, q8⟩
  · exact ⟨h1, h2, q1, q2, q3, q4, rg_up q5 (hr 1 (by decide)), q6, q7, q8⟩
  · exact ⟨h1, h2, q1, q2, q3, q4, q5, rg_up q6 (hr 15 (by decide)), q7, q8⟩
  · exact ⟨h1, h2, q1, q2, q3, q4, q5, q6, rg_up q7 (hr 9 (by decide)), q8⟩
  · refine ⟨h1, h2, q1, q2, q3, q4, q5, q6, q7, ?_⟩
    exact rg_up (M := 1) (fun j hj => by rw [show j = 0 by omega]; exact q8) (hr 99 (by decide)) 0 (by decide)
theorem MR_up {κ μ : Sg} {n q j : Nat} {x : Int32} (h : MR κ μ n) (hq : q < 8) (hj : j < lnN q) (hQ : QI (stI κ (11 + q) j x) n) : MR (stI κ (11 + q) j x) (stI μ 1 (pN q j) x) n := by
  refine ⟨hQ, h.s, fun r k hr hk => ?_⟩
  show upd (μ.1 1) (pN q j) x (pN r k) = _
  by_cases e : q = r
  · subst e
    by_cases e2 : j = k
    · subst e2
      rw [pk_us, stI_1]
    · rw [pk_un (fun e3 => e2 (pN_inj hq hj hq hk e3.symm).2), stI_k _ _ _ _ (fun e3 => e2 e3.symm)]
      exact h.2.2 _ _ hr hk
  · rw [pk_un (fun e3 => e (pN_inj hq hj hr hk e3.symm).1), stI_o _ _ _ _ (by omega)]
    exact h.2.2 _ _ hr hk
theorem MR_bec {κ μ : Sg} {n : Nat} {b q x : Int32} (h : MR κ μ n) (hc : hasC n b q) (hs : isSoC q x) : MR (stI κ (numId q) (nn b) x) (stI μ 1 (pm b q) x) n := by
  have hQ := QI_bec h.q hc hs
  obtain ⟨a, b1, c⟩ := hasC_N h.n hc
  rw [c] at hQ ⊢
  exact MR_up h a b1 hQ

theorem l_e {x y : Int64} : (lg_cmp x y = 0) ↔ x = y := lg_cmp_eq x y
set_option maxHeartbeats 1000000 in
theorem lp_X11_firstFalse (V : Vt) (d : Nat) (σ : Sg) (κ : Sg) (n : Nat) (hM : MR κ σ n) (cs : Nat → Int32) (T : Nat) (lw : Lw) (hL : ML σ cs T lw) (k : Nat) (hk : k < n) (s9 : Nat) (hs9 : s9 < 6) (z : Nat) (hz : σ.1 24 s9 = nI z) (hz2 : z ≤ 60) (bk : Nat → Int64) (hb : ∀ i, i < z → σ.2.1 25 (60 * s9 + i) = bk i) (r : Option Nat) (P : Int32 → Sg → Prop) (X : Xt) (hx : Ok V RX11 cX11_firstFalse 6 (d + 6) X) (he : En layM V (some .int) (Ri P) X) (hP : ∀ σ', ME σ σ' → P (oN r) σ') : ∀ (u i : Nat) (s : Ms) (τ : Sg), i + u = min z 41 → ME σ τ → MT τ n s → s.2.1 = (wdM κ n lw).2.2.2.2.2.2.1 → s.2.2.2 = (wdM κ n lw).2.2.2.2.2.1 → fsB ((wdM κ n lw).cn k ((wdM κ n lw).bd k)) (κ.1 17) bk u i (s.1 k, s.2.2.1) = r → WS layM V 6 X τ 6 [(3, .int (nI i)), (0, rf V 0), (1, .int (nI s9)), (2, .int (nI k))] [] := by
  have hn := hM.n
  intro u
  induction u with
  | zero =>
    intro i s τ hiu hE hT ho1 ho2 hr
    have hiI : (nI i).toInt = (i : Int) := nI_c (by omega)
    have hzI : (nI z).toInt = (z : Int) := nI_c (by omega)
    have hz9 : τ.1 24 s9 = nI z := by rw [hE.1 24 (nmsc (by decide))]; exact hz
    refine WS.iload_n hx dX11_firstFalse_6 rfl 0 rfl ?_
    refine WS.bipush (v := 41) hx dX11_firstFalse_7 (by decide) ?_
    refine WS.icmp_ge (tgt := 68) hx dX11_firstFalse_9 (by decide) (fun c9 => ?_) (fun c9 => ?_)
    · skip
      show WS layM V 6 X τ 68 [(3, .int (nI i)), (0, rf V 0), (1, .int (nI s9)), (2, .int (nI k))] []
      refine WS.bipush (v := (-2)) hx dX11_firstFalse_68 (by decide) ?_
      exact WS.iret hx he dX11_firstFalse_70 ⟨_, rfl, by rw [show (-2 : Int32) = oN none from rfl, show (none : Option Nat) = r from hr]; exact hP τ hE⟩
    · skip
      show WS layM V 6 X τ 12 [(3, .int (nI i)), (0, rf V 0), (1, .int (nI s9)), (2, .int (nI k))] []
      refine WS.iload_n hx dX11_firstFalse_12 rfl 0 rfl ?_
      refine WS.aload_n hx dX11_firstFalse_13 rfl 1 rfl ?_
      refine WS.getR hx okX11 lf11_80 rfl rfl dX11_firstFalse_14 ?_
      refine WS.iload_n hx dX11_firstFalse_17 rfl 2 rfl ?_
      refine WS.iald hx rfl (vp_in_nI (by omega) (by decide)) dX11_firstFalse_18 ?_
      refine WS.as rfl rfl (congrArg (fun z => Value.int z :: _) (show τ.1 24 (nn (nI s9)) = nI z from by rw [nn_nI (by omega)]; exact hz9)) ?_
      skip
      refine WS.icmp_ge (tgt := 68) hx dX11_firstFalse_19 (by decide) (fun c19 => ?_) (fun c19 => ?_)
      · skip
        show WS layM V 6 X τ 68 [(3, .int (nI i)), (0, rf V 0), (1, .int (nI s9)), (2, .int (nI k))] []
        refine WS.bipush (v := (-2)) hx dX11_firstFalse_68 (by decide) ?_
        exact WS.iret hx he dX11_firstFalse_70 ⟨_, rfl, by rw [show (-2 : Int32) = oN none from rfl, show (none : Option Nat) = r from hr]; exact hP τ hE⟩
      · skip
        show WS layM V 6 X τ 22 [(3, .int (nI i)), (0, rf V 0), (1, .int (nI s9)), (2, .int (nI k))] []
        exfalso; (try simp only [l_int, tL_0, tL_1, tL_2, tL_4, tL_5, tL_6, tL_7, tL_9, tL_10, tL_12, tL_15, tL_30, tL_40, tL_60, tL_99, tL_255, tL_1023, tL_m1, lc_lt, lc_gt, lc_ge, lc_le, lc_eq, l6_le, l6_lt, l6_eq, tI_m133, tI_m226, i_le, i_lt, i_eq, tI_m2, tI_0, tI_1, tI_41, tI_60] at c9); (try simp only [l_int, tL_0, tL_1, tL_2, tL_4, tL_5, tL_6, tL_7, tL_9, tL_10, tL_12, tL_15, tL_30, tL_40, tL_60, tL_99, tL_255, tL_1023, tL_m1, lc_lt, lc_gt, lc_ge, lc_le, lc_eq, l6_le, l6_lt, l6_eq, tI_m133, tI_m226, i_le, i_lt, i_eq, tI_m2, tI_0, tI_1, tI_41, tI_60] at c19); (try simp only [l_int, tL_0, tL_1, tL_2, tL_4, tL_5, tL_6, tL_7, tL_9, tL_10, tL_12, tL_15, tL_30, tL_40, tL_60, tL_99, tL_255, tL_1023, tL_m1, lc_lt, lc_gt, lc_ge, lc_le, lc_eq, l6_le, l6_lt, l6_eq, tI_m133, tI_m226, i_le, i_lt, i_eq, tI_m2, tI_0, tI_1, tI_41, tI_60]); omega
  | succ u ih =>
    intro i s τ hiu hE hT ho1 ho2 hr
    have hiI : (nI i).toInt = (i : Int) := nI_c (by omega)
    have hzI : (nI z).toInt = (z : Int) := nI_c (by omega)
    have hz9 : τ.1 24 s9 = nI z := by rw [hE.1 24 (nmsc (by decide))]; exact hz
    have hb9 : τ.2.1 25 (60 * s9 + i) = bk i := by rw [hE.2.2]; exact hb i (by omega)
    unfold fsB at hr
    refine WS.iload_n hx dX11_firstFalse_6 rfl 0 rfl ?_
    refine WS.bipush (v := 41) hx dX11_firstFalse_7 (by decide) ?_
    refine WS.icmp_ge (tgt := 68) hx dX11_firstFalse_9 (by decide) (fun c9 => by exfalso; (try simp only [l_int, tL_0, tL_1, tL_2, tL_4, tL_5, tL_6, tL_7, tL_9, tL_10, tL_12, tL_15, tL_30, tL_40, tL_60, tL_99, tL_255, tL_1023, tL_m1, lc_lt, lc_gt, lc_ge, lc_le, lc_eq, l6_le, l6_lt, l6_eq, tI_m133, tI_m226, i_le, i_lt, i_eq, tI_m2, tI_0, tI_1, tI_41, tI_60] at c9); (try simp only [l_int, tL_0, tL_1, tL_2, tL_4, tL_5, tL_6, tL_7, tL_9, tL_10, tL_12, tL_15, tL_30, tL_40, tL_60, tL_99, tL_255, tL_1023, tL_m1, lc_lt, lc_gt, lc_ge, lc_le, lc_eq, l6_le, l6_lt, l6_eq, tI_m133, tI_m226, i_le, i_lt, i_eq, tI_m2, tI_0, tI_1, tI_41, tI_60]); omega) (fun c9 => ?_)
    refine WS.iload_n hx dX11_firstFalse_12 rfl 0 rfl ?_
    refine WS.aload_n hx dX11_firstFalse_13 rfl 1 rfl ?_
    refine WS.getR hx okX11 lf11_80 rfl rfl dX11_firstFalse_14 ?_
    refine WS.iload_n hx dX11_firstFalse_17 rfl 2 rfl ?_
    refine WS.iald hx rfl (vp_in_nI (by omega) (by decide)) dX11_firstFalse_18 ?_
    refine WS.as rfl rfl (congrArg (fun z => Value.int z :: _) (show τ.1 24 (nn (nI s9)) = nI z from by rw [nn_nI (by omega)]; exact hz9)) ?_
    skip
    refine WS.icmp_ge (tgt := 68) hx dX11_firstFalse_19 (by decide) (fun c19 => by exfalso; (try simp only [l_int, tL_0, tL_1, tL_2, tL_4, tL_5, tL_6, tL_7, tL_9, tL_10, tL_12, tL_15, tL_30, tL_40, tL_60, tL_99, tL_255, tL_1023, tL_m1, lc_lt, lc_gt, lc_ge, lc_le, lc_eq, l6_le, l6_lt, l6_eq, tI_m133, tI_m226, i_le, i_lt, i_eq, tI_m2, tI_0, tI_1, tI_41, tI_60] at c9); (try simp only [l_int, tL_0, tL_1, tL_2, tL_4, tL_5, tL_6, tL_7, tL_9, tL_10, tL_12, tL_15, tL_30, tL_40, tL_60, tL_99, tL_255, tL_1023, tL_m1, lc_lt, lc_gt, lc_ge, lc_le, lc_eq, l6_le, l6_lt, l6_eq, tI_m133, tI_m226, i_le, i_lt, i_eq, tI_m2, tI_0, tI_1, tI_41, tI_60] at c19); (try simp only [l_int, tL_0, tL_1, tL_2, tL_4, tL_5, tL_6, tL_7, tL_9, tL_10, tL_12, tL_15, tL_30, tL_40, tL_60, tL_99, tL_255, tL_1023, tL_m1, lc_lt, lc_gt, lc_ge, lc_le, lc_eq, l6_le, l6_lt, l6_eq, tI_m133, tI_m226, i_le, i_lt, i_eq, tI_m2, tI_0, tI_1, tI_41, tI_60]); omega) (fun c19 => ?_)
    refine WS.aload_n hx dX11_firstFalse_22 rfl 1 rfl ?_
    refine WS.getR hx okX11 lf11_83 rfl rfl dX11_firstFalse_23 ?_
    refine WS.bipush (v := 60) hx dX11_firstFalse_26 (by decide) ?_
    refine WS.iload_n hx dX11_firstFalse_28 rfl 2 rfl ?_
    refine WS.imul hx dX11_firstFalse_29 ?_
    refine WS.as rfl rfl (congrArg (fun z => Value.int z :: _) (show 60 * (nI s9) = nI (60 * s9) from pk_mul 60 s9)) ?_
    skip
    refine WS.iload_n hx dX11_firstFalse_30 rfl 0 rfl ?_
    refine WS.iadd hx dX11_firstFalse_31 ?_
    refine WS.as rfl rfl (congrArg (fun z => Value.int z :: _) (show (nI (60 * s9)) + (nI i) = nI (60 * s9 + i) from nI_add _ _)) ?_
    skip
    refine WS.lald hx rfl (vp_in_nI (by omega) (by decide)) dX11_firstFalse_32 ?_
    refine WS.as rfl rfl (congrArg (fun z => Value.long z :: _) (show τ.2.1 25 (nn (nI (60 * s9 + i))) = bk i from by rw [nn_nI (by omega)]; exact hb9)) ?_
    skip
    refine WS.lstore (lo' := [(4, .long (bk i)), (3, .int (nI i)), (0, rf V 0), (1, .int (nI s9)), (2, .int (nI k))]) hx dX11_firstFalse_33 (by decide) rfl ?_
    refine WS.lload hx dX11_firstFalse_35 0 rfl ?_
    refine WS.ldc2 (v := 10) hx lc11_123 dX11_firstFalse_37 ?_
    refine WS.lcmp hx dX11_firstFalse_40 ?_
    refine WS.if_eq (tgt := 58) hx dX11_firstFalse_41 (by decide) (fun c41 => ?_) (fun c41 => ?_)
    · skip
      show WS layM V 6 X τ 58 [(4, .long (bk i)), (3, .int (nI i)), (0, rf V 0), (1, .int (nI s9)), (2, .int (nI k))] []
      rw [if_neg (fun h => h.1 (l_e.mp c41)), cn_ms _ s k (by rw [ho1]) ho2] at hr
      refine WS.aload_n hx dX11_firstFalse_58 rfl 2 rfl ?_
      refine WS.callVv (st := []) [] hx (c_X11_goesCentury V d τ κ n (hM.me hE) s hT cs T lw (hL.me hE)) okX11_goesCentury lm11_234 rfl rfl rfl rfl (Nat.le_of_ble_eq_true rfl) dX11_firstFalse_59 (fun σ2 h3 => ?_)
      obtain ⟨me59, mt59⟩ := h3
      show WS layM V 6 X σ2 62 [(4, .long (bk i)), (3, .int (nI i)), (0, rf V 0), (1, .int (nI s9)), (2, .int (nI k))] []
      refine WS.iinc (v := nI (i + 1)) (lo' := [(3, .int (nI (i + 1))), (4, .long (bk i)), (0, rf V 0), (1, .int (nI s9)), (2, .int (nI k))]) hx dX11_firstFalse_62 1 rfl (nI_1 i) (by decide) rfl ?_
      refine WS.goto (tgt := 6) hx dX11_firstFalse_65 (by decide) ?_
      exact WS.los [0, 2, 3, 4] rfl (ih (i + 1) _ _ (by omega) (hE.tr me59) mt59 ho1 ho2 hr)
    · skip
      show WS layM V 6 X τ 44 [(4, .long (bk i)), (3, .int (nI i)), (0, rf V 0), (1, .int (nI s9)), (2, .int (nI k))] []
      refine WS.lload hx dX11_firstFalse_44 0 rfl ?_
      refine WS.aload_n hx dX11_firstFalse_46 rfl 2 rfl ?_
      refine WS.iload_n hx dX11_firstFalse_47 rfl 4 rfl ?_
      refine WS.callVi (st := [.long (bk i)]) [.int (nI k)] hx (c_X11_wordOf V (d + 5) τ κ n (hM.me hE) s hT k hk) okX11_wordOf lm11_219 rfl rfl rfl rfl (Nat.le_of_ble_eq_true rfl) dX11_firstFalse_48 (fun v4 σ5 h6 => ?_)
      obtain ⟨rfl, rfl⟩ := h6
      show WS layM V 6 X τ 51 [(4, .long (bk i)), (3, .int (nI i)), (0, rf V 0), (1, .int (nI s9)), (2, .int (nI k))] [.int (κ.1 17 (s.1 k)), .long (bk i)]
      refine WS.i2l hx dX11_firstFalse_51 ?_
      refine WS.lcmp hx dX11_firstFalse_52 ?_
      refine WS.if_eq (tgt := 58) hx dX11_firstFalse_53 (by decide) (fun c53 => ?_) (fun c53 => ?_)
      · skip
        show WS layM V 6 X τ 58 [(4, .long (bk i)), (3, .int (nI i)), (0, rf V 0), (1, .int (nI s9)), (2, .int (nI k))] []
        rw [if_neg (fun h => h.2 (l_e.mp c53)), cn_ms _ s k (by rw [ho1]) ho2] at hr
        refine WS.aload_n hx dX11_firstFalse_58 rfl 2 rfl ?_
        refine WS.callVv (st := []) [] hx (c_X11_goesCentury V d τ κ n (hM.me hE) s hT cs T lw (hL.me hE)) okX11_goesCentury lm11_234 rfl rfl rfl rfl (Nat.le_of_ble_eq_true rfl) dX11_firstFalse_59 (fun σ8 h9 => ?_)
        obtain ⟨me59, mt59⟩ := h9
        show WS layM V 6 X σ8 62 [(4, .long (bk i)), (3, .int (nI i)), (0, rf V 0), (1, .int (nI s9)), (2, .int (nI k))] []
        refine WS.iinc (v := nI (i + 1)) (lo' := [(3, .int (nI (i + 1))), (4, .long (bk i)), (0, rf V 0), (1, .int (nI s9)), (2, .int (nI k))]) hx dX11_firstFalse_62 1 rfl (nI_1 i) (by decide) rfl ?_
        refine WS.goto (tgt := 6) hx dX11_firstFalse_65 (by decide) ?_
        exact WS.los [0, 2, 3, 4] rfl (ih (i + 1) _ _ (by omega) (hE.tr me59) mt59 ho1 ho2 hr)
      · skip
        show WS layM V 6 X τ 56 [(4, .long (bk i)), (3, .int (nI i)), (0, rf V 0), (1, .int (nI s9)), (2, .int (nI k))] []
        rw [if_pos ⟨fun h => c41 (l_e.mpr h), fun h => c53 (l_e.mpr h)⟩] at hr
        refine WS.iload_n hx dX11_firstFalse_56 rfl 1 rfl ?_
        exact WS.iret hx he dX11_firstFalse_57 ⟨_, rfl, by rw [show nI i = oN (some i) from rfl, show some i = r from hr]; exact hP τ hE⟩
set_option maxHeartbeats 1000000 in
theorem c_X11_firstFalse (V : Vt) (d : Nat) (σ : Sg) (κ : Sg) (n : Nat) (hM : MR κ σ n) (cs : Nat → Int32) (T : Nat) (lw : Lw) (hL : ML σ cs T lw) (k : Nat) (hk : k < n) (s9 : Nat) (hs9 : s9 < 6) (z : Nat) (hz : σ.1 24 s9 = nI z) (hz2 : z ≤ 60) (bk : Nat → Int64) (hb : ∀ i, i < z → σ.2.1 25 (60 * s9 + i) = bk i) : CT layM V mX11_firstFalse (d + 6) [rf V 0, .int (nI s9), .int (nI k)] σ (Ri fun v σ' => oN (fsB ((wdM κ n lw).cn k ((wdM κ n lw).bd k)) (κ.1 17) bk (min z 41) 0 ((wdM κ n lw).s0 k)) = v ∧ ME σ σ') := by
  refine CT.of (own := RX11) rfl (by decide) (Nat.le_of_ble_eq_true rfl) (fun X (hx : Ok V RX11 cX11_firstFalse 6 (d + 6) X) (he : En layM V (some .int) (Ri fun v σ' => oN (fsB ((wdM κ n lw).cn k ((wdM κ n lw).bd k)) (κ.1 17) bk (min z 41) 0 ((wdM κ n lw).s0 k)) = v ∧ ME σ σ') X) => ?_)
  change WS layM V 6 X σ 0 [(0, rf V 0), (1, .int (nI s9)), (2, .int (nI k))] []
  refine WS.aload_n hx dX11_firstFalse_0 rfl 0 rfl ?_
  refine WS.callVv (st := []) [] hx (c_X11_begins V (d + 5) σ κ n lw hM) okX11_begins lm11_231 rfl rfl rfl rfl (Nat.le_of_ble_eq_true rfl) dX11_firstFalse_1 (fun σ2 h3 => ?_)
  obtain ⟨me1, mt1⟩ := h3
  show WS layM V 6 X σ2 4 [(0, rf V 0), (1, .int (nI s9)), (2, .int (nI k))] []
  refine WS.iconst (v := 0) hx dX11_firstFalse_4 (by decide) ?_
  refine WS.istore_n (lo' := [(3, .int 0), (0, rf V 0), (1, .int (nI s9)), (2, .int (nI k))]) hx dX11_firstFalse_5 rfl (by decide) rfl ?_
  exact WS.los [0, 1, 2, 3] rfl (lp_X11_firstFalse V d σ κ n hM cs T lw hL k hk s9 hs9 z hz hz2 bk hb _ _ X hx he (fun τ h => ⟨rfl, h⟩) (min z 41) 0 _ _ (by omega) me1 mt1 rfl rfl rfl)
/-- a shelf in the class and in the model -/
def SR (κ μ : Sg) (z : Nat) : Prop := ∀ s, s < 6 → rg (κ.1 (52 + s) 4) 60 ∧ ((κ.1 (52 + s) 1 = 0 ∧ μ.1 23 s = -1) ∨ (κ.1 (52 + s) 1 = 1 ∧ μ.1 23 s = κ.1 (52 + s) 2 ∧ 0 ≤ (κ.1 (52 + s) 2).toInt ∧ (κ.1 (52 + s) 2).toInt < z) ∨ (κ.1 (52 + s) 1 = 2 ∧ rg (κ.1 (52 + s) 3) 4 ∧ μ.1 23 s = nI (50 + nn (κ.1 (52 + s) 3)) ∧ μ.1 24 s = κ.1 (52 + s) 4 ∧ (∀ i, i < 60 → μ.2.1 25 (60 * s + i) = κ.2.1 (58 + s) i) ∧ (κ.1 (52 + s) 3 = 0 → ∀ i, i < 60 → -128 ≤ (κ.2.1 (58 + s) i).toInt ∧ (κ.2.1 (58 + s) i).toInt ≤ 127)))
theorem SR.c {κ μ : Sg} {z s : Nat} (h : SR κ μ z) (hz : z ≤ 50) (hs : s < 6) : (κ.1 (52 + s) 1 = 0 ↔ (μ.1 23 s).toInt < 0) ∧ (κ.1 (52 + s) 1 = 2 ↔ 50 ≤ (μ.1 23 s).toInt) ∧ ((κ.1 (52 + s) 1 = 2 ∧ κ.1 (52 + s) 3 = 0) ↔ (μ.1 23 s).toInt = 50) := by
  obtain ⟨-, h | h | h⟩ := h s hs
  · rw [h.1, h.2]
    exact ⟨⟨fun _ => by decide, fun _ => rfl⟩, ⟨fun h => absurd h (by decide), fun h => absurd h (by decide)⟩, ⟨fun h => absurd h.1 (by decide), fun h => absurd h (by decide)⟩⟩
  · rw [h.1, h.2.1]
    refine ⟨⟨fun h => absurd h (by decide), fun h9 => by omega⟩, ⟨fun h => absurd h (by decide), fun h9 => by omega⟩, ⟨fun h => absurd h.1 (by decide), fun h9 => by omega⟩⟩
  · have h2 := h.2.1
    have h4 := nn_int h2.1
    unfold rg at h2
    rw [h.1, h.2.2.1, nI_c (by omega)]
    refine ⟨⟨fun h => absurd h (by decide), fun h9 => by omega⟩, ⟨fun _ => by omega, fun _ => rfl⟩, ⟨fun h9 => ?_, fun h9 => ⟨rfl, ?_⟩⟩⟩
    · have : (κ.1 (52 + s) 3).toInt = 0 := by rw [h9.2]; rfl
      omega
    · rw [i_eq, tI_0]; omega
set_option maxHeartbeats 1000000 in
theorem c_X11_bytesIs (V : Vt) (d : Nat) (σ : Sg) (κ : Sg) (z9 : Nat) (hz9 : z9 ≤ 50) (hS : SR κ σ z9) (f : Int32) : CT layM V mX11_bytesIs (d + 2) [rf V 0, .int f] σ (Ri fun v σ' => (¬ (0 ≤ f.toInt ∧ f.toInt ≤ 5) ∧ -1 = v ∧ σ = σ') ∨ ((0 ≤ f.toInt ∧ f.toInt ≤ 5) ∧ κ.1 (52 + nn f) 1 = 0 ∧ -11 = v ∧ σ = σ') ∨ ((0 ≤ f.toInt ∧ f.toInt ≤ 5) ∧ ¬ κ.1 (52 + nn f) 1 = 0 ∧ ¬ (κ.1 (52 + nn f) 1 = 2 ∧ κ.1 (52 + nn f) 3 = 0) ∧ -12 = v ∧ σ = σ') ∨ ((0 ≤ f.toInt ∧ f.toInt ≤ 5) ∧ ¬ κ.1 (52 + nn f) 1 = 0 ∧ (κ.1 (52 + nn f) 1 = 2 ∧ κ.1 (52 + nn f) 3 = 0) ∧ 1 = v ∧ σ = σ')) := by
  refine CT.of (own := RX11) rfl (by decide) (Nat.le_of_ble_eq_true rfl) (fun X (hx : Ok V RX11 cX11_bytesIs 2 (d + 2) X) (he : En layM V (some .int) (Ri fun v σ' => (¬ (0 ≤ f.toInt ∧ f.toInt ≤ 5) ∧ -1 = v ∧ σ = σ') ∨ ((0 ≤ f.toInt ∧ f.toInt ≤ 5) ∧ κ.1 (52 + nn f) 1 = 0 ∧ -11 = v ∧ σ = σ') ∨ ((0 ≤ f.toInt ∧ f.toInt ≤ 5) ∧ ¬ κ.1 (52 + nn f) 1 = 0 ∧ ¬ (κ.1 (52 + nn f) 1 = 2 ∧ κ.1 (52 + nn f) 3 = 0) ∧ -12 = v ∧ σ = σ') ∨ ((0 ≤ f.toInt ∧ f.toInt ≤ 5) ∧ ¬ κ.1 (52 + nn f) 1 = 0 ∧ (κ.1 (52 + nn f) 1 = 2 ∧ κ.1 (52 + nn f) 3 = 0) ∧ 1 = v ∧ σ = σ')) X) => ?_)
  change WS layM V 2 X σ 0 [(0, rf V 0), (1, .int f)] []
  refine WS.iload_n hx dX11_bytesIs_0 rfl 1 rfl ?_
  refine WS.callSi (st := []) [.int f] hx (c_X11_isShelf V d σ f) okX11_isShelf lm11_119 rfl rfl (Nat.le_of_ble_eq_true rfl) dX11_bytesIs_1 (fun v1 σ2 h3 => ?_)
  rcases h3 with ⟨rfl, rfl, hb1⟩ | ⟨rfl, rfl, hb1⟩
  · skip
    show WS layM V 2 X σ 4 [(0, rf V 0), (1, .int f)] [.int 1]
    obtain ⟨e1, e2, e3⟩ := hS.c hz9 (sh_nn hb1)
    unfold nn at e1 e2 e3
    refine WS.if_ne (tgt := 11) hx dX11_bytesIs_4 (by decide) (fun _ => ?_) (fun h => absurd h (by decide))
    refine WS.aload_n hx dX11_bytesIs_11 rfl 0 rfl ?_
    refine WS.getR hx okX11 lf11_77 rfl rfl dX11_bytesIs_12 ?_
    refine WS.iload_n hx dX11_bytesIs_15 rfl 1 rfl ?_
    refine WS.iald hx rfl (sh_in hb1) dX11_bytesIs_16 ?_
    refine WS.if_ge (tgt := 25) hx dX11_bytesIs_17 (by decide) (fun c17 => ?_) (fun c17 => ?_)
    · skip
      show WS layM V 2 X σ 25 [(0, rf V 0), (1, .int f)] []
      refine WS.aload_n hx dX11_bytesIs_25 rfl 0 rfl ?_
      refine WS.getR hx okX11 lf11_77 rfl rfl dX11_bytesIs_26 ?_
      refine WS.iload_n hx dX11_bytesIs_29 rfl 1 rfl ?_
      refine WS.iald hx rfl (sh_in hb1) dX11_bytesIs_30 ?_
      refine WS.bipush (v := 50) hx dX11_bytesIs_31 (by decide) ?_
      refine WS.icmp_ne (tgt := 40) hx dX11_bytesIs_33 (by decide) (fun c33 => ?_) (fun c33 => ?_)
      · skip
        show WS layM V 2 X σ 40 [(0, rf V 0), (1, .int f)] []
        refine WS.bipush (v := (-12)) hx dX11_bytesIs_40 (by decide) ?_
        exact WS.iret hx he dX11_bytesIs_42 ⟨_, rfl, Or.inr (Or.inr (Or.inl ⟨hb1, fun h => by have := e1.mp h; (try simp only [l_int, tL_0, tL_1, tL_2, tL_4, tL_5, tL_6, tL_7, tL_9, tL_10, tL_12, tL_15, tL_30, tL_40, tL_60, tL_99, tL_255, tL_1023, tL_m1, lc_lt, lc_gt, lc_ge, lc_le, lc_eq, l6_le, l6_lt, l6_eq, tI_m133, tI_m226, i_le, i_lt, i_eq, tI_m12, tI_m11, tI_m1, tI_0, tI_1, tI_50] at hb1); (try simp only [l_int, tL_0, tL_1, tL_2, tL_4, tL_5, tL_6, tL_7, tL_9, tL_10, tL_12, tL_15, tL_30, tL_40, tL_60, tL_99, tL_255, tL_1023, tL_m1, lc_lt, lc_gt, lc_ge, lc_le, lc_eq, l6_le, l6_lt, l6_eq, tI_m133, tI_m226, i_le, i_lt, i_eq, tI_m12, tI_m11, tI_m1, tI_0, tI_1, tI_50] at c17); (try simp only [l_int, tL_0, tL_1, tL_2, tL_4, tL_5, tL_6, tL_7, tL_9, tL_10, tL_12, tL_15, tL_30, tL_40, tL_60, tL_99, tL_255, tL_1023, tL_m1, lc_lt, lc_gt, lc_ge, lc_le, lc_eq, l6_le, l6_lt, l6_eq, tI_m133, tI_m226, i_le, i_lt, i_eq, tI_m12, tI_m11, tI_m1, tI_0, tI_1, tI_50] at c33); (try simp only [l_int, tL_0, tL_1, tL_2, tL_4, tL_5, tL_6, tL_7, tL_9, tL_10, tL_12, tL_15, tL_30, tL_40, tL_60, tL_99, tL_255, tL_1023, tL_m1, lc_lt, lc_gt, lc_ge, lc_le, lc_eq, l6_le, l6_lt, l6_eq, tI_m133, tI_m226, i_le, i_lt, i_eq, tI_m12, tI_m11, tI_m1, tI_0, tI_1, tI_50]); omega, fun h => by have := e3.mp h; (try simp only [l_int, tL_0, tL_1, tL_2, tL_4, tL_5, tL_6, tL_7, tL_9, tL_10, tL_12, tL_15, tL_30, tL_40, tL_60, tL_99, tL_255, tL_1023, tL_m1, lc_lt, lc_gt, lc_ge, lc_le, lc_eq, l6_le, l6_lt, l6_eq, tI_m133, tI_m226, i_le, i_lt, i_eq, tI_m12, tI_m11, tI_m1, tI_0, tI_1, tI_50] at hb1); (try simp only [l_int, tL_0, tL_1, tL_2, tL_4, tL_5, tL_6, tL_7, tL_9, tL_10, tL_12, tL_15, tL_30, tL_40, tL_60, tL_99, tL_255, tL_1023, tL_m1, lc_lt, lc_gt, lc_ge, lc_le, lc_eq, l6_le, l6_lt, l6_eq, tI_m133, tI_m226, i_le, i_lt, i_eq, tI_m12, tI_m11, tI_m1, tI_0, tI_1, tI_50] at c17); (try simp only [l_int, tL_0, tL_1, tL_2, tL_4, tL_5, tL_6, tL_7, tL_9, tL_10, tL_12, tL_15, tL_30, tL_40, tL_60, tL_99, tL_255, tL_1023, tL_m1, lc_lt, lc_gt, lc_ge, lc_le, lc_eq, l6_le, l6_lt, l6_eq, tI_m133, tI_m226, i_le, i_lt, i_eq, tI_m12, tI_m11, tI_m1, tI_0, tI_1, tI_50] at c33); (try simp only [l_int, tL_0, tL_1, tL_2, tL_4, tL_5, tL_6, tL_7, tL_9, tL_10, tL_12, tL_15, tL_30, tL_40, tL_60, tL_99, tL_255, tL_1023, tL_m1, lc_lt, lc_gt, lc_ge, lc_le, lc_eq, l6_le, l6_lt, l6_eq, tI_m133, tI_m226, i_le, i_lt, i_eq, tI_m12, tI_m11, tI_m1, tI_0, tI_1, tI_50]); omega, rfl, rfl⟩))⟩
      · skip
        show WS layM V 2 X σ 36 [(0, rf V 0), (1, .int f)] []
        refine WS.iconst (v := 1) hx dX11_bytesIs_36 (by decide) ?_
        refine WS.goto (tgt := 42) hx dX11_bytesIs_37 (by decide) ?_
        exact WS.iret hx he dX11_bytesIs_42 ⟨_, rfl, Or.inr (Or.inr (Or.inr ⟨hb1, fun h => by have := e1.mp h; (try simp only [l_int, tL_0, tL_1, tL_2, tL_4, tL_5, tL_6, tL_7, tL_9, tL_10, tL_12, tL_15, tL_30, tL_40, tL_60, tL_99, tL_255, tL_1023, tL_m1, lc_lt, lc_gt, lc_ge, lc_le, lc_eq, l6_le, l6_lt, l6_eq, tI_m133, tI_m226, i_le, i_lt, i_eq, tI_m12, tI_m11, tI_m1, tI_0, tI_1, tI_50] at hb1); (try simp only [l_int, tL_0, tL_1, tL_2, tL_4, tL_5, tL_6, tL_7, tL_9, tL_10, tL_12, tL_15, tL_30, tL_40, tL_60, tL_99, tL_255, tL_1023, tL_m1, lc_lt, lc_gt, lc_ge, lc_le, lc_eq, l6_le, l6_lt, l6_eq, tI_m133, tI_m226, i_le, i_lt, i_eq, tI_m12, tI_m11, tI_m1, tI_0, tI_1, tI_50] at c17); (try simp only [l_int, tL_0, tL_1, tL_2, tL_4, tL_5, tL_6, tL_7, tL_9, tL_10, tL_12, tL_15, tL_30, tL_40, tL_60, tL_99, tL_255, tL_1023, tL_m1, lc_lt, lc_gt, lc_ge, lc_le, lc_eq, l6_le, l6_lt, l6_eq, tI_m133, tI_m226, i_le, i_lt, i_eq, tI_m12, tI_m11, tI_m1, tI_0, tI_1, tI_50] at c33); (try simp only [l_int, tL_0, tL_1, tL_2, tL_4, tL_5, tL_6, tL_7, tL_9, tL_10, tL_12, tL_15, tL_30, tL_40, tL_60, tL_99, tL_255, tL_1023, tL_m1, lc_lt, lc_gt, lc_ge, lc_le, lc_eq, l6_le, l6_lt, l6_eq, tI_m133, tI_m226, i_le, i_lt, i_eq, tI_m12, tI_m11, tI_m1, tI_0, tI_1, tI_50]); omega, e3.mpr (by (try simp only [l_int, tL_0, tL_1, tL_2, tL_4, tL_5, tL_6, tL_7, tL_9, tL_10, tL_12, tL_15, tL_30, tL_40, tL_60, tL_99, tL_255, tL_1023, tL_m1, lc_lt, lc_gt, lc_ge, lc_le, lc_eq, l6_le, l6_lt, l6_eq, tI_m133, tI_m226, i_le, i_lt, i_eq, tI_m12, tI_m11, tI_m1, tI_0, tI_1, tI_50] at hb1); (try simp only [l_int, tL_0, tL_1, tL_2, tL_4, tL_5, tL_6, tL_7, tL_9, tL_10, tL_12, tL_15, tL_30, tL_40, tL_60, tL_99, tL_255, tL_1023, tL_m1, lc_lt, lc_gt, lc_ge, lc_le, lc_eq, l6_le, l6_lt, l6_eq, tI_m133, tI_m226, i_le, i_lt, i_eq, tI_m12, tI_m11, tI_m1, tI_0, tI_1, tI_50] at c17); (try simp only [l_int, tL_0, tL_1, tL_2, tL_4, tL_5, tL_6, tL_7, tL_9, tL_10, tL_12, tL_15, tL_30, tL_40, tL_60, tL_99, tL_255, tL_1023, tL_m1, lc_lt, lc_gt, lc_ge, lc_le, lc_eq, l6_le, l6_lt, l6_eq, tI_m133, tI_m226, i_le, i_lt, i_eq, tI_m12, tI_m11, tI_m1, tI_0, tI_1, tI_50] at c33); (try simp only [l_int, tL_0, tL_1, tL_2, tL_4, tL_5, tL_6, tL_7, tL_9, tL_10, tL_12, tL_15, tL_30, tL_40, tL_60, tL_99, tL_255, tL_1023, tL_m1, lc_lt, lc_gt, lc_ge, lc_le, lc_eq, l6_le, l6_lt, l6_eq, tI_m133, tI_m226, i_le, i_lt, i_eq, tI_m12, tI_m11, tI_m1, tI_0, tI_1, tI_50]); omega), rfl, rfl⟩))⟩
    · skip
      show WS layM V 2 X σ 20 [(0, rf V 0), (1, .int f)] []
      refine WS.bipush (v := (-11)) hx dX11_bytesIs_20 (by decide) ?_
      refine WS.goto (tgt := 42) hx dX11_bytesIs_22 (by decide) ?_
      exact WS.iret hx he dX11_bytesIs_42 ⟨_, rfl, Or.inr (Or.inl ⟨hb1, e1.mpr (by (try simp only [l_int, tL_0, tL_1, tL_2, tL_4, tL_5, tL_6, tL_7, tL_9, tL_10, tL_12, tL_15, tL_30, tL_40, tL_60, tL_99, tL_255, tL_1023, tL_m1, lc_lt, lc_gt, lc_ge, lc_le, lc_eq, l6_le, l6_lt, l6_eq, tI_m133, tI_m226, i_le, i_lt, i_eq, tI_m12, tI_m11, tI_m1, tI_0, tI_1, tI_50] at hb1); (try simp only [l_int, tL_0, tL_1, tL_2, tL_4, tL_5, tL_6, tL_7, tL_9, tL_10, tL_12, tL_15, tL_30, tL_40, tL_60, tL_99, tL_255, tL_1023, tL_m1, lc_lt, lc_gt, lc_ge, lc_le, lc_eq, l6_le, l6_lt, l6_eq, tI_m133, tI_m226, i_le, i_lt, i_eq, tI_m12, tI_m11, tI_m1, tI_0, tI_1, tI_50] at c17); (try simp only [l_int, tL_0, tL_1, tL_2, tL_4, tL_5, tL_6, tL_7, tL_9, tL_10, tL_12, tL_15, tL_30, tL_40, tL_60, tL_99, tL_255, tL_1023, tL_m1, lc_lt, lc_gt, lc_ge, lc_le, lc_eq, l6_le, l6_lt, l6_eq, tI_m133, tI_m226, i_le, i_lt, i_eq, tI_m12, tI_m11, tI_m1, tI_0, tI_1, tI_50]); omega), rfl, rfl⟩)⟩
  · skip
    show WS layM V 2 X σ 4 [(0, rf V 0), (1, .int f)] [.int 0]
    refine WS.if_ne (tgt := 11) hx dX11_bytesIs_4 (by decide) (fun h => absurd (by decide) h) (fun _ => ?_)
    refine WS.iconst (v := (-1)) hx dX11_bytesIs_7 (by decide) ?_
    refine WS.goto (tgt := 42) hx dX11_bytesIs_8 (by decide) ?_
    exact WS.iret hx he dX11_bytesIs_42 ⟨_, rfl, Or.inl ⟨hb1, rfl, rfl⟩⟩
theorem c2_X11_bytesIs (V : Vt) (d : Nat) (σ : Sg) (κ : Sg) (z9 : Nat) (hz9 : z9 ≤ 50) (hS : SR κ σ z9) (f : Int32) (v : Int32) (h : (v = -11 ∧ (0 ≤ f.toInt ∧ f.toInt ≤ 5) ∧ κ.1 (52 + nn f) 1 = 0) ∨ (v = -12 ∧ (0 ≤ f.toInt ∧ f.toInt ≤ 5) ∧ ¬ κ.1 (52 + nn f) 1 = 0 ∧ ¬ (κ.1 (52 + nn f) 1 = 2 ∧ κ.1 (52 + nn f) 3 = 0)) ∨ (v = 1 ∧ (0 ≤ f.toInt ∧ f.toInt ≤ 5) ∧ ¬ κ.1 (52 + nn f) 1 = 0 ∧ (κ.1 (52 + nn f) 1 = 2 ∧ κ.1 (52 + nn f) 3 = 0))) : CT layM V mX11_bytesIs (d + 2) [rf V 0, .int f] σ (Ro v σ) := by
  refine (c_X11_bytesIs V d σ κ z9 hz9 hS f).weaken (fun r τ hr => ?_)
  obtain ⟨v2, e, hr⟩ := hr
  rcases hr with ⟨a, e2, e3⟩ | ⟨a, b, e2, e3⟩ | ⟨a, b, c, e2, e3⟩ | ⟨a, b, c, e2, e3⟩ <;> rcases h with ⟨rfl, g⟩ | ⟨rfl, g⟩ | ⟨rfl, g⟩ <;> subst e2 <;> subst e3 <;> first | exact ⟨_, e, rfl, rfl⟩ | (exfalso; first | exact a g.1 | exact g.2.1 b | exact b g.2 | exact c g.2.2 | exact g.2.2 c)
set_option maxHeartbeats 1000000 in
theorem c_X11_judge (V : Vt) (d : Nat) (σ : Sg) (κ : Sg) (n : Nat) (hM : MR κ σ n) (cs : Nat → Int32) (T : Nat) (lw : Lw) (hL : ML σ cs T lw) (z9 : Nat) (hz9 : z9 ≤ 50) (hS : SR κ σ z9) (f b : Int32) : CT layM V mX11_judge (d + 7) [rf V 0, .int f, .int b] σ (Ri fun v σ' => (if ¬ ((0 ≤ f.toInt ∧ f.toInt ≤ 5) ∧ (0 ≤ b.toInt ∧ b.toInt < n)) then v = -1 ∧ ME σ σ' else (if κ.1 (52 + nn f) 1 = 0 then v = -11 ∧ ME σ σ' else (if ¬ (κ.1 (52 + nn f) 1 = 2 ∧ κ.1 (52 + nn f) 3 = 0) then v = -12 ∧ ME σ σ' else (v = oN (fsB ((wdM κ n lw).cn (nn b) ((wdM κ n lw).bd (nn b))) (κ.1 17) (κ.2.1 (58 + nn f)) (min (nn (κ.1 (52 + nn f) 4)) 41) 0 ((wdM κ n lw).s0 (nn b))) ∧ ME σ σ'))))) := by
  refine CT.of (own := RX11) rfl (by decide) (Nat.le_of_ble_eq_true rfl) (fun X (hx : Ok V RX11 cX11_judge 3 (d + 7) X) (he : En layM V (some .int) (Ri fun v σ' => (if ¬ ((0 ≤ f.toInt ∧ f.toInt ≤ 5) ∧ (0 ≤ b.toInt ∧ b.toInt < n)) then v = -1 ∧ ME σ σ' else (if κ.1 (52 + nn f) 1 = 0 then v = -11 ∧ ME σ σ' else (if ¬ (κ.1 (52 + nn f) 1 = 2 ∧ κ.1 (52 + nn f) 3 = 0) then v = -12 ∧ ME σ σ' else (v = oN (fsB ((wdM κ n lw).cn (nn b) ((wdM κ n lw).bd (nn b))) (κ.1 17) (κ.2.1 (58 + nn f)) (min (nn (κ.1 (52 + nn f) 4)) 41) 0 ((wdM κ n lw).s0 (nn b))) ∧ ME σ σ'))))) X) => ?_)
  change WS layM V 3 X σ 0 [(0, rf V 0), (1, .int f), (2, .int b)] []
  have hn := hM.n
  have hs := hM.s
  refine WS.aload_n hx dX11_judge_0 rfl 0 rfl ?_
  refine WS.iload_n hx dX11_judge_1 rfl 1 rfl ?_
  refine WS.callVi (st := []) [.int f] hx (c_X11_bytesIs V (d + 4) σ κ z9 hz9 hS f) okX11_bytesIs lm11_287 rfl rfl rfl rfl (Nat.le_of_ble_eq_true rfl) dX11_judge_2 (fun v1 σ2 h3 => ?_)
  rcases h3 with ⟨hr2, rfl, rfl⟩ | ⟨hr2, ha2, rfl, rfl⟩ | ⟨hr2, ha2, hc2, rfl, rfl⟩ | ⟨hr2, ha2, hc2, rfl, rfl⟩
  · show WS layM V 3 X σ 5 [(0, rf V 0), (1, .int f), (2, .int b)] [.int (-1)]
    refine WS.iconst (v := (-1)) hx dX11_judge_5 (by decide) ?_
    refine WS.icmp_eq (tgt := 18) hx dX11_judge_6 (by decide) (fun _ => ?_) (fun h => absurd (by decide) h)
    refine WS.iconst (v := (-1)) hx dX11_judge_18 (by decide) ?_
    exact WS.iret hx he dX11_judge_19 ⟨_, rfl, by (try dsimp only); rw [if_pos (fun h => by first | exact absurd h.1 hr2 | exact absurd h.2 hb9)]; exact ⟨rfl, ME.rf⟩⟩
  · show WS layM V 3 X σ 5 [(0, rf V 0), (1, .int f), (2, .int b)] [.int (-11)]
    refine WS.iconst (v := (-1)) hx dX11_judge_5 (by decide) ?_
    refine WS.icmp_eq (tgt := 18) hx dX11_judge_6 (by decide) (fun h => absurd h (by decide)) (fun _ => ?_)
    refine WS.aload_n hx dX11_judge_9 rfl 0 rfl ?_
    refine WS.iload_n hx dX11_judge_10 rfl 2 rfl ?_
    refine WS.i2l hx dX11_judge_11 ?_
    refine WS.callVi (st := []) [.long (Int32.toInt64 b)] hx (c_X11_isBlock V (d + 5) σ n hs hn (Int32.toInt64 b)) okX11_isBlock lm11_127 rfl rfl rfl rfl (Nat.le_of_ble_eq_true rfl) dX11_judge_12 (fun v1 σ2 h3 => ?_)
    rcases h3 with ⟨rfl, rfl, hb12⟩ | ⟨rfl, rfl, hb12⟩
    · skip
      show WS layM V 3 X σ 15 [(0, rf V 0), (1, .int f), (2, .int b)] [.int 1]
      have hb9 : 0 ≤ b.toInt ∧ b.toInt < n := by have h9 := hb12; simp only [l_int] at h9; exact h9
      have hkn : nn b < n := by have := nn_int hb9.1; omega
      refine WS.if_ne (tgt := 20) hx dX11_judge_15 (by decide) (fun _ => ?_) (fun h => absurd h (by decide))
      refine WS.aload_n hx dX11_judge_20 rfl 0 rfl ?_
      refine WS.iload_n hx dX11_judge_21 rfl 1 rfl ?_
      refine WS.callVi (st := []) [.int f] hx (c2_X11_bytesIs V (d + 4) σ κ z9 hz9 hS f (-11) (Or.inl ⟨rfl, hr2, ha2⟩)) okX11_bytesIs lm11_287 rfl rfl rfl rfl (Nat.le_of_ble_eq_true rfl) dX11_judge_22 (fun v4 σ5 h6 => ?_)
      obtain ⟨rfl, rfl⟩ := h6
      show WS layM V 3 X σ 25 [(0, rf V 0), (1, .int f), (2, .int b)] [.int (-11)]
      refine WS.if_ge (tgt := 36) hx dX11_judge_25 (by decide) (fun h => absurd h (by decide)) (fun _ => ?_)
      refine WS.aload_n hx dX11_judge_28 rfl 0 rfl ?_
      refine WS.iload_n hx dX11_judge_29 rfl 1 rfl ?_
      refine WS.callVi (st := []) [.int f] hx (c2_X11_bytesIs V (d + 4) σ κ z9 hz9 hS f (-11) (Or.inl ⟨rfl, hr2, ha2⟩)) okX11_bytesIs lm11_287 rfl rfl rfl rfl (Nat.le_of_ble_eq_true rfl) dX11_judge_30 (fun v7 σ8 h9 => ?_)
      obtain ⟨rfl, rfl⟩ := h9
      show WS layM V 3 X σ 33 [(0, rf V 0), (1, .int f), (2, .int b)] [.int (-11)]
      refine WS.goto (tgt := 42) hx dX11_judge_33 (by decide) ?_
      exact WS.iret hx he dX11_judge_42 ⟨_, rfl, by (try dsimp only); rw [if_neg (fun h => h ⟨hr2, hb9⟩), if_pos ha2]; exact ⟨rfl, ME.rf⟩⟩
    · skip
      show WS layM V 3 X σ 15 [(0, rf V 0), (1, .int f), (2, .int b)] [.int 0]
      have hb9 : ¬ (0 ≤ b.toInt ∧ b.toInt < n) := by have h9 := hb12; simp only [l_int] at h9; exact h9
      refine WS.if_ne (tgt := 20) hx dX11_judge_15 (by decide) (fun h => absurd (by decide) h) (fun _ => ?_)
      refine WS.iconst (v := (-1)) hx dX11_judge_18 (by decide) ?_
      exact WS.iret hx he dX11_judge_19 ⟨_, rfl, by (try dsimp only); rw [if_pos (fun h => by first | exact absurd h.1 hr2 | exact absurd h.2 hb9)]; exact ⟨rfl, ME.rf⟩⟩
  · show WS layM V 3 X σ 5 [(0, rf V 0), (1, .int f), (2, .int b)] [.int (-12)]
    refine WS.iconst (v := (-1)) hx dX11_judge_5 (by decide) ?_
    refine WS.icmp_eq (tgt := 18) hx dX11_judge_6 (by decide) (fun h => absurd h (by decide)) (fun _ => ?_)
    refine WS.aload_n hx dX11_judge_9 rfl 0 rfl ?_
    refine WS.iload_n hx dX11_judge_10 rfl 2 rfl ?_
    refine WS.i2l hx dX11_judge_11 ?_
    refine WS.callVi (st := []) [.long (Int32.toInt64 b)] hx (c_X11_isBlock V (d + 5) σ n hs hn (Int32.toInt64 b)) okX11_isBlock lm11_127 rfl rfl rfl rfl (Nat.le_of_ble_eq_true rfl) dX11_judge_12 (fun v1 σ2 h3 => ?_)
    rcases h3 with ⟨rfl, rfl, hb12⟩ | ⟨rfl, rfl, hb12⟩
    · skip
      show WS layM V 3 X σ 15 [(0, rf V 0), (1, .int f), (2, .int b)] [.int 1]
      have hb9 : 0 ≤ b.toInt ∧ b.toInt < n := by have h9 := hb12; simp only [l_int] at h9; exact h9
      have hkn : nn b < n := by have := nn_int hb9.1; omega
      refine WS.if_ne (tgt := 20) hx dX11_judge_15 (by decide) (fun _ => ?_) (fun h => absurd h (by decide))
      refine WS.aload_n hx dX11_judge_20 rfl 0 rfl ?_
      refine WS.iload_n hx dX11_judge_21 rfl 1 rfl ?_
      refine WS.callVi (st := []) [.int f] hx (c2_X11_bytesIs V (d + 4) σ κ z9 hz9 hS f (-12) (Or.inr (Or.inl ⟨rfl, hr2, ha2, hc2⟩))) okX11_bytesIs lm11_287 rfl rfl rfl rfl (Nat.le_of_ble_eq_true rfl) dX11_judge_22 (fun v4 σ5 h6 => ?_)
      obtain ⟨rfl, rfl⟩ := h6
      show WS layM V 3 X σ 25 [(0, rf V 0), (1, .int f), (2, .int b)] [.int (-12)]
      refine WS.if_ge (tgt := 36) hx dX11_judge_25 (by decide) (fun h => absurd h (by decide)) (fun _ => ?_)
      refine WS.aload_n hx dX11_judge_28 rfl 0 rfl ?_
      refine WS.iload_n hx dX11_judge_29 rfl 1 rfl ?_
      refine WS.callVi (st := []) [.int f] hx (c2_X11_bytesIs V (d + 4) σ κ z9 hz9 hS f (-12) (Or.inr (Or.inl ⟨rfl, hr2, ha2, hc2⟩))) okX11_bytesIs lm11_287 rfl rfl rfl rfl (Nat.le_of_ble_eq_true rfl) dX11_judge_30 (fun v7 σ8 h9 => ?_)
      obtain ⟨rfl, rfl⟩ := h9
      show WS layM V 3 X σ 33 [(0, rf V 0), (1, .int f), (2, .int b)] [.int (-12)]
      refine WS.goto (tgt := 42) hx dX11_judge_33 (by decide) ?_
      exact WS.iret hx he dX11_judge_42 ⟨_, rfl, by (try dsimp only); rw [if_neg (fun h => h ⟨hr2, hb9⟩), if_neg ha2, if_pos hc2]; exact ⟨rfl, ME.rf⟩⟩
    · skip
      show WS layM V 3 X σ 15 [(0, rf V 0), (1, .int f), (2, .int b)] [.int 0]
      have hb9 : ¬ (0 ≤ b.toInt ∧ b.toInt < n) := by have h9 := hb12; simp only [l_int] at h9; exact h9
      refine WS.if_ne (tgt := 20) hx dX11_judge_15 (by decide) (fun h => absurd (by decide) h) (fun _ => ?_)
      refine WS.iconst (v := (-1)) hx dX11_judge_18 (by decide) ?_
      exact WS.iret hx he dX11_judge_19 ⟨_, rfl, by (try dsimp only); rw [if_pos (fun h => by first | exact absurd h.1 hr2 | exact absurd h.2 hb9)]; exact ⟨rfl, ME.rf⟩⟩
  · show WS layM V 3 X σ 5 [(0, rf V 0), (1, .int f), (2, .int b)] [.int 1]
    have hsh := sh_nn hr2
    have hrow : rg (κ.1 (52 + nn f) 4) 60 ∧ σ.1 24 (nn f) = κ.1 (52 + nn f) 4 ∧ ∀ i, i < 60 → σ.2.1 25 (60 * nn f + i) = κ.2.1 (58 + nn f) i := by
      obtain ⟨g0, g | g | g⟩ := hS (nn f) hsh
      · exact absurd g.1 ha2
      · rw [g.1] at hc2; exact absurd hc2.1 (by decide)
      · exact ⟨g0, g.2.2.2.1, g.2.2.2.2.1⟩
    have hzz := (nI_nn hrow.1.1)
    have hz2 : nn (κ.1 (52 + nn f) 4) ≤ 60 := by have h9 := hrow.1; have := nn_int h9.1; unfold rg at h9; omega
    refine WS.iconst (v := (-1)) hx dX11_judge_5 (by decide) ?_
    refine WS.icmp_eq (tgt := 18) hx dX11_judge_6 (by decide) (fun h => absurd h (by decide)) (fun _ => ?_)
    refine WS.aload_n hx dX11_judge_9 rfl 0 rfl ?_
    refine WS.iload_n hx dX11_judge_10 rfl 2 rfl ?_
    refine WS.i2l hx dX11_judge_11 ?_
    refine WS.callVi (st := []) [.long (Int32.toInt64 b)] hx (c_X11_isBlock V (d + 5) σ n hs hn (Int32.toInt64 b)) okX11_isBlock lm11_127 rfl rfl rfl rfl (Nat.le_of_ble_eq_true rfl) dX11_judge_12 (fun v1 σ2 h3 => ?_)
    rcases h3 with ⟨rfl, rfl, hb12⟩ | ⟨rfl, rfl, hb12⟩
    · skip
      show WS layM V 3 X σ 15 [(0, rf V 0), (1, .int f), (2, .int b)] [.int 1]
      have hb9 : 0 ≤ b.toInt ∧ b.toInt < n := by have h9 := hb12; simp only [l_int] at h9; exact h9
      have hkn : nn b < n := by have := nn_int hb9.1; omega
      refine WS.if_ne (tgt := 20) hx dX11_judge_15 (by decide) (fun _ => ?_) (fun h => absurd h (by decide))
      refine WS.aload_n hx dX11_judge_20 rfl 0 rfl ?_
      refine WS.iload_n hx dX11_judge_21 rfl 1 rfl ?_
      refine WS.callVi (st := []) [.int f] hx (c2_X11_bytesIs V (d + 4) σ κ z9 hz9 hS f 1 (Or.inr (Or.inr ⟨rfl, hr2, ha2, hc2⟩))) okX11_bytesIs lm11_287 rfl rfl rfl rfl (Nat.le_of_ble_eq_true rfl) dX11_judge_22 (fun v4 σ5 h6 => ?_)
      obtain ⟨rfl, rfl⟩ := h6
      show WS layM V 3 X σ 25 [(0, rf V 0), (1, .int f), (2, .int b)] [.int 1]
      refine WS.if_ge (tgt := 36) hx dX11_judge_25 (by decide) (fun _ => ?_) (fun h => absurd (by decide) h)
      refine WS.aload_n hx dX11_judge_36 rfl 0 rfl ?_
      refine WS.iload_n hx dX11_judge_37 rfl 1 rfl ?_
      refine WS.as rfl rfl (congrArg (fun z => Value.int z :: _) (show f = nI (nn f) from (nI_nn hr2.1).symm)) ?_
      skip
      refine WS.iload_n hx dX11_judge_38 rfl 2 rfl ?_
      refine WS.as rfl rfl (congrArg (fun z => Value.int z :: _) (show b = nI (nn b) from (nI_nn hb9.1).symm)) ?_
      skip
      refine WS.callVi (st := []) [.int (nI (nn f)), .int (nI (nn b))] hx (c_X11_firstFalse V d σ κ n hM cs T lw hL (nn b) hkn (nn f) hsh (nn (κ.1 (52 + nn f) 4)) (by rw [hzz]; exact hrow.2.1) hz2 (κ.2.1 (58 + nn f)) (fun i hi => hrow.2.2 i (by omega))) okX11_firstFalse lm11_290 rfl rfl rfl rfl (Nat.le_of_ble_eq_true rfl) dX11_judge_39 (fun v7 σ8 h9 => ?_)
      obtain ⟨hv39, me39⟩ := h9
      show WS layM V 3 X σ8 42 [(0, rf V 0), (1, .int f), (2, .int b)] [.int v7]
      exact WS.iret hx he dX11_judge_42 ⟨_, rfl, by (try dsimp only); rw [if_neg (fun h => h ⟨hr2, hb9⟩), if_neg ha2, if_neg (fun h => h hc2)]; exact ⟨hv39.symm, me39⟩⟩
    · skip
      show WS layM V 3 X σ 15 [(0, rf V 0), (1, .int f), (2, .int b)] [.int 0]
      have hb9 : ¬ (0 ≤ b.toInt ∧ b.toInt < n) := by have h9 := hb12; simp only [l_int] at h9; exact h9
      refine WS.if_ne (tgt := 20) hx dX11_judge_15 (by decide) (fun h => absurd (by decide) h) (fun _ => ?_)
      refine WS.iconst (v := (-1)) hx dX11_judge_18 (by decide) ?_
      exact WS.iret hx he dX11_judge_19 ⟨_, rfl, by (try dsimp only); rw [if_pos (fun h => by first | exact absurd h.1 hr2 | exact absurd h.2 hb9)]; exact ⟨rfl, ME.rf⟩⟩

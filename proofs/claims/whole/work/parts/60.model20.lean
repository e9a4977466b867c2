def cpF (f g : Nat → Int32) (i : Nat) : Nat → Int32 := fun j => if j < i then f j else g j
theorem cpF_s {f g : Nat → Int32} {i : Nat} : upd (cpF f g i) i (f i) = cpF f g (i + 1) := by
  funext j
  unfold upd cpF
  by_cases e : j = i
  · rw [if_pos e, if_pos (by omega), e]
  · rw [if_neg e]
    by_cases g : j < i
    · rw [if_pos g, if_pos (by omega)]
    · rw [if_neg g, if_neg (by omega)]
theorem cpF_0 {f g : Nat → Int32} : cpF f g 0 = g := by
  funext j
  unfold cpF
  rw [if_neg (Nat.not_lt_zero j)]
def bkA (σ : Sg) (i : Nat) : Nat → Int32 := fun j => if (10 ≤ j ∧ j < 50) ∧ j % 10 < i then σ.1 19 j else σ.1 1 j
theorem bkA_0 {σ : Sg} : bkA σ 0 = σ.1 1 := by
  funext j
  unfold bkA
  rw [if_neg (fun h => Nat.not_lt_zero _ h.2)]
theorem bkA_s {σ : Sg} {i : Nat} (hi : i < 10) : upd (upd (upd (upd (bkA σ i) (10 + i) (σ.1 19 (10 + i))) (20 + i) (σ.1 19 (20 + i))) (30 + i) (σ.1 19 (30 + i))) (40 + i) (σ.1 19 (40 + i)) = bkA σ (i + 1) := by
  funext j
  unfold upd bkA
  by_cases e4 : j = 40 + i
  · rw [if_pos e4, if_pos (by omega), e4]
  · rw [if_neg e4]
    by_cases e3 : j = 30 + i
    · rw [if_pos e3, if_pos (by omega), e3]
    · rw [if_neg e3]
      by_cases e2 : j = 20 + i
      · rw [if_pos e2, if_pos (by omega), e2]
      · rw [if_neg e2]
        by_cases e1 : j = 10 + i
        · rw [if_pos e1, if_pos (by omega), e1]
        · rw [if_neg e1]
          by_cases g : (10 ≤ j ∧ j < 50) ∧ j % 10 < i
          · rw [if_pos g, if_pos (by omega)]
          · rw [if_neg g, if_neg (by omega)]
theorem stR_sw (σ : Sg) {a b : Nat} (h : a ≠ b) (f g : Nat → Int32) : stR (stR σ a f) b g = stR (stR σ b g) a f := by
  unfold stR
  refine Prod.ext ?_ rfl
  funext q
  (try dsimp only)
  unfold va_up
  by_cases e : q = b
  · subst e
    rw [if_pos rfl, if_neg (fun e => h e.symm), if_pos rfl]
  · rw [if_neg e]
    by_cases e2 : q = a
    · rw [if_pos e2, if_pos e2]
    · rw [if_neg e2, if_neg e2, if_neg e]
set_option maxHeartbeats 1000000 in
theorem lb_X11_image (V : Vt) (d : Nat) (σ : Sg) (n : Nat) (X : Xt) (hx : Ok V RX11 cX11_image 2 (d) X) (he : En layM V (some .int) (Ri fun v σ' => σ.1 18 1 = v ∧ σ' = (stR (stR (stI (stI σ 0 31 1) 0 32 (nI n)) 19 (cpF (σ.1 1) (σ.1 19) 83)) 20 (cpF (σ.1 18) (σ.1 20) 5))) X) : ∀ (i : Nat), i ≤ 5 → WS layM V 2 X (stR (stR (stI (stI σ 0 31 1) 0 32 (nI n)) 19 (cpF (σ.1 1) (σ.1 19) 83)) 20 (cpF (σ.1 18) (σ.1 20) i)) 41 [(1, .int (nI i)), (0, rf V 0)] [] := by
  intro i
  induction hm : 5 - i using Nat.strongRecOn generalizing i with
  | _ m9 ih =>
    intro hi
    have hiI : (nI i).toInt = (i : Int) := nI_c (by omega)
    refine WS.iload_n hx dX11_image_41 rfl 0 rfl ?_
    refine WS.iconst (v := 5) hx dX11_image_42 (by decide) ?_
    refine WS.icmp_ge (tgt := 64) hx dX11_image_43 (by decide) (fun c43 => ?_) (fun c43 => ?_)
    · skip
      show WS layM V 2 X (stR (stR (stI (stI σ 0 31 1) 0 32 (nI n)) 19 (cpF (σ.1 1) (σ.1 19) 83)) 20 (cpF (σ.1 18) (σ.1 20) i)) 64 [(1, .int (nI i)), (0, rf V 0)] []
      refine WS.aload_n hx dX11_image_64 rfl 1 rfl ?_
      refine WS.getR hx okX11 lf11_62 rfl rfl dX11_image_65 ?_
      refine WS.iconst (v := 1) hx dX11_image_68 (by decide) ?_
      refine WS.iald hx rfl (vp_dec (by decide)) dX11_image_69 ?_
      refine WS.as rfl rfl (congrArg (fun z => Value.int z :: _) (show (stR (stR (stI (stI σ 0 31 1) 0 32 (nI n)) 19 (cpF (σ.1 1) (σ.1 19) 83)) 20 (cpF (σ.1 18) (σ.1 20) i)).1 18 1 = σ.1 18 1 from rfl)) ?_
      skip
      exact WS.iret hx he dX11_image_70 ⟨_, rfl, rfl, by rw [show i = 5 by (try simp only [l_int, tL_0, tL_1, tL_2, tL_4, tL_5, tL_6, tL_7, tL_9, tL_10, tL_12, tL_15, tL_30, tL_40, tL_60, tL_99, tL_255, tL_1023, tL_m1, lc_lt, lc_gt, lc_ge, lc_le, lc_eq, l6_le, l6_lt, l6_eq, tI_m133, tI_m226, i_le, i_lt, i_eq, tI_0, tI_1, tI_5, tI_82] at c43); (try simp only [l_int, tL_0, tL_1, tL_2, tL_4, tL_5, tL_6, tL_7, tL_9, tL_10, tL_12, tL_15, tL_30, tL_40, tL_60, tL_99, tL_255, tL_1023, tL_m1, lc_lt, lc_gt, lc_ge, lc_le, lc_eq, l6_le, l6_lt, l6_eq, tI_m133, tI_m226, i_le, i_lt, i_eq, tI_0, tI_1, tI_5, tI_82]); omega]⟩
    · skip
      show WS layM V 2 X (stR (stR (stI (stI σ 0 31 1) 0 32 (nI n)) 19 (cpF (σ.1 1) (σ.1 19) 83)) 20 (cpF (σ.1 18) (σ.1 20) i)) 46 [(1, .int (nI i)), (0, rf V 0)] []
      refine WS.aload_n hx dX11_image_46 rfl 1 rfl ?_
      refine WS.getR hx okX11 lf11_68 rfl rfl dX11_image_47 ?_
      refine WS.iload_n hx dX11_image_50 rfl 0 rfl ?_
      refine WS.aload_n hx dX11_image_51 rfl 1 rfl ?_
      refine WS.getR hx okX11 lf11_62 rfl rfl dX11_image_52 ?_
      refine WS.iload_n hx dX11_image_55 rfl 0 rfl ?_
      refine WS.iald hx rfl (vp_in_nI (by (try simp only [l_int, tL_0, tL_1, tL_2, tL_4, tL_5, tL_6, tL_7, tL_9, tL_10, tL_12, tL_15, tL_30, tL_40, tL_60, tL_99, tL_255, tL_1023, tL_m1, lc_lt, lc_gt, lc_ge, lc_le, lc_eq, l6_le, l6_lt, l6_eq, tI_m133, tI_m226, i_le, i_lt, i_eq, tI_0, tI_1, tI_5, tI_82] at c43); (try simp only [l_int, tL_0, tL_1, tL_2, tL_4, tL_5, tL_6, tL_7, tL_9, tL_10, tL_12, tL_15, tL_30, tL_40, tL_60, tL_99, tL_255, tL_1023, tL_m1, lc_lt, lc_gt, lc_ge, lc_le, lc_eq, l6_le, l6_lt, l6_eq, tI_m133, tI_m226, i_le, i_lt, i_eq, tI_0, tI_1, tI_5, tI_82]); omega) (by decide)) dX11_image_56 ?_
      refine WS.as rfl rfl (congrArg (fun z => Value.int z :: _) (show (stR (stR (stI (stI σ 0 31 1) 0 32 (nI n)) 19 (cpF (σ.1 1) (σ.1 19) 83)) 20 (cpF (σ.1 18) (σ.1 20) i)).1 18 (nn (nI i)) = σ.1 18 i from by rw [nn_nI (by omega)]; rfl)) ?_
      skip
      refine WS.iast hx rfl (vp_in_nI (by (try simp only [l_int, tL_0, tL_1, tL_2, tL_4, tL_5, tL_6, tL_7, tL_9, tL_10, tL_12, tL_15, tL_30, tL_40, tL_60, tL_99, tL_255, tL_1023, tL_m1, lc_lt, lc_gt, lc_ge, lc_le, lc_eq, l6_le, l6_lt, l6_eq, tI_m133, tI_m226, i_le, i_lt, i_eq, tI_0, tI_1, tI_5, tI_82] at c43); (try simp only [l_int, tL_0, tL_1, tL_2, tL_4, tL_5, tL_6, tL_7, tL_9, tL_10, tL_12, tL_15, tL_30, tL_40, tL_60, tL_99, tL_255, tL_1023, tL_m1, lc_lt, lc_gt, lc_ge, lc_le, lc_eq, l6_le, l6_lt, l6_eq, tI_m133, tI_m226, i_le, i_lt, i_eq, tI_0, tI_1, tI_5, tI_82]); omega) (by decide)) dX11_image_57 ?_
      refine WS.iinc (v := nI (i + 1)) (lo' := [(1, .int (nI (i + 1))), (0, rf V 0)]) hx dX11_image_58 0 rfl (nI_1 i) (by decide) rfl ?_
      refine WS.goto (tgt := 41) hx dX11_image_61 (by decide) ?_
      (try simp only [nn_nI (show i < 2 ^ 31 by omega), nI_clamp (show i < 2 ^ 31 by omega)])
      rw [stI_R, cpF_s]
      exact WS.los [0, 1] rfl (ih _ (by (try simp only [l_int, tL_0, tL_1, tL_2, tL_4, tL_5, tL_6, tL_7, tL_9, tL_10, tL_12, tL_15, tL_30, tL_40, tL_60, tL_99, tL_255, tL_1023, tL_m1, lc_lt, lc_gt, lc_ge, lc_le, lc_eq, l6_le, l6_lt, l6_eq, tI_m133, tI_m226, i_le, i_lt, i_eq, tI_0, tI_1, tI_5, tI_82] at c43); (try simp only [l_int, tL_0, tL_1, tL_2, tL_4, tL_5, tL_6, tL_7, tL_9, tL_10, tL_12, tL_15, tL_30, tL_40, tL_60, tL_99, tL_255, tL_1023, tL_m1, lc_lt, lc_gt, lc_ge, lc_le, lc_eq, l6_le, l6_lt, l6_eq, tI_m133, tI_m226, i_le, i_lt, i_eq, tI_0, tI_1, tI_5, tI_82]); omega) (i + 1) rfl (by (try simp only [l_int, tL_0, tL_1, tL_2, tL_4, tL_5, tL_6, tL_7, tL_9, tL_10, tL_12, tL_15, tL_30, tL_40, tL_60, tL_99, tL_255, tL_1023, tL_m1, lc_lt, lc_gt, lc_ge, lc_le, lc_eq, l6_le, l6_lt, l6_eq, tI_m133, tI_m226, i_le, i_lt, i_eq, tI_0, tI_1, tI_5, tI_82] at c43); (try simp only [l_int, tL_0, tL_1, tL_2, tL_4, tL_5, tL_6, tL_7, tL_9, tL_10, tL_12, tL_15, tL_30, tL_40, tL_60, tL_99, tL_255, tL_1023, tL_m1, lc_lt, lc_gt, lc_ge, lc_le, lc_eq, l6_le, l6_lt, l6_eq, tI_m133, tI_m226, i_le, i_lt, i_eq, tI_0, tI_1, tI_5, tI_82]); omega))
set_option maxHeartbeats 1000000 in
theorem la_X11_image (V : Vt) (d : Nat) (σ : Sg) (n : Nat) (X : Xt) (hx : Ok V RX11 cX11_image 2 (d) X) (he : En layM V (some .int) (Ri fun v σ' => σ.1 18 1 = v ∧ σ' = (stR (stR (stI (stI σ 0 31 1) 0 32 (nI n)) 19 (cpF (σ.1 1) (σ.1 19) 83)) 20 (cpF (σ.1 18) (σ.1 20) 5))) X) : ∀ (i : Nat), i ≤ 83 → WS layM V 2 X (stR (stI (stI σ 0 31 1) 0 32 (nI n)) 19 (cpF (σ.1 1) (σ.1 19) i)) 15 [(1, .int (nI i)), (0, rf V 0)] [] := by
  intro i
  induction hm : 83 - i using Nat.strongRecOn generalizing i with
  | _ m9 ih =>
    intro hi
    have hiI : (nI i).toInt = (i : Int) := nI_c (by omega)
    have h82 : (82 : Int32).toInt = 82 := by decide
    refine WS.iload_n hx dX11_image_15 rfl 0 rfl ?_
    refine WS.bipush (v := 82) hx dX11_image_16 (by decide) ?_
    refine WS.icmp_gt (tgt := 39) hx dX11_image_18 (by decide) (fun c18 => ?_) (fun c18 => ?_)
    · skip
      show WS layM V 2 X (stR (stI (stI σ 0 31 1) 0 32 (nI n)) 19 (cpF (σ.1 1) (σ.1 19) i)) 39 [(1, .int (nI i)), (0, rf V 0)] []
      refine WS.iconst (v := 0) hx dX11_image_39 (by decide) ?_
      refine WS.istore_n (lo' := [(1, .int 0), (0, rf V 0)]) hx dX11_image_40 rfl (by decide) rfl ?_
      have h9 := lb_X11_image V d σ n X hx he 0 (Nat.zero_le _)
      rw [show i = 83 by (try simp only [l_int, tL_0, tL_1, tL_2, tL_4, tL_5, tL_6, tL_7, tL_9, tL_10, tL_12, tL_15, tL_30, tL_40, tL_60, tL_99, tL_255, tL_1023, tL_m1, lc_lt, lc_gt, lc_ge, lc_le, lc_eq, l6_le, l6_lt, l6_eq, tI_m133, tI_m226, i_le, i_lt, i_eq, tI_0, tI_1, tI_5, tI_82] at c18); (try simp only [l_int, tL_0, tL_1, tL_2, tL_4, tL_5, tL_6, tL_7, tL_9, tL_10, tL_12, tL_15, tL_30, tL_40, tL_60, tL_99, tL_255, tL_1023, tL_m1, lc_lt, lc_gt, lc_ge, lc_le, lc_eq, l6_le, l6_lt, l6_eq, tI_m133, tI_m226, i_le, i_lt, i_eq, tI_0, tI_1, tI_5, tI_82]); omega]
      rw [cpF_0, show σ.1 20 = (stR (stI (stI σ 0 31 1) 0 32 (nI n)) 19 (cpF (σ.1 1) (σ.1 19) 83)).1 20 from rfl, stR_self] at h9
      exact WS.los [0, 1] rfl h9
    · skip
      show WS layM V 2 X (stR (stI (stI σ 0 31 1) 0 32 (nI n)) 19 (cpF (σ.1 1) (σ.1 19) i)) 21 [(1, .int (nI i)), (0, rf V 0)] []
      refine WS.aload_n hx dX11_image_21 rfl 1 rfl ?_
      refine WS.getR hx okX11 lf11_65 rfl rfl dX11_image_22 ?_
      refine WS.iload_n hx dX11_image_25 rfl 0 rfl ?_
      refine WS.aload_n hx dX11_image_26 rfl 1 rfl ?_
      refine WS.getR hx okX11 lf11_9 rfl rfl dX11_image_27 ?_
      refine WS.iload_n hx dX11_image_30 rfl 0 rfl ?_
      refine WS.iald hx rfl (vp_in_nI (by (try simp only [l_int, tL_0, tL_1, tL_2, tL_4, tL_5, tL_6, tL_7, tL_9, tL_10, tL_12, tL_15, tL_30, tL_40, tL_60, tL_99, tL_255, tL_1023, tL_m1, lc_lt, lc_gt, lc_ge, lc_le, lc_eq, l6_le, l6_lt, l6_eq, tI_m133, tI_m226, i_le, i_lt, i_eq, tI_0, tI_1, tI_5, tI_82] at c18); (try simp only [l_int, tL_0, tL_1, tL_2, tL_4, tL_5, tL_6, tL_7, tL_9, tL_10, tL_12, tL_15, tL_30, tL_40, tL_60, tL_99, tL_255, tL_1023, tL_m1, lc_lt, lc_gt, lc_ge, lc_le, lc_eq, l6_le, l6_lt, l6_eq, tI_m133, tI_m226, i_le, i_lt, i_eq, tI_0, tI_1, tI_5, tI_82]); omega) (by decide)) dX11_image_31 ?_
      refine WS.as rfl rfl (congrArg (fun z => Value.int z :: _) (show (stR (stI (stI σ 0 31 1) 0 32 (nI n)) 19 (cpF (σ.1 1) (σ.1 19) i)).1 1 (nn (nI i)) = σ.1 1 i from by rw [nn_nI (by omega)]; rfl)) ?_
      skip
      refine WS.iast hx rfl (vp_in_nI (by (try simp only [l_int, tL_0, tL_1, tL_2, tL_4, tL_5, tL_6, tL_7, tL_9, tL_10, tL_12, tL_15, tL_30, tL_40, tL_60, tL_99, tL_255, tL_1023, tL_m1, lc_lt, lc_gt, lc_ge, lc_le, lc_eq, l6_le, l6_lt, l6_eq, tI_m133, tI_m226, i_le, i_lt, i_eq, tI_0, tI_1, tI_5, tI_82] at c18); (try simp only [l_int, tL_0, tL_1, tL_2, tL_4, tL_5, tL_6, tL_7, tL_9, tL_10, tL_12, tL_15, tL_30, tL_40, tL_60, tL_99, tL_255, tL_1023, tL_m1, lc_lt, lc_gt, lc_ge, lc_le, lc_eq, l6_le, l6_lt, l6_eq, tI_m133, tI_m226, i_le, i_lt, i_eq, tI_0, tI_1, tI_5, tI_82]); omega) (by decide)) dX11_image_32 ?_
      refine WS.iinc (v := nI (i + 1)) (lo' := [(1, .int (nI (i + 1))), (0, rf V 0)]) hx dX11_image_33 0 rfl (nI_1 i) (by decide) rfl ?_
      refine WS.goto (tgt := 15) hx dX11_image_36 (by decide) ?_
      (try simp only [nn_nI (show i < 2 ^ 31 by omega), nI_clamp (show i < 2 ^ 31 by omega)])
      rw [stI_R, cpF_s]
      exact WS.los [0, 1] rfl (ih _ (by (try simp only [l_int, tL_0, tL_1, tL_2, tL_4, tL_5, tL_6, tL_7, tL_9, tL_10, tL_12, tL_15, tL_30, tL_40, tL_60, tL_99, tL_255, tL_1023, tL_m1, lc_lt, lc_gt, lc_ge, lc_le, lc_eq, l6_le, l6_lt, l6_eq, tI_m133, tI_m226, i_le, i_lt, i_eq, tI_0, tI_1, tI_5, tI_82] at c18); (try simp only [l_int, tL_0, tL_1, tL_2, tL_4, tL_5, tL_6, tL_7, tL_9, tL_10, tL_12, tL_15, tL_30, tL_40, tL_60, tL_99, tL_255, tL_1023, tL_m1, lc_lt, lc_gt, lc_ge, lc_le, lc_eq, l6_le, l6_lt, l6_eq, tI_m133, tI_m226, i_le, i_lt, i_eq, tI_0, tI_1, tI_5, tI_82]); omega) (i + 1) rfl (by (try simp only [l_int, tL_0, tL_1, tL_2, tL_4, tL_5, tL_6, tL_7, tL_9, tL_10, tL_12, tL_15, tL_30, tL_40, tL_60, tL_99, tL_255, tL_1023, tL_m1, lc_lt, lc_gt, lc_ge, lc_le, lc_eq, l6_le, l6_lt, l6_eq, tI_m133, tI_m226, i_le, i_lt, i_eq, tI_0, tI_1, tI_5, tI_82] at c18); (try simp only [l_int, tL_0, tL_1, tL_2, tL_4, tL_5, tL_6, tL_7, tL_9, tL_10, tL_12, tL_15, tL_30, tL_40, tL_60, tL_99, tL_255, tL_1023, tL_m1, lc_lt, lc_gt, lc_ge, lc_le, lc_eq, l6_le, l6_lt, l6_eq, tI_m133, tI_m226, i_le, i_lt, i_eq, tI_0, tI_1, tI_5, tI_82]); omega))
set_option maxHeartbeats 1000000 in
theorem c_X11_image (V : Vt) (d : Nat) (σ : Sg) (n : Nat) (hs : σ.1 0 6 = nI n) : CT layM V mX11_image (d) [rf V 0] σ (Ri fun v σ' => σ.1 18 1 = v ∧ σ' = (stR (stR (stI (stI σ 0 31 1) 0 32 (nI n)) 19 (cpF (σ.1 1) (σ.1 19) 83)) 20 (cpF (σ.1 18) (σ.1 20) 5))) := by
  refine CT.of (own := RX11) rfl (by decide) (Nat.le_of_ble_eq_true rfl) (fun X (hx : Ok V RX11 cX11_image 2 (d) X) (he : En layM V (some .int) (Ri fun v σ' => σ.1 18 1 = v ∧ σ' = (stR (stR (stI (stI σ 0 31 1) 0 32 (nI n)) 19 (cpF (σ.1 1) (σ.1 19) 83)) 20 (cpF (σ.1 18) (σ.1 20) 5))) X) => ?_)
  change WS layM V 2 X σ 0 [(0, rf V 0)] []
  refine WS.aload_n hx dX11_image_0 rfl 0 rfl ?_
  refine WS.iconst (v := 1) hx dX11_image_1 (by decide) ?_
  refine WS.putZ hx okX11 lf11_310 rfl rfl rfl rfl (Or.inr rfl) dX11_image_2 ?_
  refine WS.aload_n hx dX11_image_5 rfl 0 rfl ?_
  refine WS.aload_n hx dX11_image_6 rfl 0 rfl ?_
  refine WS.getI hx okX11 lf11_97 rfl rfl dX11_image_7 ?_
  refine WS.as rfl rfl (congrArg (fun z => Value.int z :: _) (show (stI σ 0 31 1).1 0 6 = nI n from hs)) ?_
  skip
  refine WS.putI hx okX11 lf11_314 rfl rfl rfl rfl dX11_image_10 ?_
  refine WS.iconst (v := 0) hx dX11_image_13 (by decide) ?_
  refine WS.istore_n (lo' := [(1, .int 0), (0, rf V 0)]) hx dX11_image_14 rfl (by decide) rfl ?_
  have h9 := la_X11_image V d σ n X hx he 0 (Nat.zero_le _)
  rw [cpF_0, show σ.1 19 = (stI (stI σ 0 31 1) 0 32 (nI n)).1 19 from rfl, stR_self] at h9
  exact WS.los [0, 1] rfl h9
set_option maxHeartbeats 1000000 in
theorem lb_X11_back (V : Vt) (d : Nat) (σ : Sg) (m : Nat) (P : Int32 → Sg → Prop) (X : Xt) (hx : Ok V RX11 cX11_back 2 (d) X) (he : En layM V (some .int) (Ri P) X) (hP : P (σ.1 20 1) (stR (stI (stR σ 1 (bkA σ m)) 1 82 (σ.1 19 82)) 18 (cpF (σ.1 20) (σ.1 18) 5))) : ∀ (i : Nat), i ≤ 5 → WS layM V 2 X (stR (stI (stR σ 1 (bkA σ m)) 1 82 (σ.1 19 82)) 18 (cpF (σ.1 20) (σ.1 18) i)) 114 [(1, .int (nI i)), (0, rf V 0)] [] := by
  intro i
  induction hm : 5 - i using Nat.strongRecOn generalizing i with
  | _ m9 ih =>
    intro hi
    have hiI : (nI i).toInt = (i : Int) := nI_c (by omega)
    refine WS.iload_n hx dX11_back_114 rfl 0 rfl ?_
    refine WS.iconst (v := 5) hx dX11_back_115 (by decide) ?_
    refine WS.icmp_ge (tgt := 137) hx dX11_back_116 (by decide) (fun c116 => ?_) (fun c116 => ?_)
    · skip
      show WS layM V 2 X (stR (stI (stR σ 1 (bkA σ m)) 1 82 (σ.1 19 82)) 18 (cpF (σ.1 20) (σ.1 18) i)) 137 [(1, .int (nI i)), (0, rf V 0)] []
      refine WS.aload_n hx dX11_back_137 rfl 1 rfl ?_
      refine WS.getR hx okX11 lf11_62 rfl rfl dX11_back_138 ?_
      refine WS.iconst (v := 1) hx dX11_back_141 (by decide) ?_
      refine WS.iald hx rfl (vp_dec (by decide)) dX11_back_142 ?_
      exact WS.iret hx he dX11_back_143 ⟨_, rfl, (show i = 5 by (try simp only [l_int, tL_0, tL_1, tL_2, tL_4, tL_5, tL_6, tL_7, tL_9, tL_10, tL_12, tL_15, tL_30, tL_40, tL_60, tL_99, tL_255, tL_1023, tL_m1, lc_lt, lc_gt, lc_ge, lc_le, lc_eq, l6_le, l6_lt, l6_eq, tI_m133, tI_m226, i_le, i_lt, i_eq, tI_m5, tI_0, tI_1, tI_5, tI_10, tI_20, tI_30, tI_40, tI_82] at c116); (try simp only [l_int, tL_0, tL_1, tL_2, tL_4, tL_5, tL_6, tL_7, tL_9, tL_10, tL_12, tL_15, tL_30, tL_40, tL_60, tL_99, tL_255, tL_1023, tL_m1, lc_lt, lc_gt, lc_ge, lc_le, lc_eq, l6_le, l6_lt, l6_eq, tI_m133, tI_m226, i_le, i_lt, i_eq, tI_m5, tI_0, tI_1, tI_5, tI_10, tI_20, tI_30, tI_40, tI_82]); omega) ▸ hP⟩
    · skip
      show WS layM V 2 X (stR (stI (stR σ 1 (bkA σ m)) 1 82 (σ.1 19 82)) 18 (cpF (σ.1 20) (σ.1 18) i)) 119 [(1, .int (nI i)), (0, rf V 0)] []
      refine WS.aload_n hx dX11_back_119 rfl 1 rfl ?_
      refine WS.getR hx okX11 lf11_62 rfl rfl dX11_back_120 ?_
      refine WS.iload_n hx dX11_back_123 rfl 0 rfl ?_
      refine WS.aload_n hx dX11_back_124 rfl 1 rfl ?_
      refine WS.getR hx okX11 lf11_68 rfl rfl dX11_back_125 ?_
      refine WS.iload_n hx dX11_back_128 rfl 0 rfl ?_
      refine WS.iald hx rfl (vp_in_nI (by (try simp only [l_int, tL_0, tL_1, tL_2, tL_4, tL_5, tL_6, tL_7, tL_9, tL_10, tL_12, tL_15, tL_30, tL_40, tL_60, tL_99, tL_255, tL_1023, tL_m1, lc_lt, lc_gt, lc_ge, lc_le, lc_eq, l6_le, l6_lt, l6_eq, tI_m133, tI_m226, i_le, i_lt, i_eq, tI_m5, tI_0, tI_1, tI_5, tI_10, tI_20, tI_30, tI_40, tI_82] at c116); (try simp only [l_int, tL_0, tL_1, tL_2, tL_4, tL_5, tL_6, tL_7, tL_9, tL_10, tL_12, tL_15, tL_30, tL_40, tL_60, tL_99, tL_255, tL_1023, tL_m1, lc_lt, lc_gt, lc_ge, lc_le, lc_eq, l6_le, l6_lt, l6_eq, tI_m133, tI_m226, i_le, i_lt, i_eq, tI_m5, tI_0, tI_1, tI_5, tI_10, tI_20, tI_30, tI_40, tI_82]); omega) (by decide)) dX11_back_129 ?_
      refine WS.as rfl rfl (congrArg (fun z => Value.int z :: _) (show (stR (stI (stR σ 1 (bkA σ m)) 1 82 (σ.1 19 82)) 18 (cpF (σ.1 20) (σ.1 18) i)).1 20 (nn (nI i)) = σ.1 20 i from by rw [nn_nI (by omega)]; rfl)) ?_
      skip
      refine WS.iast hx rfl (vp_in_nI (by (try simp only [l_int, tL_0, tL_1, tL_2, tL_4, tL_5, tL_6, tL_7, tL_9, tL_10, tL_12, tL_15, tL_30, tL_40, tL_60, tL_99, tL_255, tL_1023, tL_m1, lc_lt, lc_gt, lc_ge, lc_le, lc_eq, l6_le, l6_lt, l6_eq, tI_m133, tI_m226, i_le, i_lt, i_eq, tI_m5, tI_0, tI_1, tI_5, tI_10, tI_20, tI_30, tI_40, tI_82] at c116); (try simp only [l_int, tL_0, tL_1, tL_2, tL_4, tL_5, tL_6, tL_7, tL_9, tL_10, tL_12, tL_15, tL_30, tL_40, tL_60, tL_99, tL_255, tL_1023, tL_m1, lc_lt, lc_gt, lc_ge, lc_le, lc_eq, l6_le, l6_lt, l6_eq, tI_m133, tI_m226, i_le, i_lt, i_eq, tI_m5, tI_0, tI_1, tI_5, tI_10, tI_20, tI_30, tI_40, tI_82]); omega) (by decide)) dX11_back_130 ?_
      refine WS.iinc (v := nI (i + 1)) (lo' := [(1, .int (nI (i + 1))), (0, rf V 0)]) hx dX11_back_131 0 rfl (nI_1 i) (by decide) rfl ?_
      refine WS.goto (tgt := 114) hx dX11_back_134 (by decide) ?_
      (try simp only [nn_nI (show i < 2 ^ 31 by omega), nI_clamp (show i < 2 ^ 31 by omega)])
      rw [stI_R, cpF_s]
      exact WS.los [0, 1] rfl (ih _ (by (try simp only [l_int, tL_0, tL_1, tL_2, tL_4, tL_5, tL_6, tL_7, tL_9, tL_10, tL_12, tL_15, tL_30, tL_40, tL_60, tL_99, tL_255, tL_1023, tL_m1, lc_lt, lc_gt, lc_ge, lc_le, lc_eq, l6_le, l6_lt, l6_eq, tI_m133, tI_m226, i_le, i_lt, i_eq, tI_m5, tI_0, tI_1, tI_5, tI_10, tI_20, tI_30, tI_40, tI_82] at c116); (try simp only [l_int, tL_0, tL_1, tL_2, tL_4, tL_5, tL_6, tL_7, tL_9, tL_10, tL_12, tL_15, tL_30, tL_40, tL_60, tL_99, tL_255, tL_1023, tL_m1, lc_lt, lc_gt, lc_ge, lc_le, lc_eq, l6_le, l6_lt, l6_eq, tI_m133, tI_m226, i_le, i_lt, i_eq, tI_m5, tI_0, tI_1, tI_5, tI_10, tI_20, tI_30, tI_40, tI_82]); omega) (i + 1) rfl (by (try simp only [l_int, tL_0, tL_1, tL_2, tL_4, tL_5, tL_6, tL_7, tL_9, tL_10, tL_12, tL_15, tL_30, tL_40, tL_60, tL_99, tL_255, tL_1023, tL_m1, lc_lt, lc_gt, lc_ge, lc_le, lc_eq, l6_le, l6_lt, l6_eq, tI_m133, tI_m226, i_le, i_lt, i_eq, tI_m5, tI_0, tI_1, tI_5, tI_10, tI_20, tI_30, tI_40, tI_82] at c116); (try simp only [l_int, tL_0, tL_1, tL_2, tL_4, tL_5, tL_6, tL_7, tL_9, tL_10, tL_12, tL_15, tL_30, tL_40, tL_60, tL_99, tL_255, tL_1023, tL_m1, lc_lt, lc_gt, lc_ge, lc_le, lc_eq, l6_le, l6_lt, l6_eq, tI_m133, tI_m226, i_le, i_lt, i_eq, tI_m5, tI_0, tI_1, tI_5, tI_10, tI_20, tI_30, tI_40, tI_82]); omega))
set_option maxHeartbeats 1000000 in
theorem la_X11_back (V : Vt) (d : Nat) (σ : Sg) (m : Nat) (hm10 : m ≤ 10) (hm9 : σ.1 0 32 = nI m) (P : Int32 → Sg → Prop) (X : Xt) (hx : Ok V RX11 cX11_back 2 (d) X) (he : En layM V (some .int) (Ri P) X) (hP : P (σ.1 20 1) (stR (stI (stR σ 1 (bkA σ m)) 1 82 (σ.1 19 82)) 18 (cpF (σ.1 20) (σ.1 18) 5))) : ∀ (i : Nat), i ≤ m → WS layM V 2 X (stR σ 1 (bkA σ i)) 12 [(1, .int (nI i)), (0, rf V 0)] [] := by
  have hmI : (nI m).toInt = (m : Int) := nI_c (by omega)
  intro i
  induction hm : m - i using Nat.strongRecOn generalizing i with
  | _ m9 ih =>
    intro hi
    have hiI : (nI i).toInt = (i : Int) := nI_c (by omega)
    refine WS.iload_n hx dX11_back_12 rfl 0 rfl ?_
    refine WS.aload_n hx dX11_back_13 rfl 1 rfl ?_
    refine WS.getI hx okX11 lf11_314 rfl rfl dX11_back_14 ?_
    refine WS.as rfl rfl (congrArg (fun z => Value.int z :: _) (show (stR σ 1 (bkA σ i)).1 0 32 = nI m from hm9)) ?_
    skip
    refine WS.icmp_ge (tgt := 98) hx dX11_back_17 (by decide) (fun c17 => ?_) (fun c17 => ?_)
    · skip
      show WS layM V 2 X (stR σ 1 (bkA σ i)) 98 [(1, .int (nI i)), (0, rf V 0)] []
      refine WS.aload_n hx dX11_back_98 rfl 1 rfl ?_
      refine WS.getR hx okX11 lf11_9 rfl rfl dX11_back_99 ?_
      refine WS.bipush (v := 82) hx dX11_back_102 (by decide) ?_
      refine WS.aload_n hx dX11_back_104 rfl 1 rfl ?_
      refine WS.getR hx okX11 lf11_65 rfl rfl dX11_back_105 ?_
      refine WS.bipush (v := 82) hx dX11_back_108 (by decide) ?_
      refine WS.iald hx rfl (vp_dec (by decide)) dX11_back_110 ?_
      refine WS.as rfl rfl (congrArg (fun z => Value.int z :: _) (show (stR σ 1 (bkA σ i)).1 19 82 = σ.1 19 82 from rfl)) ?_
      skip
      refine WS.iast hx rfl (vp_dec (by decide)) dX11_back_111 ?_
      refine WS.iconst (v := 0) hx dX11_back_112 (by decide) ?_
      refine WS.istore_n (lo' := [(1, .int 0), (0, rf V 0)]) hx dX11_back_113 rfl (by decide) rfl ?_
      have him : i = m := by (try simp only [l_int, tL_0, tL_1, tL_2, tL_4, tL_5, tL_6, tL_7, tL_9, tL_10, tL_12, tL_15, tL_30, tL_40, tL_60, tL_99, tL_255, tL_1023, tL_m1, lc_lt, lc_gt, lc_ge, lc_le, lc_eq, l6_le, l6_lt, l6_eq, tI_m133, tI_m226, i_le, i_lt, i_eq, tI_m5, tI_0, tI_1, tI_5, tI_10, tI_20, tI_30, tI_40, tI_82] at c17); (try simp only [l_int, tL_0, tL_1, tL_2, tL_4, tL_5, tL_6, tL_7, tL_9, tL_10, tL_12, tL_15, tL_30, tL_40, tL_60, tL_99, tL_255, tL_1023, tL_m1, lc_lt, lc_gt, lc_ge, lc_le, lc_eq, l6_le, l6_lt, l6_eq, tI_m133, tI_m226, i_le, i_lt, i_eq, tI_m5, tI_0, tI_1, tI_5, tI_10, tI_20, tI_30, tI_40, tI_82]); omega
      subst him
      have h9 := lb_X11_back V d σ i P X hx he hP 0 (Nat.zero_le _)
      rw [cpF_0, show σ.1 18 = (stI (stR σ 1 (bkA σ i)) 1 82 (σ.1 19 82)).1 18 from rfl, stR_self] at h9
      exact WS.los [0, 1] rfl h9
    · skip
      show WS layM V 2 X (stR σ 1 (bkA σ i)) 20 [(1, .int (nI i)), (0, rf V 0)] []
      refine WS.aload_n hx dX11_back_20 rfl 1 rfl ?_
      refine WS.getR hx okX11 lf11_9 rfl rfl dX11_back_21 ?_
      refine WS.bipush (v := 10) hx dX11_back_24 (by decide) ?_
      refine WS.iload_n hx dX11_back_26 rfl 0 rfl ?_
      refine WS.iadd hx dX11_back_27 ?_
      refine WS.as rfl rfl (congrArg (fun z => Value.int z :: _) (show 10 + (nI i) = nI (10 + i) from nI_add 10 i)) ?_
      skip
      refine WS.aload_n hx dX11_back_28 rfl 1 rfl ?_
      refine WS.getR hx okX11 lf11_65 rfl rfl dX11_back_29 ?_
      refine WS.bipush (v := 10) hx dX11_back_32 (by decide) ?_
      refine WS.iload_n hx dX11_back_34 rfl 0 rfl ?_
      refine WS.iadd hx dX11_back_35 ?_
      refine WS.as rfl rfl (congrArg (fun z => Value.int z :: _) (show 10 + (nI i) = nI (10 + i) from nI_add 10 i)) ?_
      skip
      refine WS.iald hx rfl (vp_in_nI (by (try simp only [l_int, tL_0, tL_1, tL_2, tL_4, tL_5, tL_6, tL_7, tL_9, tL_10, tL_12, tL_15, tL_30, tL_40, tL_60, tL_99, tL_255, tL_1023, tL_m1, lc_lt, lc_gt, lc_ge, lc_le, lc_eq, l6_le, l6_lt, l6_eq, tI_m133, tI_m226, i_le, i_lt, i_eq, tI_m5, tI_0, tI_1, tI_5, tI_10, tI_20, tI_30, tI_40, tI_82] at c17); (try simp only [l_int, tL_0, tL_1, tL_2, tL_4, tL_5, tL_6, tL_7, tL_9, tL_10, tL_12, tL_15, tL_30, tL_40, tL_60, tL_99, tL_255, tL_1023, tL_m1, lc_lt, lc_gt, lc_ge, lc_le, lc_eq, l6_le, l6_lt, l6_eq, tI_m133, tI_m226, i_le, i_lt, i_eq, tI_m5, tI_0, tI_1, tI_5, tI_10, tI_20, tI_30, tI_40, tI_82]); omega) (by decide)) dX11_back_36 ?_
      refine WS.as rfl rfl (congrArg (fun z => Value.int z :: _) (show (stR σ 1 (bkA σ i)).1 19 (nn (nI (10 + i))) = σ.1 19 (10 + i) from by rw [nn_nI (show 10 + i < 2 ^ 31 by omega)]; rfl)) ?_
      skip
      refine WS.iast hx rfl (vp_in_nI (by (try simp only [l_int, tL_0, tL_1, tL_2, tL_4, tL_5, tL_6, tL_7, tL_9, tL_10, tL_12, tL_15, tL_30, tL_40, tL_60, tL_99, tL_255, tL_1023, tL_m1, lc_lt, lc_gt, lc_ge, lc_le, lc_eq, l6_le, l6_lt, l6_eq, tI_m133, tI_m226, i_le, i_lt, i_eq, tI_m5, tI_0, tI_1, tI_5, tI_10, tI_20, tI_30, tI_40, tI_82] at c17); (try simp only [l_int, tL_0, tL_1, tL_2, tL_4, tL_5, tL_6, tL_7, tL_9, tL_10, tL_12, tL_15, tL_30, tL_40, tL_60, tL_99, tL_255, tL_1023, tL_m1, lc_lt, lc_gt, lc_ge, lc_le, lc_eq, l6_le, l6_lt, l6_eq, tI_m133, tI_m226, i_le, i_lt, i_eq, tI_m5, tI_0, tI_1, tI_5, tI_10, tI_20, tI_30, tI_40, tI_82]); omega) (by decide)) dX11_back_37 ?_
      refine WS.aload_n hx dX11_back_38 rfl 1 rfl ?_
      refine WS.getR hx okX11 lf11_9 rfl rfl dX11_back_39 ?_
      refine WS.bipush (v := 20) hx dX11_back_42 (by decide) ?_
      refine WS.iload_n hx dX11_back_44 rfl 0 rfl ?_
      refine WS.iadd hx dX11_back_45 ?_
      refine WS.as rfl rfl (congrArg (fun z => Value.int z :: _) (show 20 + (nI i) = nI (20 + i) from nI_add 20 i)) ?_
      skip
      refine WS.aload_n hx dX11_back_46 rfl 1 rfl ?_
      refine WS.getR hx okX11 lf11_65 rfl rfl dX11_back_47 ?_
      refine WS.bipush (v := 20) hx dX11_back_50 (by decide) ?_
      refine WS.iload_n hx dX11_back_52 rfl 0 rfl ?_
      refine WS.iadd hx dX11_back_53 ?_
      refine WS.as rfl rfl (congrArg (fun z => Value.int z :: _) (show 20 + (nI i) = nI (20 + i) from nI_add 20 i)) ?_
      skip
      refine WS.iald hx rfl (vp_in_nI (by (try simp only [l_int, tL_0, tL_1, tL_2, tL_4, tL_5, tL_6, tL_7, tL_9, tL_10, tL_12, tL_15, tL_30, tL_40, tL_60, tL_99, tL_255, tL_1023, tL_m1, lc_lt, lc_gt, lc_ge, lc_le, lc_eq, l6_le, l6_lt, l6_eq, tI_m133, tI_m226, i_le, i_lt, i_eq, tI_m5, tI_0, tI_1, tI_5, tI_10, tI_20, tI_30, tI_40, tI_82] at c17); (try simp only [l_int, tL_0, tL_1, tL_2, tL_4, tL_5, tL_6, tL_7, tL_9, tL_10, tL_12, tL_15, tL_30, tL_40, tL_60, tL_99, tL_255, tL_1023, tL_m1, lc_lt, lc_gt, lc_ge, lc_le, lc_eq, l6_le, l6_lt, l6_eq, tI_m133, tI_m226, i_le, i_lt, i_eq, tI_m5, tI_0, tI_1, tI_5, tI_10, tI_20, tI_30, tI_40, tI_82]); omega) (by decide)) dX11_back_54 ?_
      refine WS.as rfl rfl (congrArg (fun z => Value.int z :: _) (show (stI (stR σ 1 (bkA σ i)) 1 (nn (nI (10 + i))) (σ.1 19 (10 + i))).1 19 (nn (nI (20 + i))) = σ.1 19 (20 + i) from by rw [nn_nI (show 20 + i < 2 ^ 31 by omega)]; rfl)) ?_
      skip
      refine WS.iast hx rfl (vp_in_nI (by (try simp only [l_int, tL_0, tL_1, tL_2, tL_4, tL_5, tL_6, tL_7, tL_9, tL_10, tL_12, tL_15, tL_30, tL_40, tL_60, tL_99, tL_255, tL_1023, tL_m1, lc_lt, lc_gt, lc_ge, lc_le, lc_eq, l6_le, l6_lt, l6_eq, tI_m133, tI_m226, i_le, i_lt, i_eq, tI_m5, tI_0, tI_1, tI_5, tI_10, tI_20, tI_30, tI_40, tI_82] at c17); (try simp only [l_int, tL_0, tL_1, tL_2, tL_4, tL_5, tL_6, tL_7, tL_9, tL_10, tL_12, tL_15, tL_30, tL_40, tL_60, tL_99, tL_255, tL_1023, tL_m1, lc_lt, lc_gt, lc_ge, lc_le, lc_eq, l6_le, l6_lt, l6_eq, tI_m133, tI_m226, i_le, i_lt, i_eq, tI_m5, tI_0, tI_1, tI_5, tI_10, tI_20, tI_30, tI_40, tI_82]); omega) (by decide)) dX11_back_55 ?_
      refine WS.aload_n hx dX11_back_56 rfl 1 rfl ?_
      refine WS.getR hx okX11 lf11_9 rfl rfl dX11_back_57 ?_
      refine WS.bipush (v := 30) hx dX11_back_60 (by decide) ?_
      refine WS.iload_n hx dX11_back_62 rfl 0 rfl ?_
      refine WS.iadd hx dX11_back_63 ?_
      refine WS.as rfl rfl (congrArg (fun z => Value.int z :: _) (show 30 + (nI i) = nI (30 + i) from nI_add 30 i)) ?_
      skip
      refine WS.aload_n hx dX11_back_64 rfl 1 rfl ?_
      refine WS.getR hx okX11 lf11_65 rfl rfl dX11_back_65 ?_
      refine WS.bipush (v := 30) hx dX11_back_68 (by decide) ?_
      refine WS.iload_n hx dX11_back_70 rfl 0 rfl ?_
      refine WS.iadd hx dX11_back_71 ?_
      refine WS.as rfl rfl (congrArg (fun z => Value.int z :: _) (show 30 + (nI i) = nI (30 + i) from nI_add 30 i)) ?_
      skip
      refine WS.iald hx rfl (vp_in_nI (by (try simp only [l_int, tL_0, tL_1, tL_2, tL_4, tL_5, tL_6, tL_7, tL_9, tL_10, tL_12, tL_15, tL_30, tL_40, tL_60, tL_99, tL_255, tL_1023, tL_m1, lc_lt, lc_gt, lc_ge, lc_le, lc_eq, l6_le, l6_lt, l6_eq, tI_m133, tI_m226, i_le, i_lt, i_eq, tI_m5, tI_0, tI_1, tI_5, tI_10, tI_20, tI_30, tI_40, tI_82] at c17); (try simp only [l_int, tL_0, tL_1, tL_2, tL_4, tL_5, tL_6, tL_7, tL_9, tL_10, tL_12, tL_15, tL_30, tL_40, tL_60, tL_99, tL_255, tL_1023, tL_m1, lc_lt, lc_gt, lc_ge, lc_le, lc_eq, l6_le, l6_lt, l6_eq, tI_m133, tI_m226, i_le, i_lt, i_eq, tI_m5, tI_0, tI_1, tI_5, tI_10, tI_20, tI_30, tI_40, tI_82]); omega) (by decide)) dX11_back_72 ?_
      refine WS.as rfl rfl (congrArg (fun z => Value.int z :: _) (show (stI (stI (stR σ 1 (bkA σ i)) 1 (nn (nI (10 + i))) (σ.1 19 (10 + i))) 1 (nn (nI (20 + i))) (σ.1 19 (20 + i))).1 19 (nn (nI (30 + i))) = σ.1 19 (30 + i) from by rw [nn_nI (show 30 + i < 2 ^ 31 by omega)]; rfl)) ?_
      skip
      refine WS.iast hx rfl (vp_in_nI (by (try simp only [l_int, tL_0, tL_1, tL_2, tL_4, tL_5, tL_6, tL_7, tL_9, tL_10, tL_12, tL_15, tL_30, tL_40, tL_60, tL_99, tL_255, tL_1023, tL_m1, lc_lt, lc_gt, lc_ge, lc_le, lc_eq, l6_le, l6_lt, l6_eq, tI_m133, tI_m226, i_le, i_lt, i_eq, tI_m5, tI_0, tI_1, tI_5, tI_10, tI_20, tI_30, tI_40, tI_82] at c17); (try simp only [l_int, tL_0, tL_1, tL_2, tL_4, tL_5, tL_6, tL_7, tL_9, tL_10, tL_12, tL_15, tL_30, tL_40, tL_60, tL_99, tL_255, tL_1023, tL_m1, lc_lt, lc_gt, lc_ge, lc_le, lc_eq, l6_le, l6_lt, l6_eq, tI_m133, tI_m226, i_le, i_lt, i_eq, tI_m5, tI_0, tI_1, tI_5, tI_10, tI_20, tI_30, tI_40, tI_82]); omega) (by decide)) dX11_back_73 ?_
      refine WS.aload_n hx dX11_back_74 rfl 1 rfl ?_
      refine WS.getR hx okX11 lf11_9 rfl rfl dX11_back_75 ?_
      refine WS.bipush (v := 40) hx dX11_back_78 (by decide) ?_
      refine WS.iload_n hx dX11_back_80 rfl 0 rfl ?_
      refine WS.iadd hx dX11_back_81 ?_
      refine WS.as rfl rfl (congrArg (fun z => Value.int z :: _) (show 40 + (nI i) = nI (40 + i) from nI_add 40 i)) ?_
      skip
      refine WS.aload_n hx dX11_back_82 rfl 1 rfl ?_
      refine WS.getR hx okX11 lf11_65 rfl rfl dX11_back_83 ?_
      refine WS.bipush (v := 40) hx dX11_back_86 (by decide) ?_
      refine WS.iload_n hx dX11_back_88 rfl 0 rfl ?_
      refine WS.iadd hx dX11_back_89 ?_
      refine WS.as rfl rfl (congrArg (fun z => Value.int z :: _) (show 40 + (nI i) = nI (40 + i) from nI_add 40 i)) ?_
      skip
      refine WS.iald hx rfl (vp_in_nI (by (try simp only [l_int, tL_0, tL_1, tL_2, tL_4, tL_5, tL_6, tL_7, tL_9, tL_10, tL_12, tL_15, tL_30, tL_40, tL_60, tL_99, tL_255, tL_1023, tL_m1, lc_lt, lc_gt, lc_ge, lc_le, lc_eq, l6_le, l6_lt, l6_eq, tI_m133, tI_m226, i_le, i_lt, i_eq, tI_m5, tI_0, tI_1, tI_5, tI_10, tI_20, tI_30, tI_40, tI_82] at c17); (try simp only [l_int, tL_0, tL_1, tL_2, tL_4, tL_5, tL_6, tL_7, tL_9, tL_10, tL_12, tL_15, tL_30, tL_40, tL_60, tL_99, tL_255, tL_1023, tL_m1, lc_lt, lc_gt, lc_ge, lc_le, lc_eq, l6_le, l6_lt, l6_eq, tI_m133, tI_m226, i_le, i_lt, i_eq, tI_m5, tI_0, tI_1, tI_5, tI_10, tI_20, tI_30, tI_40, tI_82]); omega) (by decide)) dX11_back_90 ?_
      refine WS.as rfl rfl (congrArg (fun z => Value.int z :: _) (show (stI (stI (stI (stR σ 1 (bkA σ i)) 1 (nn (nI (10 + i))) (σ.1 19 (10 + i))) 1 (nn (nI (20 + i))) (σ.1 19 (20 + i))) 1 (nn (nI (30 + i))) (σ.1 19 (30 + i))).1 19 (nn (nI (40 + i))) = σ.1 19 (40 + i) from by rw [nn_nI (show 40 + i < 2 ^ 31 by omega)]; rfl)) ?_
      skip
      refine WS.iast hx rfl (vp_in_nI (by (try simp only [l_int, tL_0, tL_1, tL_2, tL_4, tL_5, tL_6, tL_7, tL_9, tL_10, tL_12, tL_15, tL_30, tL_40, tL_60, tL_99, tL_255, tL_1023, tL_m1, lc_lt, lc_gt, lc_ge, lc_le, lc_eq, l6_le, l6_lt, l6_eq, tI_m133, tI_m226, i_le, i_lt, i_eq, tI_m5, tI_0, tI_1, tI_5, tI_10, tI_20, tI_30, tI_40, tI_82] at c17); (try simp only [l_int, tL_0, tL_1, tL_2, tL_4, tL_5, tL_6, tL_7, tL_9, tL_10, tL_12, tL_15, tL_30, tL_40, tL_60, tL_99, tL_255, tL_1023, tL_m1, lc_lt, lc_gt, lc_ge, lc_le, lc_eq, l6_le, l6_lt, l6_eq, tI_m133, tI_m226, i_le, i_lt, i_eq, tI_m5, tI_0, tI_1, tI_5, tI_10, tI_20, tI_30, tI_40, tI_82]); omega) (by decide)) dX11_back_91 ?_
      refine WS.iinc (v := nI (i + 1)) (lo' := [(1, .int (nI (i + 1))), (0, rf V 0)]) hx dX11_back_92 0 rfl (nI_1 i) (by decide) rfl ?_
      refine WS.goto (tgt := 12) hx dX11_back_95 (by decide) ?_
      (try simp only [nn_nI (show 10 + i < 2 ^ 31 by omega), nI_clamp (show 10 + i < 2 ^ 31 by omega)])
      (try simp only [nn_nI (show 20 + i < 2 ^ 31 by omega), nI_clamp (show 20 + i < 2 ^ 31 by omega)])
      (try simp only [nn_nI (show 30 + i < 2 ^ 31 by omega), nI_clamp (show 30 + i < 2 ^ 31 by omega)])
      (try simp only [nn_nI (show 40 + i < 2 ^ 31 by omega), nI_clamp (show 40 + i < 2 ^ 31 by omega)])
      rw [stI_R, stI_R, stI_R, stI_R, bkA_s (by (try simp only [l_int, tL_0, tL_1, tL_2, tL_4, tL_5, tL_6, tL_7, tL_9, tL_10, tL_12, tL_15, tL_30, tL_40, tL_60, tL_99, tL_255, tL_1023, tL_m1, lc_lt, lc_gt, lc_ge, lc_le, lc_eq, l6_le, l6_lt, l6_eq, tI_m133, tI_m226, i_le, i_lt, i_eq, tI_m5, tI_0, tI_1, tI_5, tI_10, tI_20, tI_30, tI_40, tI_82] at c17); (try simp only [l_int, tL_0, tL_1, tL_2, tL_4, tL_5, tL_6, tL_7, tL_9, tL_10, tL_12, tL_15, tL_30, tL_40, tL_60, tL_99, tL_255, tL_1023, tL_m1, lc_lt, lc_gt, lc_ge, lc_le, lc_eq, l6_le, l6_lt, l6_eq, tI_m133, tI_m226, i_le, i_lt, i_eq, tI_m5, tI_0, tI_1, tI_5, tI_10, tI_20, tI_30, tI_40, tI_82]); omega)]
      exact WS.los [0, 1] rfl (ih _ (by (try simp only [l_int, tL_0, tL_1, tL_2, tL_4, tL_5, tL_6, tL_7, tL_9, tL_10, tL_12, tL_15, tL_30, tL_40, tL_60, tL_99, tL_255, tL_1023, tL_m1, lc_lt, lc_gt, lc_ge, lc_le, lc_eq, l6_le, l6_lt, l6_eq, tI_m133, tI_m226, i_le, i_lt, i_eq, tI_m5, tI_0, tI_1, tI_5, tI_10, tI_20, tI_30, tI_40, tI_82] at c17); (try simp only [l_int, tL_0, tL_1, tL_2, tL_4, tL_5, tL_6, tL_7, tL_9, tL_10, tL_12, tL_15, tL_30, tL_40, tL_60, tL_99, tL_255, tL_1023, tL_m1, lc_lt, lc_gt, lc_ge, lc_le, lc_eq, l6_le, l6_lt, l6_eq, tI_m133, tI_m226, i_le, i_lt, i_eq, tI_m5, tI_0, tI_1, tI_5, tI_10, tI_20, tI_30, tI_40, tI_82]); omega) (i + 1) rfl (by (try simp only [l_int, tL_0, tL_1, tL_2, tL_4, tL_5, tL_6, tL_7, tL_9, tL_10, tL_12, tL_15, tL_30, tL_40, tL_60, tL_99, tL_255, tL_1023, tL_m1, lc_lt, lc_gt, lc_ge, lc_le, lc_eq, l6_le, l6_lt, l6_eq, tI_m133, tI_m226, i_le, i_lt, i_eq, tI_m5, tI_0, tI_1, tI_5, tI_10, tI_20, tI_30, tI_40, tI_82] at c17); (try simp only [l_int, tL_0, tL_1, tL_2, tL_4, tL_5, tL_6, tL_7, tL_9, tL_10, tL_12, tL_15, tL_30, tL_40, tL_60, tL_99, tL_255, tL_1023, tL_m1, lc_lt, lc_gt, lc_ge, lc_le, lc_eq, l6_le, l6_lt, l6_eq, tI_m133, tI_m226, i_le, i_lt, i_eq, tI_m5, tI_0, tI_1, tI_5, tI_10, tI_20, tI_30, tI_40, tI_82]); omega))
set_option maxHeartbeats 1000000 in
theorem c_X11_back (V : Vt) (d : Nat) (σ : Sg) (k : Bool) (hk : σ.1 0 31 = bI k) (m : Nat) (hm : k = true → m ≤ 10 ∧ σ.1 0 32 = nI m) : CT layM V mX11_back (d) [rf V 0] σ (Ri fun v σ' => (if ¬ k = true then v = -5 ∧ σ' = σ else (v = σ.1 20 1 ∧ σ' = (stR (stI (stR σ 1 (bkA σ m)) 1 82 (σ.1 19 82)) 18 (cpF (σ.1 20) (σ.1 18) 5))))) := by
  refine CT.of (own := RX11) rfl (by decide) (Nat.le_of_ble_eq_true rfl) (fun X (hx : Ok V RX11 cX11_back 2 (d) X) (he : En layM V (some .int) (Ri fun v σ' => (if ¬ k = true then v = -5 ∧ σ' = σ else (v = σ.1 20 1 ∧ σ' = (stR (stI (stR σ 1 (bkA σ m)) 1 82 (σ.1 19 82)) 18 (cpF (σ.1 20) (σ.1 18) 5))))) X) => ?_)
  change WS layM V 2 X σ 0 [(0, rf V 0)] []
  refine WS.aload_n hx dX11_back_0 rfl 0 rfl ?_
  refine WS.getI hx okX11 lf11_310 rfl rfl dX11_back_1 ?_
  refine WS.as rfl rfl (congrArg (fun z => Value.int z :: _) (show σ.1 0 31 = bI k from hk)) ?_
  skip
  refine WS.if_ne (tgt := 10) hx dX11_back_4 (by decide) (fun c4 => ?_) (fun c4 => ?_)
  · skip
    show WS layM V 2 X σ 10 [(0, rf V 0)] []
    have hk9 : k = true := by cases k with | true => rfl | false => exact absurd rfl c4
    refine WS.iconst (v := 0) hx dX11_back_10 (by decide) ?_
    refine WS.istore_n (lo' := [(1, .int 0), (0, rf V 0)]) hx dX11_back_11 rfl (by decide) rfl ?_
    have h9 := la_X11_back V d σ m (hm hk9).1 (hm hk9).2 _ X hx he (by (try dsimp only); rw [if_neg (fun h => h hk9)]; exact ⟨rfl, rfl⟩) 0 (Nat.zero_le _)
    rw [bkA_0, stR_self] at h9
    exact WS.los [0, 1] rfl h9
  · skip
    show WS layM V 2 X σ 7 [(0, rf V 0)] []
    refine WS.bipush (v := (-5)) hx dX11_back_7 (by decide) ?_
    exact WS.iret hx he dX11_back_9 ⟨_, rfl, by (try dsimp only); rw [if_pos (by rw [bI_0.mp c4]; decide)]; exact ⟨rfl, rfl⟩⟩

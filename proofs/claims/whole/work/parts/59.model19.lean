theorem stI_R (υ : Sg) (o k : Nat) (f : Nat → Int32) (v : Int32) : stI (stR υ o f) o k v = stR υ o (upd f k v) := by
  unfold stI stR
  refine Prod.ext ?_ rfl
  funext q j
  (try dsimp only)
  unfold va_up
  by_cases e : q = o
  · subst e; simp only [if_true]
  · simp only [if_neg e]
def cwA (υ : Sg) (i : Nat) : Nat → Int32 := fun j => if 10 ≤ j ∧ j < 10 + i then υ.1 14 (j - 10) else υ.1 1 j
theorem cwA_s {υ : Sg} {i : Nat} : upd (cwA υ i) (10 + i) (υ.1 14 i) = cwA υ (i + 1) := by
  funext j
  unfold upd cwA
  by_cases e : j = 10 + i
  · rw [if_pos e, if_pos (by omega), e, show 10 + i - 10 = i by omega]
  · rw [if_neg e]
    by_cases g : 10 ≤ j ∧ j < 10 + i
    · rw [if_pos g, if_pos (by omega)]
    · rw [if_neg g, if_neg (by omega)]
set_option maxHeartbeats 1000000 in
theorem lp_X11_century (V : Vt) (d : Nat) (σ : Sg) (κ : Sg) (n : Nat) (hM : MR κ σ n) (cs : Nat → Int32) (T : Nat) (lw : Lw) (hL : ML σ cs T lw) (υ : Sg) (hE : ME σ υ) (hT : MT υ n (msC (wdM κ n lw) (ms0 (wdM κ n lw)))) (X : Xt) (hx : Ok V RX11 cX11_century 2 (d + 6) X) (he : En layM V (some .int) (Ri fun v σ' => nI (min (nn (κ.1 18 0) + 1) 99) = v ∧ ∃ υ, ME σ υ ∧ MT υ n (msC (wdM κ n lw) (ms0 (wdM κ n lw))) ∧ σ' = stI (stI (stR υ 1 (cwA υ n)) 1 82 v) 18 0 (σ.1 18 0 + 1)) X) : ∀ (i : Nat), i ≤ n → WS layM V 2 X (stR υ 1 (cwA υ i)) 10 [(1, .int (nI i)), (0, rf V 0)] [] := by
  have hn := hM.n
  have hnI : (nI n).toInt = (n : Int) := nI_c (by omega)
  intro i
  induction hm : n - i using Nat.strongRecOn generalizing i with
  | _ m9 ih =>
    intro hi
    have hiI : (nI i).toInt = (i : Int) := nI_c (by omega)
    refine WS.iload_n hx dX11_century_10 rfl 0 rfl ?_
    refine WS.aload_n hx dX11_century_11 rfl 1 rfl ?_
    refine WS.getI hx okX11 lf11_97 rfl rfl dX11_century_12 ?_
    refine WS.as rfl rfl (congrArg (fun z => Value.int z :: _) (show (stR υ 1 (cwA υ i)).1 0 6 = nI n from (hM.me hE).s)) ?_
    skip
    refine WS.icmp_ge (tgt := 39) hx dX11_century_15 (by decide) (fun c15 => ?_) (fun c15 => ?_)
    · skip
      show WS layM V 2 X (stR υ 1 (cwA υ i)) 39 [(1, .int (nI i)), (0, rf V 0)] []
      refine WS.aload_n hx dX11_century_39 rfl 1 rfl ?_
      refine WS.getR hx okX11 lf11_9 rfl rfl dX11_century_40 ?_
      refine WS.bipush (v := 82) hx dX11_century_43 (by decide) ?_
      refine WS.aload_n hx dX11_century_45 rfl 1 rfl ?_
      refine WS.getI hx okX11 lf11_216 rfl rfl dX11_century_46 ?_
      refine WS.as rfl rfl (congrArg (fun z => Value.int z :: _) (show (stR υ 1 (cwA υ i)).1 0 25 = nI (min (nn (κ.1 18 0) + 1) 99) from hT.2.1)) ?_
      skip
      refine WS.iast hx rfl (vp_dec (by decide)) dX11_century_49 ?_
      refine WS.aload_n hx dX11_century_50 rfl 1 rfl ?_
      refine WS.getR hx okX11 lf11_62 rfl rfl dX11_century_51 ?_
      refine WS.iconst (v := 0) hx dX11_century_54 (by decide) ?_
      refine WS.dup2 hx dX11_century_55 rfl rfl ?_
      refine WS.iald hx rfl (vp_dec (by decide)) dX11_century_56 ?_
      refine WS.as rfl rfl (congrArg (fun z => Value.int z :: _) (show (stI (stR υ 1 (cwA υ i)) 1 82 (nI (min (nn (κ.1 18 0) + 1) 99))).1 18 0 = σ.1 18 0 from congrFun (hE.1 18 (nmsc (by decide))) 0)) ?_
      skip
      refine WS.iconst (v := 1) hx dX11_century_57 (by decide) ?_
      refine WS.iadd hx dX11_century_58 ?_
      refine WS.iast hx rfl (vp_dec (by decide)) dX11_century_59 ?_
      refine WS.aload_n hx dX11_century_60 rfl 1 rfl ?_
      refine WS.getI hx okX11 lf11_216 rfl rfl dX11_century_61 ?_
      refine WS.as rfl rfl (congrArg (fun z => Value.int z :: _) (show (stI (stI (stR υ 1 (cwA υ i)) 1 82 (nI (min (nn (κ.1 18 0) + 1) 99))) 18 0 ((σ.1 18 0) + 1)).1 0 25 = nI (min (nn (κ.1 18 0) + 1) 99) from hT.2.1)) ?_
      skip
      exact WS.iret hx he dX11_century_64 ⟨_, rfl, rfl, υ, hE, hT, by rw [show i = n by (try simp only [l_int, tL_0, tL_1, tL_2, tL_4, tL_5, tL_6, tL_7, tL_9, tL_10, tL_12, tL_15, tL_30, tL_40, tL_60, tL_99, tL_255, tL_1023, tL_m1, lc_lt, lc_gt, lc_ge, lc_le, lc_eq, l6_le, l6_lt, l6_eq, tI_m133, tI_m226, i_le, i_lt, i_eq, tI_0, tI_1, tI_10, tI_82] at c15); (try simp only [l_int, tL_0, tL_1, tL_2, tL_4, tL_5, tL_6, tL_7, tL_9, tL_10, tL_12, tL_15, tL_30, tL_40, tL_60, tL_99, tL_255, tL_1023, tL_m1, lc_lt, lc_gt, lc_ge, lc_le, lc_eq, l6_le, l6_lt, l6_eq, tI_m133, tI_m226, i_le, i_lt, i_eq, tI_0, tI_1, tI_10, tI_82]); omega]; rfl⟩
    · skip
      show WS layM V 2 X (stR υ 1 (cwA υ i)) 18 [(1, .int (nI i)), (0, rf V 0)] []
      refine WS.aload_n hx dX11_century_18 rfl 1 rfl ?_
      refine WS.getR hx okX11 lf11_9 rfl rfl dX11_century_19 ?_
      refine WS.bipush (v := 10) hx dX11_century_22 (by decide) ?_
      refine WS.iload_n hx dX11_century_24 rfl 0 rfl ?_
      refine WS.iadd hx dX11_century_25 ?_
      refine WS.as rfl rfl (congrArg (fun z => Value.int z :: _) (show 10 + (nI i) = nI (10 + i) from nI_add 10 i)) ?_
      skip
      refine WS.aload_n hx dX11_century_26 rfl 1 rfl ?_
      refine WS.getR hx okX11 lf11_49 rfl rfl dX11_century_27 ?_
      refine WS.iload_n hx dX11_century_30 rfl 0 rfl ?_
      refine WS.iald hx rfl (vp_in_nI (by (try simp only [l_int, tL_0, tL_1, tL_2, tL_4, tL_5, tL_6, tL_7, tL_9, tL_10, tL_12, tL_15, tL_30, tL_40, tL_60, tL_99, tL_255, tL_1023, tL_m1, lc_lt, lc_gt, lc_ge, lc_le, lc_eq, l6_le, l6_lt, l6_eq, tI_m133, tI_m226, i_le, i_lt, i_eq, tI_0, tI_1, tI_10, tI_82] at c15); (try simp only [l_int, tL_0, tL_1, tL_2, tL_4, tL_5, tL_6, tL_7, tL_9, tL_10, tL_12, tL_15, tL_30, tL_40, tL_60, tL_99, tL_255, tL_1023, tL_m1, lc_lt, lc_gt, lc_ge, lc_le, lc_eq, l6_le, l6_lt, l6_eq, tI_m133, tI_m226, i_le, i_lt, i_eq, tI_0, tI_1, tI_10, tI_82]); omega) (by decide)) dX11_century_31 ?_
      refine WS.as rfl rfl (congrArg (fun z => Value.int z :: _) (show (stR υ 1 (cwA υ i)).1 14 (nn (nI i)) = υ.1 14 i from by rw [nn_nI (by omega)]; rfl)) ?_
      skip
      refine WS.iast hx rfl (vp_in_nI (by (try simp only [l_int, tL_0, tL_1, tL_2, tL_4, tL_5, tL_6, tL_7, tL_9, tL_10, tL_12, tL_15, tL_30, tL_40, tL_60, tL_99, tL_255, tL_1023, tL_m1, lc_lt, lc_gt, lc_ge, lc_le, lc_eq, l6_le, l6_lt, l6_eq, tI_m133, tI_m226, i_le, i_lt, i_eq, tI_0, tI_1, tI_10, tI_82] at c15); (try simp only [l_int, tL_0, tL_1, tL_2, tL_4, tL_5, tL_6, tL_7, tL_9, tL_10, tL_12, tL_15, tL_30, tL_40, tL_60, tL_99, tL_255, tL_1023, tL_m1, lc_lt, lc_gt, lc_ge, lc_le, lc_eq, l6_le, l6_lt, l6_eq, tI_m133, tI_m226, i_le, i_lt, i_eq, tI_0, tI_1, tI_10, tI_82]); omega) (by decide)) dX11_century_32 ?_
      refine WS.iinc (v := nI (i + 1)) (lo' := [(1, .int (nI (i + 1))), (0, rf V 0)]) hx dX11_century_33 0 rfl (nI_1 i) (by decide) rfl ?_
      refine WS.goto (tgt := 10) hx dX11_century_36 (by decide) ?_
      (try simp only [nn_nI (show 10 + i < 2 ^ 31 by omega), nI_clamp (show 10 + i < 2 ^ 31 by omega)])
      rw [stI_R, cwA_s]
      exact WS.los [0, 1] rfl (ih _ (by (try simp only [l_int, tL_0, tL_1, tL_2, tL_4, tL_5, tL_6, tL_7, tL_9, tL_10, tL_12, tL_15, tL_30, tL_40, tL_60, tL_99, tL_255, tL_1023, tL_m1, lc_lt, lc_gt, lc_ge, lc_le, lc_eq, l6_le, l6_lt, l6_eq, tI_m133, tI_m226, i_le, i_lt, i_eq, tI_0, tI_1, tI_10, tI_82] at c15); (try simp only [l_int, tL_0, tL_1, tL_2, tL_4, tL_5, tL_6, tL_7, tL_9, tL_10, tL_12, tL_15, tL_30, tL_40, tL_60, tL_99, tL_255, tL_1023, tL_m1, lc_lt, lc_gt, lc_ge, lc_le, lc_eq, l6_le, l6_lt, l6_eq, tI_m133, tI_m226, i_le, i_lt, i_eq, tI_0, tI_1, tI_10, tI_82]); omega) (i + 1) rfl (by (try simp only [l_int, tL_0, tL_1, tL_2, tL_4, tL_5, tL_6, tL_7, tL_9, tL_10, tL_12, tL_15, tL_30, tL_40, tL_60, tL_99, tL_255, tL_1023, tL_m1, lc_lt, lc_gt, lc_ge, lc_le, lc_eq, l6_le, l6_lt, l6_eq, tI_m133, tI_m226, i_le, i_lt, i_eq, tI_0, tI_1, tI_10, tI_82] at c15); (try simp only [l_int, tL_0, tL_1, tL_2, tL_4, tL_5, tL_6, tL_7, tL_9, tL_10, tL_12, tL_15, tL_30, tL_40, tL_60, tL_99, tL_255, tL_1023, tL_m1, lc_lt, lc_gt, lc_ge, lc_le, lc_eq, l6_le, l6_lt, l6_eq, tI_m133, tI_m226, i_le, i_lt, i_eq, tI_0, tI_1, tI_10, tI_82]); omega))
set_option maxHeartbeats 1000000 in
theorem c_X11_century (V : Vt) (d : Nat) (σ : Sg) (κ : Sg) (n : Nat) (hM : MR κ σ n) (cs : Nat → Int32) (T : Nat) (lw : Lw) (hL : ML σ cs T lw) : CT layM V mX11_century (d + 6) [rf V 0] σ (Ri fun v σ' => nI (min (nn (κ.1 18 0) + 1) 99) = v ∧ ∃ υ, ME σ υ ∧ MT υ n (msC (wdM κ n lw) (ms0 (wdM κ n lw))) ∧ σ' = stI (stI (stR υ 1 (cwA υ n)) 1 82 v) 18 0 (σ.1 18 0 + 1)) := by
  refine CT.of (own := RX11) rfl (by decide) (Nat.le_of_ble_eq_true rfl) (fun X (hx : Ok V RX11 cX11_century 2 (d + 6) X) (he : En layM V (some .int) (Ri fun v σ' => nI (min (nn (κ.1 18 0) + 1) 99) = v ∧ ∃ υ, ME σ υ ∧ MT υ n (msC (wdM κ n lw) (ms0 (wdM κ n lw))) ∧ σ' = stI (stI (stR υ 1 (cwA υ n)) 1 82 v) 18 0 (σ.1 18 0 + 1)) X) => ?_)
  change WS layM V 2 X σ 0 [(0, rf V 0)] []
  refine WS.aload_n hx dX11_century_0 rfl 0 rfl ?_
  refine WS.callVv (st := []) [] hx (c_X11_begins V (d + 5) σ κ n lw hM) okX11_begins lm11_231 rfl rfl rfl rfl (Nat.le_of_ble_eq_true rfl) dX11_century_1 (fun σ2 h3 => ?_)
  obtain ⟨me1, mt1⟩ := h3
  show WS layM V 2 X σ2 4 [(0, rf V 0)] []
  refine WS.aload_n hx dX11_century_4 rfl 0 rfl ?_
  refine WS.callVv (st := []) [] hx (c_X11_goesCentury V d σ2 κ n (hM.me me1) (ms0 (wdM κ n lw)) mt1 cs T lw (hL.me me1)) okX11_goesCentury lm11_234 rfl rfl rfl rfl (Nat.le_of_ble_eq_true rfl) dX11_century_5 (fun σ5 h6 => ?_)
  obtain ⟨me5, mt5⟩ := h6
  show WS layM V 2 X σ5 8 [(0, rf V 0)] []
  refine WS.iconst (v := 0) hx dX11_century_8 (by decide) ?_
  refine WS.istore_n (lo' := [(1, .int 0), (0, rf V 0)]) hx dX11_century_9 rfl (by decide) rfl ?_
  have h0 : σ5 = stR σ5 1 (cwA σ5 0) := by
    rw [show cwA σ5 0 = (σ5).1 1 from by funext j; unfold cwA; rw [if_neg (by omega)], stR_self]
  rw [h0]
  exact WS.los [0, 1] rfl (lp_X11_century V d σ κ n hM cs T lw hL _ (me1.tr me5) mt5 X hx he 0 (Nat.zero_le _))
def opM (υ : Sg) (b : Nat) (w : Int32) : Sg := stI (stI (stI (stI υ 1 (30 + b) 1) 18 1 (υ.1 18 1 + 1)) 18 2 (υ.1 18 2 + w)) 18 3 (υ.1 18 3 ||| ((1 : Int32) <<< (w &&& 31)))
set_option maxHeartbeats 1000000 in
theorem c_X11_open (V : Vt) (d : Nat) (σ : Sg) (κ : Sg) (n : Nat) (hM : MR κ σ n) (lw : Lw) (b : Int32) : CT layM V mX11_open (d + 2) [rf V 0, .int b] σ (Ri fun v σ' => (if ¬ (0 ≤ b.toInt ∧ b.toInt < n) then v = -1 ∧ σ' = σ else (if κ.1 14 (nn b) = 1 then v = -5 ∧ σ' = σ else (v = (κ.1 17 (nn (κ.1 12 (nn b)))) ∧ ∃ υ, ME σ υ ∧ σ' = opM υ (nn b) (κ.1 17 (nn (κ.1 12 (nn b)))))))) := by
  refine CT.of (own := RX11) rfl (by decide) (Nat.le_of_ble_eq_true rfl) (fun X (hx : Ok V RX11 cX11_open 3 (d + 2) X) (he : En layM V (some .int) (Ri fun v σ' => (if ¬ (0 ≤ b.toInt ∧ b.toInt < n) then v = -1 ∧ σ' = σ else (if κ.1 14 (nn b) = 1 then v = -5 ∧ σ' = σ else (v = (κ.1 17 (nn (κ.1 12 (nn b)))) ∧ ∃ υ, ME σ υ ∧ σ' = opM υ (nn b) (κ.1 17 (nn (κ.1 12 (nn b)))))))) X) => ?_)
  change WS layM V 3 X σ 0 [(0, rf V 0), (1, .int b)] []
  have hn := hM.n
  have hs := hM.s
  refine WS.aload_n hx dX11_open_0 rfl 0 rfl ?_
  refine WS.iload_n hx dX11_open_1 rfl 1 rfl ?_
  refine WS.i2l hx dX11_open_2 ?_
  refine WS.callVi (st := []) [.long (Int32.toInt64 b)] hx (c_X11_isBlock V d σ n hs hn (Int32.toInt64 b)) okX11_isBlock lm11_127 rfl rfl rfl rfl (Nat.le_of_ble_eq_true rfl) dX11_open_3 (fun v1 σ2 h3 => ?_)
  rcases h3 with ⟨rfl, rfl, hb3⟩ | ⟨rfl, rfl, hb3⟩
  · skip
    show WS layM V 3 X σ 6 [(0, rf V 0), (1, .int b)] [.int 1]
    have hb9 : 0 ≤ b.toInt ∧ b.toInt < n := by have h9 := hb3; simp only [l_int] at h9; exact h9
    have hbn : nn b < n := by have := nn_int hb9.1; omega
    refine WS.if_ne (tgt := 11) hx dX11_open_6 (by decide) (fun _ => ?_) (fun h => absurd h (by decide))
    refine WS.aload_n hx dX11_open_11 rfl 0 rfl ?_
    refine WS.getR hx okX11 lf11_9 rfl rfl dX11_open_12 ?_
    refine WS.bipush (v := 30) hx dX11_open_15 (by decide) ?_
    refine WS.iload_n hx dX11_open_17 rfl 1 rfl ?_
    refine WS.iadd hx dX11_open_18 ?_
    refine WS.as rfl rfl (congrArg (fun z => Value.int z :: _) (show 30 + b = nI (30 + nn b) from by rw [← nI_add, nI_nn hb9.1]; rfl)) ?_
    skip
    refine WS.iald hx rfl (vp_in_nI (by omega) (by decide)) dX11_open_19 ?_
    refine WS.as rfl rfl (congrArg (fun z => Value.int z :: _) (show σ.1 1 (nn (nI (30 + nn b))) = κ.1 14 (nn b) from by rw [nn_nI (by omega)]; exact hM.o (by omega))) ?_
    skip
    refine WS.iconst (v := 1) hx dX11_open_20 (by decide) ?_
    refine WS.icmp_ne (tgt := 27) hx dX11_open_21 (by decide) (fun c21 => ?_) (fun c21 => ?_)
    · skip
      show WS layM V 3 X σ 27 [(0, rf V 0), (1, .int b)] []
      refine WS.aload_n hx dX11_open_27 rfl 0 rfl ?_
      refine WS.callVv (st := []) [] hx (c_X11_begins V (d + 1) σ κ n lw hM) okX11_begins lm11_231 rfl rfl rfl rfl (Nat.le_of_ble_eq_true rfl) dX11_open_28 (fun σ5 h6 => ?_)
      obtain ⟨me28, mt28⟩ := h6
      show WS layM V 3 X σ5 31 [(0, rf V 0), (1, .int b)] []
      refine WS.aload_n hx dX11_open_31 rfl 0 rfl ?_
      refine WS.iload_n hx dX11_open_32 rfl 1 rfl ?_
      refine WS.as rfl rfl (congrArg (fun z => Value.int z :: _) (show b = nI (nn b) from (nI_nn hb9.1).symm)) ?_
      skip
      refine WS.callVi (st := []) [.int (nI (nn b))] hx (c_X11_wordOf V (d + 1) σ5 κ n (hM.me me28) (ms0 (wdM κ n lw)) mt28 (nn b) hbn) okX11_wordOf lm11_219 rfl rfl rfl rfl (Nat.le_of_ble_eq_true rfl) dX11_open_33 (fun v7 σ8 h9 => ?_)
      obtain ⟨rfl, rfl⟩ := h9
      show WS layM V 3 X σ5 36 [(0, rf V 0), (1, .int b)] [.int (κ.1 17 ((ms0 (wdM κ n lw)).1 (nn b)))]
      refine WS.istore_n (lo' := [(2, .int (κ.1 17 ((ms0 (wdM κ n lw)).1 (nn b)))), (0, rf V 0), (1, .int b)]) hx dX11_open_36 rfl (by decide) rfl ?_
      refine WS.aload_n hx dX11_open_37 rfl 1 rfl ?_
      refine WS.getR hx okX11 lf11_9 rfl rfl dX11_open_38 ?_
      refine WS.bipush (v := 30) hx dX11_open_41 (by decide) ?_
      refine WS.iload_n hx dX11_open_43 rfl 2 rfl ?_
      refine WS.iadd hx dX11_open_44 ?_
      refine WS.as rfl rfl (congrArg (fun z => Value.int z :: _) (show 30 + b = nI (30 + nn b) from by rw [← nI_add, nI_nn hb9.1]; rfl)) ?_
      skip
      refine WS.iconst (v := 1) hx dX11_open_45 (by decide) ?_
      refine WS.iast hx rfl (vp_in_nI (by omega) (by decide)) dX11_open_46 ?_
      refine WS.aload_n hx dX11_open_47 rfl 1 rfl ?_
      refine WS.getR hx okX11 lf11_62 rfl rfl dX11_open_48 ?_
      refine WS.iconst (v := 1) hx dX11_open_51 (by decide) ?_
      refine WS.dup2 hx dX11_open_52 rfl rfl ?_
      refine WS.iald hx rfl (vp_dec (by decide)) dX11_open_53 ?_
      refine WS.as rfl rfl (congrArg (fun z => Value.int z :: _) (show (stI σ5 1 (nn (nI (30 + nn b))) 1).1 18 1 = σ5.1 18 1 from rfl)) ?_
      skip
      refine WS.iconst (v := 1) hx dX11_open_54 (by decide) ?_
      refine WS.iadd hx dX11_open_55 ?_
      refine WS.iast hx rfl (vp_dec (by decide)) dX11_open_56 ?_
      refine WS.aload_n hx dX11_open_57 rfl 1 rfl ?_
      refine WS.getR hx okX11 lf11_62 rfl rfl dX11_open_58 ?_
      refine WS.iconst (v := 2) hx dX11_open_61 (by decide) ?_
      refine WS.dup2 hx dX11_open_62 rfl rfl ?_
      refine WS.iald hx rfl (vp_dec (by decide)) dX11_open_63 ?_
      refine WS.as rfl rfl (congrArg (fun z => Value.int z :: _) (show (stI (stI σ5 1 (nn (nI (30 + nn b))) 1) 18 1 ((σ5.1 18 1) + 1)).1 18 2 = σ5.1 18 2 from rfl)) ?_
      skip
      refine WS.iload_n hx dX11_open_64 rfl 0 rfl ?_
      refine WS.iadd hx dX11_open_65 ?_
      refine WS.iast hx rfl (vp_dec (by decide)) dX11_open_66 ?_
      refine WS.aload_n hx dX11_open_67 rfl 1 rfl ?_
      refine WS.getR hx okX11 lf11_62 rfl rfl dX11_open_68 ?_
      refine WS.iconst (v := 3) hx dX11_open_71 (by decide) ?_
      refine WS.dup2 hx dX11_open_72 rfl rfl ?_
      refine WS.iald hx rfl (vp_dec (by decide)) dX11_open_73 ?_
      refine WS.as rfl rfl (congrArg (fun z => Value.int z :: _) (show (stI (stI (stI σ5 1 (nn (nI (30 + nn b))) 1) 18 1 ((σ5.1 18 1) + 1)) 18 2 ((σ5.1 18 2) + (κ.1 17 ((ms0 (wdM κ n lw)).1 (nn b))))).1 18 3 = σ5.1 18 3 from rfl)) ?_
      skip
      refine WS.iconst (v := 1) hx dX11_open_74 (by decide) ?_
      refine WS.iload_n hx dX11_open_75 rfl 0 rfl ?_
      refine WS.ishl hx dX11_open_76 ?_
      refine WS.ior hx dX11_open_77 ?_
      refine WS.iast hx rfl (vp_dec (by decide)) dX11_open_78 ?_
      refine WS.iload_n hx dX11_open_79 rfl 0 rfl ?_
      exact WS.iret hx he dX11_open_80 ⟨_, rfl, by (try dsimp only); rw [if_neg (fun h => h hb9), if_neg c21]; exact ⟨rfl, _, me28, by unfold opM; (try simp only [nn_nI (show 30 + nn b < 2 ^ 31 by omega), nI_clamp (show 30 + nn b < 2 ^ 31 by omega)]); rfl⟩⟩
    · skip
      show WS layM V 3 X σ 24 [(0, rf V 0), (1, .int b)] []
      refine WS.bipush (v := (-5)) hx dX11_open_24 (by decide) ?_
      exact WS.iret hx he dX11_open_26 ⟨_, rfl, by (try dsimp only); rw [if_neg (fun h => h hb9), if_pos c21]; exact ⟨rfl, rfl⟩⟩
  · skip
    show WS layM V 3 X σ 6 [(0, rf V 0), (1, .int b)] [.int 0]
    refine WS.if_ne (tgt := 11) hx dX11_open_6 (by decide) (fun h => absurd (by decide) h) (fun _ => ?_)
    refine WS.iconst (v := (-1)) hx dX11_open_9 (by decide) ?_
    exact WS.iret hx he dX11_open_10 ⟨_, rfl, by (try dsimp only); rw [if_pos (fun h => by (try simp only [l_int, tL_0, tL_1, tL_2, tL_4, tL_5, tL_6, tL_7, tL_9, tL_10, tL_12, tL_15, tL_30, tL_40, tL_60, tL_99, tL_255, tL_1023, tL_m1, lc_lt, lc_gt, lc_ge, lc_le, lc_eq, l6_le, l6_lt, l6_eq, tI_m133, tI_m226, i_le, i_lt, i_eq, tI_m5, tI_m1, tI_0, tI_1, tI_2, tI_3, tI_30] at hb3); (try simp only [l_int, tL_0, tL_1, tL_2, tL_4, tL_5, tL_6, tL_7, tL_9, tL_10, tL_12, tL_15, tL_30, tL_40, tL_60, tL_99, tL_255, tL_1023, tL_m1, lc_lt, lc_gt, lc_ge, lc_le, lc_eq, l6_le, l6_lt, l6_eq, tI_m133, tI_m226, i_le, i_lt, i_eq, tI_m5, tI_m1, tI_0, tI_1, tI_2, tI_3, tI_30]); omega)]; exact ⟨rfl, rfl⟩⟩
set_option maxHeartbeats 1000000 in
theorem c_X11_led (V : Vt) (d : Nat) (σ : Sg) (x : Int32) : CT layM V mX11_led (d + 1) [rf V 0, .int x] σ (Ri fun v σ' => (if ¬ (0 ≤ x.toInt ∧ x.toInt ≤ 4) then v = -1 ∧ σ' = σ else (v = σ.1 18 (nn x) ∧ σ' = σ))) := by
  refine CT.of (own := RX11) rfl (by decide) (Nat.le_of_ble_eq_true rfl) (fun X (hx : Ok V RX11 cX11_led 2 (d + 1) X) (he : En layM V (some .int) (Ri fun v σ' => (if ¬ (0 ≤ x.toInt ∧ x.toInt ≤ 4) then v = -1 ∧ σ' = σ else (v = σ.1 18 (nn x) ∧ σ' = σ))) X) => ?_)
  change WS layM V 2 X σ 0 [(0, rf V 0), (1, .int x)] []
  refine WS.iload_n hx dX11_led_0 rfl 1 rfl ?_
  refine WS.i2l hx dX11_led_1 ?_
  refine WS.lconst (v := 0) hx dX11_led_2 rfl ?_
  refine WS.ldc2 (v := 4) hx lc11_125 dX11_led_3 ?_
  refine WS.callSi (st := []) [.long (Int32.toInt64 x), .long 0, .long 4] hx (c_X11_within V d σ (Int32.toInt64 x) 0 4) okX11_within lm11_100 rfl rfl (Nat.le_of_ble_eq_true rfl) dX11_led_6 (fun v1 σ2 h3 => ?_)
  rcases h3 with ⟨rfl, rfl, hb6⟩ | ⟨rfl, rfl, hb6⟩
  · skip
    show WS layM V 2 X σ 9 [(0, rf V 0), (1, .int x)] [.int 1]
    refine WS.if_eq (tgt := 21) hx dX11_led_9 (by decide) (fun h => absurd h (by decide)) (fun _ => ?_)
    refine WS.aload_n hx dX11_led_12 rfl 0 rfl ?_
    refine WS.getR hx okX11 lf11_62 rfl rfl dX11_led_13 ?_
    refine WS.iload_n hx dX11_led_16 rfl 1 rfl ?_
    refine WS.iald hx rfl (vp_in_iff.mpr (by (try simp only [l_int, tL_0, tL_1, tL_2, tL_4, tL_5, tL_6, tL_7, tL_9, tL_10, tL_12, tL_15, tL_30, tL_40, tL_60, tL_99, tL_255, tL_1023, tL_m1, lc_lt, lc_gt, lc_ge, lc_le, lc_eq, l6_le, l6_lt, l6_eq, tI_m133, tI_m226, i_le, i_lt, i_eq, tI_m1, tI_0, tI_1] at hb6); omega)) dX11_led_17 ?_
    refine WS.goto (tgt := 22) hx dX11_led_18 (by decide) ?_
    exact WS.iret hx he dX11_led_22 ⟨_, rfl, by (try dsimp only); rw [if_neg (fun h => h (by (try simp only [l_int, tL_0, tL_1, tL_2, tL_4, tL_5, tL_6, tL_7, tL_9, tL_10, tL_12, tL_15, tL_30, tL_40, tL_60, tL_99, tL_255, tL_1023, tL_m1, lc_lt, lc_gt, lc_ge, lc_le, lc_eq, l6_le, l6_lt, l6_eq, tI_m133, tI_m226, i_le, i_lt, i_eq, tI_m1, tI_0, tI_1] at hb6); omega))]; exact ⟨rfl, rfl⟩⟩
  · skip
    show WS layM V 2 X σ 9 [(0, rf V 0), (1, .int x)] [.int 0]
    refine WS.if_eq (tgt := 21) hx dX11_led_9 (by decide) (fun _ => ?_) (fun h => absurd (by decide) h)
    refine WS.iconst (v := (-1)) hx dX11_led_21 (by decide) ?_
    exact WS.iret hx he dX11_led_22 ⟨_, rfl, by (try dsimp only); rw [if_pos (fun h => by (try simp only [l_int, tL_0, tL_1, tL_2, tL_4, tL_5, tL_6, tL_7, tL_9, tL_10, tL_12, tL_15, tL_30, tL_40, tL_60, tL_99, tL_255, tL_1023, tL_m1, lc_lt, lc_gt, lc_ge, lc_le, lc_eq, l6_le, l6_lt, l6_eq, tI_m133, tI_m226, i_le, i_lt, i_eq, tI_m1, tI_0, tI_1] at hb6); (try simp only [l_int, tL_0, tL_1, tL_2, tL_4, tL_5, tL_6, tL_7, tL_9, tL_10, tL_12, tL_15, tL_30, tL_40, tL_60, tL_99, tL_255, tL_1023, tL_m1, lc_lt, lc_gt, lc_ge, lc_le, lc_eq, l6_le, l6_lt, l6_eq, tI_m133, tI_m226, i_le, i_lt, i_eq, tI_m1, tI_0, tI_1]); omega)]; exact ⟨rfl, rfl⟩⟩
def hrM (κ σ : Sg) (h i : Nat) : Nat → Int32 := fun j => if 20 ≤ j ∧ j < 30 then hrL κ h i (j - 20) else if 40 ≤ j ∧ j < 50 then hrD κ h i (j - 40) else σ.1 1 j
theorem hrM_0 {κ σ : Sg} {n h : Nat} (hM : MR κ σ n) : hrM κ σ h 0 = σ.1 1 := by
  funext j
  unfold hrM
  by_cases e : 20 ≤ j ∧ j < 30
  · rw [if_pos e]
    unfold hrL
    rw [if_neg (fun h => Nat.not_lt_zero _ h.1), ← hM.l (by omega), show 20 + (j - 20) = j by omega]
  · rw [if_neg e]
    by_cases e2 : 40 ≤ j ∧ j < 50
    · rw [if_pos e2]
      unfold hrD
      rw [if_neg (fun h => Nat.not_lt_zero _ h.1), ← hM.d (by omega), show 40 + (j - 40) = j by omega]
    · rw [if_neg e2]
theorem hrM_skip {κ σ : Sg} {h i : Nat} (hc : ¬ (κ.1 14 i = 1 ∧ κ.1 15 i = 0)) : hrM κ σ h (i + 1) = hrM κ σ h i := by
  unfold hrM
  rw [(hr_skip hc).1, (hr_skip hc).2.1]
theorem upd_u {f : Nat → Int32} {k : Nat} {x : Int32} : upd f k x k = x := by simp [upd]
theorem upd_n {f : Nat → Int32} {k j : Nat} {x : Int32} (h : ¬ j = k) : upd f k x j = f j := by simp [upd, h]
theorem hrM_do {κ σ : Sg} {h i : Nat} (hi : i < 10) (hc : κ.1 14 i = 1 ∧ κ.1 15 i = 0) : upd (upd (hrM κ σ h i) (20 + i) (nI (nn (κ.1 13 i) - h))) (40 + i) (if nn (κ.1 13 i) - h = 0 then 1 else 0) = hrM κ σ h (i + 1) := by
  have hL := hr_less (h := h) hc
  have hD : hrD κ h (i + 1) = upd (hrD κ h i) i (if nn (κ.1 13 i) - h = 0 then 1 else 0) := by
    by_cases e : nn (κ.1 13 i) - h = 0
    · rw [if_pos e]; exact (hr_dies hc e).1
    · rw [if_neg e, (hr_live e).1]
      funext j
      by_cases g : j = i
      · rw [g, upd_u]; unfold hrD; rw [if_neg (by omega)]; exact hc.2
      · rw [upd_n g]
  funext j
  unfold hrM
  rw [hL, hD]
  by_cases e1 : j = 40 + i
  · rw [e1, upd_u, if_neg (show ¬ (20 ≤ 40 + i ∧ 40 + i < 30) by omega), if_pos (show 40 ≤ 40 + i ∧ 40 + i < 50 by omega), show 40 + i - 40 = i by omega, upd_u]
  · rw [upd_n e1]
    by_cases e2 : j = 20 + i
    · rw [e2, upd_u, if_pos (by omega), show 20 + i - 20 = i by omega, upd_u]
    · rw [upd_n e2]
      (try dsimp only)
      by_cases g : 20 ≤ j ∧ j < 30
      · rw [if_pos g, if_pos g, upd_n (by omega)]
      · rw [if_neg g, if_neg g]
        by_cases g2 : 40 ≤ j ∧ j < 50
        · rw [if_pos g2, if_pos g2, upd_n (by omega)]
        · rw [if_neg g2, if_neg g2]
theorem hrM_at {κ σ : Sg} {n h i : Nat} (hM : MR κ σ n) (hi : i < 10) : hrM κ σ h i (30 + i) = κ.1 14 i ∧ hrM κ σ h i (40 + i) = κ.1 15 i ∧ hrM κ σ h i (20 + i) = κ.1 13 i := by
  refine ⟨?_, ?_, ?_⟩
  · unfold hrM
    rw [if_neg (by omega), if_neg (by omega)]
    exact hM.o hi
  · unfold hrM
    rw [if_neg (by omega), if_pos (by omega), show 40 + i - 40 = i by omega]
    unfold hrD
    rw [if_neg (by omega)]
  · unfold hrM
    rw [if_pos (by omega), show 20 + i - 20 = i by omega]
    unfold hrL
    rw [if_neg (by omega)]
set_option maxHeartbeats 1000000 in
theorem lp_X11_hours (V : Vt) (d : Nat) (σ κ : Sg) (n : Nat) (hM : MR κ σ n) (h : Nat) (hh : h ≤ 99) (x : Int32) (hxh : x = nI h) (P : Int32 → Sg → Prop) (X : Xt) (hx : Ok V RX11 cX11_hours 4 (d + 1) X) (he : En layM V (some .int) (Ri P) X) (hP : ∀ v σ', v = nI (hrN κ h n) → σ' = stI (stR σ 1 (hrM κ σ h n)) 18 4 (σ.1 18 4 + nI (hrN κ h n)) → P v σ') : ∀ (i : Nat), i ≤ n → WS layM V 4 X (stR σ 1 (hrM κ σ h i)) 18 [(3, .int (nI i)), (2, .int (nI (hrN κ h i))), (0, rf V 0), (1, .int x)] [] := by
  have hn := hM.n
  have hnI : (nI n).toInt = (n : Int) := nI_c (by omega)
  have hhI : (nI h).toInt = (h : Int) := nI_c (by omega)
  intro i
  induction hm : n - i using Nat.strongRecOn generalizing i with
  | _ m9 ih =>
    intro hi
    have hiI : (nI i).toInt = (i : Int) := nI_c (by omega)
    refine WS.iload_n hx dX11_hours_18 rfl 0 rfl ?_
    refine WS.aload_n hx dX11_hours_19 rfl 2 rfl ?_
    refine WS.getI hx okX11 lf11_97 rfl rfl dX11_hours_20 ?_
    refine WS.as rfl rfl (congrArg (fun z => Value.int z :: _) (show (stR σ 1 (hrM κ σ h i)).1 0 6 = nI n from hM.s)) ?_
    skip
    refine WS.icmp_ge (tgt := 132) hx dX11_hours_23 (by decide) (fun c23 => ?_) (fun c23 => ?_)
    · skip
      show WS layM V 4 X (stR σ 1 (hrM κ σ h i)) 132 [(3, .int (nI i)), (2, .int (nI (hrN κ h i))), (0, rf V 0), (1, .int x)] []
      refine WS.aload_n hx dX11_hours_132 rfl 2 rfl ?_
      refine WS.getR hx okX11 lf11_62 rfl rfl dX11_hours_133 ?_
      refine WS.iconst (v := 4) hx dX11_hours_136 (by decide) ?_
      refine WS.dup2 hx dX11_hours_137 rfl rfl ?_
      refine WS.iald hx rfl (vp_dec (by decide)) dX11_hours_138 ?_
      refine WS.as rfl rfl (congrArg (fun z => Value.int z :: _) (show (stR σ 1 (hrM κ σ h i)).1 18 4 = σ.1 18 4 from rfl)) ?_
      skip
      refine WS.iload_n hx dX11_hours_139 rfl 1 rfl ?_
      refine WS.iadd hx dX11_hours_140 ?_
      refine WS.iast hx rfl (vp_dec (by decide)) dX11_hours_141 ?_
      refine WS.iload_n hx dX11_hours_142 rfl 1 rfl ?_
      exact WS.iret hx he dX11_hours_143 ⟨_, rfl, hP _ _ (by rw [show n = i by (try simp only [l_int, tL_0, tL_1, tL_2, tL_4, tL_5, tL_6, tL_7, tL_9, tL_10, tL_12, tL_15, tL_30, tL_40, tL_60, tL_99, tL_255, tL_1023, tL_m1, lc_lt, lc_gt, lc_ge, lc_le, lc_eq, l6_le, l6_lt, l6_eq, tI_m133, tI_m226, i_le, i_lt, i_eq, tI_m1, tI_0, tI_1, tI_4, tI_20, tI_30, tI_40] at c23); (try simp only [l_int, tL_0, tL_1, tL_2, tL_4, tL_5, tL_6, tL_7, tL_9, tL_10, tL_12, tL_15, tL_30, tL_40, tL_60, tL_99, tL_255, tL_1023, tL_m1, lc_lt, lc_gt, lc_ge, lc_le, lc_eq, l6_le, l6_lt, l6_eq, tI_m133, tI_m226, i_le, i_lt, i_eq, tI_m1, tI_0, tI_1, tI_4, tI_20, tI_30, tI_40]); omega]) (by rw [show n = i by (try simp only [l_int, tL_0, tL_1, tL_2, tL_4, tL_5, tL_6, tL_7, tL_9, tL_10, tL_12, tL_15, tL_30, tL_40, tL_60, tL_99, tL_255, tL_1023, tL_m1, lc_lt, lc_gt, lc_ge, lc_le, lc_eq, l6_le, l6_lt, l6_eq, tI_m133, tI_m226, i_le, i_lt, i_eq, tI_m1, tI_0, tI_1, tI_4, tI_20, tI_30, tI_40] at c23); (try simp only [l_int, tL_0, tL_1, tL_2, tL_4, tL_5, tL_6, tL_7, tL_9, tL_10, tL_12, tL_15, tL_30, tL_40, tL_60, tL_99, tL_255, tL_1023, tL_m1, lc_lt, lc_gt, lc_ge, lc_le, lc_eq, l6_le, l6_lt, l6_eq, tI_m133, tI_m226, i_le, i_lt, i_eq, tI_m1, tI_0, tI_1, tI_4, tI_20, tI_30, tI_40]); omega]; rfl)⟩
    · skip
      show WS layM V 4 X (stR σ 1 (hrM κ σ h i)) 26 [(3, .int (nI i)), (2, .int (nI (hrN κ h i))), (0, rf V 0), (1, .int x)] []
      have hi9 : i < n := by (try simp only [l_int, tL_0, tL_1, tL_2, tL_4, tL_5, tL_6, tL_7, tL_9, tL_10, tL_12, tL_15, tL_30, tL_40, tL_60, tL_99, tL_255, tL_1023, tL_m1, lc_lt, lc_gt, lc_ge, lc_le, lc_eq, l6_le, l6_lt, l6_eq, tI_m133, tI_m226, i_le, i_lt, i_eq, tI_m1, tI_0, tI_1, tI_4, tI_20, tI_30, tI_40] at c23); (try simp only [l_int, tL_0, tL_1, tL_2, tL_4, tL_5, tL_6, tL_7, tL_9, tL_10, tL_12, tL_15, tL_30, tL_40, tL_60, tL_99, tL_255, tL_1023, tL_m1, lc_lt, lc_gt, lc_ge, lc_le, lc_eq, l6_le, l6_lt, l6_eq, tI_m133, tI_m226, i_le, i_lt, i_eq, tI_m1, tI_0, tI_1, tI_4, tI_20, tI_30, tI_40]); omega
      have hi10 : i < 10 := by (try simp only [l_int, tL_0, tL_1, tL_2, tL_4, tL_5, tL_6, tL_7, tL_9, tL_10, tL_12, tL_15, tL_30, tL_40, tL_60, tL_99, tL_255, tL_1023, tL_m1, lc_lt, lc_gt, lc_ge, lc_le, lc_eq, l6_le, l6_lt, l6_eq, tI_m133, tI_m226, i_le, i_lt, i_eq, tI_m1, tI_0, tI_1, tI_4, tI_20, tI_30, tI_40] at c23); (try simp only [l_int, tL_0, tL_1, tL_2, tL_4, tL_5, tL_6, tL_7, tL_9, tL_10, tL_12, tL_15, tL_30, tL_40, tL_60, tL_99, tL_255, tL_1023, tL_m1, lc_lt, lc_gt, lc_ge, lc_le, lc_eq, l6_le, l6_lt, l6_eq, tI_m133, tI_m226, i_le, i_lt, i_eq, tI_m1, tI_0, tI_1, tI_4, tI_20, tI_30, tI_40]); omega
      have hat := hrM_at (h := h) hM hi10
      have hlv := hM.q.2.2.2.2.1 i hi10
      have hlI : (nI (nn (κ.1 13 i))).toInt = ((nn (κ.1 13 i) : Nat) : Int) := nI_c (by have := hlv.le; omega)
      have hl9 := hlv.le
      refine WS.aload_n hx dX11_hours_26 rfl 2 rfl ?_
      refine WS.getR hx okX11 lf11_9 rfl rfl dX11_hours_27 ?_
      refine WS.bipush (v := 30) hx dX11_hours_30 (by decide) ?_
      refine WS.iload_n hx dX11_hours_32 rfl 0 rfl ?_
      refine WS.iadd hx dX11_hours_33 ?_
      refine WS.as rfl rfl (congrArg (fun z => Value.int z :: _) (show 30 + (nI i) = nI (30 + i) from nI_add 30 i)) ?_
      skip
      refine WS.iald hx rfl (vp_in_nI (by (try simp only [l_int, tL_0, tL_1, tL_2, tL_4, tL_5, tL_6, tL_7, tL_9, tL_10, tL_12, tL_15, tL_30, tL_40, tL_60, tL_99, tL_255, tL_1023, tL_m1, lc_lt, lc_gt, lc_ge, lc_le, lc_eq, l6_le, l6_lt, l6_eq, tI_m133, tI_m226, i_le, i_lt, i_eq, tI_m1, tI_0, tI_1, tI_4, tI_20, tI_30, tI_40] at c23); (try simp only [l_int, tL_0, tL_1, tL_2, tL_4, tL_5, tL_6, tL_7, tL_9, tL_10, tL_12, tL_15, tL_30, tL_40, tL_60, tL_99, tL_255, tL_1023, tL_m1, lc_lt, lc_gt, lc_ge, lc_le, lc_eq, l6_le, l6_lt, l6_eq, tI_m133, tI_m226, i_le, i_lt, i_eq, tI_m1, tI_0, tI_1, tI_4, tI_20, tI_30, tI_40]); omega) (by decide)) dX11_hours_34 ?_
      refine WS.as rfl rfl (congrArg (fun z => Value.int z :: _) (show (stR σ 1 (hrM κ σ h i)).1 1 (nn (nI (30 + i))) = κ.1 14 i from by rw [nn_nI (by omega)]; exact hat.1)) ?_
      skip
      refine WS.iconst (v := 1) hx dX11_hours_35 (by decide) ?_
      refine WS.icmp_ne (tgt := 126) hx dX11_hours_36 (by decide) (fun c36 => ?_) (fun c36 => ?_)
      · skip
        show WS layM V 4 X (stR σ 1 (hrM κ σ h i)) 126 [(3, .int (nI i)), (2, .int (nI (hrN κ h i))), (0, rf V 0), (1, .int x)] []
        refine WS.iinc (v := nI (i + 1)) (lo' := [(3, .int (nI (i + 1))), (2, .int (nI (hrN κ h i))), (0, rf V 0), (1, .int x)]) hx dX11_hours_126 0 rfl (nI_1 i) (by decide) rfl ?_
        refine WS.goto (tgt := 18) hx dX11_hours_129 (by decide) ?_
        have hsk : ¬ (κ.1 14 i = 1 ∧ κ.1 15 i = 0) := fun hh => c36 hh.1
        have h9 := ih _ (by (try simp only [l_int, tL_0, tL_1, tL_2, tL_4, tL_5, tL_6, tL_7, tL_9, tL_10, tL_12, tL_15, tL_30, tL_40, tL_60, tL_99, tL_255, tL_1023, tL_m1, lc_lt, lc_gt, lc_ge, lc_le, lc_eq, l6_le, l6_lt, l6_eq, tI_m133, tI_m226, i_le, i_lt, i_eq, tI_m1, tI_0, tI_1, tI_4, tI_20, tI_30, tI_40] at c23); (try simp only [l_int, tL_0, tL_1, tL_2, tL_4, tL_5, tL_6, tL_7, tL_9, tL_10, tL_12, tL_15, tL_30, tL_40, tL_60, tL_99, tL_255, tL_1023, tL_m1, lc_lt, lc_gt, lc_ge, lc_le, lc_eq, l6_le, l6_lt, l6_eq, tI_m133, tI_m226, i_le, i_lt, i_eq, tI_m1, tI_0, tI_1, tI_4, tI_20, tI_30, tI_40] at c36); (try simp only [l_int, tL_0, tL_1, tL_2, tL_4, tL_5, tL_6, tL_7, tL_9, tL_10, tL_12, tL_15, tL_30, tL_40, tL_60, tL_99, tL_255, tL_1023, tL_m1, lc_lt, lc_gt, lc_ge, lc_le, lc_eq, l6_le, l6_lt, l6_eq, tI_m133, tI_m226, i_le, i_lt, i_eq, tI_m1, tI_0, tI_1, tI_4, tI_20, tI_30, tI_40]); omega) (i + 1) rfl (by (try simp only [l_int, tL_0, tL_1, tL_2, tL_4, tL_5, tL_6, tL_7, tL_9, tL_10, tL_12, tL_15, tL_30, tL_40, tL_60, tL_99, tL_255, tL_1023, tL_m1, lc_lt, lc_gt, lc_ge, lc_le, lc_eq, l6_le, l6_lt, l6_eq, tI_m133, tI_m226, i_le, i_lt, i_eq, tI_m1, tI_0, tI_1, tI_4, tI_20, tI_30, tI_40] at c23); (try simp only [l_int, tL_0, tL_1, tL_2, tL_4, tL_5, tL_6, tL_7, tL_9, tL_10, tL_12, tL_15, tL_30, tL_40, tL_60, tL_99, tL_255, tL_1023, tL_m1, lc_lt, lc_gt, lc_ge, lc_le, lc_eq, l6_le, l6_lt, l6_eq, tI_m133, tI_m226, i_le, i_lt, i_eq, tI_m1, tI_0, tI_1, tI_4, tI_20, tI_30, tI_40] at c36); (try simp only [l_int, tL_0, tL_1, tL_2, tL_4, tL_5, tL_6, tL_7, tL_9, tL_10, tL_12, tL_15, tL_30, tL_40, tL_60, tL_99, tL_255, tL_1023, tL_m1, lc_lt, lc_gt, lc_ge, lc_le, lc_eq, l6_le, l6_lt, l6_eq, tI_m133, tI_m226, i_le, i_lt, i_eq, tI_m1, tI_0, tI_1, tI_4, tI_20, tI_30, tI_40]); omega)
        rw [hrM_skip hsk, (hr_skip hsk).2.2] at h9
        exact WS.los [0, 1, 2, 3] rfl h9
      · skip
        show WS layM V 4 X (stR σ 1 (hrM κ σ h i)) 39 [(3, .int (nI i)), (2, .int (nI (hrN κ h i))), (0, rf V 0), (1, .int x)] []
        refine WS.aload_n hx dX11_hours_39 rfl 2 rfl ?_
        refine WS.getR hx okX11 lf11_9 rfl rfl dX11_hours_40 ?_
        refine WS.bipush (v := 40) hx dX11_hours_43 (by decide) ?_
        refine WS.iload_n hx dX11_hours_45 rfl 0 rfl ?_
        refine WS.iadd hx dX11_hours_46 ?_
        refine WS.as rfl rfl (congrArg (fun z => Value.int z :: _) (show 40 + (nI i) = nI (40 + i) from nI_add 40 i)) ?_
        skip
        refine WS.iald hx rfl (vp_in_nI (by (try simp only [l_int, tL_0, tL_1, tL_2, tL_4, tL_5, tL_6, tL_7, tL_9, tL_10, tL_12, tL_15, tL_30, tL_40, tL_60, tL_99, tL_255, tL_1023, tL_m1, lc_lt, lc_gt, lc_ge, lc_le, lc_eq, l6_le, l6_lt, l6_eq, tI_m133, tI_m226, i_le, i_lt, i_eq, tI_m1, tI_0, tI_1, tI_4, tI_20, tI_30, tI_40] at c23); (try simp only [l_int, tL_0, tL_1, tL_2, tL_4, tL_5, tL_6, tL_7, tL_9, tL_10, tL_12, tL_15, tL_30, tL_40, tL_60, tL_99, tL_255, tL_1023, tL_m1, lc_lt, lc_gt, lc_ge, lc_le, lc_eq, l6_le, l6_lt, l6_eq, tI_m133, tI_m226, i_le, i_lt, i_eq, tI_m1, tI_0, tI_1, tI_4, tI_20, tI_30, tI_40] at c36); (try simp only [l_int, tL_0, tL_1, tL_2, tL_4, tL_5, tL_6, tL_7, tL_9, tL_10, tL_12, tL_15, tL_30, tL_40, tL_60, tL_99, tL_255, tL_1023, tL_m1, lc_lt, lc_gt, lc_ge, lc_le, lc_eq, l6_le, l6_lt, l6_eq, tI_m133, tI_m226, i_le, i_lt, i_eq, tI_m1, tI_0, tI_1, tI_4, tI_20, tI_30, tI_40]); omega) (by decide)) dX11_hours_47 ?_
        refine WS.as rfl rfl (congrArg (fun z => Value.int z :: _) (show (stR σ 1 (hrM κ σ h i)).1 1 (nn (nI (40 + i))) = κ.1 15 i from by rw [nn_nI (by omega)]; exact hat.2.1)) ?_
        skip
        refine WS.if_ne (tgt := 126) hx dX11_hours_48 (by decide) (fun c48 => ?_) (fun c48 => ?_)
        · skip
          show WS layM V 4 X (stR σ 1 (hrM κ σ h i)) 126 [(3, .int (nI i)), (2, .int (nI (hrN κ h i))), (0, rf V 0), (1, .int x)] []
          refine WS.iinc (v := nI (i + 1)) (lo' := [(3, .int (nI (i + 1))), (2, .int (nI (hrN κ h i))), (0, rf V 0), (1, .int x)]) hx dX11_hours_126 0 rfl (nI_1 i) (by decide) rfl ?_
          refine WS.goto (tgt := 18) hx dX11_hours_129 (by decide) ?_
          have hsk : ¬ (κ.1 14 i = 1 ∧ κ.1 15 i = 0) := fun hh => c48 hh.2
          have h9 := ih _ (by (try simp only [l_int, tL_0, tL_1, tL_2, tL_4, tL_5, tL_6, tL_7, tL_9, tL_10, tL_12, tL_15, tL_30, tL_40, tL_60, tL_99, tL_255, tL_1023, tL_m1, lc_lt, lc_gt, lc_ge, lc_le, lc_eq, l6_le, l6_lt, l6_eq, tI_m133, tI_m226, i_le, i_lt, i_eq, tI_m1, tI_0, tI_1, tI_4, tI_20, tI_30, tI_40] at c23); (try simp only [l_int, tL_0, tL_1, tL_2, tL_4, tL_5, tL_6, tL_7, tL_9, tL_10, tL_12, tL_15, tL_30, tL_40, tL_60, tL_99, tL_255, tL_1023, tL_m1, lc_lt, lc_gt, lc_ge, lc_le, lc_eq, l6_le, l6_lt, l6_eq, tI_m133, tI_m226, i_le, i_lt, i_eq, tI_m1, tI_0, tI_1, tI_4, tI_20, tI_30, tI_40] at c36); (try simp only [l_int, tL_0, tL_1, tL_2, tL_4, tL_5, tL_6, tL_7, tL_9, tL_10, tL_12, tL_15, tL_30, tL_40, tL_60, tL_99, tL_255, tL_1023, tL_m1, lc_lt, lc_gt, lc_ge, lc_le, lc_eq, l6_le, l6_lt, l6_eq, tI_m133, tI_m226, i_le, i_lt, i_eq, tI_m1, tI_0, tI_1, tI_4, tI_20, tI_30, tI_40] at c48); (try simp only [l_int, tL_0, tL_1, tL_2, tL_4, tL_5, tL_6, tL_7, tL_9, tL_10, tL_12, tL_15, tL_30, tL_40, tL_60, tL_99, tL_255, tL_1023, tL_m1, lc_lt, lc_gt, lc_ge, lc_le, lc_eq, l6_le, l6_lt, l6_eq, tI_m133, tI_m226, i_le, i_lt, i_eq, tI_m1, tI_0, tI_1, tI_4, tI_20, tI_30, tI_40]); omega) (i + 1) rfl (by (try simp only [l_int, tL_0, tL_1, tL_2, tL_4, tL_5, tL_6, tL_7, tL_9, tL_10, tL_12, tL_15, tL_30, tL_40, tL_60, tL_99, tL_255, tL_1023, tL_m1, lc_lt, lc_gt, lc_ge, lc_le, lc_eq, l6_le, l6_lt, l6_eq, tI_m133, tI_m226, i_le, i_lt, i_eq, tI_m1, tI_0, tI_1, tI_4, tI_20, tI_30, tI_40] at c23); (try simp only [l_int, tL_0, tL_1, tL_2, tL_4, tL_5, tL_6, tL_7, tL_9, tL_10, tL_12, tL_15, tL_30, tL_40, tL_60, tL_99, tL_255, tL_1023, tL_m1, lc_lt, lc_gt, lc_ge, lc_le, lc_eq, l6_le, l6_lt, l6_eq, tI_m133, tI_m226, i_le, i_lt, i_eq, tI_m1, tI_0, tI_1, tI_4, tI_20, tI_30, tI_40] at c36); (try simp only [l_int, tL_0, tL_1, tL_2, tL_4, tL_5, tL_6, tL_7, tL_9, tL_10, tL_12, tL_15, tL_30, tL_40, tL_60, tL_99, tL_255, tL_1023, tL_m1, lc_lt, lc_gt, lc_ge, lc_le, lc_eq, l6_le, l6_lt, l6_eq, tI_m133, tI_m226, i_le, i_lt, i_eq, tI_m1, tI_0, tI_1, tI_4, tI_20, tI_30, tI_40] at c48); (try simp only [l_int, tL_0, tL_1, tL_2, tL_4, tL_5, tL_6, tL_7, tL_9, tL_10, tL_12, tL_15, tL_30, tL_40, tL_60, tL_99, tL_255, tL_1023, tL_m1, lc_lt, lc_gt, lc_ge, lc_le, lc_eq, l6_le, l6_lt, l6_eq, tI_m133, tI_m226, i_le, i_lt, i_eq, tI_m1, tI_0, tI_1, tI_4, tI_20, tI_30, tI_40]); omega)
          rw [hrM_skip hsk, (hr_skip hsk).2.2] at h9
          exact WS.los [0, 1, 2, 3] rfl h9
        · skip
          show WS layM V 4 X (stR σ 1 (hrM κ σ h i)) 51 [(3, .int (nI i)), (2, .int (nI (hrN κ h i))), (0, rf V 0), (1, .int x)] []
          refine WS.aload_n hx dX11_hours_51 rfl 2 rfl ?_
          refine WS.getR hx okX11 lf11_9 rfl rfl dX11_hours_52 ?_
          refine WS.bipush (v := 20) hx dX11_hours_55 (by decide) ?_
          refine WS.iload_n hx dX11_hours_57 rfl 0 rfl ?_
          refine WS.iadd hx dX11_hours_58 ?_
          refine WS.as rfl rfl (congrArg (fun z => Value.int z :: _) (show 20 + (nI i) = nI (20 + i) from nI_add 20 i)) ?_
          skip
          refine WS.aload_n hx dX11_hours_59 rfl 2 rfl ?_
          refine WS.getR hx okX11 lf11_9 rfl rfl dX11_hours_60 ?_
          refine WS.bipush (v := 20) hx dX11_hours_63 (by decide) ?_
          refine WS.iload_n hx dX11_hours_65 rfl 0 rfl ?_
          refine WS.iadd hx dX11_hours_66 ?_
          refine WS.as rfl rfl (congrArg (fun z => Value.int z :: _) (show 20 + (nI i) = nI (20 + i) from nI_add 20 i)) ?_
          skip
          refine WS.iald hx rfl (vp_in_nI (by (try simp only [l_int, tL_0, tL_1, tL_2, tL_4, tL_5, tL_6, tL_7, tL_9, tL_10, tL_12, tL_15, tL_30, tL_40, tL_60, tL_99, tL_255, tL_1023, tL_m1, lc_lt, lc_gt, lc_ge, lc_le, lc_eq, l6_le, l6_lt, l6_eq, tI_m133, tI_m226, i_le, i_lt, i_eq, tI_m1, tI_0, tI_1, tI_4, tI_20, tI_30, tI_40] at c23); (try simp only [l_int, tL_0, tL_1, tL_2, tL_4, tL_5, tL_6, tL_7, tL_9, tL_10, tL_12, tL_15, tL_30, tL_40, tL_60, tL_99, tL_255, tL_1023, tL_m1, lc_lt, lc_gt, lc_ge, lc_le, lc_eq, l6_le, l6_lt, l6_eq, tI_m133, tI_m226, i_le, i_lt, i_eq, tI_m1, tI_0, tI_1, tI_4, tI_20, tI_30, tI_40] at c36); (try simp only [l_int, tL_0, tL_1, tL_2, tL_4, tL_5, tL_6, tL_7, tL_9, tL_10, tL_12, tL_15, tL_30, tL_40, tL_60, tL_99, tL_255, tL_1023, tL_m1, lc_lt, lc_gt, lc_ge, lc_le, lc_eq, l6_le, l6_lt, l6_eq, tI_m133, tI_m226, i_le, i_lt, i_eq, tI_m1, tI_0, tI_1, tI_4, tI_20, tI_30, tI_40] at c48); (try simp only [l_int, tL_0, tL_1, tL_2, tL_4, tL_5, tL_6, tL_7, tL_9, tL_10, tL_12, tL_15, tL_30, tL_40, tL_60, tL_99, tL_255, tL_1023, tL_m1, lc_lt, lc_gt, lc_ge, lc_le, lc_eq, l6_le, l6_lt, l6_eq, tI_m133, tI_m226, i_le, i_lt, i_eq, tI_m1, tI_0, tI_1, tI_4, tI_20, tI_30, tI_40]); omega) (by decide)) dX11_hours_67 ?_
          refine WS.as rfl rfl (congrArg (fun z => Value.int z :: _) (show (stR σ 1 (hrM κ σ h i)).1 1 (nn (nI (20 + i))) = nI (nn (κ.1 13 i)) from by rw [nn_nI (by omega)]; exact hat.2.2.trans hlv.i)) ?_
          skip
          refine WS.iload_n hx dX11_hours_68 rfl 3 rfl ?_
          refine WS.as rfl rfl (congrArg (fun z => Value.int z :: _) (show x = nI h from hxh)) ?_
          skip
          refine WS.icmp_ge (tgt := 76) hx dX11_hours_69 (by decide) (fun c69 => ?_) (fun c69 => ?_)
          · skip
            show WS layM V 4 X (stR σ 1 (hrM κ σ h i)) 76 [(3, .int (nI i)), (2, .int (nI (hrN κ h i))), (0, rf V 0), (1, .int x)] [.int (nI (20 + i)), rf V 1]
            refine WS.aload_n hx dX11_hours_76 rfl 2 rfl ?_
            refine WS.getR hx okX11 lf11_9 rfl rfl dX11_hours_77 ?_
            refine WS.bipush (v := 20) hx dX11_hours_80 (by decide) ?_
            refine WS.iload_n hx dX11_hours_82 rfl 0 rfl ?_
            refine WS.iadd hx dX11_hours_83 ?_
            refine WS.as rfl rfl (congrArg (fun z => Value.int z :: _) (show 20 + (nI i) = nI (20 + i) from nI_add 20 i)) ?_
            skip
            refine WS.iald hx rfl (vp_in_nI (by (try simp only [l_int, tL_0, tL_1, tL_2, tL_4, tL_5, tL_6, tL_7, tL_9, tL_10, tL_12, tL_15, tL_30, tL_40, tL_60, tL_99, tL_255, tL_1023, tL_m1, lc_lt, lc_gt, lc_ge, lc_le, lc_eq, l6_le, l6_lt, l6_eq, tI_m133, tI_m226, i_le, i_lt, i_eq, tI_m1, tI_0, tI_1, tI_4, tI_20, tI_30, tI_40] at c23); (try simp only [l_int, tL_0, tL_1, tL_2, tL_4, tL_5, tL_6, tL_7, tL_9, tL_10, tL_12, tL_15, tL_30, tL_40, tL_60, tL_99, tL_255, tL_1023, tL_m1, lc_lt, lc_gt, lc_ge, lc_le, lc_eq, l6_le, l6_lt, l6_eq, tI_m133, tI_m226, i_le, i_lt, i_eq, tI_m1, tI_0, tI_1, tI_4, tI_20, tI_30, tI_40] at c36); (try simp only [l_int, tL_0, tL_1, tL_2, tL_4, tL_5, tL_6, tL_7, tL_9, tL_10, tL_12, tL_15, tL_30, tL_40, tL_60, tL_99, tL_255, tL_1023, tL_m1, lc_lt, lc_gt, lc_ge, lc_le, lc_eq, l6_le, l6_lt, l6_eq, tI_m133, tI_m226, i_le, i_lt, i_eq, tI_m1, tI_0, tI_1, tI_4, tI_20, tI_30, tI_40] at c48); (try simp only [l_int, tL_0, tL_1, tL_2, tL_4, tL_5, tL_6, tL_7, tL_9, tL_10, tL_12, tL_15, tL_30, tL_40, tL_60, tL_99, tL_255, tL_1023, tL_m1, lc_lt, lc_gt, lc_ge, lc_le, lc_eq, l6_le, l6_lt, l6_eq, tI_m133, tI_m226, i_le, i_lt, i_eq, tI_m1, tI_0, tI_1, tI_4, tI_20, tI_30, tI_40] at c69); (try simp only [l_int, tL_0, tL_1, tL_2, tL_4, tL_5, tL_6, tL_7, tL_9, tL_10, tL_12, tL_15, tL_30, tL_40, tL_60, tL_99, tL_255, tL_1023, tL_m1, lc_lt, lc_gt, lc_ge, lc_le, lc_eq, l6_le, l6_lt, l6_eq, tI_m133, tI_m226, i_le, i_lt, i_eq, tI_m1, tI_0, tI_1, tI_4, tI_20, tI_30, tI_40]); omega) (by decide)) dX11_hours_84 ?_
            refine WS.as rfl rfl (congrArg (fun z => Value.int z :: _) (show (stR σ 1 (hrM κ σ h i)).1 1 (nn (nI (20 + i))) = nI (nn (κ.1 13 i)) from by rw [nn_nI (by omega)]; exact hat.2.2.trans hlv.i)) ?_
            skip
            refine WS.iload_n hx dX11_hours_85 rfl 3 rfl ?_
            refine WS.as rfl rfl (congrArg (fun z => Value.int z :: _) (show x = nI h from hxh)) ?_
            skip
            refine WS.isub hx dX11_hours_86 ?_
            refine WS.as rfl rfl (congrArg (fun z => Value.int z :: _) (show (nI (nn (κ.1 13 i))) - (nI h) = nI (nn (κ.1 13 i) - h) from pk_sub (by (try simp only [l_int, tL_0, tL_1, tL_2, tL_4, tL_5, tL_6, tL_7, tL_9, tL_10, tL_12, tL_15, tL_30, tL_40, tL_60, tL_99, tL_255, tL_1023, tL_m1, lc_lt, lc_gt, lc_ge, lc_le, lc_eq, l6_le, l6_lt, l6_eq, tI_m133, tI_m226, i_le, i_lt, i_eq, tI_m1, tI_0, tI_1, tI_4, tI_20, tI_30, tI_40] at c23); (try simp only [l_int, tL_0, tL_1, tL_2, tL_4, tL_5, tL_6, tL_7, tL_9, tL_10, tL_12, tL_15, tL_30, tL_40, tL_60, tL_99, tL_255, tL_1023, tL_m1, lc_lt, lc_gt, lc_ge, lc_le, lc_eq, l6_le, l6_lt, l6_eq, tI_m133, tI_m226, i_le, i_lt, i_eq, tI_m1, tI_0, tI_1, tI_4, tI_20, tI_30, tI_40] at c36); (try simp only [l_int, tL_0, tL_1, tL_2, tL_4, tL_5, tL_6, tL_7, tL_9, tL_10, tL_12, tL_15, tL_30, tL_40, tL_60, tL_99, tL_255, tL_1023, tL_m1, lc_lt, lc_gt, lc_ge, lc_le, lc_eq, l6_le, l6_lt, l6_eq, tI_m133, tI_m226, i_le, i_lt, i_eq, tI_m1, tI_0, tI_1, tI_4, tI_20, tI_30, tI_40] at c48); (try simp only [l_int, tL_0, tL_1, tL_2, tL_4, tL_5, tL_6, tL_7, tL_9, tL_10, tL_12, tL_15, tL_30, tL_40, tL_60, tL_99, tL_255, tL_1023, tL_m1, lc_lt, lc_gt, lc_ge, lc_le, lc_eq, l6_le, l6_lt, l6_eq, tI_m133, tI_m226, i_le, i_lt, i_eq, tI_m1, tI_0, tI_1, tI_4, tI_20, tI_30, tI_40] at c69); (try simp only [l_int, tL_0, tL_1, tL_2, tL_4, tL_5, tL_6, tL_7, tL_9, tL_10, tL_12, tL_15, tL_30, tL_40, tL_60, tL_99, tL_255, tL_1023, tL_m1, lc_lt, lc_gt, lc_ge, lc_le, lc_eq, l6_le, l6_lt, l6_eq, tI_m133, tI_m226, i_le, i_lt, i_eq, tI_m1, tI_0, tI_1, tI_4, tI_20, tI_30, tI_40]); omega))) ?_
            skip
            refine WS.iast hx rfl (vp_in_nI (by (try simp only [l_int, tL_0, tL_1, tL_2, tL_4, tL_5, tL_6, tL_7, tL_9, tL_10, tL_12, tL_15, tL_30, tL_40, tL_60, tL_99, tL_255, tL_1023, tL_m1, lc_lt, lc_gt, lc_ge, lc_le, lc_eq, l6_le, l6_lt, l6_eq, tI_m133, tI_m226, i_le, i_lt, i_eq, tI_m1, tI_0, tI_1, tI_4, tI_20, tI_30, tI_40] at c23); (try simp only [l_int, tL_0, tL_1, tL_2, tL_4, tL_5, tL_6, tL_7, tL_9, tL_10, tL_12, tL_15, tL_30, tL_40, tL_60, tL_99, tL_255, tL_1023, tL_m1, lc_lt, lc_gt, lc_ge, lc_le, lc_eq, l6_le, l6_lt, l6_eq, tI_m133, tI_m226, i_le, i_lt, i_eq, tI_m1, tI_0, tI_1, tI_4, tI_20, tI_30, tI_40] at c36); (try simp only [l_int, tL_0, tL_1, tL_2, tL_4, tL_5, tL_6, tL_7, tL_9, tL_10, tL_12, tL_15, tL_30, tL_40, tL_60, tL_99, tL_255, tL_1023, tL_m1, lc_lt, lc_gt, lc_ge, lc_le, lc_eq, l6_le, l6_lt, l6_eq, tI_m133, tI_m226, i_le, i_lt, i_eq, tI_m1, tI_0, tI_1, tI_4, tI_20, tI_30, tI_40] at c48); (try simp only [l_int, tL_0, tL_1, tL_2, tL_4, tL_5, tL_6, tL_7, tL_9, tL_10, tL_12, tL_15, tL_30, tL_40, tL_60, tL_99, tL_255, tL_1023, tL_m1, lc_lt, lc_gt, lc_ge, lc_le, lc_eq, l6_le, l6_lt, l6_eq, tI_m133, tI_m226, i_le, i_lt, i_eq, tI_m1, tI_0, tI_1, tI_4, tI_20, tI_30, tI_40] at c69); (try simp only [l_int, tL_0, tL_1, tL_2, tL_4, tL_5, tL_6, tL_7, tL_9, tL_10, tL_12, tL_15, tL_30, tL_40, tL_60, tL_99, tL_255, tL_1023, tL_m1, lc_lt, lc_gt, lc_ge, lc_le, lc_eq, l6_le, l6_lt, l6_eq, tI_m133, tI_m226, i_le, i_lt, i_eq, tI_m1, tI_0, tI_1, tI_4, tI_20, tI_30, tI_40]); omega) (by decide)) dX11_hours_87 ?_
            refine WS.aload_n hx dX11_hours_88 rfl 2 rfl ?_
            refine WS.getR hx okX11 lf11_9 rfl rfl dX11_hours_89 ?_
            refine WS.bipush (v := 40) hx dX11_hours_92 (by decide) ?_
            refine WS.iload_n hx dX11_hours_94 rfl 0 rfl ?_
            refine WS.iadd hx dX11_hours_95 ?_
            refine WS.as rfl rfl (congrArg (fun z => Value.int z :: _) (show 40 + (nI i) = nI (40 + i) from nI_add 40 i)) ?_
            skip
            refine WS.aload_n hx dX11_hours_96 rfl 2 rfl ?_
            refine WS.getR hx okX11 lf11_9 rfl rfl dX11_hours_97 ?_
            refine WS.bipush (v := 20) hx dX11_hours_100 (by decide) ?_
            refine WS.iload_n hx dX11_hours_102 rfl 0 rfl ?_
            refine WS.iadd hx dX11_hours_103 ?_
            refine WS.as rfl rfl (congrArg (fun z => Value.int z :: _) (show 20 + (nI i) = nI (20 + i) from nI_add 20 i)) ?_
            skip
            refine WS.iald hx rfl (vp_in_nI (by (try simp only [l_int, tL_0, tL_1, tL_2, tL_4, tL_5, tL_6, tL_7, tL_9, tL_10, tL_12, tL_15, tL_30, tL_40, tL_60, tL_99, tL_255, tL_1023, tL_m1, lc_lt, lc_gt, lc_ge, lc_le, lc_eq, l6_le, l6_lt, l6_eq, tI_m133, tI_m226, i_le, i_lt, i_eq, tI_m1, tI_0, tI_1, tI_4, tI_20, tI_30, tI_40] at c23); (try simp only [l_int, tL_0, tL_1, tL_2, tL_4, tL_5, tL_6, tL_7, tL_9, tL_10, tL_12, tL_15, tL_30, tL_40, tL_60, tL_99, tL_255, tL_1023, tL_m1, lc_lt, lc_gt, lc_ge, lc_le, lc_eq, l6_le, l6_lt, l6_eq, tI_m133, tI_m226, i_le, i_lt, i_eq, tI_m1, tI_0, tI_1, tI_4, tI_20, tI_30, tI_40] at c36); (try simp only [l_int, tL_0, tL_1, tL_2, tL_4, tL_5, tL_6, tL_7, tL_9, tL_10, tL_12, tL_15, tL_30, tL_40, tL_60, tL_99, tL_255, tL_1023, tL_m1, lc_lt, lc_gt, lc_ge, lc_le, lc_eq, l6_le, l6_lt, l6_eq, tI_m133, tI_m226, i_le, i_lt, i_eq, tI_m1, tI_0, tI_1, tI_4, tI_20, tI_30, tI_40] at c48); (try simp only [l_int, tL_0, tL_1, tL_2, tL_4, tL_5, tL_6, tL_7, tL_9, tL_10, tL_12, tL_15, tL_30, tL_40, tL_60, tL_99, tL_255, tL_1023, tL_m1, lc_lt, lc_gt, lc_ge, lc_le, lc_eq, l6_le, l6_lt, l6_eq, tI_m133, tI_m226, i_le, i_lt, i_eq, tI_m1, tI_0, tI_1, tI_4, tI_20, tI_30, tI_40] at c69); (try simp only [l_int, tL_0, tL_1, tL_2, tL_4, tL_5, tL_6, tL_7, tL_9, tL_10, tL_12, tL_15, tL_30, tL_40, tL_60, tL_99, tL_255, tL_1023, tL_m1, lc_lt, lc_gt, lc_ge, lc_le, lc_eq, l6_le, l6_lt, l6_eq, tI_m133, tI_m226, i_le, i_lt, i_eq, tI_m1, tI_0, tI_1, tI_4, tI_20, tI_30, tI_40]); omega) (by decide)) dX11_hours_104 ?_
            refine WS.as rfl rfl (congrArg (fun z => Value.int z :: _) (show (stI (stR σ 1 (hrM κ σ h i)) 1 (nn (nI (20 + i))) (nI (nn (κ.1 13 i) - h))).1 1 (nn (nI (20 + i))) = nI (nn (κ.1 13 i) - h) from by
    (try simp only [nn_nI (show 20 + i < 2 ^ 31 by omega), nI_clamp (show 20 + i < 2 ^ 31 by omega)])
    exact stI_1 _ _ _ _)) ?_
            skip
            refine WS.if_ne (tgt := 112) hx dX11_hours_105 (by decide) (fun c105 => ?_) (fun c105 => ?_)
            · skip
              show WS layM V 4 X (stI (stR σ 1 (hrM κ σ h i)) 1 (nn (nI (20 + i))) (nI (nn (κ.1 13 i) - h))) 112 [(3, .int (nI i)), (2, .int (nI (hrN κ h i))), (0, rf V 0), (1, .int x)] [.int (nI (40 + i)), rf V 1]
              refine WS.iconst (v := 0) hx dX11_hours_112 (by decide) ?_
              refine WS.iast hx rfl (vp_in_nI (by (try simp only [l_int, tL_0, tL_1, tL_2, tL_4, tL_5, tL_6, tL_7, tL_9, tL_10, tL_12, tL_15, tL_30, tL_40, tL_60, tL_99, tL_255, tL_1023, tL_m1, lc_lt, lc_gt, lc_ge, lc_le, lc_eq, l6_le, l6_lt, l6_eq, tI_m133, tI_m226, i_le, i_lt, i_eq, tI_m1, tI_0, tI_1, tI_4, tI_20, tI_30, tI_40] at c23); (try simp only [l_int, tL_0, tL_1, tL_2, tL_4, tL_5, tL_6, tL_7, tL_9, tL_10, tL_12, tL_15, tL_30, tL_40, tL_60, tL_99, tL_255, tL_1023, tL_m1, lc_lt, lc_gt, lc_ge, lc_le, lc_eq, l6_le, l6_lt, l6_eq, tI_m133, tI_m226, i_le, i_lt, i_eq, tI_m1, tI_0, tI_1, tI_4, tI_20, tI_30, tI_40] at c36); (try simp only [l_int, tL_0, tL_1, tL_2, tL_4, tL_5, tL_6, tL_7, tL_9, tL_10, tL_12, tL_15, tL_30, tL_40, tL_60, tL_99, tL_255, tL_1023, tL_m1, lc_lt, lc_gt, lc_ge, lc_le, lc_eq, l6_le, l6_lt, l6_eq, tI_m133, tI_m226, i_le, i_lt, i_eq, tI_m1, tI_0, tI_1, tI_4, tI_20, tI_30, tI_40] at c48); (try simp only [l_int, tL_0, tL_1, tL_2, tL_4, tL_5, tL_6, tL_7, tL_9, tL_10, tL_12, tL_15, tL_30, tL_40, tL_60, tL_99, tL_255, tL_1023, tL_m1, lc_lt, lc_gt, lc_ge, lc_le, lc_eq, l6_le, l6_lt, l6_eq, tI_m133, tI_m226, i_le, i_lt, i_eq, tI_m1, tI_0, tI_1, tI_4, tI_20, tI_30, tI_40] at c69); (try simp only [l_int, tL_0, tL_1, tL_2, tL_4, tL_5, tL_6, tL_7, tL_9, tL_10, tL_12, tL_15, tL_30, tL_40, tL_60, tL_99, tL_255, tL_1023, tL_m1, lc_lt, lc_gt, lc_ge, lc_le, lc_eq, l6_le, l6_lt, l6_eq, tI_m133, tI_m226, i_le, i_lt, i_eq, tI_m1, tI_0, tI_1, tI_4, tI_20, tI_30, tI_40] at c105); (try simp only [l_int, tL_0, tL_1, tL_2, tL_4, tL_5, tL_6, tL_7, tL_9, tL_10, tL_12, tL_15, tL_30, tL_40, tL_60, tL_99, tL_255, tL_1023, tL_m1, lc_lt, lc_gt, lc_ge, lc_le, lc_eq, l6_le, l6_lt, l6_eq, tI_m133, tI_m226, i_le, i_lt, i_eq, tI_m1, tI_0, tI_1, tI_4, tI_20, tI_30, tI_40]); omega) (by decide)) dX11_hours_113 ?_
              refine WS.iload_n hx dX11_hours_114 rfl 1 rfl ?_
              refine WS.aload_n hx dX11_hours_115 rfl 2 rfl ?_
              refine WS.getR hx okX11 lf11_9 rfl rfl dX11_hours_116 ?_
              refine WS.bipush (v := 40) hx dX11_hours_119 (by decide) ?_
              refine WS.iload_n hx dX11_hours_121 rfl 0 rfl ?_
              refine WS.iadd hx dX11_hours_122 ?_
              refine WS.as rfl rfl (congrArg (fun z => Value.int z :: _) (show 40 + (nI i) = nI (40 + i) from nI_add 40 i)) ?_
              skip
              refine WS.iald hx rfl (vp_in_nI (by (try simp only [l_int, tL_0, tL_1, tL_2, tL_4, tL_5, tL_6, tL_7, tL_9, tL_10, tL_12, tL_15, tL_30, tL_40, tL_60, tL_99, tL_255, tL_1023, tL_m1, lc_lt, lc_gt, lc_ge, lc_le, lc_eq, l6_le, l6_lt, l6_eq, tI_m133, tI_m226, i_le, i_lt, i_eq, tI_m1, tI_0, tI_1, tI_4, tI_20, tI_30, tI_40] at c23); (try simp only [l_int, tL_0, tL_1, tL_2, tL_4, tL_5, tL_6, tL_7, tL_9, tL_10, tL_12, tL_15, tL_30, tL_40, tL_60, tL_99, tL_255, tL_1023, tL_m1, lc_lt, lc_gt, lc_ge, lc_le, lc_eq, l6_le, l6_lt, l6_eq, tI_m133, tI_m226, i_le, i_lt, i_eq, tI_m1, tI_0, tI_1, tI_4, tI_20, tI_30, tI_40] at c36); (try simp only [l_int, tL_0, tL_1, tL_2, tL_4, tL_5, tL_6, tL_7, tL_9, tL_10, tL_12, tL_15, tL_30, tL_40, tL_60, tL_99, tL_255, tL_1023, tL_m1, lc_lt, lc_gt, lc_ge, lc_le, lc_eq, l6_le, l6_lt, l6_eq, tI_m133, tI_m226, i_le, i_lt, i_eq, tI_m1, tI_0, tI_1, tI_4, tI_20, tI_30, tI_40] at c48); (try simp only [l_int, tL_0, tL_1, tL_2, tL_4, tL_5, tL_6, tL_7, tL_9, tL_10, tL_12, tL_15, tL_30, tL_40, tL_60, tL_99, tL_255, tL_1023, tL_m1, lc_lt, lc_gt, lc_ge, lc_le, lc_eq, l6_le, l6_lt, l6_eq, tI_m133, tI_m226, i_le, i_lt, i_eq, tI_m1, tI_0, tI_1, tI_4, tI_20, tI_30, tI_40] at c69); (try simp only [l_int, tL_0, tL_1, tL_2, tL_4, tL_5, tL_6, tL_7, tL_9, tL_10, tL_12, tL_15, tL_30, tL_40, tL_60, tL_99, tL_255, tL_1023, tL_m1, lc_lt, lc_gt, lc_ge, lc_le, lc_eq, l6_le, l6_lt, l6_eq, tI_m133, tI_m226, i_le, i_lt, i_eq, tI_m1, tI_0, tI_1, tI_4, tI_20, tI_30, tI_40] at c105); (try simp only [l_int, tL_0, tL_1, tL_2, tL_4, tL_5, tL_6, tL_7, tL_9, tL_10, tL_12, tL_15, tL_30, tL_40, tL_60, tL_99, tL_255, tL_1023, tL_m1, lc_lt, lc_gt, lc_ge, lc_le, lc_eq, l6_le, l6_lt, l6_eq, tI_m133, tI_m226, i_le, i_lt, i_eq, tI_m1, tI_0, tI_1, tI_4, tI_20, tI_30, tI_40]); omega) (by decide)) dX11_hours_123 ?_
              refine WS.as rfl rfl (congrArg (fun z => Value.int z :: _) (show (stI (stI (stR σ 1 (hrM κ σ h i)) 1 (nn (nI (20 + i))) (nI (nn (κ.1 13 i) - h))) 1 (nn (nI (40 + i))) 0).1 1 (nn (nI (40 + i))) = 0 from by
    (try simp only [nn_nI (show 40 + i < 2 ^ 31 by omega), nI_clamp (show 40 + i < 2 ^ 31 by omega)])
    exact stI_1 _ _ _ _)) ?_
              skip
              refine WS.iadd hx dX11_hours_124 ?_
              refine WS.as rfl rfl (congrArg (fun z => Value.int z :: _) (show (nI (hrN κ h i)) + 0 = nI (hrN κ h i) from Int32.add_zero _)) ?_
              skip
              refine WS.istore_n (lo' := [(2, .int (nI (hrN κ h i))), (3, .int (nI i)), (0, rf V 0), (1, .int x)]) hx dX11_hours_125 rfl (by decide) rfl ?_
              refine WS.iinc (v := nI (i + 1)) (lo' := [(3, .int (nI (i + 1))), (2, .int (nI (hrN κ h i))), (0, rf V 0), (1, .int x)]) hx dX11_hours_126 1 rfl (nI_1 i) (by decide) rfl ?_
              refine WS.goto (tgt := 18) hx dX11_hours_129 (by decide) ?_
              have hcc : κ.1 14 i = 1 ∧ κ.1 15 i = 0 := ⟨c36, c48⟩
              have hz9 : ¬ nn (κ.1 13 i) - h = 0 := by intro e; exact c105 (by rw [e]; rfl)
              have h9 := ih _ (by omega) (i + 1) rfl (by omega)
              rw [← hrM_do hi10 hcc] at h9
              rw [if_neg hz9, (hr_live hz9).2] at h9
              (try simp only [nn_nI (show 20 + i < 2 ^ 31 by omega), nI_clamp (show 20 + i < 2 ^ 31 by omega)])
              (try simp only [nn_nI (show 40 + i < 2 ^ 31 by omega), nI_clamp (show 40 + i < 2 ^ 31 by omega)])
              rw [stI_R, stI_R]
              exact WS.los [0, 1, 2, 3] rfl h9
            · skip
              show WS layM V 4 X (stI (stR σ 1 (hrM κ σ h i)) 1 (nn (nI (20 + i))) (nI (nn (κ.1 13 i) - h))) 108 [(3, .int (nI i)), (2, .int (nI (hrN κ h i))), (0, rf V 0), (1, .int x)] [.int (nI (40 + i)), rf V 1]
              refine WS.iconst (v := 1) hx dX11_hours_108 (by decide) ?_
              refine WS.goto (tgt := 113) hx dX11_hours_109 (by decide) ?_
              refine WS.iast hx rfl (vp_in_nI (by (try simp only [l_int, tL_0, tL_1, tL_2, tL_4, tL_5, tL_6, tL_7, tL_9, tL_10, tL_12, tL_15, tL_30, tL_40, tL_60, tL_99, tL_255, tL_1023, tL_m1, lc_lt, lc_gt, lc_ge, lc_le, lc_eq, l6_le, l6_lt, l6_eq, tI_m133, tI_m226, i_le, i_lt, i_eq, tI_m1, tI_0, tI_1, tI_4, tI_20, tI_30, tI_40] at c23); (try simp only [l_int, tL_0, tL_1, tL_2, tL_4, tL_5, tL_6, tL_7, tL_9, tL_10, tL_12, tL_15, tL_30, tL_40, tL_60, tL_99, tL_255, tL_1023, tL_m1, lc_lt, lc_gt, lc_ge, lc_le, lc_eq, l6_le, l6_lt, l6_eq, tI_m133, tI_m226, i_le, i_lt, i_eq, tI_m1, tI_0, tI_1, tI_4, tI_20, tI_30, tI_40] at c36); (try simp only [l_int, tL_0, tL_1, tL_2, tL_4, tL_5, tL_6, tL_7, tL_9, tL_10, tL_12, tL_15, tL_30, tL_40, tL_60, tL_99, tL_255, tL_1023, tL_m1, lc_lt, lc_gt, lc_ge, lc_le, lc_eq, l6_le, l6_lt, l6_eq, tI_m133, tI_m226, i_le, i_lt, i_eq, tI_m1, tI_0, tI_1, tI_4, tI_20, tI_30, tI_40] at c48); (try simp only [l_int, tL_0, tL_1, tL_2, tL_4, tL_5, tL_6, tL_7, tL_9, tL_10, tL_12, tL_15, tL_30, tL_40, tL_60, tL_99, tL_255, tL_1023, tL_m1, lc_lt, lc_gt, lc_ge, lc_le, lc_eq, l6_le, l6_lt, l6_eq, tI_m133, tI_m226, i_le, i_lt, i_eq, tI_m1, tI_0, tI_1, tI_4, tI_20, tI_30, tI_40] at c69); (try simp only [l_int, tL_0, tL_1, tL_2, tL_4, tL_5, tL_6, tL_7, tL_9, tL_10, tL_12, tL_15, tL_30, tL_40, tL_60, tL_99, tL_255, tL_1023, tL_m1, lc_lt, lc_gt, lc_ge, lc_le, lc_eq, l6_le, l6_lt, l6_eq, tI_m133, tI_m226, i_le, i_lt, i_eq, tI_m1, tI_0, tI_1, tI_4, tI_20, tI_30, tI_40] at c105); (try simp only [l_int, tL_0, tL_1, tL_2, tL_4, tL_5, tL_6, tL_7, tL_9, tL_10, tL_12, tL_15, tL_30, tL_40, tL_60, tL_99, tL_255, tL_1023, tL_m1, lc_lt, lc_gt, lc_ge, lc_le, lc_eq, l6_le, l6_lt, l6_eq, tI_m133, tI_m226, i_le, i_lt, i_eq, tI_m1, tI_0, tI_1, tI_4, tI_20, tI_30, tI_40]); omega) (by decide)) dX11_hours_113 ?_
              refine WS.iload_n hx dX11_hours_114 rfl 1 rfl ?_
              refine WS.aload_n hx dX11_hours_115 rfl 2 rfl ?_
              refine WS.getR hx okX11 lf11_9 rfl rfl dX11_hours_116 ?_
              refine WS.bipush (v := 40) hx dX11_hours_119 (by decide) ?_
              refine WS.iload_n hx dX11_hours_121 rfl 0 rfl ?_
              refine WS.iadd hx dX11_hours_122 ?_
              refine WS.as rfl rfl (congrArg (fun z => Value.int z :: _) (show 40 + (nI i) = nI (40 + i) from nI_add 40 i)) ?_
              skip
              refine WS.iald hx rfl (vp_in_nI (by (try simp only [l_int, tL_0, tL_1, tL_2, tL_4, tL_5, tL_6, tL_7, tL_9, tL_10, tL_12, tL_15, tL_30, tL_40, tL_60, tL_99, tL_255, tL_1023, tL_m1, lc_lt, lc_gt, lc_ge, lc_le, lc_eq, l6_le, l6_lt, l6_eq, tI_m133, tI_m226, i_le, i_lt, i_eq, tI_m1, tI_0, tI_1, tI_4, tI_20, tI_30, tI_40] at c23); (try simp only [l_int, tL_0, tL_1, tL_2, tL_4, tL_5, tL_6, tL_7, tL_9, tL_10, tL_12, tL_15, tL_30, tL_40, tL_60, tL_99, tL_255, tL_1023, tL_m1, lc_lt, lc_gt, lc_ge, lc_le, lc_eq, l6_le, l6_lt, l6_eq, tI_m133, tI_m226, i_le, i_lt, i_eq, tI_m1, tI_0, tI_1, tI_4, tI_20, tI_30, tI_40] at c36); (try simp only [l_int, tL_0, tL_1, tL_2, tL_4, tL_5, tL_6, tL_7, tL_9, tL_10, tL_12, tL_15, tL_30, tL_40, tL_60, tL_99, tL_255, tL_1023, tL_m1, lc_lt, lc_gt, lc_ge, lc_le, lc_eq, l6_le, l6_lt, l6_eq, tI_m133, tI_m226, i_le, i_lt, i_eq, tI_m1, tI_0, tI_1, tI_4, tI_20, tI_30, tI_40] at c48); (try simp only [l_int, tL_0, tL_1, tL_2, tL_4, tL_5, tL_6, tL_7, tL_9, tL_10, tL_12, tL_15, tL_30, tL_40, tL_60, tL_99, tL_255, tL_1023, tL_m1, lc_lt, lc_gt, lc_ge, lc_le, lc_eq, l6_le, l6_lt, l6_eq, tI_m133, tI_m226, i_le, i_lt, i_eq, tI_m1, tI_0, tI_1, tI_4, tI_20, tI_30, tI_40] at c69); (try simp only [l_int, tL_0, tL_1, tL_2, tL_4, tL_5, tL_6, tL_7, tL_9, tL_10, tL_12, tL_15, tL_30, tL_40, tL_60, tL_99, tL_255, tL_1023, tL_m1, lc_lt, lc_gt, lc_ge, lc_le, lc_eq, l6_le, l6_lt, l6_eq, tI_m133, tI_m226, i_le, i_lt, i_eq, tI_m1, tI_0, tI_1, tI_4, tI_20, tI_30, tI_40] at c105); (try simp only [l_int, tL_0, tL_1, tL_2, tL_4, tL_5, tL_6, tL_7, tL_9, tL_10, tL_12, tL_15, tL_30, tL_40, tL_60, tL_99, tL_255, tL_1023, tL_m1, lc_lt, lc_gt, lc_ge, lc_le, lc_eq, l6_le, l6_lt, l6_eq, tI_m133, tI_m226, i_le, i_lt, i_eq, tI_m1, tI_0, tI_1, tI_4, tI_20, tI_30, tI_40]); omega) (by decide)) dX11_hours_123 ?_
              refine WS.as rfl rfl (congrArg (fun z => Value.int z :: _) (show (stI (stI (stR σ 1 (hrM κ σ h i)) 1 (nn (nI (20 + i))) (nI (nn (κ.1 13 i) - h))) 1 (nn (nI (40 + i))) 1).1 1 (nn (nI (40 + i))) = 1 from by
    (try simp only [nn_nI (show 40 + i < 2 ^ 31 by omega), nI_clamp (show 40 + i < 2 ^ 31 by omega)])
    exact stI_1 _ _ _ _)) ?_
              skip
              refine WS.iadd hx dX11_hours_124 ?_
              refine WS.as rfl rfl (congrArg (fun z => Value.int z :: _) (show (nI (hrN κ h i)) + 1 = nI (hrN κ h i + 1) from nI_1 _)) ?_
              skip
              refine WS.istore_n (lo' := [(2, .int (nI (hrN κ h i + 1))), (3, .int (nI i)), (0, rf V 0), (1, .int x)]) hx dX11_hours_125 rfl (by decide) rfl ?_
              refine WS.iinc (v := nI (i + 1)) (lo' := [(3, .int (nI (i + 1))), (2, .int (nI (hrN κ h i + 1))), (0, rf V 0), (1, .int x)]) hx dX11_hours_126 1 rfl (nI_1 i) (by decide) rfl ?_
              refine WS.goto (tgt := 18) hx dX11_hours_129 (by decide) ?_
              have hcc : κ.1 14 i = 1 ∧ κ.1 15 i = 0 := ⟨c36, c48⟩
              have hz9 : nn (κ.1 13 i) - h = 0 := by have h9 := c105; rw [i_eq, nI_c (by omega), tI_0] at h9; omega
              have h9 := ih _ (by omega) (i + 1) rfl (by omega)
              rw [← hrM_do hi10 hcc] at h9
              rw [if_pos hz9, (hr_dies hcc hz9).2] at h9
              (try simp only [nn_nI (show 20 + i < 2 ^ 31 by omega), nI_clamp (show 20 + i < 2 ^ 31 by omega)])
              (try simp only [nn_nI (show 40 + i < 2 ^ 31 by omega), nI_clamp (show 40 + i < 2 ^ 31 by omega)])
              rw [stI_R, stI_R]
              exact WS.los [0, 1, 2, 3] rfl h9
          · skip
            show WS layM V 4 X (stR σ 1 (hrM κ σ h i)) 72 [(3, .int (nI i)), (2, .int (nI (hrN κ h i))), (0, rf V 0), (1, .int x)] [.int (nI (20 + i)), rf V 1]
            refine WS.iconst (v := 0) hx dX11_hours_72 (by decide) ?_
            refine WS.as rfl rfl (congrArg (fun z => Value.int z :: _) (show 0 = nI (nn (κ.1 13 i) - h) from by rw [show nn (κ.1 13 i) - h = 0 by (try simp only [l_int, tL_0, tL_1, tL_2, tL_4, tL_5, tL_6, tL_7, tL_9, tL_10, tL_12, tL_15, tL_30, tL_40, tL_60, tL_99, tL_255, tL_1023, tL_m1, lc_lt, lc_gt, lc_ge, lc_le, lc_eq, l6_le, l6_lt, l6_eq, tI_m133, tI_m226, i_le, i_lt, i_eq, tI_m1, tI_0, tI_1, tI_4, tI_20, tI_30, tI_40] at c23); (try simp only [l_int, tL_0, tL_1, tL_2, tL_4, tL_5, tL_6, tL_7, tL_9, tL_10, tL_12, tL_15, tL_30, tL_40, tL_60, tL_99, tL_255, tL_1023, tL_m1, lc_lt, lc_gt, lc_ge, lc_le, lc_eq, l6_le, l6_lt, l6_eq, tI_m133, tI_m226, i_le, i_lt, i_eq, tI_m1, tI_0, tI_1, tI_4, tI_20, tI_30, tI_40] at c36); (try simp only [l_int, tL_0, tL_1, tL_2, tL_4, tL_5, tL_6, tL_7, tL_9, tL_10, tL_12, tL_15, tL_30, tL_40, tL_60, tL_99, tL_255, tL_1023, tL_m1, lc_lt, lc_gt, lc_ge, lc_le, lc_eq, l6_le, l6_lt, l6_eq, tI_m133, tI_m226, i_le, i_lt, i_eq, tI_m1, tI_0, tI_1, tI_4, tI_20, tI_30, tI_40] at c48); (try simp only [l_int, tL_0, tL_1, tL_2, tL_4, tL_5, tL_6, tL_7, tL_9, tL_10, tL_12, tL_15, tL_30, tL_40, tL_60, tL_99, tL_255, tL_1023, tL_m1, lc_lt, lc_gt, lc_ge, lc_le, lc_eq, l6_le, l6_lt, l6_eq, tI_m133, tI_m226, i_le, i_lt, i_eq, tI_m1, tI_0, tI_1, tI_4, tI_20, tI_30, tI_40] at c69); (try simp only [l_int, tL_0, tL_1, tL_2, tL_4, tL_5, tL_6, tL_7, tL_9, tL_10, tL_12, tL_15, tL_30, tL_40, tL_60, tL_99, tL_255, tL_1023, tL_m1, lc_lt, lc_gt, lc_ge, lc_le, lc_eq, l6_le, l6_lt, l6_eq, tI_m133, tI_m226, i_le, i_lt, i_eq, tI_m1, tI_0, tI_1, tI_4, tI_20, tI_30, tI_40]); omega]; rfl)) ?_
            skip
            refine WS.goto (tgt := 87) hx dX11_hours_73 (by decide) ?_
            refine WS.iast hx rfl (vp_in_nI (by (try simp only [l_int, tL_0, tL_1, tL_2, tL_4, tL_5, tL_6, tL_7, tL_9, tL_10, tL_12, tL_15, tL_30, tL_40, tL_60, tL_99, tL_255, tL_1023, tL_m1, lc_lt, lc_gt, lc_ge, lc_le, lc_eq, l6_le, l6_lt, l6_eq, tI_m133, tI_m226, i_le, i_lt, i_eq, tI_m1, tI_0, tI_1, tI_4, tI_20, tI_30, tI_40] at c23); (try simp only [l_int, tL_0, tL_1, tL_2, tL_4, tL_5, tL_6, tL_7, tL_9, tL_10, tL_12, tL_15, tL_30, tL_40, tL_60, tL_99, tL_255, tL_1023, tL_m1, lc_lt, lc_gt, lc_ge, lc_le, lc_eq, l6_le, l6_lt, l6_eq, tI_m133, tI_m226, i_le, i_lt, i_eq, tI_m1, tI_0, tI_1, tI_4, tI_20, tI_30, tI_40] at c36); (try simp only [l_int, tL_0, tL_1, tL_2, tL_4, tL_5, tL_6, tL_7, tL_9, tL_10, tL_12, tL_15, tL_30, tL_40, tL_60, tL_99, tL_255, tL_1023, tL_m1, lc_lt, lc_gt, lc_ge, lc_le, lc_eq, l6_le, l6_lt, l6_eq, tI_m133, tI_m226, i_le, i_lt, i_eq, tI_m1, tI_0, tI_1, tI_4, tI_20, tI_30, tI_40] at c48); (try simp only [l_int, tL_0, tL_1, tL_2, tL_4, tL_5, tL_6, tL_7, tL_9, tL_10, tL_12, tL_15, tL_30, tL_40, tL_60, tL_99, tL_255, tL_1023, tL_m1, lc_lt, lc_gt, lc_ge, lc_le, lc_eq, l6_le, l6_lt, l6_eq, tI_m133, tI_m226, i_le, i_lt, i_eq, tI_m1, tI_0, tI_1, tI_4, tI_20, tI_30, tI_40] at c69); (try simp only [l_int, tL_0, tL_1, tL_2, tL_4, tL_5, tL_6, tL_7, tL_9, tL_10, tL_12, tL_15, tL_30, tL_40, tL_60, tL_99, tL_255, tL_1023, tL_m1, lc_lt, lc_gt, lc_ge, lc_le, lc_eq, l6_le, l6_lt, l6_eq, tI_m133, tI_m226, i_le, i_lt, i_eq, tI_m1, tI_0, tI_1, tI_4, tI_20, tI_30, tI_40]); omega) (by decide)) dX11_hours_87 ?_
            refine WS.aload_n hx dX11_hours_88 rfl 2 rfl ?_
            refine WS.getR hx okX11 lf11_9 rfl rfl dX11_hours_89 ?_
            refine WS.bipush (v := 40) hx dX11_hours_92 (by decide) ?_
            refine WS.iload_n hx dX11_hours_94 rfl 0 rfl ?_
            refine WS.iadd hx dX11_hours_95 ?_
            refine WS.as rfl rfl (congrArg (fun z => Value.int z :: _) (show 40 + (nI i) = nI (40 + i) from nI_add 40 i)) ?_
            skip
            refine WS.aload_n hx dX11_hours_96 rfl 2 rfl ?_
            refine WS.getR hx okX11 lf11_9 rfl rfl dX11_hours_97 ?_
            refine WS.bipush (v := 20) hx dX11_hours_100 (by decide) ?_
            refine WS.iload_n hx dX11_hours_102 rfl 0 rfl ?_
            refine WS.iadd hx dX11_hours_103 ?_
            refine WS.as rfl rfl (congrArg (fun z => Value.int z :: _) (show 20 + (nI i) = nI (20 + i) from nI_add 20 i)) ?_
            skip
            refine WS.iald hx rfl (vp_in_nI (by (try simp only [l_int, tL_0, tL_1, tL_2, tL_4, tL_5, tL_6, tL_7, tL_9, tL_10, tL_12, tL_15, tL_30, tL_40, tL_60, tL_99, tL_255, tL_1023, tL_m1, lc_lt, lc_gt, lc_ge, lc_le, lc_eq, l6_le, l6_lt, l6_eq, tI_m133, tI_m226, i_le, i_lt, i_eq, tI_m1, tI_0, tI_1, tI_4, tI_20, tI_30, tI_40] at c23); (try simp only [l_int, tL_0, tL_1, tL_2, tL_4, tL_5, tL_6, tL_7, tL_9, tL_10, tL_12, tL_15, tL_30, tL_40, tL_60, tL_99, tL_255, tL_1023, tL_m1, lc_lt, lc_gt, lc_ge, lc_le, lc_eq, l6_le, l6_lt, l6_eq, tI_m133, tI_m226, i_le, i_lt, i_eq, tI_m1, tI_0, tI_1, tI_4, tI_20, tI_30, tI_40] at c36); (try simp only [l_int, tL_0, tL_1, tL_2, tL_4, tL_5, tL_6, tL_7, tL_9, tL_10, tL_12, tL_15, tL_30, tL_40, tL_60, tL_99, tL_255, tL_1023, tL_m1, lc_lt, lc_gt, lc_ge, lc_le, lc_eq, l6_le, l6_lt, l6_eq, tI_m133, tI_m226, i_le, i_lt, i_eq, tI_m1, tI_0, tI_1, tI_4, tI_20, tI_30, tI_40] at c48); (try simp only [l_int, tL_0, tL_1, tL_2, tL_4, tL_5, tL_6, tL_7, tL_9, tL_10, tL_12, tL_15, tL_30, tL_40, tL_60, tL_99, tL_255, tL_1023, tL_m1, lc_lt, lc_gt, lc_ge, lc_le, lc_eq, l6_le, l6_lt, l6_eq, tI_m133, tI_m226, i_le, i_lt, i_eq, tI_m1, tI_0, tI_1, tI_4, tI_20, tI_30, tI_40] at c69); (try simp only [l_int, tL_0, tL_1, tL_2, tL_4, tL_5, tL_6, tL_7, tL_9, tL_10, tL_12, tL_15, tL_30, tL_40, tL_60, tL_99, tL_255, tL_1023, tL_m1, lc_lt, lc_gt, lc_ge, lc_le, lc_eq, l6_le, l6_lt, l6_eq, tI_m133, tI_m226, i_le, i_lt, i_eq, tI_m1, tI_0, tI_1, tI_4, tI_20, tI_30, tI_40]); omega) (by decide)) dX11_hours_104 ?_
            refine WS.as rfl rfl (congrArg (fun z => Value.int z :: _) (show (stI (stR σ 1 (hrM κ σ h i)) 1 (nn (nI (20 + i))) (nI (nn (κ.1 13 i) - h))).1 1 (nn (nI (20 + i))) = nI (nn (κ.1 13 i) - h) from by
    (try simp only [nn_nI (show 20 + i < 2 ^ 31 by omega), nI_clamp (show 20 + i < 2 ^ 31 by omega)])
    exact stI_1 _ _ _ _)) ?_
            skip
            refine WS.if_ne (tgt := 112) hx dX11_hours_105 (by decide) (fun c105 => ?_) (fun c105 => ?_)
            · skip
              show WS layM V 4 X (stI (stR σ 1 (hrM κ σ h i)) 1 (nn (nI (20 + i))) (nI (nn (κ.1 13 i) - h))) 112 [(3, .int (nI i)), (2, .int (nI (hrN κ h i))), (0, rf V 0), (1, .int x)] [.int (nI (40 + i)), rf V 1]
              refine WS.iconst (v := 0) hx dX11_hours_112 (by decide) ?_
              refine WS.iast hx rfl (vp_in_nI (by (try simp only [l_int, tL_0, tL_1, tL_2, tL_4, tL_5, tL_6, tL_7, tL_9, tL_10, tL_12, tL_15, tL_30, tL_40, tL_60, tL_99, tL_255, tL_1023, tL_m1, lc_lt, lc_gt, lc_ge, lc_le, lc_eq, l6_le, l6_lt, l6_eq, tI_m133, tI_m226, i_le, i_lt, i_eq, tI_m1, tI_0, tI_1, tI_4, tI_20, tI_30, tI_40] at c23); (try simp only [l_int, tL_0, tL_1, tL_2, tL_4, tL_5, tL_6, tL_7, tL_9, tL_10, tL_12, tL_15, tL_30, tL_40, tL_60, tL_99, tL_255, tL_1023, tL_m1, lc_lt, lc_gt, lc_ge, lc_le, lc_eq, l6_le, l6_lt, l6_eq, tI_m133, tI_m226, i_le, i_lt, i_eq, tI_m1, tI_0, tI_1, tI_4, tI_20, tI_30, tI_40] at c36); (try simp only [l_int, tL_0, tL_1, tL_2, tL_4, tL_5, tL_6, tL_7, tL_9, tL_10, tL_12, tL_15, tL_30, tL_40, tL_60, tL_99, tL_255, tL_1023, tL_m1, lc_lt, lc_gt, lc_ge, lc_le, lc_eq, l6_le, l6_lt, l6_eq, tI_m133, tI_m226, i_le, i_lt, i_eq, tI_m1, tI_0, tI_1, tI_4, tI_20, tI_30, tI_40] at c48); (try simp only [l_int, tL_0, tL_1, tL_2, tL_4, tL_5, tL_6, tL_7, tL_9, tL_10, tL_12, tL_15, tL_30, tL_40, tL_60, tL_99, tL_255, tL_1023, tL_m1, lc_lt, lc_gt, lc_ge, lc_le, lc_eq, l6_le, l6_lt, l6_eq, tI_m133, tI_m226, i_le, i_lt, i_eq, tI_m1, tI_0, tI_1, tI_4, tI_20, tI_30, tI_40] at c69); (try simp only [l_int, tL_0, tL_1, tL_2, tL_4, tL_5, tL_6, tL_7, tL_9, tL_10, tL_12, tL_15, tL_30, tL_40, tL_60, tL_99, tL_255, tL_1023, tL_m1, lc_lt, lc_gt, lc_ge, lc_le, lc_eq, l6_le, l6_lt, l6_eq, tI_m133, tI_m226, i_le, i_lt, i_eq, tI_m1, tI_0, tI_1, tI_4, tI_20, tI_30, tI_40] at c105); (try simp only [l_int, tL_0, tL_1, tL_2, tL_4, tL_5, tL_6, tL_7, tL_9, tL_10, tL_12, tL_15, tL_30, tL_40, tL_60, tL_99, tL_255, tL_1023, tL_m1, lc_lt, lc_gt, lc_ge, lc_le, lc_eq, l6_le, l6_lt, l6_eq, tI_m133, tI_m226, i_le, i_lt, i_eq, tI_m1, tI_0, tI_1, tI_4, tI_20, tI_30, tI_40]); omega) (by decide)) dX11_hours_113 ?_
              refine WS.iload_n hx dX11_hours_114 rfl 1 rfl ?_
              refine WS.aload_n hx dX11_hours_115 rfl 2 rfl ?_
              refine WS.getR hx okX11 lf11_9 rfl rfl dX11_hours_116 ?_
              refine WS.bipush (v := 40) hx dX11_hours_119 (by decide) ?_
              refine WS.iload_n hx dX11_hours_121 rfl 0 rfl ?_
              refine WS.iadd hx dX11_hours_122 ?_
              refine WS.as rfl rfl (congrArg (fun z => Value.int z :: _) (show 40 + (nI i) = nI (40 + i) from nI_add 40 i)) ?_
              skip
              refine WS.iald hx rfl (vp_in_nI (by (try simp only [l_int, tL_0, tL_1, tL_2, tL_4, tL_5, tL_6, tL_7, tL_9, tL_10, tL_12, tL_15, tL_30, tL_40, tL_60, tL_99, tL_255, tL_1023, tL_m1, lc_lt, lc_gt, lc_ge, lc_le, lc_eq, l6_le, l6_lt, l6_eq, tI_m133, tI_m226, i_le, i_lt, i_eq, tI_m1, tI_0, tI_1, tI_4, tI_20, tI_30, tI_40] at c23); (try simp only [l_int, tL_0, tL_1, tL_2, tL_4, tL_5, tL_6, tL_7, tL_9, tL_10, tL_12, tL_15, tL_30, tL_40, tL_60, tL_99, tL_255, tL_1023, tL_m1, lc_lt, lc_gt, lc_ge, lc_le, lc_eq, l6_le, l6_lt, l6_eq, tI_m133, tI_m226, i_le, i_lt, i_eq, tI_m1, tI_0, tI_1, tI_4, tI_20, tI_30, tI_40] at c36); (try simp only [l_int, tL_0, tL_1, tL_2, tL_4, tL_5, tL_6, tL_7, tL_9, tL_10, tL_12, tL_15, tL_30, tL_40, tL_60, tL_99, tL_255, tL_1023, tL_m1, lc_lt, lc_gt, lc_ge, lc_le, lc_eq, l6_le, l6_lt, l6_eq, tI_m133, tI_m226, i_le, i_lt, i_eq, tI_m1, tI_0, tI_1, tI_4, tI_20, tI_30, tI_40] at c48); (try simp only [l_int, tL_0, tL_1, tL_2, tL_4, tL_5, tL_6, tL_7, tL_9, tL_10, tL_12, tL_15, tL_30, tL_40, tL_60, tL_99, tL_255, tL_1023, tL_m1, lc_lt, lc_gt, lc_ge, lc_le, lc_eq, l6_le, l6_lt, l6_eq, tI_m133, tI_m226, i_le, i_lt, i_eq, tI_m1, tI_0, tI_1, tI_4, tI_20, tI_30, tI_40] at c69); (try simp only [l_int, tL_0, tL_1, tL_2, tL_4, tL_5, tL_6, tL_7, tL_9, tL_10, tL_12, tL_15, tL_30, tL_40, tL_60, tL_99, tL_255, tL_1023, tL_m1, lc_lt, lc_gt, lc_ge, lc_le, lc_eq, l6_le, l6_lt, l6_eq, tI_m133, tI_m226, i_le, i_lt, i_eq, tI_m1, tI_0, tI_1, tI_4, tI_20, tI_30, tI_40] at c105); (try simp only [l_int, tL_0, tL_1, tL_2, tL_4, tL_5, tL_6, tL_7, tL_9, tL_10, tL_12, tL_15, tL_30, tL_40, tL_60, tL_99, tL_255, tL_1023, tL_m1, lc_lt, lc_gt, lc_ge, lc_le, lc_eq, l6_le, l6_lt, l6_eq, tI_m133, tI_m226, i_le, i_lt, i_eq, tI_m1, tI_0, tI_1, tI_4, tI_20, tI_30, tI_40]); omega) (by decide)) dX11_hours_123 ?_
              refine WS.as rfl rfl (congrArg (fun z => Value.int z :: _) (show (stI (stI (stR σ 1 (hrM κ σ h i)) 1 (nn (nI (20 + i))) (nI (nn (κ.1 13 i) - h))) 1 (nn (nI (40 + i))) 0).1 1 (nn (nI (40 + i))) = 0 from by
    (try simp only [nn_nI (show 40 + i < 2 ^ 31 by omega), nI_clamp (show 40 + i < 2 ^ 31 by omega)])
    exact stI_1 _ _ _ _)) ?_
              skip
              refine WS.iadd hx dX11_hours_124 ?_
              refine WS.as rfl rfl (congrArg (fun z => Value.int z :: _) (show (nI (hrN κ h i)) + 0 = nI (hrN κ h i) from Int32.add_zero _)) ?_
              skip
              refine WS.istore_n (lo' := [(2, .int (nI (hrN κ h i))), (3, .int (nI i)), (0, rf V 0), (1, .int x)]) hx dX11_hours_125 rfl (by decide) rfl ?_
              refine WS.iinc (v := nI (i + 1)) (lo' := [(3, .int (nI (i + 1))), (2, .int (nI (hrN κ h i))), (0, rf V 0), (1, .int x)]) hx dX11_hours_126 1 rfl (nI_1 i) (by decide) rfl ?_
              refine WS.goto (tgt := 18) hx dX11_hours_129 (by decide) ?_
              have hcc : κ.1 14 i = 1 ∧ κ.1 15 i = 0 := ⟨c36, c48⟩
              have hz9 : ¬ nn (κ.1 13 i) - h = 0 := by intro e; exact c105 (by rw [e]; rfl)
              have h9 := ih _ (by omega) (i + 1) rfl (by omega)
              rw [← hrM_do hi10 hcc] at h9
              rw [if_neg hz9, (hr_live hz9).2] at h9
              (try simp only [nn_nI (show 20 + i < 2 ^ 31 by omega), nI_clamp (show 20 + i < 2 ^ 31 by omega)])
              (try simp only [nn_nI (show 40 + i < 2 ^ 31 by omega), nI_clamp (show 40 + i < 2 ^ 31 by omega)])
              rw [stI_R, stI_R]
              exact WS.los [0, 1, 2, 3] rfl h9
            · skip
              show WS layM V 4 X (stI (stR σ 1 (hrM κ σ h i)) 1 (nn (nI (20 + i))) (nI (nn (κ.1 13 i) - h))) 108 [(3, .int (nI i)), (2, .int (nI (hrN κ h i))), (0, rf V 0), (1, .int x)] [.int (nI (40 + i)), rf V 1]
              refine WS.iconst (v := 1) hx dX11_hours_108 (by decide) ?_
              refine WS.goto (tgt := 113) hx dX11_hours_109 (by decide) ?_
              refine WS.iast hx rfl (vp_in_nI (by (try simp only [l_int, tL_0, tL_1, tL_2, tL_4, tL_5, tL_6, tL_7, tL_9, tL_10, tL_12, tL_15, tL_30, tL_40, tL_60, tL_99, tL_255, tL_1023, tL_m1, lc_lt, lc_gt, lc_ge, lc_le, lc_eq, l6_le, l6_lt, l6_eq, tI_m133, tI_m226, i_le, i_lt, i_eq, tI_m1, tI_0, tI_1, tI_4, tI_20, tI_30, tI_40] at c23); (try simp only [l_int, tL_0, tL_1, tL_2, tL_4, tL_5, tL_6, tL_7, tL_9, tL_10, tL_12, tL_15, tL_30, tL_40, tL_60, tL_99, tL_255, tL_1023, tL_m1, lc_lt, lc_gt, lc_ge, lc_le, lc_eq, l6_le, l6_lt, l6_eq, tI_m133, tI_m226, i_le, i_lt, i_eq, tI_m1, tI_0, tI_1, tI_4, tI_20, tI_30, tI_40] at c36); (try simp only [l_int, tL_0, tL_1, tL_2, tL_4, tL_5, tL_6, tL_7, tL_9, tL_10, tL_12, tL_15, tL_30, tL_40, tL_60, tL_99, tL_255, tL_1023, tL_m1, lc_lt, lc_gt, lc_ge, lc_le, lc_eq, l6_le, l6_lt, l6_eq, tI_m133, tI_m226, i_le, i_lt, i_eq, tI_m1, tI_0, tI_1, tI_4, tI_20, tI_30, tI_40] at c48); (try simp only [l_int, tL_0, tL_1, tL_2, tL_4, tL_5, tL_6, tL_7, tL_9, tL_10, tL_12, tL_15, tL_30, tL_40, tL_60, tL_99, tL_255, tL_1023, tL_m1, lc_lt, lc_gt, lc_ge, lc_le, lc_eq, l6_le, l6_lt, l6_eq, tI_m133, tI_m226, i_le, i_lt, i_eq, tI_m1, tI_0, tI_1, tI_4, tI_20, tI_30, tI_40] at c69); (try simp only [l_int, tL_0, tL_1, tL_2, tL_4, tL_5, tL_6, tL_7, tL_9, tL_10, tL_12, tL_15, tL_30, tL_40, tL_60, tL_99, tL_255, tL_1023, tL_m1, lc_lt, lc_gt, lc_ge, lc_le, lc_eq, l6_le, l6_lt, l6_eq, tI_m133, tI_m226, i_le, i_lt, i_eq, tI_m1, tI_0, tI_1, tI_4, tI_20, tI_30, tI_40] at c105); (try simp only [l_int, tL_0, tL_1, tL_2, tL_4, tL_5, tL_6, tL_7, tL_9, tL_10, tL_12, tL_15, tL_30, tL_40, tL_60, tL_99, tL_255, tL_1023, tL_m1, lc_lt, lc_gt, lc_ge, lc_le, lc_eq, l6_le, l6_lt, l6_eq, tI_m133, tI_m226, i_le, i_lt, i_eq, tI_m1, tI_0, tI_1, tI_4, tI_20, tI_30, tI_40]); omega) (by decide)) dX11_hours_113 ?_
              refine WS.iload_n hx dX11_hours_114 rfl 1 rfl ?_
              refine WS.aload_n hx dX11_hours_115 rfl 2 rfl ?_
              refine WS.getR hx okX11 lf11_9 rfl rfl dX11_hours_116 ?_
              refine WS.bipush (v := 40) hx dX11_hours_119 (by decide) ?_
              refine WS.iload_n hx dX11_hours_121 rfl 0 rfl ?_
              refine WS.iadd hx dX11_hours_122 ?_
              refine WS.as rfl rfl (congrArg (fun z => Value.int z :: _) (show 40 + (nI i) = nI (40 + i) from nI_add 40 i)) ?_
              skip
              refine WS.iald hx rfl (vp_in_nI (by (try simp only [l_int, tL_0, tL_1, tL_2, tL_4, tL_5, tL_6, tL_7, tL_9, tL_10, tL_12, tL_15, tL_30, tL_40, tL_60, tL_99, tL_255, tL_1023, tL_m1, lc_lt, lc_gt, lc_ge, lc_le, lc_eq, l6_le, l6_lt, l6_eq, tI_m133, tI_m226, i_le, i_lt, i_eq, tI_m1, tI_0, tI_1, tI_4, tI_20, tI_30, tI_40] at c23); (try simp only [l_int, tL_0, tL_1, tL_2, tL_4, tL_5, tL_6, tL_7, tL_9, tL_10, tL_12, tL_15, tL_30, tL_40, tL_60, tL_99, tL_255, tL_1023, tL_m1, lc_lt, lc_gt, lc_ge, lc_le, lc_eq, l6_le, l6_lt, l6_eq, tI_m133, tI_m226, i_le, i_lt, i_eq, tI_m1, tI_0, tI_1, tI_4, tI_20, tI_30, tI_40] at c36); (try simp only [l_int, tL_0, tL_1, tL_2, tL_4, tL_5, tL_6, tL_7, tL_9, tL_10, tL_12, tL_15, tL_30, tL_40, tL_60, tL_99, tL_255, tL_1023, tL_m1, lc_lt, lc_gt, lc_ge, lc_le, lc_eq, l6_le, l6_lt, l6_eq, tI_m133, tI_m226, i_le, i_lt, i_eq, tI_m1, tI_0, tI_1, tI_4, tI_20, tI_30, tI_40] at c48); (try simp only [l_int, tL_0, tL_1, tL_2, tL_4, tL_5, tL_6, tL_7, tL_9, tL_10, tL_12, tL_15, tL_30, tL_40, tL_60, tL_99, tL_255, tL_1023, tL_m1, lc_lt, lc_gt, lc_ge, lc_le, lc_eq, l6_le, l6_lt, l6_eq, tI_m133, tI_m226, i_le, i_lt, i_eq, tI_m1, tI_0, tI_1, tI_4, tI_20, tI_30, tI_40] at c69); (try simp only [l_int, tL_0, tL_1, tL_2, tL_4, tL_5, tL_6, tL_7, tL_9, tL_10, tL_12, tL_15, tL_30, tL_40, tL_60, tL_99, tL_255, tL_1023, tL_m1, lc_lt, lc_gt, lc_ge, lc_le, lc_eq, l6_le, l6_lt, l6_eq, tI_m133, tI_m226, i_le, i_lt, i_eq, tI_m1, tI_0, tI_1, tI_4, tI_20, tI_30, tI_40] at c105); (try simp only [l_int, tL_0, tL_1, tL_2, tL_4, tL_5, tL_6, tL_7, tL_9, tL_10, tL_12, tL_15, tL_30, tL_40, tL_60, tL_99, tL_255, tL_1023, tL_m1, lc_lt, lc_gt, lc_ge, lc_le, lc_eq, l6_le, l6_lt, l6_eq, tI_m133, tI_m226, i_le, i_lt, i_eq, tI_m1, tI_0, tI_1, tI_4, tI_20, tI_30, tI_40]); omega) (by decide)) dX11_hours_123 ?_
              refine WS.as rfl rfl (congrArg (fun z => Value.int z :: _) (show (stI (stI (stR σ 1 (hrM κ σ h i)) 1 (nn (nI (20 + i))) (nI (nn (κ.1 13 i) - h))) 1 (nn (nI (40 + i))) 1).1 1 (nn (nI (40 + i))) = 1 from by
    (try simp only [nn_nI (show 40 + i < 2 ^ 31 by omega), nI_clamp (show 40 + i < 2 ^ 31 by omega)])
    exact stI_1 _ _ _ _)) ?_
              skip
              refine WS.iadd hx dX11_hours_124 ?_
              refine WS.as rfl rfl (congrArg (fun z => Value.int z :: _) (show (nI (hrN κ h i)) + 1 = nI (hrN κ h i + 1) from nI_1 _)) ?_
              skip
              refine WS.istore_n (lo' := [(2, .int (nI (hrN κ h i + 1))), (3, .int (nI i)), (0, rf V 0), (1, .int x)]) hx dX11_hours_125 rfl (by decide) rfl ?_
              refine WS.iinc (v := nI (i + 1)) (lo' := [(3, .int (nI (i + 1))), (2, .int (nI (hrN κ h i + 1))), (0, rf V 0), (1, .int x)]) hx dX11_hours_126 1 rfl (nI_1 i) (by decide) rfl ?_
              refine WS.goto (tgt := 18) hx dX11_hours_129 (by decide) ?_
              have hcc : κ.1 14 i = 1 ∧ κ.1 15 i = 0 := ⟨c36, c48⟩
              have hz9 : nn (κ.1 13 i) - h = 0 := by have h9 := c105; rw [i_eq, nI_c (by omega), tI_0] at h9; omega
              have h9 := ih _ (by omega) (i + 1) rfl (by omega)
              rw [← hrM_do hi10 hcc] at h9
              rw [if_pos hz9, (hr_dies hcc hz9).2] at h9
              (try simp only [nn_nI (show 20 + i < 2 ^ 31 by omega), nI_clamp (show 20 + i < 2 ^ 31 by omega)])
              (try simp only [nn_nI (show 40 + i < 2 ^ 31 by omega), nI_clamp (show 40 + i < 2 ^ 31 by omega)])
              rw [stI_R, stI_R]
              exact WS.los [0, 1, 2, 3] rfl h9
set_option maxHeartbeats 1000000 in
theorem c_X11_hours (V : Vt) (d : Nat) (σ : Sg) (κ : Sg) (n : Nat) (hM : MR κ σ n) (x : Int32) : CT layM V mX11_hours (d + 1) [rf V 0, .int x] σ (Ri fun v σ' => (if ¬ (1 ≤ x.toInt ∧ x.toInt ≤ 99) then v = -1 ∧ σ' = σ else (v = nI (hrN κ (nn x) n) ∧ σ' = stI (stR σ 1 (hrM κ σ (nn x) n)) 18 4 (σ.1 18 4 + nI (hrN κ (nn x) n))))) := by
  refine CT.of (own := RX11) rfl (by decide) (Nat.le_of_ble_eq_true rfl) (fun X (hx : Ok V RX11 cX11_hours 4 (d + 1) X) (he : En layM V (some .int) (Ri fun v σ' => (if ¬ (1 ≤ x.toInt ∧ x.toInt ≤ 99) then v = -1 ∧ σ' = σ else (v = nI (hrN κ (nn x) n) ∧ σ' = stI (stR σ 1 (hrM κ σ (nn x) n)) 18 4 (σ.1 18 4 + nI (hrN κ (nn x) n))))) X) => ?_)
  change WS layM V 4 X σ 0 [(0, rf V 0), (1, .int x)] []
  refine WS.iload_n hx dX11_hours_0 rfl 1 rfl ?_
  refine WS.i2l hx dX11_hours_1 ?_
  refine WS.lconst (v := 1) hx dX11_hours_2 rfl ?_
  refine WS.ldc2 (v := 99) hx lc11_134 dX11_hours_3 ?_
  refine WS.callSi (st := []) [.long (Int32.toInt64 x), .long 1, .long 99] hx (c_X11_within V d σ (Int32.toInt64 x) 1 99) okX11_within lm11_100 rfl rfl (Nat.le_of_ble_eq_true rfl) dX11_hours_6 (fun v1 σ2 h3 => ?_)
  rcases h3 with ⟨rfl, rfl, hb6⟩ | ⟨rfl, rfl, hb6⟩
  · skip
    show WS layM V 4 X σ 9 [(0, rf V 0), (1, .int x)] [.int 1]
    refine WS.if_ne (tgt := 14) hx dX11_hours_9 (by decide) (fun _ => ?_) (fun h => absurd h (by decide))
    refine WS.iconst (v := 0) hx dX11_hours_14 (by decide) ?_
    refine WS.istore_n (lo' := [(2, .int 0), (0, rf V 0), (1, .int x)]) hx dX11_hours_15 rfl (by decide) rfl ?_
    refine WS.iconst (v := 0) hx dX11_hours_16 (by decide) ?_
    refine WS.istore_n (lo' := [(3, .int 0), (2, .int 0), (0, rf V 0), (1, .int x)]) hx dX11_hours_17 rfl (by decide) rfl ?_
    have hA : 1 ≤ x.toInt ∧ x.toInt ≤ 99 := by (try simp only [l_int, tL_0, tL_1, tL_2, tL_4, tL_5, tL_6, tL_7, tL_9, tL_10, tL_12, tL_15, tL_30, tL_40, tL_60, tL_99, tL_255, tL_1023, tL_m1, lc_lt, lc_gt, lc_ge, lc_le, lc_eq, l6_le, l6_lt, l6_eq, tI_m133, tI_m226, i_le, i_lt, i_eq, tI_m1, tI_0, tI_1, tI_4, tI_20, tI_30, tI_40] at hb6); omega
    have hxn := nn_int (show 0 ≤ x.toInt by omega)
    have h9 := lp_X11_hours V d σ κ n hM (nn x) (by omega) x (nI_nn (by omega)).symm _ X hx he (fun v σ9 h1 h2 => by (try dsimp only); rw [if_neg (fun h => h hA)]; exact ⟨h1, h2⟩) 0 (Nat.zero_le _)
    rw [hrM_0 hM, stR_self] at h9
    exact WS.los [0, 1, 2, 3] rfl h9
  · skip
    show WS layM V 4 X σ 9 [(0, rf V 0), (1, .int x)] [.int 0]
    refine WS.if_ne (tgt := 14) hx dX11_hours_9 (by decide) (fun h => absurd (by decide) h) (fun _ => ?_)
    refine WS.iconst (v := (-1)) hx dX11_hours_12 (by decide) ?_
    exact WS.iret hx he dX11_hours_13 ⟨_, rfl, by (try dsimp only); rw [if_pos (fun h => by (try simp only [l_int, tL_0, tL_1, tL_2, tL_4, tL_5, tL_6, tL_7, tL_9, tL_10, tL_12, tL_15, tL_30, tL_40, tL_60, tL_99, tL_255, tL_1023, tL_m1, lc_lt, lc_gt, lc_ge, lc_le, lc_eq, l6_le, l6_lt, l6_eq, tI_m133, tI_m226, i_le, i_lt, i_eq, tI_m1, tI_0, tI_1, tI_4, tI_20, tI_30, tI_40] at hb6); (try simp only [l_int, tL_0, tL_1, tL_2, tL_4, tL_5, tL_6, tL_7, tL_9, tL_10, tL_12, tL_15, tL_30, tL_40, tL_60, tL_99, tL_255, tL_1023, tL_m1, lc_lt, lc_gt, lc_ge, lc_le, lc_eq, l6_le, l6_lt, l6_eq, tI_m133, tI_m226, i_le, i_lt, i_eq, tI_m1, tI_0, tI_1, tI_4, tI_20, tI_30, tI_40]); omega)]; exact ⟨rfl, rfl⟩⟩

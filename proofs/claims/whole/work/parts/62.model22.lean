theorem stL_R (υ : Sg) (o k : Nat) (f : Nat → Int64) (v : Int64) : stL (stRL υ o f) o k v = stRL υ o (vp_updL f k v) := by
  unfold stL stRL
  refine Prod.ext rfl (Prod.ext ?_ rfl)
  funext q j
  (try dsimp only)
  unfold va_up
  by_cases e : q = o
  · subst e; simp only [if_true]
  · simp only [if_neg e]
theorem stRL_self (σ : Sg) (a : Nat) : stRL σ a (σ.2.1 a) = σ := by
  unfold stRL
  refine Prod.ext rfl (Prod.ext ?_ rfl)
  funext q j
  (try dsimp only)
  unfold va_up
  by_cases e : q = a
  · subst e; rw [if_pos rfl]
  · rw [if_neg e]
def clF (f : Nat → Int64) (s i : Nat) : Nat → Int64 := fun j => if 60 * s ≤ j ∧ j < 60 * s + i then 0 else f j
theorem clF_s {f : Nat → Int64} {s i : Nat} : vp_updL (clF f s i) (60 * s + i) 0 = clF f s (i + 1) := by
  funext j
  unfold vp_updL clF
  by_cases e : j = 60 * s + i
  · rw [if_pos e, if_pos (by omega)]
  · rw [if_neg e]
    by_cases g : 60 * s ≤ j ∧ j < 60 * s + i
    · rw [if_pos g, if_pos (by omega)]
    · rw [if_neg g, if_neg (by omega)]
theorem clF_0 {f : Nat → Int64} {s : Nat} : clF f s 0 = f := by
  funext j
  unfold clF
  rw [if_neg (by omega)]
def rowM (σ : Sg) (s : Nat) (q x : Int32) : Sg := stRL (stI (stI σ 23 s (50 + q)) 24 s x) 25 (clF (σ.2.1 25) s 60)
set_option maxHeartbeats 1000000 in
theorem lp_X11_row (V : Vt) (d : Nat) (σ : Sg) (s : Nat) (hs6 : s < 6) (f q x : Int32) (hf : f = nI s) (P : Int32 → Sg → Prop) (X : Xt) (hx : Ok V RX11 cX11_row 5 (d + 1 + 1) X) (he : En layM V (some .int) (Ri P) X) (hP : P 1 (stRL (stI (stI σ 23 s (50 + q)) 24 s x) 25 (clF (σ.2.1 25) s 60))) : ∀ (i : Nat), i ≤ 60 → WS layM V 5 X (stRL (stI (stI σ 23 s (50 + q)) 24 s x) 25 (clF (σ.2.1 25) s i)) 57 [(4, .int (nI (60 * s + i))), (0, rf V 0), (1, .int f), (2, .int q), (3, .int x)] [] := by
  have hsI : (nI (60 * s + 60)).toInt = ((60 * s + 60 : Nat) : Int) := nI_c (by omega)
  intro i
  induction hm : 60 - i using Nat.strongRecOn generalizing i with
  | _ m9 ih =>
    intro hi
    have hiI : (nI (60 * s + i)).toInt = ((60 * s + i : Nat) : Int) := nI_c (by omega)
    refine WS.iload hx dX11_row_57 0 rfl ?_
    refine WS.bipush (v := 60) hx dX11_row_59 (by decide) ?_
    refine WS.iload_n hx dX11_row_61 rfl 2 rfl ?_
    refine WS.as rfl rfl (congrArg (fun z => Value.int z :: _) (show f = nI s from hf)) ?_
    skip
    refine WS.imul hx dX11_row_62 ?_
    refine WS.as rfl rfl (congrArg (fun z => Value.int z :: _) (show 60 * (nI s) = nI (60 * s) from pk_mul 60 s)) ?_
    skip
    refine WS.bipush (v := 60) hx dX11_row_63 (by decide) ?_
    refine WS.iadd hx dX11_row_65 ?_
    refine WS.as rfl rfl (congrArg (fun z => Value.int z :: _) (show (nI (60 * s)) + 60 = nI (60 * s + 60) from nI_add (60 * s) 60)) ?_
    skip
    refine WS.icmp_ge (tgt := 83) hx dX11_row_66 (by decide) (fun c66 => ?_) (fun c66 => ?_)
    · skip
      show WS layM V 5 X (stRL (stI (stI σ 23 s (50 + q)) 24 s x) 25 (clF (σ.2.1 25) s i)) 83 [(4, .int (nI (60 * s + i))), (0, rf V 0), (1, .int f), (2, .int q), (3, .int x)] []
      refine WS.iconst (v := 1) hx dX11_row_83 (by decide) ?_
      exact WS.iret hx he dX11_row_84 ⟨_, rfl, (show i = 60 by (try simp only [l_int, tL_0, tL_1, tL_2, tL_4, tL_5, tL_6, tL_7, tL_9, tL_10, tL_12, tL_15, tL_30, tL_40, tL_60, tL_99, tL_255, tL_1023, tL_m1, lc_lt, lc_gt, lc_ge, lc_le, lc_eq, l6_le, l6_lt, l6_eq, tI_m133, tI_m226, i_le, i_lt, i_eq, tI_m14, tI_m1, tI_0, tI_1, tI_50, tI_60] at c66); (try simp only [l_int, tL_0, tL_1, tL_2, tL_4, tL_5, tL_6, tL_7, tL_9, tL_10, tL_12, tL_15, tL_30, tL_40, tL_60, tL_99, tL_255, tL_1023, tL_m1, lc_lt, lc_gt, lc_ge, lc_le, lc_eq, l6_le, l6_lt, l6_eq, tI_m133, tI_m226, i_le, i_lt, i_eq, tI_m14, tI_m1, tI_0, tI_1, tI_50, tI_60]); omega) ▸ hP⟩
    · skip
      show WS layM V 5 X (stRL (stI (stI σ 23 s (50 + q)) 24 s x) 25 (clF (σ.2.1 25) s i)) 69 [(4, .int (nI (60 * s + i))), (0, rf V 0), (1, .int f), (2, .int q), (3, .int x)] []
      refine WS.aload_n hx dX11_row_69 rfl 1 rfl ?_
      refine WS.getR hx okX11 lf11_83 rfl rfl dX11_row_70 ?_
      refine WS.iload hx dX11_row_73 0 rfl ?_
      refine WS.lconst (v := 0) hx dX11_row_75 rfl ?_
      refine WS.last hx rfl (vp_in_nI (by (try simp only [l_int, tL_0, tL_1, tL_2, tL_4, tL_5, tL_6, tL_7, tL_9, tL_10, tL_12, tL_15, tL_30, tL_40, tL_60, tL_99, tL_255, tL_1023, tL_m1, lc_lt, lc_gt, lc_ge, lc_le, lc_eq, l6_le, l6_lt, l6_eq, tI_m133, tI_m226, i_le, i_lt, i_eq, tI_m14, tI_m1, tI_0, tI_1, tI_50, tI_60] at c66); (try simp only [l_int, tL_0, tL_1, tL_2, tL_4, tL_5, tL_6, tL_7, tL_9, tL_10, tL_12, tL_15, tL_30, tL_40, tL_60, tL_99, tL_255, tL_1023, tL_m1, lc_lt, lc_gt, lc_ge, lc_le, lc_eq, l6_le, l6_lt, l6_eq, tI_m133, tI_m226, i_le, i_lt, i_eq, tI_m14, tI_m1, tI_0, tI_1, tI_50, tI_60]); omega) (by decide)) dX11_row_76 ?_
      refine WS.iinc (v := nI (60 * s + (i + 1))) (lo' := [(4, .int (nI (60 * s + (i + 1)))), (0, rf V 0), (1, .int f), (2, .int q), (3, .int x)]) hx dX11_row_77 0 rfl (nI_1 (60 * s + i)) (by decide) rfl ?_
      refine WS.goto (tgt := 57) hx dX11_row_80 (by decide) ?_
      (try simp only [nn_nI (show 60 * s + i < 2 ^ 31 by omega), nI_clamp (show 60 * s + i < 2 ^ 31 by omega)])
      rw [stL_R, clF_s]
      exact WS.los [0, 1, 2, 3, 4] rfl (ih _ (by (try simp only [l_int, tL_0, tL_1, tL_2, tL_4, tL_5, tL_6, tL_7, tL_9, tL_10, tL_12, tL_15, tL_30, tL_40, tL_60, tL_99, tL_255, tL_1023, tL_m1, lc_lt, lc_gt, lc_ge, lc_le, lc_eq, l6_le, l6_lt, l6_eq, tI_m133, tI_m226, i_le, i_lt, i_eq, tI_m14, tI_m1, tI_0, tI_1, tI_50, tI_60] at c66); (try simp only [l_int, tL_0, tL_1, tL_2, tL_4, tL_5, tL_6, tL_7, tL_9, tL_10, tL_12, tL_15, tL_30, tL_40, tL_60, tL_99, tL_255, tL_1023, tL_m1, lc_lt, lc_gt, lc_ge, lc_le, lc_eq, l6_le, l6_lt, l6_eq, tI_m133, tI_m226, i_le, i_lt, i_eq, tI_m14, tI_m1, tI_0, tI_1, tI_50, tI_60]); omega) (i + 1) rfl (by (try simp only [l_int, tL_0, tL_1, tL_2, tL_4, tL_5, tL_6, tL_7, tL_9, tL_10, tL_12, tL_15, tL_30, tL_40, tL_60, tL_99, tL_255, tL_1023, tL_m1, lc_lt, lc_gt, lc_ge, lc_le, lc_eq, l6_le, l6_lt, l6_eq, tI_m133, tI_m226, i_le, i_lt, i_eq, tI_m14, tI_m1, tI_0, tI_1, tI_50, tI_60] at c66); (try simp only [l_int, tL_0, tL_1, tL_2, tL_4, tL_5, tL_6, tL_7, tL_9, tL_10, tL_12, tL_15, tL_30, tL_40, tL_60, tL_99, tL_255, tL_1023, tL_m1, lc_lt, lc_gt, lc_ge, lc_le, lc_eq, l6_le, l6_lt, l6_eq, tI_m133, tI_m226, i_le, i_lt, i_eq, tI_m14, tI_m1, tI_0, tI_1, tI_50, tI_60]); omega))
set_option maxHeartbeats 1000000 in
theorem c_X11_row (V : Vt) (d : Nat) (σ : Sg) (f q x : Int32) : CT layM V mX11_row (d + 2) [rf V 0, .int f, .int q, .int x] σ (Ri fun v σ' => (if ¬ ((0 ≤ f.toInt ∧ f.toInt ≤ 5) ∧ (0 ≤ q.toInt ∧ q.toInt ≤ 4) ∧ x.toInt ≤ 60) then v = -1 ∧ σ' = σ else (if x.toInt < 0 then v = -14 ∧ σ' = σ else (v = 1 ∧ σ' = rowM σ (nn f) q x)))) := by
  refine CT.of (own := RX11) rfl (by decide) (Nat.le_of_ble_eq_true rfl) (fun X (hx : Ok V RX11 cX11_row 5 (d + 2) X) (he : En layM V (some .int) (Ri fun v σ' => (if ¬ ((0 ≤ f.toInt ∧ f.toInt ≤ 5) ∧ (0 ≤ q.toInt ∧ q.toInt ≤ 4) ∧ x.toInt ≤ 60) then v = -1 ∧ σ' = σ else (if x.toInt < 0 then v = -14 ∧ σ' = σ else (v = 1 ∧ σ' = rowM σ (nn f) q x)))) X) => ?_)
  change WS layM V 5 X σ 0 [(0, rf V 0), (1, .int f), (2, .int q), (3, .int x)] []
  refine WS.iload_n hx dX11_row_0 rfl 1 rfl ?_
  refine WS.callSi (st := []) [.int f] hx (c_X11_isShelf V d σ f) okX11_isShelf lm11_119 rfl rfl (Nat.le_of_ble_eq_true rfl) dX11_row_1 (fun v1 σ2 h3 => ?_)
  rcases h3 with ⟨rfl, rfl, hb1⟩ | ⟨rfl, rfl, hb1⟩
  · skip
    show WS layM V 5 X σ 4 [(0, rf V 0), (1, .int f), (2, .int q), (3, .int x)] [.int 1]
    refine WS.if_eq (tgt := 25) hx dX11_row_4 (by decide) (fun h => absurd h (by decide)) (fun _ => ?_)
    refine WS.iload_n hx dX11_row_7 rfl 2 rfl ?_
    refine WS.i2l hx dX11_row_8 ?_
    refine WS.lconst (v := 0) hx dX11_row_9 rfl ?_
    refine WS.ldc2 (v := 4) hx lc11_125 dX11_row_10 ?_
    refine WS.callSi (st := []) [.long (Int32.toInt64 q), .long 0, .long 4] hx (c_X11_within V (d + 1) σ (Int32.toInt64 q) 0 4) okX11_within lm11_100 rfl rfl (Nat.le_of_ble_eq_true rfl) dX11_row_13 (fun v4 σ5 h6 => ?_)
    rcases h6 with ⟨rfl, rfl, hb13⟩ | ⟨rfl, rfl, hb13⟩
    · skip
      show WS layM V 5 X σ 16 [(0, rf V 0), (1, .int f), (2, .int q), (3, .int x)] [.int 1]
      refine WS.if_eq (tgt := 25) hx dX11_row_16 (by decide) (fun h => absurd h (by decide)) (fun _ => ?_)
      refine WS.iload_n hx dX11_row_19 rfl 3 rfl ?_
      refine WS.bipush (v := 60) hx dX11_row_20 (by decide) ?_
      refine WS.icmp_le (tgt := 27) hx dX11_row_22 (by decide) (fun c22 => ?_) (fun c22 => ?_)
      · skip
        show WS layM V 5 X σ 27 [(0, rf V 0), (1, .int f), (2, .int q), (3, .int x)] []
        refine WS.iload_n hx dX11_row_27 rfl 3 rfl ?_
        refine WS.if_ge (tgt := 34) hx dX11_row_28 (by decide) (fun c28 => ?_) (fun c28 => ?_)
        · skip
          show WS layM V 5 X σ 34 [(0, rf V 0), (1, .int f), (2, .int q), (3, .int x)] []
          refine WS.aload_n hx dX11_row_34 rfl 0 rfl ?_
          refine WS.getR hx okX11 lf11_77 rfl rfl dX11_row_35 ?_
          refine WS.iload_n hx dX11_row_38 rfl 1 rfl ?_
          refine WS.bipush (v := 50) hx dX11_row_39 (by decide) ?_
          refine WS.iload_n hx dX11_row_41 rfl 2 rfl ?_
          refine WS.iadd hx dX11_row_42 ?_
          refine WS.iast hx rfl (sh_in hb1) dX11_row_43 ?_
          refine WS.aload_n hx dX11_row_44 rfl 0 rfl ?_
          refine WS.getR hx okX11 lf11_80 rfl rfl dX11_row_45 ?_
          refine WS.iload_n hx dX11_row_48 rfl 1 rfl ?_
          refine WS.iload_n hx dX11_row_49 rfl 3 rfl ?_
          refine WS.iast hx rfl (sh_in hb1) dX11_row_50 ?_
          refine WS.bipush (v := 60) hx dX11_row_51 (by decide) ?_
          refine WS.iload_n hx dX11_row_53 rfl 1 rfl ?_
          refine WS.as rfl rfl (congrArg (fun z => Value.int z :: _) (show f = nI (nn f) from (nI_nn hb1.1).symm)) ?_
          skip
          refine WS.imul hx dX11_row_54 ?_
          refine WS.as rfl rfl (congrArg (fun z => Value.int z :: _) (show 60 * (nI (nn f)) = nI (60 * nn f) from pk_mul 60 _)) ?_
          skip
          refine WS.istore (lo' := [(4, .int (nI (60 * nn f))), (0, rf V 0), (1, .int f), (2, .int q), (3, .int x)]) hx dX11_row_55 (by decide) rfl ?_
          have hA : ((0 ≤ f.toInt ∧ f.toInt ≤ 5) ∧ (0 ≤ q.toInt ∧ q.toInt ≤ 4) ∧ x.toInt ≤ 60) := by (try simp only [l_int, tL_0, tL_1, tL_2, tL_4, tL_5, tL_6, tL_7, tL_9, tL_10, tL_12, tL_15, tL_30, tL_40, tL_60, tL_99, tL_255, tL_1023, tL_m1, lc_lt, lc_gt, lc_ge, lc_le, lc_eq, l6_le, l6_lt, l6_eq, tI_m133, tI_m226, i_le, i_lt, i_eq, tI_m14, tI_m1, tI_0, tI_1, tI_50, tI_60] at hb1); (try simp only [l_int, tL_0, tL_1, tL_2, tL_4, tL_5, tL_6, tL_7, tL_9, tL_10, tL_12, tL_15, tL_30, tL_40, tL_60, tL_99, tL_255, tL_1023, tL_m1, lc_lt, lc_gt, lc_ge, lc_le, lc_eq, l6_le, l6_lt, l6_eq, tI_m133, tI_m226, i_le, i_lt, i_eq, tI_m14, tI_m1, tI_0, tI_1, tI_50, tI_60] at hb13); (try simp only [l_int, tL_0, tL_1, tL_2, tL_4, tL_5, tL_6, tL_7, tL_9, tL_10, tL_12, tL_15, tL_30, tL_40, tL_60, tL_99, tL_255, tL_1023, tL_m1, lc_lt, lc_gt, lc_ge, lc_le, lc_eq, l6_le, l6_lt, l6_eq, tI_m133, tI_m226, i_le, i_lt, i_eq, tI_m14, tI_m1, tI_0, tI_1, tI_50, tI_60] at c22); (try simp only [l_int, tL_0, tL_1, tL_2, tL_4, tL_5, tL_6, tL_7, tL_9, tL_10, tL_12, tL_15, tL_30, tL_40, tL_60, tL_99, tL_255, tL_1023, tL_m1, lc_lt, lc_gt, lc_ge, lc_le, lc_eq, l6_le, l6_lt, l6_eq, tI_m133, tI_m226, i_le, i_lt, i_eq, tI_m14, tI_m1, tI_0, tI_1, tI_50, tI_60] at c28); omega
          have h9 := lp_X11_row V d σ (nn f) (sh_nn hb1) f q x (nI_nn hb1.1).symm _ X hx he (by (try dsimp only); rw [if_neg (fun h => h hA), if_neg (by (try simp only [l_int, tL_0, tL_1, tL_2, tL_4, tL_5, tL_6, tL_7, tL_9, tL_10, tL_12, tL_15, tL_30, tL_40, tL_60, tL_99, tL_255, tL_1023, tL_m1, lc_lt, lc_gt, lc_ge, lc_le, lc_eq, l6_le, l6_lt, l6_eq, tI_m133, tI_m226, i_le, i_lt, i_eq, tI_m14, tI_m1, tI_0, tI_1, tI_50, tI_60] at hb1); (try simp only [l_int, tL_0, tL_1, tL_2, tL_4, tL_5, tL_6, tL_7, tL_9, tL_10, tL_12, tL_15, tL_30, tL_40, tL_60, tL_99, tL_255, tL_1023, tL_m1, lc_lt, lc_gt, lc_ge, lc_le, lc_eq, l6_le, l6_lt, l6_eq, tI_m133, tI_m226, i_le, i_lt, i_eq, tI_m14, tI_m1, tI_0, tI_1, tI_50, tI_60] at hb13); (try simp only [l_int, tL_0, tL_1, tL_2, tL_4, tL_5, tL_6, tL_7, tL_9, tL_10, tL_12, tL_15, tL_30, tL_40, tL_60, tL_99, tL_255, tL_1023, tL_m1, lc_lt, lc_gt, lc_ge, lc_le, lc_eq, l6_le, l6_lt, l6_eq, tI_m133, tI_m226, i_le, i_lt, i_eq, tI_m14, tI_m1, tI_0, tI_1, tI_50, tI_60] at c22); (try simp only [l_int, tL_0, tL_1, tL_2, tL_4, tL_5, tL_6, tL_7, tL_9, tL_10, tL_12, tL_15, tL_30, tL_40, tL_60, tL_99, tL_255, tL_1023, tL_m1, lc_lt, lc_gt, lc_ge, lc_le, lc_eq, l6_le, l6_lt, l6_eq, tI_m133, tI_m226, i_le, i_lt, i_eq, tI_m14, tI_m1, tI_0, tI_1, tI_50, tI_60] at c28); (try simp only [l_int, tL_0, tL_1, tL_2, tL_4, tL_5, tL_6, tL_7, tL_9, tL_10, tL_12, tL_15, tL_30, tL_40, tL_60, tL_99, tL_255, tL_1023, tL_m1, lc_lt, lc_gt, lc_ge, lc_le, lc_eq, l6_le, l6_lt, l6_eq, tI_m133, tI_m226, i_le, i_lt, i_eq, tI_m14, tI_m1, tI_0, tI_1, tI_50, tI_60]); omega)]; exact ⟨rfl, rfl⟩) 0 (Nat.zero_le _)
          rw [clF_0, show σ.2.1 25 = (stI (stI σ 23 (nn f) (50 + q)) 24 (nn f) x).2.1 25 from rfl, stRL_self] at h9
          exact WS.los [0, 1, 2, 3, 4] rfl h9
        · skip
          show WS layM V 5 X σ 31 [(0, rf V 0), (1, .int f), (2, .int q), (3, .int x)] []
          refine WS.bipush (v := (-14)) hx dX11_row_31 (by decide) ?_
          exact WS.iret hx he dX11_row_33 ⟨_, rfl, by (try dsimp only); rw [if_neg (fun h => h (by (try simp only [l_int, tL_0, tL_1, tL_2, tL_4, tL_5, tL_6, tL_7, tL_9, tL_10, tL_12, tL_15, tL_30, tL_40, tL_60, tL_99, tL_255, tL_1023, tL_m1, lc_lt, lc_gt, lc_ge, lc_le, lc_eq, l6_le, l6_lt, l6_eq, tI_m133, tI_m226, i_le, i_lt, i_eq, tI_m14, tI_m1, tI_0, tI_1, tI_50, tI_60] at hb1); (try simp only [l_int, tL_0, tL_1, tL_2, tL_4, tL_5, tL_6, tL_7, tL_9, tL_10, tL_12, tL_15, tL_30, tL_40, tL_60, tL_99, tL_255, tL_1023, tL_m1, lc_lt, lc_gt, lc_ge, lc_le, lc_eq, l6_le, l6_lt, l6_eq, tI_m133, tI_m226, i_le, i_lt, i_eq, tI_m14, tI_m1, tI_0, tI_1, tI_50, tI_60] at hb13); (try simp only [l_int, tL_0, tL_1, tL_2, tL_4, tL_5, tL_6, tL_7, tL_9, tL_10, tL_12, tL_15, tL_30, tL_40, tL_60, tL_99, tL_255, tL_1023, tL_m1, lc_lt, lc_gt, lc_ge, lc_le, lc_eq, l6_le, l6_lt, l6_eq, tI_m133, tI_m226, i_le, i_lt, i_eq, tI_m14, tI_m1, tI_0, tI_1, tI_50, tI_60] at c22); (try simp only [l_int, tL_0, tL_1, tL_2, tL_4, tL_5, tL_6, tL_7, tL_9, tL_10, tL_12, tL_15, tL_30, tL_40, tL_60, tL_99, tL_255, tL_1023, tL_m1, lc_lt, lc_gt, lc_ge, lc_le, lc_eq, l6_le, l6_lt, l6_eq, tI_m133, tI_m226, i_le, i_lt, i_eq, tI_m14, tI_m1, tI_0, tI_1, tI_50, tI_60] at c28); omega)), if_pos (by (try simp only [l_int, tL_0, tL_1, tL_2, tL_4, tL_5, tL_6, tL_7, tL_9, tL_10, tL_12, tL_15, tL_30, tL_40, tL_60, tL_99, tL_255, tL_1023, tL_m1, lc_lt, lc_gt, lc_ge, lc_le, lc_eq, l6_le, l6_lt, l6_eq, tI_m133, tI_m226, i_le, i_lt, i_eq, tI_m14, tI_m1, tI_0, tI_1, tI_50, tI_60] at hb1); (try simp only [l_int, tL_0, tL_1, tL_2, tL_4, tL_5, tL_6, tL_7, tL_9, tL_10, tL_12, tL_15, tL_30, tL_40, tL_60, tL_99, tL_255, tL_1023, tL_m1, lc_lt, lc_gt, lc_ge, lc_le, lc_eq, l6_le, l6_lt, l6_eq, tI_m133, tI_m226, i_le, i_lt, i_eq, tI_m14, tI_m1, tI_0, tI_1, tI_50, tI_60] at hb13); (try simp only [l_int, tL_0, tL_1, tL_2, tL_4, tL_5, tL_6, tL_7, tL_9, tL_10, tL_12, tL_15, tL_30, tL_40, tL_60, tL_99, tL_255, tL_1023, tL_m1, lc_lt, lc_gt, lc_ge, lc_le, lc_eq, l6_le, l6_lt, l6_eq, tI_m133, tI_m226, i_le, i_lt, i_eq, tI_m14, tI_m1, tI_0, tI_1, tI_50, tI_60] at c22); (try simp only [l_int, tL_0, tL_1, tL_2, tL_4, tL_5, tL_6, tL_7, tL_9, tL_10, tL_12, tL_15, tL_30, tL_40, tL_60, tL_99, tL_255, tL_1023, tL_m1, lc_lt, lc_gt, lc_ge, lc_le, lc_eq, l6_le, l6_lt, l6_eq, tI_m133, tI_m226, i_le, i_lt, i_eq, tI_m14, tI_m1, tI_0, tI_1, tI_50, tI_60] at c28); (try simp only [l_int, tL_0, tL_1, tL_2, tL_4, tL_5, tL_6, tL_7, tL_9, tL_10, tL_12, tL_15, tL_30, tL_40, tL_60, tL_99, tL_255, tL_1023, tL_m1, lc_lt, lc_gt, lc_ge, lc_le, lc_eq, l6_le, l6_lt, l6_eq, tI_m133, tI_m226, i_le, i_lt, i_eq, tI_m14, tI_m1, tI_0, tI_1, tI_50, tI_60]); omega)]; exact ⟨rfl, rfl⟩⟩
      · skip
        show WS layM V 5 X σ 25 [(0, rf V 0), (1, .int f), (2, .int q), (3, .int x)] []
        refine WS.iconst (v := (-1)) hx dX11_row_25 (by decide) ?_
        exact WS.iret hx he dX11_row_26 ⟨_, rfl, by (try dsimp only); rw [if_pos (fun h => by (try simp only [l_int, tL_0, tL_1, tL_2, tL_4, tL_5, tL_6, tL_7, tL_9, tL_10, tL_12, tL_15, tL_30, tL_40, tL_60, tL_99, tL_255, tL_1023, tL_m1, lc_lt, lc_gt, lc_ge, lc_le, lc_eq, l6_le, l6_lt, l6_eq, tI_m133, tI_m226, i_le, i_lt, i_eq, tI_m14, tI_m1, tI_0, tI_1, tI_50, tI_60] at hb1); (try simp only [l_int, tL_0, tL_1, tL_2, tL_4, tL_5, tL_6, tL_7, tL_9, tL_10, tL_12, tL_15, tL_30, tL_40, tL_60, tL_99, tL_255, tL_1023, tL_m1, lc_lt, lc_gt, lc_ge, lc_le, lc_eq, l6_le, l6_lt, l6_eq, tI_m133, tI_m226, i_le, i_lt, i_eq, tI_m14, tI_m1, tI_0, tI_1, tI_50, tI_60] at hb13); (try simp only [l_int, tL_0, tL_1, tL_2, tL_4, tL_5, tL_6, tL_7, tL_9, tL_10, tL_12, tL_15, tL_30, tL_40, tL_60, tL_99, tL_255, tL_1023, tL_m1, lc_lt, lc_gt, lc_ge, lc_le, lc_eq, l6_le, l6_lt, l6_eq, tI_m133, tI_m226, i_le, i_lt, i_eq, tI_m14, tI_m1, tI_0, tI_1, tI_50, tI_60] at c22); (try simp only [l_int, tL_0, tL_1, tL_2, tL_4, tL_5, tL_6, tL_7, tL_9, tL_10, tL_12, tL_15, tL_30, tL_40, tL_60, tL_99, tL_255, tL_1023, tL_m1, lc_lt, lc_gt, lc_ge, lc_le, lc_eq, l6_le, l6_lt, l6_eq, tI_m133, tI_m226, i_le, i_lt, i_eq, tI_m14, tI_m1, tI_0, tI_1, tI_50, tI_60]); omega)]; exact ⟨rfl, rfl⟩⟩
    · skip
      show WS layM V 5 X σ 16 [(0, rf V 0), (1, .int f), (2, .int q), (3, .int x)] [.int 0]
      refine WS.if_eq (tgt := 25) hx dX11_row_16 (by decide) (fun _ => ?_) (fun h => absurd (by decide) h)
      refine WS.iconst (v := (-1)) hx dX11_row_25 (by decide) ?_
      exact WS.iret hx he dX11_row_26 ⟨_, rfl, by (try dsimp only); rw [if_pos (fun h => by (try simp only [l_int, tL_0, tL_1, tL_2, tL_4, tL_5, tL_6, tL_7, tL_9, tL_10, tL_12, tL_15, tL_30, tL_40, tL_60, tL_99, tL_255, tL_1023, tL_m1, lc_lt, lc_gt, lc_ge, lc_le, lc_eq, l6_le, l6_lt, l6_eq, tI_m133, tI_m226, i_le, i_lt, i_eq, tI_m14, tI_m1, tI_0, tI_1, tI_50, tI_60] at hb1); (try simp only [l_int, tL_0, tL_1, tL_2, tL_4, tL_5, tL_6, tL_7, tL_9, tL_10, tL_12, tL_15, tL_30, tL_40, tL_60, tL_99, tL_255, tL_1023, tL_m1, lc_lt, lc_gt, lc_ge, lc_le, lc_eq, l6_le, l6_lt, l6_eq, tI_m133, tI_m226, i_le, i_lt, i_eq, tI_m14, tI_m1, tI_0, tI_1, tI_50, tI_60] at hb13); (try simp only [l_int, tL_0, tL_1, tL_2, tL_4, tL_5, tL_6, tL_7, tL_9, tL_10, tL_12, tL_15, tL_30, tL_40, tL_60, tL_99, tL_255, tL_1023, tL_m1, lc_lt, lc_gt, lc_ge, lc_le, lc_eq, l6_le, l6_lt, l6_eq, tI_m133, tI_m226, i_le, i_lt, i_eq, tI_m14, tI_m1, tI_0, tI_1, tI_50, tI_60]); omega)]; exact ⟨rfl, rfl⟩⟩
  · skip
    show WS layM V 5 X σ 4 [(0, rf V 0), (1, .int f), (2, .int q), (3, .int x)] [.int 0]
    refine WS.if_eq (tgt := 25) hx dX11_row_4 (by decide) (fun _ => ?_) (fun h => absurd (by decide) h)
    refine WS.iconst (v := (-1)) hx dX11_row_25 (by decide) ?_
    exact WS.iret hx he dX11_row_26 ⟨_, rfl, by (try dsimp only); rw [if_pos (fun h => by (try simp only [l_int, tL_0, tL_1, tL_2, tL_4, tL_5, tL_6, tL_7, tL_9, tL_10, tL_12, tL_15, tL_30, tL_40, tL_60, tL_99, tL_255, tL_1023, tL_m1, lc_lt, lc_gt, lc_ge, lc_le, lc_eq, l6_le, l6_lt, l6_eq, tI_m133, tI_m226, i_le, i_lt, i_eq, tI_m14, tI_m1, tI_0, tI_1, tI_50, tI_60] at hb1); (try simp only [l_int, tL_0, tL_1, tL_2, tL_4, tL_5, tL_6, tL_7, tL_9, tL_10, tL_12, tL_15, tL_30, tL_40, tL_60, tL_99, tL_255, tL_1023, tL_m1, lc_lt, lc_gt, lc_ge, lc_le, lc_eq, l6_le, l6_lt, l6_eq, tI_m133, tI_m226, i_le, i_lt, i_eq, tI_m14, tI_m1, tI_0, tI_1, tI_50, tI_60]); omega)]; exact ⟨rfl, rfl⟩⟩
theorem SR.r {κ μ : Sg} {z s : Nat} (h : SR κ μ z) (hs : s < 6) (hr : κ.1 (52 + s) 1 = 2) : rg (κ.1 (52 + s) 4) 60 ∧ rg (κ.1 (52 + s) 3) 4 ∧ μ.1 23 s = nI (50 + nn (κ.1 (52 + s) 3)) ∧ μ.1 24 s = κ.1 (52 + s) 4 ∧ (∀ i, i < 60 → μ.2.1 25 (60 * s + i) = κ.2.1 (58 + s) i) := by
  obtain ⟨g0, g | g | g⟩ := h s hs
  · rw [g.1] at hr; exact absurd hr (by decide)
  · rw [g.1] at hr; exact absurd hr (by decide)
  · exact ⟨g0, g.2.1, g.2.2.1, g.2.2.2.1, g.2.2.2.2.1⟩
set_option maxHeartbeats 1000000 in
theorem c_X11_refusal (V : Vt) (d : Nat) (σ : Sg) (κ : Sg) (z9 : Nat) (hz9 : z9 ≤ 50) (hS : SR κ σ z9) (f i : Int32) : CT layM V mX11_refusal (d + 2) [rf V 0, .int f, .int i] σ (Ri fun v σ' => (¬ (0 ≤ f.toInt ∧ f.toInt ≤ 5) ∧ -1 = v ∧ σ = σ') ∨ ((0 ≤ f.toInt ∧ f.toInt ≤ 5) ∧ κ.1 (52 + nn f) 1 = 0 ∧ -11 = v ∧ σ = σ') ∨ ((0 ≤ f.toInt ∧ f.toInt ≤ 5) ∧ ¬ κ.1 (52 + nn f) 1 = 0 ∧ ¬ κ.1 (52 + nn f) 1 = 2 ∧ -12 = v ∧ σ = σ') ∨ ((0 ≤ f.toInt ∧ f.toInt ≤ 5) ∧ ¬ κ.1 (52 + nn f) 1 = 0 ∧ κ.1 (52 + nn f) 1 = 2 ∧ ¬ (0 ≤ i.toInt ∧ i.toInt < nn (κ.1 (52 + nn f) 4)) ∧ -13 = v ∧ σ = σ') ∨ ((0 ≤ f.toInt ∧ f.toInt ≤ 5) ∧ ¬ κ.1 (52 + nn f) 1 = 0 ∧ κ.1 (52 + nn f) 1 = 2 ∧ (0 ≤ i.toInt ∧ i.toInt < nn (κ.1 (52 + nn f) 4)) ∧ 0 = v ∧ σ = σ')) := by
  refine CT.of (own := RX11) rfl (by decide) (Nat.le_of_ble_eq_true rfl) (fun X (hx : Ok V RX11 cX11_refusal 3 (d + 2) X) (he : En layM V (some .int) (Ri fun v σ' => (¬ (0 ≤ f.toInt ∧ f.toInt ≤ 5) ∧ -1 = v ∧ σ = σ') ∨ ((0 ≤ f.toInt ∧ f.toInt ≤ 5) ∧ κ.1 (52 + nn f) 1 = 0 ∧ -11 = v ∧ σ = σ') ∨ ((0 ≤ f.toInt ∧ f.toInt ≤ 5) ∧ ¬ κ.1 (52 + nn f) 1 = 0 ∧ ¬ κ.1 (52 + nn f) 1 = 2 ∧ -12 = v ∧ σ = σ') ∨ ((0 ≤ f.toInt ∧ f.toInt ≤ 5) ∧ ¬ κ.1 (52 + nn f) 1 = 0 ∧ κ.1 (52 + nn f) 1 = 2 ∧ ¬ (0 ≤ i.toInt ∧ i.toInt < nn (κ.1 (52 + nn f) 4)) ∧ -13 = v ∧ σ = σ') ∨ ((0 ≤ f.toInt ∧ f.toInt ≤ 5) ∧ ¬ κ.1 (52 + nn f) 1 = 0 ∧ κ.1 (52 + nn f) 1 = 2 ∧ (0 ≤ i.toInt ∧ i.toInt < nn (κ.1 (52 + nn f) 4)) ∧ 0 = v ∧ σ = σ')) X) => ?_)
  change WS layM V 3 X σ 0 [(0, rf V 0), (1, .int f), (2, .int i)] []
  refine WS.iload_n hx dX11_refusal_0 rfl 1 rfl ?_
  refine WS.callSi (st := []) [.int f] hx (c_X11_isShelf V d σ f) okX11_isShelf lm11_119 rfl rfl (Nat.le_of_ble_eq_true rfl) dX11_refusal_1 (fun v1 σ2 h3 => ?_)
  rcases h3 with ⟨rfl, rfl, hb1⟩ | ⟨rfl, rfl, hb1⟩
  · skip
    show WS layM V 3 X σ 4 [(0, rf V 0), (1, .int f), (2, .int i)] [.int 1]
    obtain ⟨e1, e2, e3⟩ := hS.c hz9 (sh_nn hb1)
    unfold nn at e1 e2 e3
    refine WS.if_ne (tgt := 9) hx dX11_refusal_4 (by decide) (fun _ => ?_) (fun h => absurd h (by decide))
    refine WS.aload_n hx dX11_refusal_9 rfl 0 rfl ?_
    refine WS.getR hx okX11 lf11_77 rfl rfl dX11_refusal_10 ?_
    refine WS.iload_n hx dX11_refusal_13 rfl 1 rfl ?_
    refine WS.iald hx rfl (sh_in hb1) dX11_refusal_14 ?_
    refine WS.if_ge (tgt := 21) hx dX11_refusal_15 (by decide) (fun c15 => ?_) (fun c15 => ?_)
    · skip
      show WS layM V 3 X σ 21 [(0, rf V 0), (1, .int f), (2, .int i)] []
      refine WS.aload_n hx dX11_refusal_21 rfl 0 rfl ?_
      refine WS.getR hx okX11 lf11_77 rfl rfl dX11_refusal_22 ?_
      refine WS.iload_n hx dX11_refusal_25 rfl 1 rfl ?_
      refine WS.iald hx rfl (sh_in hb1) dX11_refusal_26 ?_
      refine WS.bipush (v := 50) hx dX11_refusal_27 (by decide) ?_
      refine WS.icmp_ge (tgt := 35) hx dX11_refusal_29 (by decide) (fun c29 => ?_) (fun c29 => ?_)
      · skip
        show WS layM V 3 X σ 35 [(0, rf V 0), (1, .int f), (2, .int i)] []
        have hrow : κ.1 (52 + nn f) 1 = 2 := e2.mpr (by (try simp only [l_int, tL_0, tL_1, tL_2, tL_4, tL_5, tL_6, tL_7, tL_9, tL_10, tL_12, tL_15, tL_30, tL_40, tL_60, tL_99, tL_255, tL_1023, tL_m1, lc_lt, lc_gt, lc_ge, lc_le, lc_eq, l6_le, l6_lt, l6_eq, tI_m133, tI_m226, i_le, i_lt, i_eq, tI_m13, tI_m12, tI_m11, tI_m1, tI_0, tI_1, tI_50] at hb1); (try simp only [l_int, tL_0, tL_1, tL_2, tL_4, tL_5, tL_6, tL_7, tL_9, tL_10, tL_12, tL_15, tL_30, tL_40, tL_60, tL_99, tL_255, tL_1023, tL_m1, lc_lt, lc_gt, lc_ge, lc_le, lc_eq, l6_le, l6_lt, l6_eq, tI_m133, tI_m226, i_le, i_lt, i_eq, tI_m13, tI_m12, tI_m11, tI_m1, tI_0, tI_1, tI_50] at c15); (try simp only [l_int, tL_0, tL_1, tL_2, tL_4, tL_5, tL_6, tL_7, tL_9, tL_10, tL_12, tL_15, tL_30, tL_40, tL_60, tL_99, tL_255, tL_1023, tL_m1, lc_lt, lc_gt, lc_ge, lc_le, lc_eq, l6_le, l6_lt, l6_eq, tI_m133, tI_m226, i_le, i_lt, i_eq, tI_m13, tI_m12, tI_m11, tI_m1, tI_0, tI_1, tI_50] at c29); (try simp only [l_int, tL_0, tL_1, tL_2, tL_4, tL_5, tL_6, tL_7, tL_9, tL_10, tL_12, tL_15, tL_30, tL_40, tL_60, tL_99, tL_255, tL_1023, tL_m1, lc_lt, lc_gt, lc_ge, lc_le, lc_eq, l6_le, l6_lt, l6_eq, tI_m133, tI_m226, i_le, i_lt, i_eq, tI_m13, tI_m12, tI_m11, tI_m1, tI_0, tI_1, tI_50]); omega)
        have hsr := hS.r (sh_nn hb1) hrow
        have hzz := nn_int hsr.1.1
        refine WS.iload_n hx dX11_refusal_35 rfl 2 rfl ?_
        refine WS.if_lt (tgt := 53) hx dX11_refusal_36 (by decide) (fun c36 => ?_) (fun c36 => ?_)
        · skip
          show WS layM V 3 X σ 53 [(0, rf V 0), (1, .int f), (2, .int i)] []
          refine WS.bipush (v := (-13)) hx dX11_refusal_53 (by decide) ?_
          exact WS.iret hx he dX11_refusal_55 ⟨_, rfl, Or.inr (Or.inr (Or.inr (Or.inl ⟨hb1, fun h => by have := e1.mp h; (try simp only [l_int, tL_0, tL_1, tL_2, tL_4, tL_5, tL_6, tL_7, tL_9, tL_10, tL_12, tL_15, tL_30, tL_40, tL_60, tL_99, tL_255, tL_1023, tL_m1, lc_lt, lc_gt, lc_ge, lc_le, lc_eq, l6_le, l6_lt, l6_eq, tI_m133, tI_m226, i_le, i_lt, i_eq, tI_m13, tI_m12, tI_m11, tI_m1, tI_0, tI_1, tI_50] at hb1); (try simp only [l_int, tL_0, tL_1, tL_2, tL_4, tL_5, tL_6, tL_7, tL_9, tL_10, tL_12, tL_15, tL_30, tL_40, tL_60, tL_99, tL_255, tL_1023, tL_m1, lc_lt, lc_gt, lc_ge, lc_le, lc_eq, l6_le, l6_lt, l6_eq, tI_m133, tI_m226, i_le, i_lt, i_eq, tI_m13, tI_m12, tI_m11, tI_m1, tI_0, tI_1, tI_50] at c15); (try simp only [l_int, tL_0, tL_1, tL_2, tL_4, tL_5, tL_6, tL_7, tL_9, tL_10, tL_12, tL_15, tL_30, tL_40, tL_60, tL_99, tL_255, tL_1023, tL_m1, lc_lt, lc_gt, lc_ge, lc_le, lc_eq, l6_le, l6_lt, l6_eq, tI_m133, tI_m226, i_le, i_lt, i_eq, tI_m13, tI_m12, tI_m11, tI_m1, tI_0, tI_1, tI_50] at c29); (try simp only [l_int, tL_0, tL_1, tL_2, tL_4, tL_5, tL_6, tL_7, tL_9, tL_10, tL_12, tL_15, tL_30, tL_40, tL_60, tL_99, tL_255, tL_1023, tL_m1, lc_lt, lc_gt, lc_ge, lc_le, lc_eq, l6_le, l6_lt, l6_eq, tI_m133, tI_m226, i_le, i_lt, i_eq, tI_m13, tI_m12, tI_m11, tI_m1, tI_0, tI_1, tI_50] at c36); (try simp only [l_int, tL_0, tL_1, tL_2, tL_4, tL_5, tL_6, tL_7, tL_9, tL_10, tL_12, tL_15, tL_30, tL_40, tL_60, tL_99, tL_255, tL_1023, tL_m1, lc_lt, lc_gt, lc_ge, lc_le, lc_eq, l6_le, l6_lt, l6_eq, tI_m133, tI_m226, i_le, i_lt, i_eq, tI_m13, tI_m12, tI_m11, tI_m1, tI_0, tI_1, tI_50]); omega, hrow, fun h => by (try simp only [l_int, tL_0, tL_1, tL_2, tL_4, tL_5, tL_6, tL_7, tL_9, tL_10, tL_12, tL_15, tL_30, tL_40, tL_60, tL_99, tL_255, tL_1023, tL_m1, lc_lt, lc_gt, lc_ge, lc_le, lc_eq, l6_le, l6_lt, l6_eq, tI_m133, tI_m226, i_le, i_lt, i_eq, tI_m13, tI_m12, tI_m11, tI_m1, tI_0, tI_1, tI_50] at hb1); (try simp only [l_int, tL_0, tL_1, tL_2, tL_4, tL_5, tL_6, tL_7, tL_9, tL_10, tL_12, tL_15, tL_30, tL_40, tL_60, tL_99, tL_255, tL_1023, tL_m1, lc_lt, lc_gt, lc_ge, lc_le, lc_eq, l6_le, l6_lt, l6_eq, tI_m133, tI_m226, i_le, i_lt, i_eq, tI_m13, tI_m12, tI_m11, tI_m1, tI_0, tI_1, tI_50] at c15); (try simp only [l_int, tL_0, tL_1, tL_2, tL_4, tL_5, tL_6, tL_7, tL_9, tL_10, tL_12, tL_15, tL_30, tL_40, tL_60, tL_99, tL_255, tL_1023, tL_m1, lc_lt, lc_gt, lc_ge, lc_le, lc_eq, l6_le, l6_lt, l6_eq, tI_m133, tI_m226, i_le, i_lt, i_eq, tI_m13, tI_m12, tI_m11, tI_m1, tI_0, tI_1, tI_50] at c29); (try simp only [l_int, tL_0, tL_1, tL_2, tL_4, tL_5, tL_6, tL_7, tL_9, tL_10, tL_12, tL_15, tL_30, tL_40, tL_60, tL_99, tL_255, tL_1023, tL_m1, lc_lt, lc_gt, lc_ge, lc_le, lc_eq, l6_le, l6_lt, l6_eq, tI_m133, tI_m226, i_le, i_lt, i_eq, tI_m13, tI_m12, tI_m11, tI_m1, tI_0, tI_1, tI_50] at c36); (try simp only [l_int, tL_0, tL_1, tL_2, tL_4, tL_5, tL_6, tL_7, tL_9, tL_10, tL_12, tL_15, tL_30, tL_40, tL_60, tL_99, tL_255, tL_1023, tL_m1, lc_lt, lc_gt, lc_ge, lc_le, lc_eq, l6_le, l6_lt, l6_eq, tI_m133, tI_m226, i_le, i_lt, i_eq, tI_m13, tI_m12, tI_m11, tI_m1, tI_0, tI_1, tI_50]); omega, rfl, rfl⟩)))⟩
        · skip
          show WS layM V 3 X σ 39 [(0, rf V 0), (1, .int f), (2, .int i)] []
          refine WS.iload_n hx dX11_refusal_39 rfl 2 rfl ?_
          refine WS.aload_n hx dX11_refusal_40 rfl 0 rfl ?_
          refine WS.getR hx okX11 lf11_80 rfl rfl dX11_refusal_41 ?_
          refine WS.iload_n hx dX11_refusal_44 rfl 1 rfl ?_
          refine WS.iald hx rfl (sh_in hb1) dX11_refusal_45 ?_
          refine WS.as rfl rfl (congrArg (fun z => Value.int z :: _) (show σ.1 24 (nn f) = κ.1 (52 + nn f) 4 from hsr.2.2.2.1)) ?_
          skip
          refine WS.icmp_ge (tgt := 53) hx dX11_refusal_46 (by decide) (fun c46 => ?_) (fun c46 => ?_)
          · skip
            show WS layM V 3 X σ 53 [(0, rf V 0), (1, .int f), (2, .int i)] []
            refine WS.bipush (v := (-13)) hx dX11_refusal_53 (by decide) ?_
            exact WS.iret hx he dX11_refusal_55 ⟨_, rfl, Or.inr (Or.inr (Or.inr (Or.inl ⟨hb1, fun h => by have := e1.mp h; (try simp only [l_int, tL_0, tL_1, tL_2, tL_4, tL_5, tL_6, tL_7, tL_9, tL_10, tL_12, tL_15, tL_30, tL_40, tL_60, tL_99, tL_255, tL_1023, tL_m1, lc_lt, lc_gt, lc_ge, lc_le, lc_eq, l6_le, l6_lt, l6_eq, tI_m133, tI_m226, i_le, i_lt, i_eq, tI_m13, tI_m12, tI_m11, tI_m1, tI_0, tI_1, tI_50] at hb1); (try simp only [l_int, tL_0, tL_1, tL_2, tL_4, tL_5, tL_6, tL_7, tL_9, tL_10, tL_12, tL_15, tL_30, tL_40, tL_60, tL_99, tL_255, tL_1023, tL_m1, lc_lt, lc_gt, lc_ge, lc_le, lc_eq, l6_le, l6_lt, l6_eq, tI_m133, tI_m226, i_le, i_lt, i_eq, tI_m13, tI_m12, tI_m11, tI_m1, tI_0, tI_1, tI_50] at c15); (try simp only [l_int, tL_0, tL_1, tL_2, tL_4, tL_5, tL_6, tL_7, tL_9, tL_10, tL_12, tL_15, tL_30, tL_40, tL_60, tL_99, tL_255, tL_1023, tL_m1, lc_lt, lc_gt, lc_ge, lc_le, lc_eq, l6_le, l6_lt, l6_eq, tI_m133, tI_m226, i_le, i_lt, i_eq, tI_m13, tI_m12, tI_m11, tI_m1, tI_0, tI_1, tI_50] at c29); (try simp only [l_int, tL_0, tL_1, tL_2, tL_4, tL_5, tL_6, tL_7, tL_9, tL_10, tL_12, tL_15, tL_30, tL_40, tL_60, tL_99, tL_255, tL_1023, tL_m1, lc_lt, lc_gt, lc_ge, lc_le, lc_eq, l6_le, l6_lt, l6_eq, tI_m133, tI_m226, i_le, i_lt, i_eq, tI_m13, tI_m12, tI_m11, tI_m1, tI_0, tI_1, tI_50] at c36); (try simp only [l_int, tL_0, tL_1, tL_2, tL_4, tL_5, tL_6, tL_7, tL_9, tL_10, tL_12, tL_15, tL_30, tL_40, tL_60, tL_99, tL_255, tL_1023, tL_m1, lc_lt, lc_gt, lc_ge, lc_le, lc_eq, l6_le, l6_lt, l6_eq, tI_m133, tI_m226, i_le, i_lt, i_eq, tI_m13, tI_m12, tI_m11, tI_m1, tI_0, tI_1, tI_50] at c46); (try simp only [l_int, tL_0, tL_1, tL_2, tL_4, tL_5, tL_6, tL_7, tL_9, tL_10, tL_12, tL_15, tL_30, tL_40, tL_60, tL_99, tL_255, tL_1023, tL_m1, lc_lt, lc_gt, lc_ge, lc_le, lc_eq, l6_le, l6_lt, l6_eq, tI_m133, tI_m226, i_le, i_lt, i_eq, tI_m13, tI_m12, tI_m11, tI_m1, tI_0, tI_1, tI_50]); omega, hrow, fun h => by (try simp only [l_int, tL_0, tL_1, tL_2, tL_4, tL_5, tL_6, tL_7, tL_9, tL_10, tL_12, tL_15, tL_30, tL_40, tL_60, tL_99, tL_255, tL_1023, tL_m1, lc_lt, lc_gt, lc_ge, lc_le, lc_eq, l6_le, l6_lt, l6_eq, tI_m133, tI_m226, i_le, i_lt, i_eq, tI_m13, tI_m12, tI_m11, tI_m1, tI_0, tI_1, tI_50] at hb1); (try simp only [l_int, tL_0, tL_1, tL_2, tL_4, tL_5, tL_6, tL_7, tL_9, tL_10, tL_12, tL_15, tL_30, tL_40, tL_60, tL_99, tL_255, tL_1023, tL_m1, lc_lt, lc_gt, lc_ge, lc_le, lc_eq, l6_le, l6_lt, l6_eq, tI_m133, tI_m226, i_le, i_lt, i_eq, tI_m13, tI_m12, tI_m11, tI_m1, tI_0, tI_1, tI_50] at c15); (try simp only [l_int, tL_0, tL_1, tL_2, tL_4, tL_5, tL_6, tL_7, tL_9, tL_10, tL_12, tL_15, tL_30, tL_40, tL_60, tL_99, tL_255, tL_1023, tL_m1, lc_lt, lc_gt, lc_ge, lc_le, lc_eq, l6_le, l6_lt, l6_eq, tI_m133, tI_m226, i_le, i_lt, i_eq, tI_m13, tI_m12, tI_m11, tI_m1, tI_0, tI_1, tI_50] at c29); (try simp only [l_int, tL_0, tL_1, tL_2, tL_4, tL_5, tL_6, tL_7, tL_9, tL_10, tL_12, tL_15, tL_30, tL_40, tL_60, tL_99, tL_255, tL_1023, tL_m1, lc_lt, lc_gt, lc_ge, lc_le, lc_eq, l6_le, l6_lt, l6_eq, tI_m133, tI_m226, i_le, i_lt, i_eq, tI_m13, tI_m12, tI_m11, tI_m1, tI_0, tI_1, tI_50] at c36); (try simp only [l_int, tL_0, tL_1, tL_2, tL_4, tL_5, tL_6, tL_7, tL_9, tL_10, tL_12, tL_15, tL_30, tL_40, tL_60, tL_99, tL_255, tL_1023, tL_m1, lc_lt, lc_gt, lc_ge, lc_le, lc_eq, l6_le, l6_lt, l6_eq, tI_m133, tI_m226, i_le, i_lt, i_eq, tI_m13, tI_m12, tI_m11, tI_m1, tI_0, tI_1, tI_50] at c46); (try simp only [l_int, tL_0, tL_1, tL_2, tL_4, tL_5, tL_6, tL_7, tL_9, tL_10, tL_12, tL_15, tL_30, tL_40, tL_60, tL_99, tL_255, tL_1023, tL_m1, lc_lt, lc_gt, lc_ge, lc_le, lc_eq, l6_le, l6_lt, l6_eq, tI_m133, tI_m226, i_le, i_lt, i_eq, tI_m13, tI_m12, tI_m11, tI_m1, tI_0, tI_1, tI_50]); omega, rfl, rfl⟩)))⟩
          · skip
            show WS layM V 3 X σ 49 [(0, rf V 0), (1, .int f), (2, .int i)] []
            refine WS.iconst (v := 0) hx dX11_refusal_49 (by decide) ?_
            refine WS.goto (tgt := 55) hx dX11_refusal_50 (by decide) ?_
            exact WS.iret hx he dX11_refusal_55 ⟨_, rfl, Or.inr (Or.inr (Or.inr (Or.inr ⟨hb1, fun h => by have := e1.mp h; (try simp only [l_int, tL_0, tL_1, tL_2, tL_4, tL_5, tL_6, tL_7, tL_9, tL_10, tL_12, tL_15, tL_30, tL_40, tL_60, tL_99, tL_255, tL_1023, tL_m1, lc_lt, lc_gt, lc_ge, lc_le, lc_eq, l6_le, l6_lt, l6_eq, tI_m133, tI_m226, i_le, i_lt, i_eq, tI_m13, tI_m12, tI_m11, tI_m1, tI_0, tI_1, tI_50] at hb1); (try simp only [l_int, tL_0, tL_1, tL_2, tL_4, tL_5, tL_6, tL_7, tL_9, tL_10, tL_12, tL_15, tL_30, tL_40, tL_60, tL_99, tL_255, tL_1023, tL_m1, lc_lt, lc_gt, lc_ge, lc_le, lc_eq, l6_le, l6_lt, l6_eq, tI_m133, tI_m226, i_le, i_lt, i_eq, tI_m13, tI_m12, tI_m11, tI_m1, tI_0, tI_1, tI_50] at c15); (try simp only [l_int, tL_0, tL_1, tL_2, tL_4, tL_5, tL_6, tL_7, tL_9, tL_10, tL_12, tL_15, tL_30, tL_40, tL_60, tL_99, tL_255, tL_1023, tL_m1, lc_lt, lc_gt, lc_ge, lc_le, lc_eq, l6_le, l6_lt, l6_eq, tI_m133, tI_m226, i_le, i_lt, i_eq, tI_m13, tI_m12, tI_m11, tI_m1, tI_0, tI_1, tI_50] at c29); (try simp only [l_int, tL_0, tL_1, tL_2, tL_4, tL_5, tL_6, tL_7, tL_9, tL_10, tL_12, tL_15, tL_30, tL_40, tL_60, tL_99, tL_255, tL_1023, tL_m1, lc_lt, lc_gt, lc_ge, lc_le, lc_eq, l6_le, l6_lt, l6_eq, tI_m133, tI_m226, i_le, i_lt, i_eq, tI_m13, tI_m12, tI_m11, tI_m1, tI_0, tI_1, tI_50] at c36); (try simp only [l_int, tL_0, tL_1, tL_2, tL_4, tL_5, tL_6, tL_7, tL_9, tL_10, tL_12, tL_15, tL_30, tL_40, tL_60, tL_99, tL_255, tL_1023, tL_m1, lc_lt, lc_gt, lc_ge, lc_le, lc_eq, l6_le, l6_lt, l6_eq, tI_m133, tI_m226, i_le, i_lt, i_eq, tI_m13, tI_m12, tI_m11, tI_m1, tI_0, tI_1, tI_50] at c46); (try simp only [l_int, tL_0, tL_1, tL_2, tL_4, tL_5, tL_6, tL_7, tL_9, tL_10, tL_12, tL_15, tL_30, tL_40, tL_60, tL_99, tL_255, tL_1023, tL_m1, lc_lt, lc_gt, lc_ge, lc_le, lc_eq, l6_le, l6_lt, l6_eq, tI_m133, tI_m226, i_le, i_lt, i_eq, tI_m13, tI_m12, tI_m11, tI_m1, tI_0, tI_1, tI_50]); omega, hrow, by (try simp only [l_int, tL_0, tL_1, tL_2, tL_4, tL_5, tL_6, tL_7, tL_9, tL_10, tL_12, tL_15, tL_30, tL_40, tL_60, tL_99, tL_255, tL_1023, tL_m1, lc_lt, lc_gt, lc_ge, lc_le, lc_eq, l6_le, l6_lt, l6_eq, tI_m133, tI_m226, i_le, i_lt, i_eq, tI_m13, tI_m12, tI_m11, tI_m1, tI_0, tI_1, tI_50] at hb1); (try simp only [l_int, tL_0, tL_1, tL_2, tL_4, tL_5, tL_6, tL_7, tL_9, tL_10, tL_12, tL_15, tL_30, tL_40, tL_60, tL_99, tL_255, tL_1023, tL_m1, lc_lt, lc_gt, lc_ge, lc_le, lc_eq, l6_le, l6_lt, l6_eq, tI_m133, tI_m226, i_le, i_lt, i_eq, tI_m13, tI_m12, tI_m11, tI_m1, tI_0, tI_1, tI_50] at c15); (try simp only [l_int, tL_0, tL_1, tL_2, tL_4, tL_5, tL_6, tL_7, tL_9, tL_10, tL_12, tL_15, tL_30, tL_40, tL_60, tL_99, tL_255, tL_1023, tL_m1, lc_lt, lc_gt, lc_ge, lc_le, lc_eq, l6_le, l6_lt, l6_eq, tI_m133, tI_m226, i_le, i_lt, i_eq, tI_m13, tI_m12, tI_m11, tI_m1, tI_0, tI_1, tI_50] at c29); (try simp only [l_int, tL_0, tL_1, tL_2, tL_4, tL_5, tL_6, tL_7, tL_9, tL_10, tL_12, tL_15, tL_30, tL_40, tL_60, tL_99, tL_255, tL_1023, tL_m1, lc_lt, lc_gt, lc_ge, lc_le, lc_eq, l6_le, l6_lt, l6_eq, tI_m133, tI_m226, i_le, i_lt, i_eq, tI_m13, tI_m12, tI_m11, tI_m1, tI_0, tI_1, tI_50] at c36); (try simp only [l_int, tL_0, tL_1, tL_2, tL_4, tL_5, tL_6, tL_7, tL_9, tL_10, tL_12, tL_15, tL_30, tL_40, tL_60, tL_99, tL_255, tL_1023, tL_m1, lc_lt, lc_gt, lc_ge, lc_le, lc_eq, l6_le, l6_lt, l6_eq, tI_m133, tI_m226, i_le, i_lt, i_eq, tI_m13, tI_m12, tI_m11, tI_m1, tI_0, tI_1, tI_50] at c46); (try simp only [l_int, tL_0, tL_1, tL_2, tL_4, tL_5, tL_6, tL_7, tL_9, tL_10, tL_12, tL_15, tL_30, tL_40, tL_60, tL_99, tL_255, tL_1023, tL_m1, lc_lt, lc_gt, lc_ge, lc_le, lc_eq, l6_le, l6_lt, l6_eq, tI_m133, tI_m226, i_le, i_lt, i_eq, tI_m13, tI_m12, tI_m11, tI_m1, tI_0, tI_1, tI_50]); omega, rfl, rfl⟩)))⟩
      · skip
        show WS layM V 3 X σ 32 [(0, rf V 0), (1, .int f), (2, .int i)] []
        refine WS.bipush (v := (-12)) hx dX11_refusal_32 (by decide) ?_
        exact WS.iret hx he dX11_refusal_34 ⟨_, rfl, Or.inr (Or.inr (Or.inl ⟨hb1, fun h => by have := e1.mp h; (try simp only [l_int, tL_0, tL_1, tL_2, tL_4, tL_5, tL_6, tL_7, tL_9, tL_10, tL_12, tL_15, tL_30, tL_40, tL_60, tL_99, tL_255, tL_1023, tL_m1, lc_lt, lc_gt, lc_ge, lc_le, lc_eq, l6_le, l6_lt, l6_eq, tI_m133, tI_m226, i_le, i_lt, i_eq, tI_m13, tI_m12, tI_m11, tI_m1, tI_0, tI_1, tI_50] at hb1); (try simp only [l_int, tL_0, tL_1, tL_2, tL_4, tL_5, tL_6, tL_7, tL_9, tL_10, tL_12, tL_15, tL_30, tL_40, tL_60, tL_99, tL_255, tL_1023, tL_m1, lc_lt, lc_gt, lc_ge, lc_le, lc_eq, l6_le, l6_lt, l6_eq, tI_m133, tI_m226, i_le, i_lt, i_eq, tI_m13, tI_m12, tI_m11, tI_m1, tI_0, tI_1, tI_50] at c15); (try simp only [l_int, tL_0, tL_1, tL_2, tL_4, tL_5, tL_6, tL_7, tL_9, tL_10, tL_12, tL_15, tL_30, tL_40, tL_60, tL_99, tL_255, tL_1023, tL_m1, lc_lt, lc_gt, lc_ge, lc_le, lc_eq, l6_le, l6_lt, l6_eq, tI_m133, tI_m226, i_le, i_lt, i_eq, tI_m13, tI_m12, tI_m11, tI_m1, tI_0, tI_1, tI_50] at c29); (try simp only [l_int, tL_0, tL_1, tL_2, tL_4, tL_5, tL_6, tL_7, tL_9, tL_10, tL_12, tL_15, tL_30, tL_40, tL_60, tL_99, tL_255, tL_1023, tL_m1, lc_lt, lc_gt, lc_ge, lc_le, lc_eq, l6_le, l6_lt, l6_eq, tI_m133, tI_m226, i_le, i_lt, i_eq, tI_m13, tI_m12, tI_m11, tI_m1, tI_0, tI_1, tI_50]); omega, fun h => by have := e2.mp h; (try simp only [l_int, tL_0, tL_1, tL_2, tL_4, tL_5, tL_6, tL_7, tL_9, tL_10, tL_12, tL_15, tL_30, tL_40, tL_60, tL_99, tL_255, tL_1023, tL_m1, lc_lt, lc_gt, lc_ge, lc_le, lc_eq, l6_le, l6_lt, l6_eq, tI_m133, tI_m226, i_le, i_lt, i_eq, tI_m13, tI_m12, tI_m11, tI_m1, tI_0, tI_1, tI_50] at hb1); (try simp only [l_int, tL_0, tL_1, tL_2, tL_4, tL_5, tL_6, tL_7, tL_9, tL_10, tL_12, tL_15, tL_30, tL_40, tL_60, tL_99, tL_255, tL_1023, tL_m1, lc_lt, lc_gt, lc_ge, lc_le, lc_eq, l6_le, l6_lt, l6_eq, tI_m133, tI_m226, i_le, i_lt, i_eq, tI_m13, tI_m12, tI_m11, tI_m1, tI_0, tI_1, tI_50] at c15); (try simp only [l_int, tL_0, tL_1, tL_2, tL_4, tL_5, tL_6, tL_7, tL_9, tL_10, tL_12, tL_15, tL_30, tL_40, tL_60, tL_99, tL_255, tL_1023, tL_m1, lc_lt, lc_gt, lc_ge, lc_le, lc_eq, l6_le, l6_lt, l6_eq, tI_m133, tI_m226, i_le, i_lt, i_eq, tI_m13, tI_m12, tI_m11, tI_m1, tI_0, tI_1, tI_50] at c29); (try simp only [l_int, tL_0, tL_1, tL_2, tL_4, tL_5, tL_6, tL_7, tL_9, tL_10, tL_12, tL_15, tL_30, tL_40, tL_60, tL_99, tL_255, tL_1023, tL_m1, lc_lt, lc_gt, lc_ge, lc_le, lc_eq, l6_le, l6_lt, l6_eq, tI_m133, tI_m226, i_le, i_lt, i_eq, tI_m13, tI_m12, tI_m11, tI_m1, tI_0, tI_1, tI_50]); omega, rfl, rfl⟩))⟩
    · skip
      show WS layM V 3 X σ 18 [(0, rf V 0), (1, .int f), (2, .int i)] []
      refine WS.bipush (v := (-11)) hx dX11_refusal_18 (by decide) ?_
      exact WS.iret hx he dX11_refusal_20 ⟨_, rfl, Or.inr (Or.inl ⟨hb1, e1.mpr (by (try simp only [l_int, tL_0, tL_1, tL_2, tL_4, tL_5, tL_6, tL_7, tL_9, tL_10, tL_12, tL_15, tL_30, tL_40, tL_60, tL_99, tL_255, tL_1023, tL_m1, lc_lt, lc_gt, lc_ge, lc_le, lc_eq, l6_le, l6_lt, l6_eq, tI_m133, tI_m226, i_le, i_lt, i_eq, tI_m13, tI_m12, tI_m11, tI_m1, tI_0, tI_1, tI_50] at hb1); (try simp only [l_int, tL_0, tL_1, tL_2, tL_4, tL_5, tL_6, tL_7, tL_9, tL_10, tL_12, tL_15, tL_30, tL_40, tL_60, tL_99, tL_255, tL_1023, tL_m1, lc_lt, lc_gt, lc_ge, lc_le, lc_eq, l6_le, l6_lt, l6_eq, tI_m133, tI_m226, i_le, i_lt, i_eq, tI_m13, tI_m12, tI_m11, tI_m1, tI_0, tI_1, tI_50] at c15); (try simp only [l_int, tL_0, tL_1, tL_2, tL_4, tL_5, tL_6, tL_7, tL_9, tL_10, tL_12, tL_15, tL_30, tL_40, tL_60, tL_99, tL_255, tL_1023, tL_m1, lc_lt, lc_gt, lc_ge, lc_le, lc_eq, l6_le, l6_lt, l6_eq, tI_m133, tI_m226, i_le, i_lt, i_eq, tI_m13, tI_m12, tI_m11, tI_m1, tI_0, tI_1, tI_50]); omega), rfl, rfl⟩)⟩
  · skip
    show WS layM V 3 X σ 4 [(0, rf V 0), (1, .int f), (2, .int i)] [.int 0]
    refine WS.if_ne (tgt := 9) hx dX11_refusal_4 (by decide) (fun h => absurd (by decide) h) (fun _ => ?_)
    refine WS.iconst (v := (-1)) hx dX11_refusal_7 (by decide) ?_
    exact WS.iret hx he dX11_refusal_8 ⟨_, rfl, Or.inl ⟨hb1, rfl, rfl⟩⟩
theorem as_3 {q : Int32} (hq : 0 ≤ q.toInt ∧ q.toInt ≤ 4) (h0 : ¬ q = 0) (h1 : ¬ q = 1) (h2 : ¬ q = 2) (h4 : ¬ q = 4) : q = 3 := by
  rw [i_eq] at h0 h1 h2 h4 ⊢
  rw [tI_0] at h0
  rw [tI_1] at h1
  rw [tI_2] at h2
  rw [tI_4] at h4
  rw [tI_3]
  omega
set_option maxHeartbeats 1000000 in
theorem c_X11_asSort (V : Vt) (d : Nat) (σ : Sg) (q : Int32) (x : Int64) (hq : 0 ≤ q.toInt ∧ q.toInt ≤ 4) : CT layM V mX11_asSort (d) [.int q, .long x] σ (Rol (cutV q x) σ) := by
  refine CT.of (own := RX11) rfl (by decide) (Nat.le_of_ble_eq_true rfl) (fun X (hx : Ok V RX11 cX11_asSort 3 (d) X) (he : En layM V (some .long) (Rol (cutV q x) σ) X) => ?_)
  change WS layM V 3 X σ 0 [(0, .int q), (1, .long x)] []
  refine WS.iload_n hx dX11_asSort_0 rfl 0 rfl ?_
  refine WS.if_ne (tgt := 11) hx dX11_asSort_1 (by decide) (fun c1 => ?_) (fun c1 => ?_)
  · skip
    show WS layM V 3 X σ 11 [(0, .int q), (1, .long x)] []
    refine WS.iload_n hx dX11_asSort_11 rfl 0 rfl ?_
    refine WS.iconst (v := 1) hx dX11_asSort_12 (by decide) ?_
    refine WS.icmp_ne (tgt := 23) hx dX11_asSort_13 (by decide) (fun c13 => ?_) (fun c13 => ?_)
    · skip
      show WS layM V 3 X σ 23 [(0, .int q), (1, .long x)] []
      refine WS.iload_n hx dX11_asSort_23 rfl 0 rfl ?_
      refine WS.iconst (v := 2) hx dX11_asSort_24 (by decide) ?_
      refine WS.icmp_ne (tgt := 34) hx dX11_asSort_25 (by decide) (fun c25 => ?_) (fun c25 => ?_)
      · skip
        show WS layM V 3 X σ 34 [(0, .int q), (1, .long x)] []
        refine WS.iload_n hx dX11_asSort_34 rfl 0 rfl ?_
        refine WS.iconst (v := 4) hx dX11_asSort_35 (by decide) ?_
        refine WS.icmp_ne (tgt := 53) hx dX11_asSort_36 (by decide) (fun c36 => ?_) (fun c36 => ?_)
        · skip
          show WS layM V 3 X σ 53 [(0, .int q), (1, .long x)] []
          refine WS.lload_n hx dX11_asSort_53 rfl 1 rfl ?_
          exact WS.lret hx he dX11_asSort_54 ⟨_, rfl, by show cutV q x = _; unfold cutV; rw [if_neg c1, if_neg c13, if_neg c25]; rw [if_pos (as_3 hq c1 c13 c25 c36)], rfl⟩
        · skip
          show WS layM V 3 X σ 39 [(0, .int q), (1, .long x)] []
          refine WS.lload_n hx dX11_asSort_39 rfl 1 rfl ?_
          refine WS.lconst (v := 0) hx dX11_asSort_40 rfl ?_
          refine WS.lcmp hx dX11_asSort_41 ?_
          refine WS.if_eq (tgt := 49) hx dX11_asSort_42 (by decide) (fun c42 => ?_) (fun c42 => ?_)
          · skip
            show WS layM V 3 X σ 49 [(0, .int q), (1, .long x)] []
            refine WS.lconst (v := 0) hx dX11_asSort_49 rfl ?_
            refine WS.goto (tgt := 54) hx dX11_asSort_50 (by decide) ?_
            exact WS.lret hx he dX11_asSort_54 ⟨_, rfl, by show cutV q x = _; unfold cutV; rw [if_neg c1, if_neg c13, if_neg c25]; rw [if_neg (show ¬ q = 3 by rw [c36]; decide)]; rw [if_pos (l_e.mp c42)], rfl⟩
          · skip
            show WS layM V 3 X σ 45 [(0, .int q), (1, .long x)] []
            refine WS.lconst (v := 1) hx dX11_asSort_45 rfl ?_
            refine WS.goto (tgt := 54) hx dX11_asSort_46 (by decide) ?_
            exact WS.lret hx he dX11_asSort_54 ⟨_, rfl, by show cutV q x = _; unfold cutV; rw [if_neg c1, if_neg c13, if_neg c25]; rw [if_neg (show ¬ q = 3 by rw [c36]; decide)]; rw [if_neg (fun h => c42 (l_e.mpr h))], rfl⟩
      · skip
        show WS layM V 3 X σ 28 [(0, .int q), (1, .long x)] []
        refine WS.lload_n hx dX11_asSort_28 rfl 1 rfl ?_
        refine WS.l2i hx dX11_asSort_29 ?_
        refine WS.i2l hx dX11_asSort_30 ?_
        refine WS.goto (tgt := 54) hx dX11_asSort_31 (by decide) ?_
        exact WS.lret hx he dX11_asSort_54 ⟨_, rfl, by show cutV q x = _; unfold cutV; rw [if_neg c1, if_neg c13, if_pos c25], rfl⟩
    · skip
      show WS layM V 3 X σ 16 [(0, .int q), (1, .long x)] []
      refine WS.lload_n hx dX11_asSort_16 rfl 1 rfl ?_
      refine WS.l2i hx dX11_asSort_17 ?_
      refine WS.i2s hx dX11_asSort_18 ?_
      refine WS.i2l hx dX11_asSort_19 ?_
      refine WS.goto (tgt := 54) hx dX11_asSort_20 (by decide) ?_
      exact WS.lret hx he dX11_asSort_54 ⟨_, rfl, by show cutV q x = _; unfold cutV; rw [if_neg c1, if_pos c13], rfl⟩
  · skip
    show WS layM V 3 X σ 4 [(0, .int q), (1, .long x)] []
    refine WS.lload_n hx dX11_asSort_4 rfl 1 rfl ?_
    refine WS.l2i hx dX11_asSort_5 ?_
    refine WS.i2b hx dX11_asSort_6 ?_
    refine WS.i2l hx dX11_asSort_7 ?_
    refine WS.goto (tgt := 54) hx dX11_asSort_8 (by decide) ?_
    exact WS.lret hx he dX11_asSort_54 ⟨_, rfl, by show cutV q x = _; unfold cutV; rw [if_pos c1], rfl⟩
set_option maxHeartbeats 1000000 in
theorem c_X11_put (V : Vt) (d : Nat) (σ : Sg) (κ : Sg) (z9 : Nat) (hz9 : z9 ≤ 50) (hS : SR κ σ z9) (f i : Int32) (x : Int64) : CT layM V mX11_put (d + 3) [rf V 0, .int f, .int i, .long x] σ (Ri fun v σ' => (if ¬ (0 ≤ f.toInt ∧ f.toInt ≤ 5) then v = -1 ∧ σ' = σ else (if κ.1 (52 + nn f) 1 = 0 then v = -11 ∧ σ' = σ else (if ¬ κ.1 (52 + nn f) 1 = 2 then v = -12 ∧ σ' = σ else (if ¬ (0 ≤ i.toInt ∧ i.toInt < nn (κ.1 (52 + nn f) 4)) then v = -13 ∧ σ' = σ else (v = 1 ∧ σ' = stL σ 25 (60 * nn f + nn i) (cutV (κ.1 (52 + nn f) 3) x))))))) := by
  refine CT.of (own := RX11) rfl (by decide) (Nat.le_of_ble_eq_true rfl) (fun X (hx : Ok V RX11 cX11_put 6 (d + 3) X) (he : En layM V (some .int) (Ri fun v σ' => (if ¬ (0 ≤ f.toInt ∧ f.toInt ≤ 5) then v = -1 ∧ σ' = σ else (if κ.1 (52 + nn f) 1 = 0 then v = -11 ∧ σ' = σ else (if ¬ κ.1 (52 + nn f) 1 = 2 then v = -12 ∧ σ' = σ else (if ¬ (0 ≤ i.toInt ∧ i.toInt < nn (κ.1 (52 + nn f) 4)) then v = -13 ∧ σ' = σ else (v = 1 ∧ σ' = stL σ 25 (60 * nn f + nn i) (cutV (κ.1 (52 + nn f) 3) x))))))) X) => ?_)
  change WS layM V 6 X σ 0 [(0, rf V 0), (1, .int f), (2, .int i), (3, .long x)] []
  refine WS.aload_n hx dX11_put_0 rfl 0 rfl ?_
  refine WS.iload_n hx dX11_put_1 rfl 1 rfl ?_
  refine WS.iload_n hx dX11_put_2 rfl 2 rfl ?_
  refine WS.callVi (st := []) [.int f, .int i] hx (c_X11_refusal V d σ κ z9 hz9 hS f i) okX11_refusal lm11_349 rfl rfl rfl rfl (Nat.le_of_ble_eq_true rfl) dX11_put_3 (fun v1 σ2 h3 => ?_)
  rcases h3 with ⟨hr3, rfl, rfl⟩ | ⟨hr3, ha3, rfl, rfl⟩ | ⟨hr3, ha3, hc3, rfl, rfl⟩ | ⟨hr3, ha3, hc3, hd3, rfl, rfl⟩ | ⟨hr3, ha3, hc3, hd3, rfl, rfl⟩
  · skip
    show WS layM V 6 X σ 6 [(0, rf V 0), (1, .int f), (2, .int i), (3, .long x)] [.int (-1)]
    refine WS.istore (lo' := [(5, .int (-1)), (0, rf V 0), (1, .int f), (2, .int i), (3, .long x)]) hx dX11_put_6 (by decide) rfl ?_
    refine WS.iload hx dX11_put_8 0 rfl ?_
    refine WS.if_ne (tgt := 37) hx dX11_put_10 (by decide) (fun _ => ?_) (fun h => absurd h (by decide))
    refine WS.iload hx dX11_put_37 0 rfl ?_
    refine WS.if_ne (tgt := 46) hx dX11_put_39 (by decide) (fun _ => ?_) (fun h => absurd h (by decide))
    refine WS.iload hx dX11_put_46 0 rfl ?_
    exact WS.iret hx he dX11_put_48 ⟨_, rfl, by (try dsimp only); rw [if_pos hr3]; exact ⟨rfl, rfl⟩⟩
  · skip
    show WS layM V 6 X σ 6 [(0, rf V 0), (1, .int f), (2, .int i), (3, .long x)] [.int (-11)]
    refine WS.istore (lo' := [(5, .int (-11)), (0, rf V 0), (1, .int f), (2, .int i), (3, .long x)]) hx dX11_put_6 (by decide) rfl ?_
    refine WS.iload hx dX11_put_8 0 rfl ?_
    refine WS.if_ne (tgt := 37) hx dX11_put_10 (by decide) (fun _ => ?_) (fun h => absurd h (by decide))
    refine WS.iload hx dX11_put_37 0 rfl ?_
    refine WS.if_ne (tgt := 46) hx dX11_put_39 (by decide) (fun _ => ?_) (fun h => absurd h (by decide))
    refine WS.iload hx dX11_put_46 0 rfl ?_
    exact WS.iret hx he dX11_put_48 ⟨_, rfl, by (try dsimp only); rw [if_neg (fun h => h hr3), if_pos ha3]; exact ⟨rfl, rfl⟩⟩
  · skip
    show WS layM V 6 X σ 6 [(0, rf V 0), (1, .int f), (2, .int i), (3, .long x)] [.int (-12)]
    refine WS.istore (lo' := [(5, .int (-12)), (0, rf V 0), (1, .int f), (2, .int i), (3, .long x)]) hx dX11_put_6 (by decide) rfl ?_
    refine WS.iload hx dX11_put_8 0 rfl ?_
    refine WS.if_ne (tgt := 37) hx dX11_put_10 (by decide) (fun _ => ?_) (fun h => absurd h (by decide))
    refine WS.iload hx dX11_put_37 0 rfl ?_
    refine WS.if_ne (tgt := 46) hx dX11_put_39 (by decide) (fun _ => ?_) (fun h => absurd h (by decide))
    refine WS.iload hx dX11_put_46 0 rfl ?_
    exact WS.iret hx he dX11_put_48 ⟨_, rfl, by (try dsimp only); rw [if_neg (fun h => h hr3), if_neg ha3, if_pos hc3]; exact ⟨rfl, rfl⟩⟩
  · skip
    show WS layM V 6 X σ 6 [(0, rf V 0), (1, .int f), (2, .int i), (3, .long x)] [.int (-13)]
    refine WS.istore (lo' := [(5, .int (-13)), (0, rf V 0), (1, .int f), (2, .int i), (3, .long x)]) hx dX11_put_6 (by decide) rfl ?_
    refine WS.iload hx dX11_put_8 0 rfl ?_
    refine WS.if_ne (tgt := 37) hx dX11_put_10 (by decide) (fun _ => ?_) (fun h => absurd h (by decide))
    refine WS.iload hx dX11_put_37 0 rfl ?_
    refine WS.if_ne (tgt := 46) hx dX11_put_39 (by decide) (fun _ => ?_) (fun h => absurd h (by decide))
    refine WS.iload hx dX11_put_46 0 rfl ?_
    exact WS.iret hx he dX11_put_48 ⟨_, rfl, by (try dsimp only); rw [if_neg (fun h => h hr3), if_neg ha3, if_neg (fun h => h hc3), if_pos hd3]; exact ⟨rfl, rfl⟩⟩
  · skip
    show WS layM V 6 X σ 6 [(0, rf V 0), (1, .int f), (2, .int i), (3, .long x)] [.int 0]
    have hsh := sh_nn hr3
    have hsr := hS.r hsh hc3
    have hzz := nn_int hsr.1.1
    have hz60 := hsr.1
    unfold rg at hz60
    have hii := nn_int hd3.1
    have hin : nn i < 60 := by omega
    have hq9 := nn_int hsr.2.1.1
    have hq4 := hsr.2.1
    unfold rg at hq4
    refine WS.istore (lo' := [(5, .int 0), (0, rf V 0), (1, .int f), (2, .int i), (3, .long x)]) hx dX11_put_6 (by decide) rfl ?_
    refine WS.iload hx dX11_put_8 0 rfl ?_
    refine WS.if_ne (tgt := 37) hx dX11_put_10 (by decide) (fun h => absurd (by decide) h) (fun _ => ?_)
    refine WS.aload_n hx dX11_put_13 rfl 1 rfl ?_
    refine WS.getR hx okX11 lf11_83 rfl rfl dX11_put_14 ?_
    refine WS.bipush (v := 60) hx dX11_put_17 (by decide) ?_
    refine WS.iload_n hx dX11_put_19 rfl 2 rfl ?_
    refine WS.as rfl rfl (congrArg (fun z => Value.int z :: _) (show f = nI (nn f) from (nI_nn hr3.1).symm)) ?_
    skip
    refine WS.imul hx dX11_put_20 ?_
    refine WS.as rfl rfl (congrArg (fun z => Value.int z :: _) (show 60 * (nI (nn f)) = nI (60 * nn f) from pk_mul 60 _)) ?_
    skip
    refine WS.iload_n hx dX11_put_21 rfl 3 rfl ?_
    refine WS.iadd hx dX11_put_22 ?_
    refine WS.as rfl rfl (congrArg (fun z => Value.int z :: _) (show (nI (60 * nn f)) + i = nI (60 * nn f + nn i) from by rw [← nI_add, nI_nn hd3.1])) ?_
    skip
    refine WS.aload_n hx dX11_put_23 rfl 1 rfl ?_
    refine WS.getR hx okX11 lf11_77 rfl rfl dX11_put_24 ?_
    refine WS.iload_n hx dX11_put_27 rfl 2 rfl ?_
    refine WS.iald hx rfl (sh_in hr3) dX11_put_28 ?_
    refine WS.as rfl rfl (congrArg (fun z => Value.int z :: _) (show σ.1 23 (nn f) = nI (50 + nn (κ.1 (52 + nn f) 3)) from hsr.2.2.1)) ?_
    skip
    refine WS.bipush (v := 50) hx dX11_put_29 (by decide) ?_
    refine WS.isub hx dX11_put_31 ?_
    refine WS.as rfl rfl (congrArg (fun z => Value.int z :: _) (show (nI (50 + nn (κ.1 (52 + nn f) 3))) - 50 = κ.1 (52 + nn f) 3 from by
    rw [show (50 : Int32) = nI 50 from rfl, pk_sub (by omega), show 50 + nn (κ.1 (52 + nn f) 3) - 50 = nn (κ.1 (52 + nn f) 3) by omega]; exact nI_nn hq4.1)) ?_
    skip
    refine WS.lload_n hx dX11_put_32 rfl 4 rfl ?_
    refine WS.callSl (st := [.int (nI (60 * nn f + nn i)), rf V 25]) [.int (κ.1 (52 + nn f) 3), .long x] hx (c_X11_asSort V (d + 2) σ (κ.1 (52 + nn f) 3) x hq4) okX11_asSort lm11_352 rfl rfl (Nat.le_of_ble_eq_true rfl) dX11_put_33 (fun v4 σ5 h6 => ?_)
    obtain ⟨rfl, rfl⟩ := h6
    show WS layM V 6 X σ 36 [(5, .int 0), (0, rf V 0), (1, .int f), (2, .int i), (3, .long x)] [.long (cutV (κ.1 (52 + nn f) 3) x), .int (nI (60 * nn f + nn i)), rf V 25]
    refine WS.last hx rfl (vp_in_nI (by omega) (by decide)) dX11_put_36 ?_
    refine WS.iload hx dX11_put_37 0 rfl ?_
    refine WS.if_ne (tgt := 46) hx dX11_put_39 (by decide) (fun h => absurd (by decide) h) (fun _ => ?_)
    refine WS.iconst (v := 1) hx dX11_put_42 (by decide) ?_
    refine WS.goto (tgt := 48) hx dX11_put_43 (by decide) ?_
    exact WS.iret hx he dX11_put_48 ⟨_, rfl, by (try dsimp only); rw [if_neg (fun h => h hr3), if_neg ha3, if_neg (fun h => h hc3), if_neg (fun h => h hd3)]; exact ⟨rfl, by (try simp only [nn_nI (show 60 * nn f + nn i < 2 ^ 31 by omega), nI_clamp (show 60 * nn f + nn i < 2 ^ 31 by omega)])⟩⟩
set_option maxHeartbeats 1000000 in
theorem c_X11_element (V : Vt) (d : Nat) (σ : Sg) (κ : Sg) (z9 : Nat) (hz9 : z9 ≤ 50) (hS : SR κ σ z9) (f i : Int32) : CT layM V mX11_element (d + 3) [rf V 0, .int f, .int i] σ (Rl fun v σ' => (if ¬ (0 ≤ f.toInt ∧ f.toInt ≤ 5) then v = -9223372036854775808 ∧ σ' = σ else (if κ.1 (52 + nn f) 1 = 0 then v = -9223372036854775808 ∧ σ' = σ else (if ¬ κ.1 (52 + nn f) 1 = 2 then v = -9223372036854775808 ∧ σ' = σ else (if ¬ (0 ≤ i.toInt ∧ i.toInt < nn (κ.1 (52 + nn f) 4)) then v = -9223372036854775808 ∧ σ' = σ else (v = κ.2.1 (58 + nn f) (nn i) ∧ σ' = σ)))))) := by
  refine CT.of (own := RX11) rfl (by decide) (Nat.le_of_ble_eq_true rfl) (fun X (hx : Ok V RX11 cX11_element 3 (d + 3) X) (he : En layM V (some .long) (Rl fun v σ' => (if ¬ (0 ≤ f.toInt ∧ f.toInt ≤ 5) then v = -9223372036854775808 ∧ σ' = σ else (if κ.1 (52 + nn f) 1 = 0 then v = -9223372036854775808 ∧ σ' = σ else (if ¬ κ.1 (52 + nn f) 1 = 2 then v = -9223372036854775808 ∧ σ' = σ else (if ¬ (0 ≤ i.toInt ∧ i.toInt < nn (κ.1 (52 + nn f) 4)) then v = -9223372036854775808 ∧ σ' = σ else (v = κ.2.1 (58 + nn f) (nn i) ∧ σ' = σ)))))) X) => ?_)
  change WS layM V 3 X σ 0 [(0, rf V 0), (1, .int f), (2, .int i)] []
  refine WS.aload_n hx dX11_element_0 rfl 0 rfl ?_
  refine WS.iload_n hx dX11_element_1 rfl 1 rfl ?_
  refine WS.iload_n hx dX11_element_2 rfl 2 rfl ?_
  refine WS.callVi (st := []) [.int f, .int i] hx (c_X11_refusal V d σ κ z9 hz9 hS f i) okX11_refusal lm11_349 rfl rfl rfl rfl (Nat.le_of_ble_eq_true rfl) dX11_element_3 (fun v1 σ2 h3 => ?_)
  rcases h3 with ⟨hr3, rfl, rfl⟩ | ⟨hr3, ha3, rfl, rfl⟩ | ⟨hr3, ha3, hc3, rfl, rfl⟩ | ⟨hr3, ha3, hc3, hd3, rfl, rfl⟩ | ⟨hr3, ha3, hc3, hd3, rfl, rfl⟩
  · skip
    show WS layM V 3 X σ 6 [(0, rf V 0), (1, .int f), (2, .int i)] [.int (-1)]
    refine WS.if_eq (tgt := 15) hx dX11_element_6 (by decide) (fun h => absurd h (by decide)) (fun _ => ?_)
    refine WS.ldc2 (v := (-9223372036854775808)) hx lc11_281 dX11_element_9 ?_
    refine WS.goto (tgt := 26) hx dX11_element_12 (by decide) ?_
    exact WS.lret hx he dX11_element_26 ⟨_, rfl, by (try dsimp only); first | (rw [if_pos hr3]; exact ⟨rfl, rfl⟩) | (rw [if_neg (fun h => h hr3), if_pos ha3]; exact ⟨rfl, rfl⟩) | (rw [if_neg (fun h => h hr3), if_neg ha3, if_pos hc3]; exact ⟨rfl, rfl⟩) | (rw [if_neg (fun h => h hr3), if_neg ha3, if_neg (fun h => h hc3), if_pos hd3]; exact ⟨rfl, rfl⟩)⟩
  · skip
    show WS layM V 3 X σ 6 [(0, rf V 0), (1, .int f), (2, .int i)] [.int (-11)]
    refine WS.if_eq (tgt := 15) hx dX11_element_6 (by decide) (fun h => absurd h (by decide)) (fun _ => ?_)
    refine WS.ldc2 (v := (-9223372036854775808)) hx lc11_281 dX11_element_9 ?_
    refine WS.goto (tgt := 26) hx dX11_element_12 (by decide) ?_
    exact WS.lret hx he dX11_element_26 ⟨_, rfl, by (try dsimp only); first | (rw [if_pos hr3]; exact ⟨rfl, rfl⟩) | (rw [if_neg (fun h => h hr3), if_pos ha3]; exact ⟨rfl, rfl⟩) | (rw [if_neg (fun h => h hr3), if_neg ha3, if_pos hc3]; exact ⟨rfl, rfl⟩) | (rw [if_neg (fun h => h hr3), if_neg ha3, if_neg (fun h => h hc3), if_pos hd3]; exact ⟨rfl, rfl⟩)⟩
  · skip
    show WS layM V 3 X σ 6 [(0, rf V 0), (1, .int f), (2, .int i)] [.int (-12)]
    refine WS.if_eq (tgt := 15) hx dX11_element_6 (by decide) (fun h => absurd h (by decide)) (fun _ => ?_)
    refine WS.ldc2 (v := (-9223372036854775808)) hx lc11_281 dX11_element_9 ?_
    refine WS.goto (tgt := 26) hx dX11_element_12 (by decide) ?_
    exact WS.lret hx he dX11_element_26 ⟨_, rfl, by (try dsimp only); first | (rw [if_pos hr3]; exact ⟨rfl, rfl⟩) | (rw [if_neg (fun h => h hr3), if_pos ha3]; exact ⟨rfl, rfl⟩) | (rw [if_neg (fun h => h hr3), if_neg ha3, if_pos hc3]; exact ⟨rfl, rfl⟩) | (rw [if_neg (fun h => h hr3), if_neg ha3, if_neg (fun h => h hc3), if_pos hd3]; exact ⟨rfl, rfl⟩)⟩
  · skip
    show WS layM V 3 X σ 6 [(0, rf V 0), (1, .int f), (2, .int i)] [.int (-13)]
    refine WS.if_eq (tgt := 15) hx dX11_element_6 (by decide) (fun h => absurd h (by decide)) (fun _ => ?_)
    refine WS.ldc2 (v := (-9223372036854775808)) hx lc11_281 dX11_element_9 ?_
    refine WS.goto (tgt := 26) hx dX11_element_12 (by decide) ?_
    exact WS.lret hx he dX11_element_26 ⟨_, rfl, by (try dsimp only); first | (rw [if_pos hr3]; exact ⟨rfl, rfl⟩) | (rw [if_neg (fun h => h hr3), if_pos ha3]; exact ⟨rfl, rfl⟩) | (rw [if_neg (fun h => h hr3), if_neg ha3, if_pos hc3]; exact ⟨rfl, rfl⟩) | (rw [if_neg (fun h => h hr3), if_neg ha3, if_neg (fun h => h hc3), if_pos hd3]; exact ⟨rfl, rfl⟩)⟩
  · skip
    show WS layM V 3 X σ 6 [(0, rf V 0), (1, .int f), (2, .int i)] [.int 0]
    have hsh := sh_nn hr3
    have hsr := hS.r hsh hc3
    have hzz := nn_int hsr.1.1
    have hz60 := hsr.1
    unfold rg at hz60
    have hii := nn_int hd3.1
    have hin : nn i < 60 := by omega
    have hq9 := nn_int hsr.2.1.1
    have hq4 := hsr.2.1
    unfold rg at hq4
    refine WS.if_eq (tgt := 15) hx dX11_element_6 (by decide) (fun _ => ?_) (fun h => absurd (by decide) h)
    refine WS.aload_n hx dX11_element_15 rfl 0 rfl ?_
    refine WS.getR hx okX11 lf11_83 rfl rfl dX11_element_16 ?_
    refine WS.bipush (v := 60) hx dX11_element_19 (by decide) ?_
    refine WS.iload_n hx dX11_element_21 rfl 1 rfl ?_
    refine WS.as rfl rfl (congrArg (fun z => Value.int z :: _) (show f = nI (nn f) from (nI_nn hr3.1).symm)) ?_
    skip
    refine WS.imul hx dX11_element_22 ?_
    refine WS.as rfl rfl (congrArg (fun z => Value.int z :: _) (show 60 * (nI (nn f)) = nI (60 * nn f) from pk_mul 60 _)) ?_
    skip
    refine WS.iload_n hx dX11_element_23 rfl 2 rfl ?_
    refine WS.iadd hx dX11_element_24 ?_
    refine WS.as rfl rfl (congrArg (fun z => Value.int z :: _) (show (nI (60 * nn f)) + i = nI (60 * nn f + nn i) from by rw [← nI_add, nI_nn hd3.1])) ?_
    skip
    refine WS.lald hx rfl (vp_in_nI (by omega) (by decide)) dX11_element_25 ?_
    exact WS.lret hx he dX11_element_26 ⟨_, rfl, by (try dsimp only); rw [if_neg (fun h => h hr3), if_neg ha3, if_neg (fun h => h hc3), if_neg (fun h => h hd3)]; exact ⟨by (try simp only [nn_nI (show 60 * nn f + nn i < 2 ^ 31 by omega), nI_clamp (show 60 * nn f + nn i < 2 ^ 31 by omega)]); exact hsr.2.2.2.2 (nn i) hin, rfl⟩⟩

theorem CG_0 {κ : Sg} {n : Nat} (hn : n ≤ 10) : CG n (orW (fun b => decide (¬ κ.1 14 b = 1)) nI n) (orW (fun b => decide (κ.1 14 b = 1)) nI n) := by
  refine ⟨fun b hb => ?_, fun i h1 h2 => ?_⟩
  · rw [cl_b hn hb, cl_b hn hb]
    by_cases h : κ.1 14 b = 1
    · rw [decide_eq_true h, decide_eq_false (fun g => g h)]; rfl
    · rw [decide_eq_false h, decide_eq_true h]; rfl
  · have e : ∀ p : Nat → Bool, bt (orW p nI n) i = false := by
      intro p
      have e : orW p nI n = orW p (fun k => nI (k % 32)) n := orW_cg n (fun k hk => ⟨rfl, fun _ => by rw [Nat.mod_eq_of_lt (by omega)]⟩)
      cases h3 : bt (orW p nI n) i with
      | false => rfl
      | true =>
        rw [e] at h3
        obtain ⟨k, hk, _, g2⟩ := (b_orW (p := p) (a := fun k => k % 32) (fun k => Nat.mod_lt _ (by decide)) h2 n).mp h3
        (try dsimp only at g2)
        rw [Nat.mod_eq_of_lt (by omega)] at g2
        omega
    exact ⟨e _, e _⟩
def pI : Nat → Int32
  | 0 => -1
  | j + 1 => nI j
theorem pI_s (j : Nat) : nI j + (-1) = pI j := by
  cases j with
  | zero => decide
  | succ j => show nI (j + 1) + (-1) = nI j; rw [← nI_1, Int32.add_assoc, show (1 : Int32) + (-1) = 0 from by decide, Int32.add_zero]
theorem pI_n (n : Nat) : nI n - 1 = pI n := by rw [← pI_s, Int32.sub_eq_add_neg]
set_option maxHeartbeats 1000000 in
theorem lg_X11_byTurns (V : Vt) (d : Nat) (τ κ : Sg) (n : Nat) (lw : Lw) (hM : MR κ τ n) (hT : MT τ n (ms0 (wdM κ n lw))) (x q : Int32) (X : Xt) (hx : Ok V RX11 cX11_byTurns 7 (d + 6) X) (hC : WS layM V 7 X τ 71 [(4, .int (nI n)), (3, .int (orW (fun b => decide (κ.1 14 b = 1)) nI n)), (0, rf V 0), (1, .int x), (2, .int q)] []) : ∀ (i : Nat), i ≤ n → WS layM V 7 X τ 35 [(4, .int (nI i)), (3, .int (orW (fun b => decide (κ.1 14 b = 1)) nI i)), (0, rf V 0), (1, .int x), (2, .int q)] [] := by
  have hn := hM.n
  have hnI : (nI n).toInt = (n : Int) := nI_c (by omega)
  intro i
  induction hm : n - i using Nat.strongRecOn generalizing i with
  | _ m9 ih =>
    intro hi
    have hiI : (nI i).toInt = (i : Int) := nI_c (by omega)
    refine WS.iload hx dX11_byTurns_35 0 rfl ?_
    refine WS.aload_n hx dX11_byTurns_37 rfl 2 rfl ?_
    refine WS.getI hx okX11 lf11_97 rfl rfl dX11_byTurns_38 ?_
    refine WS.as rfl rfl (congrArg (fun z => Value.int z :: _) (show τ.1 0 6 = nI n from hM.s)) ?_
    skip
    refine WS.icmp_ge (tgt := 71) hx dX11_byTurns_41 (by decide) (fun c41 => ?_) (fun c41 => ?_)
    · skip
      show WS layM V 7 X τ 71 [(4, .int (nI i)), (3, .int (orW (fun b => decide (κ.1 14 b = 1)) nI i)), (0, rf V 0), (1, .int x), (2, .int q)] []
      have hin : i = n := by (try simp only [l_int, tL_0, tL_1, tL_2, tL_4, tL_5, tL_6, tL_7, tL_9, tL_10, tL_12, tL_15, tL_30, tL_40, tL_60, tL_99, tL_255, tL_1023, tL_m1, lc_lt, lc_gt, lc_ge, lc_le, lc_eq, l6_le, l6_lt, l6_eq, tI_m133, tI_m226, i_le, i_lt, i_eq, tI_0, tI_1, tI_10] at c41); (try simp only [l_int, tL_0, tL_1, tL_2, tL_4, tL_5, tL_6, tL_7, tL_9, tL_10, tL_12, tL_15, tL_30, tL_40, tL_60, tL_99, tL_255, tL_1023, tL_m1, lc_lt, lc_gt, lc_ge, lc_le, lc_eq, l6_le, l6_lt, l6_eq, tI_m133, tI_m226, i_le, i_lt, i_eq, tI_0, tI_1, tI_10]); omega
      subst hin
      exact WS.los [0, 1, 2, 3, 4] rfl hC
    · skip
      show WS layM V 7 X τ 44 [(4, .int (nI i)), (3, .int (orW (fun b => decide (κ.1 14 b = 1)) nI i)), (0, rf V 0), (1, .int x), (2, .int q)] []
      refine WS.iload_n hx dX11_byTurns_44 rfl 1 rfl ?_
      refine WS.aload_n hx dX11_byTurns_45 rfl 2 rfl ?_
      refine WS.getR hx okX11 lf11_52 rfl rfl dX11_byTurns_46 ?_
      refine WS.iload hx dX11_byTurns_49 0 rfl ?_
      refine WS.zald hx rfl (vp_in_nI (by (try simp only [l_int, tL_0, tL_1, tL_2, tL_4, tL_5, tL_6, tL_7, tL_9, tL_10, tL_12, tL_15, tL_30, tL_40, tL_60, tL_99, tL_255, tL_1023, tL_m1, lc_lt, lc_gt, lc_ge, lc_le, lc_eq, l6_le, l6_lt, l6_eq, tI_m133, tI_m226, i_le, i_lt, i_eq, tI_0, tI_1, tI_10] at c41); (try simp only [l_int, tL_0, tL_1, tL_2, tL_4, tL_5, tL_6, tL_7, tL_9, tL_10, tL_12, tL_15, tL_30, tL_40, tL_60, tL_99, tL_255, tL_1023, tL_m1, lc_lt, lc_gt, lc_ge, lc_le, lc_eq, l6_le, l6_lt, l6_eq, tI_m133, tI_m226, i_le, i_lt, i_eq, tI_0, tI_1, tI_10]); omega) (by decide)) dX11_byTurns_51 ?_
      refine WS.as rfl rfl (congrArg (fun z => Value.int z :: _) (show τ.1 15 (nn (nI i)) = bI (decide (κ.1 14 i = 1)) from by rw [nn_nI (by omega)]; exact (hT.1 i (by (try simp only [l_int, tL_0, tL_1, tL_2, tL_4, tL_5, tL_6, tL_7, tL_9, tL_10, tL_12, tL_15, tL_30, tL_40, tL_60, tL_99, tL_255, tL_1023, tL_m1, lc_lt, lc_gt, lc_ge, lc_le, lc_eq, l6_le, l6_lt, l6_eq, tI_m133, tI_m226, i_le, i_lt, i_eq, tI_0, tI_1, tI_10] at c41); (try simp only [l_int, tL_0, tL_1, tL_2, tL_4, tL_5, tL_6, tL_7, tL_9, tL_10, tL_12, tL_15, tL_30, tL_40, tL_60, tL_99, tL_255, tL_1023, tL_m1, lc_lt, lc_gt, lc_ge, lc_le, lc_eq, l6_le, l6_lt, l6_eq, tI_m133, tI_m226, i_le, i_lt, i_eq, tI_0, tI_1, tI_10]); omega)).2.2)) ?_
      skip
      refine WS.if_eq (tgt := 62) hx dX11_byTurns_52 (by decide) (fun c52 => ?_) (fun c52 => ?_)
      · skip
        show WS layM V 7 X τ 62 [(4, .int (nI i)), (3, .int (orW (fun b => decide (κ.1 14 b = 1)) nI i)), (0, rf V 0), (1, .int x), (2, .int q)] [.int (orW (fun b => decide (κ.1 14 b = 1)) nI i)]
        refine WS.iconst (v := 0) hx dX11_byTurns_62 (by decide) ?_
        refine WS.ior hx dX11_byTurns_63 ?_
        refine WS.as rfl rfl (congrArg (fun z => Value.int z :: _) (show (orW (fun b => decide (κ.1 14 b = 1)) nI i) ||| 0 = (orW (fun b => decide (κ.1 14 b = 1)) nI (i + 1)) from by
    show _ = (if decide (κ.1 14 i = 1) = true then orW _ nI i ||| ((1 : Int32) <<< (nI i &&& 31)) else orW _ nI i)
    first | (rw [if_neg (by rw [bI_0.mp c52]; decide)]; exact Int32.or_zero) | rw [if_pos (by cases h9 : decide (κ.1 14 i = 1) with | true => rfl | false => rw [h9] at c52; exact absurd rfl c52)])) ?_
        skip
        refine WS.istore_n (lo' := [(3, .int (orW (fun b => decide (κ.1 14 b = 1)) nI (i + 1))), (4, .int (nI i)), (0, rf V 0), (1, .int x), (2, .int q)]) hx dX11_byTurns_64 rfl (by decide) rfl ?_
        refine WS.iinc (v := nI (i + 1)) (lo' := [(4, .int (nI (i + 1))), (3, .int (orW (fun b => decide (κ.1 14 b = 1)) nI (i + 1))), (0, rf V 0), (1, .int x), (2, .int q)]) hx dX11_byTurns_65 1 rfl (nI_1 i) (by decide) rfl ?_
        refine WS.goto (tgt := 35) hx dX11_byTurns_68 (by decide) ?_
        exact WS.los [0, 1, 2, 3, 4] rfl (ih _ (by (try simp only [l_int, tL_0, tL_1, tL_2, tL_4, tL_5, tL_6, tL_7, tL_9, tL_10, tL_12, tL_15, tL_30, tL_40, tL_60, tL_99, tL_255, tL_1023, tL_m1, lc_lt, lc_gt, lc_ge, lc_le, lc_eq, l6_le, l6_lt, l6_eq, tI_m133, tI_m226, i_le, i_lt, i_eq, tI_0, tI_1, tI_10] at c41); (try simp only [l_int, tL_0, tL_1, tL_2, tL_4, tL_5, tL_6, tL_7, tL_9, tL_10, tL_12, tL_15, tL_30, tL_40, tL_60, tL_99, tL_255, tL_1023, tL_m1, lc_lt, lc_gt, lc_ge, lc_le, lc_eq, l6_le, l6_lt, l6_eq, tI_m133, tI_m226, i_le, i_lt, i_eq, tI_0, tI_1, tI_10] at c52); (try simp only [l_int, tL_0, tL_1, tL_2, tL_4, tL_5, tL_6, tL_7, tL_9, tL_10, tL_12, tL_15, tL_30, tL_40, tL_60, tL_99, tL_255, tL_1023, tL_m1, lc_lt, lc_gt, lc_ge, lc_le, lc_eq, l6_le, l6_lt, l6_eq, tI_m133, tI_m226, i_le, i_lt, i_eq, tI_0, tI_1, tI_10]); omega) (i + 1) rfl (by (try simp only [l_int, tL_0, tL_1, tL_2, tL_4, tL_5, tL_6, tL_7, tL_9, tL_10, tL_12, tL_15, tL_30, tL_40, tL_60, tL_99, tL_255, tL_1023, tL_m1, lc_lt, lc_gt, lc_ge, lc_le, lc_eq, l6_le, l6_lt, l6_eq, tI_m133, tI_m226, i_le, i_lt, i_eq, tI_0, tI_1, tI_10] at c41); (try simp only [l_int, tL_0, tL_1, tL_2, tL_4, tL_5, tL_6, tL_7, tL_9, tL_10, tL_12, tL_15, tL_30, tL_40, tL_60, tL_99, tL_255, tL_1023, tL_m1, lc_lt, lc_gt, lc_ge, lc_le, lc_eq, l6_le, l6_lt, l6_eq, tI_m133, tI_m226, i_le, i_lt, i_eq, tI_0, tI_1, tI_10] at c52); (try simp only [l_int, tL_0, tL_1, tL_2, tL_4, tL_5, tL_6, tL_7, tL_9, tL_10, tL_12, tL_15, tL_30, tL_40, tL_60, tL_99, tL_255, tL_1023, tL_m1, lc_lt, lc_gt, lc_ge, lc_le, lc_eq, l6_le, l6_lt, l6_eq, tI_m133, tI_m226, i_le, i_lt, i_eq, tI_0, tI_1, tI_10]); omega))
      · skip
        show WS layM V 7 X τ 55 [(4, .int (nI i)), (3, .int (orW (fun b => decide (κ.1 14 b = 1)) nI i)), (0, rf V 0), (1, .int x), (2, .int q)] [.int (orW (fun b => decide (κ.1 14 b = 1)) nI i)]
        refine WS.iconst (v := 1) hx dX11_byTurns_55 (by decide) ?_
        refine WS.iload hx dX11_byTurns_56 0 rfl ?_
        refine WS.ishl hx dX11_byTurns_58 ?_
        refine WS.goto (tgt := 63) hx dX11_byTurns_59 (by decide) ?_
        refine WS.ior hx dX11_byTurns_63 ?_
        refine WS.as rfl rfl (congrArg (fun z => Value.int z :: _) (show (orW (fun b => decide (κ.1 14 b = 1)) nI i) ||| (1 <<< ((nI i) &&& 31)) = (orW (fun b => decide (κ.1 14 b = 1)) nI (i + 1)) from by
    show _ = (if decide (κ.1 14 i = 1) = true then orW _ nI i ||| ((1 : Int32) <<< (nI i &&& 31)) else orW _ nI i)
    first | (rw [if_neg (by rw [bI_0.mp c52]; decide)]; exact Int32.or_zero) | rw [if_pos (by cases h9 : decide (κ.1 14 i = 1) with | true => rfl | false => rw [h9] at c52; exact absurd rfl c52)])) ?_
        skip
        refine WS.istore_n (lo' := [(3, .int (orW (fun b => decide (κ.1 14 b = 1)) nI (i + 1))), (4, .int (nI i)), (0, rf V 0), (1, .int x), (2, .int q)]) hx dX11_byTurns_64 rfl (by decide) rfl ?_
        refine WS.iinc (v := nI (i + 1)) (lo' := [(4, .int (nI (i + 1))), (3, .int (orW (fun b => decide (κ.1 14 b = 1)) nI (i + 1))), (0, rf V 0), (1, .int x), (2, .int q)]) hx dX11_byTurns_65 1 rfl (nI_1 i) (by decide) rfl ?_
        refine WS.goto (tgt := 35) hx dX11_byTurns_68 (by decide) ?_
        exact WS.los [0, 1, 2, 3, 4] rfl (ih _ (by (try simp only [l_int, tL_0, tL_1, tL_2, tL_4, tL_5, tL_6, tL_7, tL_9, tL_10, tL_12, tL_15, tL_30, tL_40, tL_60, tL_99, tL_255, tL_1023, tL_m1, lc_lt, lc_gt, lc_ge, lc_le, lc_eq, l6_le, l6_lt, l6_eq, tI_m133, tI_m226, i_le, i_lt, i_eq, tI_0, tI_1, tI_10] at c41); (try simp only [l_int, tL_0, tL_1, tL_2, tL_4, tL_5, tL_6, tL_7, tL_9, tL_10, tL_12, tL_15, tL_30, tL_40, tL_60, tL_99, tL_255, tL_1023, tL_m1, lc_lt, lc_gt, lc_ge, lc_le, lc_eq, l6_le, l6_lt, l6_eq, tI_m133, tI_m226, i_le, i_lt, i_eq, tI_0, tI_1, tI_10] at c52); (try simp only [l_int, tL_0, tL_1, tL_2, tL_4, tL_5, tL_6, tL_7, tL_9, tL_10, tL_12, tL_15, tL_30, tL_40, tL_60, tL_99, tL_255, tL_1023, tL_m1, lc_lt, lc_gt, lc_ge, lc_le, lc_eq, l6_le, l6_lt, l6_eq, tI_m133, tI_m226, i_le, i_lt, i_eq, tI_0, tI_1, tI_10]); omega) (i + 1) rfl (by (try simp only [l_int, tL_0, tL_1, tL_2, tL_4, tL_5, tL_6, tL_7, tL_9, tL_10, tL_12, tL_15, tL_30, tL_40, tL_60, tL_99, tL_255, tL_1023, tL_m1, lc_lt, lc_gt, lc_ge, lc_le, lc_eq, l6_le, l6_lt, l6_eq, tI_m133, tI_m226, i_le, i_lt, i_eq, tI_0, tI_1, tI_10] at c41); (try simp only [l_int, tL_0, tL_1, tL_2, tL_4, tL_5, tL_6, tL_7, tL_9, tL_10, tL_12, tL_15, tL_30, tL_40, tL_60, tL_99, tL_255, tL_1023, tL_m1, lc_lt, lc_gt, lc_ge, lc_le, lc_eq, l6_le, l6_lt, l6_eq, tI_m133, tI_m226, i_le, i_lt, i_eq, tI_0, tI_1, tI_10] at c52); (try simp only [l_int, tL_0, tL_1, tL_2, tL_4, tL_5, tL_6, tL_7, tL_9, tL_10, tL_12, tL_15, tL_30, tL_40, tL_60, tL_99, tL_255, tL_1023, tL_m1, lc_lt, lc_gt, lc_ge, lc_le, lc_eq, l6_le, l6_lt, l6_eq, tI_m133, tI_m226, i_le, i_lt, i_eq, tI_0, tI_1, tI_10]); omega))
set_option maxHeartbeats 1000000 in
theorem lf_X11_byTurns (V : Vt) (d : Nat) (τ κ : Sg) (n : Nat) (lw : Lw) (hM : MR κ τ n) (hT : MT τ n (ms0 (wdM κ n lw))) (x q : Int32) (t : Nat) (ht : t ≤ 3) (hx9 : x = nI (t + 1)) (P : Int32 → Sg → Prop) (X : Xt) (hx : Ok V RX11 cX11_byTurns 7 (d + 6) X) (he : En layM V (some .int) (Ri P) X) (hP : P (fch κ n t (orW (fun b => decide (¬ κ.1 14 b = 1)) nI n) (bgF κ n (t + 1) (orW (fun b => decide (¬ κ.1 14 b = 1)) nI n)) n 0) τ) : ∀ (i : Nat), i ≤ n → WS layM V 7 X τ 99 [(6, .int (pI i)), (5, .int (fch κ n t (orW (fun b => decide (¬ κ.1 14 b = 1)) nI n) (bgF κ n (t + 1) (orW (fun b => decide (¬ κ.1 14 b = 1)) nI n)) (n - i) i)), (4, .int (bgF κ n (t + 1) (orW (fun b => decide (¬ κ.1 14 b = 1)) nI n))), (3, .int (orW (fun b => decide (κ.1 14 b = 1)) nI n)), (0, rf V 0), (1, .int x), (2, .int q)] [] := by
  have hn := hM.n
  intro i
  induction i with
  | zero =>
    intro hi
    show WS layM V 7 X τ 99 [(6, .int (-1)), (5, .int (fch κ n t (orW (fun b => decide (¬ κ.1 14 b = 1)) nI n) (bgF κ n (t + 1) (orW (fun b => decide (¬ κ.1 14 b = 1)) nI n)) (n - 0) 0)), (4, .int (bgF κ n (t + 1) (orW (fun b => decide (¬ κ.1 14 b = 1)) nI n))), (3, .int (orW (fun b => decide (κ.1 14 b = 1)) nI n)), (0, rf V 0), (1, .int x), (2, .int q)] []
    refine WS.iload hx dX11_byTurns_99 0 rfl ?_
    refine WS.if_lt (tgt := 152) hx dX11_byTurns_101 (by decide) (fun _ => ?_) (fun h => absurd (by decide) h)
    refine WS.iload hx dX11_byTurns_152 1 rfl ?_
    exact WS.iret hx he dX11_byTurns_154 ⟨_, rfl, hP⟩
  | succ j ih =>
    intro hi
    show WS layM V 7 X τ 99 [(6, .int (nI j)), (5, .int (fch κ n t (orW (fun b => decide (¬ κ.1 14 b = 1)) nI n) (bgF κ n (t + 1) (orW (fun b => decide (¬ κ.1 14 b = 1)) nI n)) (n - (j + 1)) (j + 1))), (4, .int (bgF κ n (t + 1) (orW (fun b => decide (¬ κ.1 14 b = 1)) nI n))), (3, .int (orW (fun b => decide (κ.1 14 b = 1)) nI n)), (0, rf V 0), (1, .int x), (2, .int q)] []
    refine WS.iload hx dX11_byTurns_99 0 rfl ?_
    refine WS.if_lt (tgt := 152) hx dX11_byTurns_101 (by decide) (fun c101 => absurd c101 (nI_pos (by omega))) (fun c101 => ?_)
    refine WS.iload_n hx dX11_byTurns_104 rfl 3 rfl ?_
    refine WS.iload hx dX11_byTurns_105 0 rfl ?_
    refine WS.callSi (st := []) [.int (orW (fun b => decide (κ.1 14 b = 1)) nI n), .int (nI j)] hx (c_X11_isIn V (d + 5) τ (orW (fun b => decide (κ.1 14 b = 1)) nI n) (nI j)) okX11_isIn lm11_261 rfl rfl (Nat.le_of_ble_eq_true rfl) dX11_byTurns_107 (fun v1 σ2 h3 => ?_)
    rcases h3 with ⟨rfl, rfl, hb107⟩ | ⟨rfl, rfl, hb107⟩
    · skip
      show WS layM V 7 X τ 110 [(6, .int (nI j)), (5, .int (fch κ n t (orW (fun b => decide (¬ κ.1 14 b = 1)) nI n) (bgF κ n (t + 1) (orW (fun b => decide (¬ κ.1 14 b = 1)) nI n)) (n - (j + 1)) (j + 1))), (4, .int (bgF κ n (t + 1) (orW (fun b => decide (¬ κ.1 14 b = 1)) nI n))), (3, .int (orW (fun b => decide (κ.1 14 b = 1)) nI n)), (0, rf V 0), (1, .int x), (2, .int q)] [.int 1]
      have hp9 : ¬ bitP (orW (fun b => decide (¬ κ.1 14 b = 1)) nI n) j = true := by rw [(CG_0 hn).1 j (by omega), bP_t hb107]; decide
      refine WS.if_ne (tgt := 142) hx dX11_byTurns_110 (by decide) (fun _ => ?_) (fun h => absurd h (by decide))
      refine WS.iload hx dX11_byTurns_142 1 rfl ?_
      refine WS.as rfl rfl (congrArg (fun z => Value.int z :: _) (show fch κ n t (orW (fun b => decide (¬ κ.1 14 b = 1)) nI n) (bgF κ n (t + 1) (orW (fun b => decide (¬ κ.1 14 b = 1)) nI n)) (n - (j + 1)) (j + 1) = fch κ n t (orW (fun b => decide (¬ κ.1 14 b = 1)) nI n) (bgF κ n (t + 1) (orW (fun b => decide (¬ κ.1 14 b = 1)) nI n)) (n - j) j from by
    show _ = fch κ n t (orW (fun b => decide (¬ κ.1 14 b = 1)) nI n) (bgF κ n (t + 1) (orW (fun b => decide (¬ κ.1 14 b = 1)) nI n)) (n - j) j
    rw [show n - j = (n - (j + 1)) + 1 by omega]
    show _ = (if bitP (orW (fun b => decide (¬ κ.1 14 b = 1)) nI n) j = true ∧ wn κ j - bgF κ n t (clr (orW (fun b => decide (¬ κ.1 14 b = 1)) nI n) j) = (bgF κ n (t + 1) (orW (fun b => decide (¬ κ.1 14 b = 1)) nI n)) then nI j else fch κ n t (orW (fun b => decide (¬ κ.1 14 b = 1)) nI n) (bgF κ n (t + 1) (orW (fun b => decide (¬ κ.1 14 b = 1)) nI n)) (n - (j + 1)) (j + 1))
    first | rw [if_neg (fun h => c134 h.2)] | rw [if_neg (fun h => hp9 h.1)])) ?_
      skip
      refine WS.istore (lo' := [(5, .int (fch κ n t (orW (fun b => decide (¬ κ.1 14 b = 1)) nI n) (bgF κ n (t + 1) (orW (fun b => decide (¬ κ.1 14 b = 1)) nI n)) (n - j) j)), (6, .int (nI j)), (4, .int (bgF κ n (t + 1) (orW (fun b => decide (¬ κ.1 14 b = 1)) nI n))), (3, .int (orW (fun b => decide (κ.1 14 b = 1)) nI n)), (0, rf V 0), (1, .int x), (2, .int q)]) hx dX11_byTurns_144 (by decide) rfl ?_
      refine WS.iinc (v := pI j) (lo' := [(6, .int (pI j)), (5, .int (fch κ n t (orW (fun b => decide (¬ κ.1 14 b = 1)) nI n) (bgF κ n (t + 1) (orW (fun b => decide (¬ κ.1 14 b = 1)) nI n)) (n - j) j)), (4, .int (bgF κ n (t + 1) (orW (fun b => decide (¬ κ.1 14 b = 1)) nI n))), (3, .int (orW (fun b => decide (κ.1 14 b = 1)) nI n)), (0, rf V 0), (1, .int x), (2, .int q)]) hx dX11_byTurns_146 1 rfl (pI_s j) (by decide) rfl ?_
      refine WS.goto (tgt := 99) hx dX11_byTurns_149 (by decide) ?_
      exact WS.los [0, 1, 2, 3, 4, 5, 6] rfl (ih (by omega))
    · skip
      show WS layM V 7 X τ 110 [(6, .int (nI j)), (5, .int (fch κ n t (orW (fun b => decide (¬ κ.1 14 b = 1)) nI n) (bgF κ n (t + 1) (orW (fun b => decide (¬ κ.1 14 b = 1)) nI n)) (n - (j + 1)) (j + 1))), (4, .int (bgF κ n (t + 1) (orW (fun b => decide (¬ κ.1 14 b = 1)) nI n))), (3, .int (orW (fun b => decide (κ.1 14 b = 1)) nI n)), (0, rf V 0), (1, .int x), (2, .int q)] [.int 0]
      have hp9 : bitP (orW (fun b => decide (¬ κ.1 14 b = 1)) nI n) j = true := by rw [(CG_0 hn).1 j (by omega), bP_f hb107]; rfl
      refine WS.if_ne (tgt := 142) hx dX11_byTurns_110 (by decide) (fun h => absurd (by decide) h) (fun _ => ?_)
      refine WS.aload_n hx dX11_byTurns_113 rfl 4 rfl ?_
      refine WS.iload hx dX11_byTurns_114 0 rfl ?_
      refine WS.callVi (st := []) [.int (nI j)] hx (c_X11_wordOf V (d + 5) τ κ n hM (ms0 (wdM κ n lw)) hT j (by omega)) okX11_wordOf lm11_219 rfl rfl rfl rfl (Nat.le_of_ble_eq_true rfl) dX11_byTurns_116 (fun v4 σ5 h6 => ?_)
      obtain ⟨rfl, rfl⟩ := h6
      show WS layM V 7 X τ 119 [(6, .int (nI j)), (5, .int (fch κ n t (orW (fun b => decide (¬ κ.1 14 b = 1)) nI n) (bgF κ n (t + 1) (orW (fun b => decide (¬ κ.1 14 b = 1)) nI n)) (n - (j + 1)) (j + 1))), (4, .int (bgF κ n (t + 1) (orW (fun b => decide (¬ κ.1 14 b = 1)) nI n))), (3, .int (orW (fun b => decide (κ.1 14 b = 1)) nI n)), (0, rf V 0), (1, .int x), (2, .int q)] [.int (κ.1 17 ((ms0 (wdM κ n lw)).1 j))]
      refine WS.aload_n hx dX11_byTurns_119 rfl 4 rfl ?_
      refine WS.iconst (v := 1) hx dX11_byTurns_120 (by decide) ?_
      refine WS.iload_n hx dX11_byTurns_121 rfl 5 rfl ?_
      refine WS.as rfl rfl (congrArg (fun z => Value.int z :: _) (show x = nI (t + 1) from hx9)) ?_
      skip
      refine WS.iload_n hx dX11_byTurns_122 rfl 3 rfl ?_
      refine WS.iconst (v := 1) hx dX11_byTurns_123 (by decide) ?_
      refine WS.iload hx dX11_byTurns_124 0 rfl ?_
      refine WS.ishl hx dX11_byTurns_126 ?_
      refine WS.ior hx dX11_byTurns_127 ?_
      refine WS.callVi (st := [.int (κ.1 17 ((ms0 (wdM κ n lw)).1 j))]) [.int 1, .int (nI (t + 1)), .int ((orW (fun b => decide (κ.1 14 b = 1)) nI n) ||| (1 <<< ((nI j) &&& 31)))] hx (by
    have h9 := c_X11_playsFrom V τ κ n lw hM hT (t + 1) (by omega) t (d + 4 - t) 1 (clr (orW (fun b => decide (¬ κ.1 14 b = 1)) nI n) j) _ (by omega) ((CG_0 (κ := κ) hn).s hn (show j < n by omega))
    rw [show d + 4 - t + t + 1 = d + 5 by omega] at h9
    exact h9) okX11_playsFrom lm11_301 rfl rfl rfl rfl (Nat.le_of_ble_eq_true rfl) dX11_byTurns_128 (fun v7 σ8 h9 => ?_)
      obtain ⟨rfl, rfl⟩ := h9
      show WS layM V 7 X τ 131 [(6, .int (nI j)), (5, .int (fch κ n t (orW (fun b => decide (¬ κ.1 14 b = 1)) nI n) (bgF κ n (t + 1) (orW (fun b => decide (¬ κ.1 14 b = 1)) nI n)) (n - (j + 1)) (j + 1))), (4, .int (bgF κ n (t + 1) (orW (fun b => decide (¬ κ.1 14 b = 1)) nI n))), (3, .int (orW (fun b => decide (κ.1 14 b = 1)) nI n)), (0, rf V 0), (1, .int x), (2, .int q)] [.int (mpV κ n 1 t (clr (orW (fun b => decide (¬ κ.1 14 b = 1)) nI n) j)), .int (κ.1 17 ((ms0 (wdM κ n lw)).1 j))]
      refine WS.as rfl rfl (congrArg (fun z => Value.int z :: _) (show mpV κ n 1 t (clr (orW (fun b => decide (¬ κ.1 14 b = 1)) nI n) j) = -bgF κ n t (clr (orW (fun b => decide (¬ κ.1 14 b = 1)) nI n) j) from by unfold mpV; rw [if_neg (by decide)])) ?_
      skip
      refine WS.iadd hx dX11_byTurns_131 ?_
      refine WS.as rfl rfl (congrArg (fun z => Value.int z :: _) (show (κ.1 17 ((ms0 (wdM κ n lw)).1 j)) + (-bgF κ n t (clr (orW (fun b => decide (¬ κ.1 14 b = 1)) nI n) j)) = wn κ j - bgF κ n t (clr (orW (fun b => decide (¬ κ.1 14 b = 1)) nI n) j) from sub_neg' _ _)) ?_
      skip
      refine WS.iload hx dX11_byTurns_132 2 rfl ?_
      refine WS.icmp_ne (tgt := 142) hx dX11_byTurns_134 (by decide) (fun c134 => ?_) (fun c134 => ?_)
      · skip
        show WS layM V 7 X τ 142 [(6, .int (nI j)), (5, .int (fch κ n t (orW (fun b => decide (¬ κ.1 14 b = 1)) nI n) (bgF κ n (t + 1) (orW (fun b => decide (¬ κ.1 14 b = 1)) nI n)) (n - (j + 1)) (j + 1))), (4, .int (bgF κ n (t + 1) (orW (fun b => decide (¬ κ.1 14 b = 1)) nI n))), (3, .int (orW (fun b => decide (κ.1 14 b = 1)) nI n)), (0, rf V 0), (1, .int x), (2, .int q)] []
        refine WS.iload hx dX11_byTurns_142 1 rfl ?_
        refine WS.as rfl rfl (congrArg (fun z => Value.int z :: _) (show fch κ n t (orW (fun b => decide (¬ κ.1 14 b = 1)) nI n) (bgF κ n (t + 1) (orW (fun b => decide (¬ κ.1 14 b = 1)) nI n)) (n - (j + 1)) (j + 1) = fch κ n t (orW (fun b => decide (¬ κ.1 14 b = 1)) nI n) (bgF κ n (t + 1) (orW (fun b => decide (¬ κ.1 14 b = 1)) nI n)) (n - j) j from by
    show _ = fch κ n t (orW (fun b => decide (¬ κ.1 14 b = 1)) nI n) (bgF κ n (t + 1) (orW (fun b => decide (¬ κ.1 14 b = 1)) nI n)) (n - j) j
    rw [show n - j = (n - (j + 1)) + 1 by omega]
    show _ = (if bitP (orW (fun b => decide (¬ κ.1 14 b = 1)) nI n) j = true ∧ wn κ j - bgF κ n t (clr (orW (fun b => decide (¬ κ.1 14 b = 1)) nI n) j) = (bgF κ n (t + 1) (orW (fun b => decide (¬ κ.1 14 b = 1)) nI n)) then nI j else fch κ n t (orW (fun b => decide (¬ κ.1 14 b = 1)) nI n) (bgF κ n (t + 1) (orW (fun b => decide (¬ κ.1 14 b = 1)) nI n)) (n - (j + 1)) (j + 1))
    first | rw [if_neg (fun h => c134 h.2)] | rw [if_neg (fun h => hp9 h.1)])) ?_
        skip
        refine WS.istore (lo' := [(5, .int (fch κ n t (orW (fun b => decide (¬ κ.1 14 b = 1)) nI n) (bgF κ n (t + 1) (orW (fun b => decide (¬ κ.1 14 b = 1)) nI n)) (n - j) j)), (6, .int (nI j)), (4, .int (bgF κ n (t + 1) (orW (fun b => decide (¬ κ.1 14 b = 1)) nI n))), (3, .int (orW (fun b => decide (κ.1 14 b = 1)) nI n)), (0, rf V 0), (1, .int x), (2, .int q)]) hx dX11_byTurns_144 (by decide) rfl ?_
        refine WS.iinc (v := pI j) (lo' := [(6, .int (pI j)), (5, .int (fch κ n t (orW (fun b => decide (¬ κ.1 14 b = 1)) nI n) (bgF κ n (t + 1) (orW (fun b => decide (¬ κ.1 14 b = 1)) nI n)) (n - j) j)), (4, .int (bgF κ n (t + 1) (orW (fun b => decide (¬ κ.1 14 b = 1)) nI n))), (3, .int (orW (fun b => decide (κ.1 14 b = 1)) nI n)), (0, rf V 0), (1, .int x), (2, .int q)]) hx dX11_byTurns_146 1 rfl (pI_s j) (by decide) rfl ?_
        refine WS.goto (tgt := 99) hx dX11_byTurns_149 (by decide) ?_
        exact WS.los [0, 1, 2, 3, 4, 5, 6] rfl (ih (by omega))
      · skip
        show WS layM V 7 X τ 137 [(6, .int (nI j)), (5, .int (fch κ n t (orW (fun b => decide (¬ κ.1 14 b = 1)) nI n) (bgF κ n (t + 1) (orW (fun b => decide (¬ κ.1 14 b = 1)) nI n)) (n - (j + 1)) (j + 1))), (4, .int (bgF κ n (t + 1) (orW (fun b => decide (¬ κ.1 14 b = 1)) nI n))), (3, .int (orW (fun b => decide (κ.1 14 b = 1)) nI n)), (0, rf V 0), (1, .int x), (2, .int q)] []
        refine WS.iload hx dX11_byTurns_137 0 rfl ?_
        refine WS.as rfl rfl (congrArg (fun z => Value.int z :: _) (show nI j = fch κ n t (orW (fun b => decide (¬ κ.1 14 b = 1)) nI n) (bgF κ n (t + 1) (orW (fun b => decide (¬ κ.1 14 b = 1)) nI n)) (n - j) j from by
    show _ = fch κ n t (orW (fun b => decide (¬ κ.1 14 b = 1)) nI n) (bgF κ n (t + 1) (orW (fun b => decide (¬ κ.1 14 b = 1)) nI n)) (n - j) j
    rw [show n - j = (n - (j + 1)) + 1 by omega]
    show _ = (if bitP (orW (fun b => decide (¬ κ.1 14 b = 1)) nI n) j = true ∧ wn κ j - bgF κ n t (clr (orW (fun b => decide (¬ κ.1 14 b = 1)) nI n) j) = (bgF κ n (t + 1) (orW (fun b => decide (¬ κ.1 14 b = 1)) nI n)) then nI j else fch κ n t (orW (fun b => decide (¬ κ.1 14 b = 1)) nI n) (bgF κ n (t + 1) (orW (fun b => decide (¬ κ.1 14 b = 1)) nI n)) (n - (j + 1)) (j + 1))
    rw [if_pos ⟨hp9, c134⟩])) ?_
        skip
        refine WS.goto (tgt := 144) hx dX11_byTurns_139 (by decide) ?_
        refine WS.istore (lo' := [(5, .int (fch κ n t (orW (fun b => decide (¬ κ.1 14 b = 1)) nI n) (bgF κ n (t + 1) (orW (fun b => decide (¬ κ.1 14 b = 1)) nI n)) (n - j) j)), (6, .int (nI j)), (4, .int (bgF κ n (t + 1) (orW (fun b => decide (¬ κ.1 14 b = 1)) nI n))), (3, .int (orW (fun b => decide (κ.1 14 b = 1)) nI n)), (0, rf V 0), (1, .int x), (2, .int q)]) hx dX11_byTurns_144 (by decide) rfl ?_
        refine WS.iinc (v := pI j) (lo' := [(6, .int (pI j)), (5, .int (fch κ n t (orW (fun b => decide (¬ κ.1 14 b = 1)) nI n) (bgF κ n (t + 1) (orW (fun b => decide (¬ κ.1 14 b = 1)) nI n)) (n - j) j)), (4, .int (bgF κ n (t + 1) (orW (fun b => decide (¬ κ.1 14 b = 1)) nI n))), (3, .int (orW (fun b => decide (κ.1 14 b = 1)) nI n)), (0, rf V 0), (1, .int x), (2, .int q)]) hx dX11_byTurns_146 1 rfl (pI_s j) (by decide) rfl ?_
        refine WS.goto (tgt := 99) hx dX11_byTurns_149 (by decide) ?_
        exact WS.los [0, 1, 2, 3, 4, 5, 6] rfl (ih (by omega))
set_option maxHeartbeats 1000000 in
theorem lt_X11_byTurns (V : Vt) (d : Nat) (τ κ : Sg) (n : Nat) (lw : Lw) (hM : MR κ τ n) (hT : MT τ n (ms0 (wdM κ n lw))) (x q : Int32) (t : Nat) (ht : t ≤ 3) (hx9 : x = nI (t + 1)) (P : Int32 → Sg → Prop) (X : Xt) (hx : Ok V RX11 cX11_byTurns 7 (d + 6) X) (he : En layM V (some .int) (Ri P) X) (hP : (q = 0 → P (bgF κ n (t + 1) (orW (fun b => decide (¬ κ.1 14 b = 1)) nI n)) τ) ∧ (¬ q = 0 → P (fch κ n t (orW (fun b => decide (¬ κ.1 14 b = 1)) nI n) (bgF κ n (t + 1) (orW (fun b => decide (¬ κ.1 14 b = 1)) nI n)) n 0) τ)) : WS layM V 7 X τ 71 [(4, .int (nI n)), (3, .int (orW (fun b => decide (κ.1 14 b = 1)) nI n)), (0, rf V 0), (1, .int x), (2, .int q)] [] := by
  have hn := hM.n
  refine WS.aload_n hx dX11_byTurns_71 rfl 2 rfl ?_
  refine WS.iconst (v := 0) hx dX11_byTurns_72 (by decide) ?_
  refine WS.iload_n hx dX11_byTurns_73 rfl 3 rfl ?_
  refine WS.as rfl rfl (congrArg (fun z => Value.int z :: _) (show x = nI (t + 1) from hx9)) ?_
  skip
  refine WS.iload_n hx dX11_byTurns_74 rfl 1 rfl ?_
  refine WS.callVi (st := []) [.int 0, .int (nI (t + 1)), .int (orW (fun b => decide (κ.1 14 b = 1)) nI n)] hx (by
    have h9 := c_X11_playsFrom V τ κ n lw hM hT (t + 1) (by omega) (t + 1) (d + 3 - t) 0 (orW (fun b => decide (¬ κ.1 14 b = 1)) nI n) _ (by omega) (CG_0 hn)
    rw [show d + 3 - t + (t + 1) + 1 = d + 5 by omega] at h9
    exact h9) okX11_playsFrom lm11_301 rfl rfl rfl rfl (Nat.le_of_ble_eq_true rfl) dX11_byTurns_75 (fun v1 σ2 h3 => ?_)
  obtain ⟨rfl, rfl⟩ := h3
  show WS layM V 7 X τ 78 [(4, .int (nI n)), (3, .int (orW (fun b => decide (κ.1 14 b = 1)) nI n)), (0, rf V 0), (1, .int x), (2, .int q)] [.int (mpV κ n 0 (t + 1) (orW (fun b => decide (¬ κ.1 14 b = 1)) nI n))]
  refine WS.as rfl rfl (congrArg (fun z => Value.int z :: _) (show mpV κ n 0 (t + 1) (orW (fun b => decide (¬ κ.1 14 b = 1)) nI n) = (bgF κ n (t + 1) (orW (fun b => decide (¬ κ.1 14 b = 1)) nI n)) from rfl)) ?_
  skip
  refine WS.istore (lo' := [(4, .int (bgF κ n (t + 1) (orW (fun b => decide (¬ κ.1 14 b = 1)) nI n))), (3, .int (orW (fun b => decide (κ.1 14 b = 1)) nI n)), (0, rf V 0), (1, .int x), (2, .int q)]) hx dX11_byTurns_78 (by decide) rfl ?_
  refine WS.iload_n hx dX11_byTurns_80 rfl 4 rfl ?_
  refine WS.if_ne (tgt := 87) hx dX11_byTurns_81 (by decide) (fun c81 => ?_) (fun c81 => ?_)
  · skip
    show WS layM V 7 X τ 87 [(4, .int (bgF κ n (t + 1) (orW (fun b => decide (¬ κ.1 14 b = 1)) nI n))), (3, .int (orW (fun b => decide (κ.1 14 b = 1)) nI n)), (0, rf V 0), (1, .int x), (2, .int q)] []
    refine WS.bipush (v := 10) hx dX11_byTurns_87 (by decide) ?_
    refine WS.istore (lo' := [(5, .int 10), (4, .int (bgF κ n (t + 1) (orW (fun b => decide (¬ κ.1 14 b = 1)) nI n))), (3, .int (orW (fun b => decide (κ.1 14 b = 1)) nI n)), (0, rf V 0), (1, .int x), (2, .int q)]) hx dX11_byTurns_89 (by decide) rfl ?_
    refine WS.aload_n hx dX11_byTurns_91 rfl 3 rfl ?_
    refine WS.getI hx okX11 lf11_97 rfl rfl dX11_byTurns_92 ?_
    refine WS.as rfl rfl (congrArg (fun z => Value.int z :: _) (show τ.1 0 6 = nI n from hM.s)) ?_
    skip
    refine WS.iconst (v := 1) hx dX11_byTurns_95 (by decide) ?_
    refine WS.isub hx dX11_byTurns_96 ?_
    refine WS.as rfl rfl (congrArg (fun z => Value.int z :: _) (show (nI n) - 1 = pI n from pI_n n)) ?_
    skip
    refine WS.istore (lo' := [(6, .int (pI n)), (5, .int 10), (4, .int (bgF κ n (t + 1) (orW (fun b => decide (¬ κ.1 14 b = 1)) nI n))), (3, .int (orW (fun b => decide (κ.1 14 b = 1)) nI n)), (0, rf V 0), (1, .int x), (2, .int q)]) hx dX11_byTurns_97 (by decide) rfl ?_
    refine WS.los [0, 1, 2, 3, 4, 5, 6] rfl ?_
    have h9 := lf_X11_byTurns V d τ κ n lw hM hT x q t ht hx9 P X hx he (hP.2 c81) n (Nat.le_refl n)
    rw [Nat.sub_self] at h9
    exact h9
  · skip
    show WS layM V 7 X τ 84 [(4, .int (bgF κ n (t + 1) (orW (fun b => decide (¬ κ.1 14 b = 1)) nI n))), (3, .int (orW (fun b => decide (κ.1 14 b = 1)) nI n)), (0, rf V 0), (1, .int x), (2, .int q)] []
    refine WS.iload hx dX11_byTurns_84 0 rfl ?_
    exact WS.iret hx he dX11_byTurns_86 ⟨_, rfl, hP.1 c81⟩
set_option maxHeartbeats 1000000 in
theorem c_X11_byTurns (V : Vt) (d : Nat) (σ : Sg) (κ : Sg) (n : Nat) (lw : Lw) (hM : MR κ σ n) (x q : Int32) : CT layM V mX11_byTurns (d + 6) [rf V 0, .int x, .int q] σ (Ri fun v σ' => if ¬ (1 ≤ x.toInt ∧ x.toInt ≤ 4 ∧ 0 ≤ q.toInt ∧ q.toInt ≤ 1) then v = -2000000000 ∧ ME σ σ' else (if q.toInt = 0 then v = bgF κ n (nn x) (orW (fun b => decide (¬ κ.1 14 b = 1)) nI n) ∧ ME σ σ' else (v = fch κ n (nn x - 1) (orW (fun b => decide (¬ κ.1 14 b = 1)) nI n) (bgF κ n (nn x - 1 + 1) (orW (fun b => decide (¬ κ.1 14 b = 1)) nI n)) n 0 ∧ ME σ σ'))) := by
  refine CT.of (own := RX11) rfl (by decide) (Nat.le_of_ble_eq_true rfl) (fun X (hx : Ok V RX11 cX11_byTurns 7 (d + 6) X) (he : En layM V (some .int) (Ri fun v σ' => if ¬ (1 ≤ x.toInt ∧ x.toInt ≤ 4 ∧ 0 ≤ q.toInt ∧ q.toInt ≤ 1) then v = -2000000000 ∧ ME σ σ' else (if q.toInt = 0 then v = bgF κ n (nn x) (orW (fun b => decide (¬ κ.1 14 b = 1)) nI n) ∧ ME σ σ' else (v = fch κ n (nn x - 1) (orW (fun b => decide (¬ κ.1 14 b = 1)) nI n) (bgF κ n (nn x - 1 + 1) (orW (fun b => decide (¬ κ.1 14 b = 1)) nI n)) n 0 ∧ ME σ σ'))) X) => ?_)
  change WS layM V 7 X σ 0 [(0, rf V 0), (1, .int x), (2, .int q)] []
  have hn := hM.n
  refine WS.iload_n hx dX11_byTurns_0 rfl 1 rfl ?_
  refine WS.i2l hx dX11_byTurns_1 ?_
  refine WS.lconst (v := 1) hx dX11_byTurns_2 rfl ?_
  refine WS.ldc2 (v := 4) hx lc11_125 dX11_byTurns_3 ?_
  refine WS.callSi (st := []) [.long (Int32.toInt64 x), .long 1, .long 4] hx (c_X11_within V (d + 5) σ (Int32.toInt64 x) 1 4) okX11_within lm11_100 rfl rfl (Nat.le_of_ble_eq_true rfl) dX11_byTurns_6 (fun v1 σ2 h3 => ?_)
  rcases h3 with ⟨rfl, rfl, hb6⟩ | ⟨rfl, rfl, hb6⟩
  · skip
    show WS layM V 7 X σ 9 [(0, rf V 0), (1, .int x), (2, .int q)] [.int 1]
    refine WS.if_eq (tgt := 22) hx dX11_byTurns_9 (by decide) (fun h => absurd h (by decide)) (fun _ => ?_)
    refine WS.iload_n hx dX11_byTurns_12 rfl 2 rfl ?_
    refine WS.i2l hx dX11_byTurns_13 ?_
    refine WS.lconst (v := 0) hx dX11_byTurns_14 rfl ?_
    refine WS.lconst (v := 1) hx dX11_byTurns_15 rfl ?_
    refine WS.callSi (st := []) [.long (Int32.toInt64 q), .long 0, .long 1] hx (c_X11_within V (d + 5) σ (Int32.toInt64 q) 0 1) okX11_within lm11_100 rfl rfl (Nat.le_of_ble_eq_true rfl) dX11_byTurns_16 (fun v4 σ5 h6 => ?_)
    rcases h6 with ⟨rfl, rfl, hb16⟩ | ⟨rfl, rfl, hb16⟩
    · skip
      show WS layM V 7 X σ 19 [(0, rf V 0), (1, .int x), (2, .int q)] [.int 1]
      refine WS.if_ne (tgt := 26) hx dX11_byTurns_19 (by decide) (fun _ => ?_) (fun h => absurd h (by decide))
      refine WS.aload_n hx dX11_byTurns_26 rfl 0 rfl ?_
      refine WS.callVv (st := []) [] hx (c_X11_begins V (d + 5) σ κ n lw hM) okX11_begins lm11_231 rfl rfl rfl rfl (Nat.le_of_ble_eq_true rfl) dX11_byTurns_27 (fun σ8 h9 => ?_)
      obtain ⟨me27, mt27⟩ := h9
      have hA : (1 ≤ x.toInt ∧ x.toInt ≤ 4 ∧ 0 ≤ q.toInt ∧ q.toInt ≤ 1) := by
        (try simp only [l_int, tL_0, tL_1, tL_2, tL_4, tL_5, tL_6, tL_7, tL_9, tL_10, tL_12, tL_15, tL_30, tL_40, tL_60, tL_99, tL_255, tL_1023, tL_m1, lc_lt, lc_gt, lc_ge, lc_le, lc_eq, l6_le, l6_lt, l6_eq, tI_m133, tI_m226, i_le, i_lt, i_eq, tI_0, tI_1, tI_10] at hb6); (try simp only [l_int, tL_0, tL_1, tL_2, tL_4, tL_5, tL_6, tL_7, tL_9, tL_10, tL_12, tL_15, tL_30, tL_40, tL_60, tL_99, tL_255, tL_1023, tL_m1, lc_lt, lc_gt, lc_ge, lc_le, lc_eq, l6_le, l6_lt, l6_eq, tI_m133, tI_m226, i_le, i_lt, i_eq, tI_0, tI_1, tI_10] at hb16); omega
      have hxn := nn_int (show 0 ≤ x.toInt by omega)
      obtain ⟨t, ht⟩ : ∃ t, nn x = t + 1 := ⟨nn x - 1, by omega⟩
      have hx9 : x = nI (t + 1) := by rw [← ht]; exact (nI_nn (by omega)).symm
      show WS layM V 7 X σ8 30 [(0, rf V 0), (1, .int x), (2, .int q)] []
      refine WS.iconst (v := 0) hx dX11_byTurns_30 (by decide) ?_
      refine WS.istore_n (lo' := [(3, .int 0), (0, rf V 0), (1, .int x), (2, .int q)]) hx dX11_byTurns_31 rfl (by decide) rfl ?_
      refine WS.iconst (v := 0) hx dX11_byTurns_32 (by decide) ?_
      refine WS.istore (lo' := [(4, .int 0), (3, .int 0), (0, rf V 0), (1, .int x), (2, .int q)]) hx dX11_byTurns_33 (by decide) rfl ?_
      refine WS.los [0, 1, 2, 3, 4] rfl (lg_X11_byTurns V d _ κ n lw (hM.me me27) mt27 x q X hx (lt_X11_byTurns V d _ κ n lw (hM.me me27) mt27 x q t (by omega) hx9 _ X hx he ⟨fun h9 => ?_, fun h9 => ?_⟩) 0 (Nat.zero_le _))
      · (try dsimp only)
        rw [if_neg (fun h => h hA), if_pos (by rw [h9]; rfl), ht]
        exact ⟨rfl, me27⟩
      · (try dsimp only)
        rw [if_neg (fun h => h hA), if_neg (show ¬ q.toInt = 0 from fun h => h9 (i_eq.mpr h)), ht]
        exact ⟨rfl, me27⟩
    · skip
      show WS layM V 7 X σ 19 [(0, rf V 0), (1, .int x), (2, .int q)] [.int 0]
      refine WS.if_ne (tgt := 26) hx dX11_byTurns_19 (by decide) (fun h => absurd (by decide) h) (fun _ => ?_)
      refine WS.ldc_w (v := (-2000000000)) hx lc11_304 dX11_byTurns_22 ?_
      exact WS.iret hx he dX11_byTurns_25 ⟨_, rfl, by (try dsimp only); rw [if_pos (fun h => by (try simp only [l_int, tL_0, tL_1, tL_2, tL_4, tL_5, tL_6, tL_7, tL_9, tL_10, tL_12, tL_15, tL_30, tL_40, tL_60, tL_99, tL_255, tL_1023, tL_m1, lc_lt, lc_gt, lc_ge, lc_le, lc_eq, l6_le, l6_lt, l6_eq, tI_m133, tI_m226, i_le, i_lt, i_eq, tI_0, tI_1, tI_10] at hb6); (try simp only [l_int, tL_0, tL_1, tL_2, tL_4, tL_5, tL_6, tL_7, tL_9, tL_10, tL_12, tL_15, tL_30, tL_40, tL_60, tL_99, tL_255, tL_1023, tL_m1, lc_lt, lc_gt, lc_ge, lc_le, lc_eq, l6_le, l6_lt, l6_eq, tI_m133, tI_m226, i_le, i_lt, i_eq, tI_0, tI_1, tI_10] at hb16); (try simp only [l_int, tL_0, tL_1, tL_2, tL_4, tL_5, tL_6, tL_7, tL_9, tL_10, tL_12, tL_15, tL_30, tL_40, tL_60, tL_99, tL_255, tL_1023, tL_m1, lc_lt, lc_gt, lc_ge, lc_le, lc_eq, l6_le, l6_lt, l6_eq, tI_m133, tI_m226, i_le, i_lt, i_eq, tI_0, tI_1, tI_10]); omega)]; exact ⟨rfl, ME.rf⟩⟩
  · skip
    show WS layM V 7 X σ 9 [(0, rf V 0), (1, .int x), (2, .int q)] [.int 0]
    refine WS.if_eq (tgt := 22) hx dX11_byTurns_9 (by decide) (fun _ => ?_) (fun h => absurd (by decide) h)
    refine WS.ldc_w (v := (-2000000000)) hx lc11_304 dX11_byTurns_22 ?_
    exact WS.iret hx he dX11_byTurns_25 ⟨_, rfl, by (try dsimp only); rw [if_pos (fun h => by (try simp only [l_int, tL_0, tL_1, tL_2, tL_4, tL_5, tL_6, tL_7, tL_9, tL_10, tL_12, tL_15, tL_30, tL_40, tL_60, tL_99, tL_255, tL_1023, tL_m1, lc_lt, lc_gt, lc_ge, lc_le, lc_eq, l6_le, l6_lt, l6_eq, tI_m133, tI_m226, i_le, i_lt, i_eq, tI_0, tI_1, tI_10] at hb6); (try simp only [l_int, tL_0, tL_1, tL_2, tL_4, tL_5, tL_6, tL_7, tL_9, tL_10, tL_12, tL_15, tL_30, tL_40, tL_60, tL_99, tL_255, tL_1023, tL_m1, lc_lt, lc_gt, lc_ge, lc_le, lc_eq, l6_le, l6_lt, l6_eq, tI_m133, tI_m226, i_le, i_lt, i_eq, tI_0, tI_1, tI_10]); omega)]; exact ⟨rfl, ME.rf⟩⟩

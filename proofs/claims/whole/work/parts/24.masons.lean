/-- the word a block would say now; counts and sums as whole numbers -/
def wn (σ : Sg) (b : Nat) : Int32 := σ.1 17 (nn (σ.1 12 b))
theorem wn_r {σ : Sg} {n b : Nat} (hQ : QI σ n) (hb : b < n) : rg (wn σ b) 9 := hQ.2.2.2.2.2.2.2.2.1 _ (by have := (hQ.2.2.2.1 b (by have := hQ.n; omega)).le; omega)
def smN (f : Nat → Nat) : Nat → Nat
  | 0 => 0
  | k + 1 => smN f k + f k
theorem pr_c {c : Nat} (h : c ≤ 1000) : nI c * (nI c - 1) / 2 = nI (c * (c - 1) / 2) := by
  have h1 : c * (c - 1) ≤ 1000 * 1000 := Nat.mul_le_mul h (by omega)
  cases c with
  | zero => decide
  | succ k =>
    rw [nI_pred, pk_mul, show (2 : Int32) = nI 2 from rfl, pk_div (by simp at h1; omega) (by decide) (by decide)]
    rfl
set_option maxHeartbeats 1000000 in
theorem c_X6_closedOnes (V : Vt) (d : Nat) (σ : Sg) (n : Nat) (hQ : QI σ n) : CT layC V mX6_closedOnes (d + 1) [rf V 5] σ (Ro (nI (n - cnt (σ.1 14) n)) σ) := by
  refine CT.of (own := RX6) rfl (by decide) (Nat.le_of_ble_eq_true rfl) (fun X (hx : Ok V RX6 cX6_closedOnes 1 (d + 1) X) (he : En layC V (some .int) (Ro (nI (n - cnt (σ.1 14) n)) σ) X) => ?_)
  change WS layC V 1 X σ 0 [(0, rf V 5)] []
  refine WS.aload_n hx dX6_closedOnes_0 rfl 0 rfl ?_
  refine WS.getR hx okX6 lf6_21 rfl rfl dX6_closedOnes_1 ?_
  refine WS.callVi (st := []) [] hx (c_X7_size V d σ n hQ) okX7_size lm6_34 rfl rfl rfl rfl (Nat.le_of_ble_eq_true rfl) dX6_closedOnes_4 (fun v1 σ2 h3 => ?_)
  obtain ⟨rfl, rfl⟩ := h3
  show WS layC V 1 X σ 7 [(0, rf V 5)] [.int (nI n)]
  refine WS.aload_n hx dX6_closedOnes_7 rfl 0 rfl ?_
  refine WS.getR hx okX6 lf6_21 rfl rfl dX6_closedOnes_8 ?_
  refine WS.callVi (st := [.int (nI n)]) [] hx (c_X7_openOnes V d σ n hQ) okX7_openOnes lm6_40 rfl rfl rfl rfl (Nat.le_of_ble_eq_true rfl) dX6_closedOnes_11 (fun v4 σ5 h6 => ?_)
  obtain ⟨rfl, rfl⟩ := h6
  show WS layC V 1 X σ 14 [(0, rf V 5)] [.int (l_sum (σ.1 14) n), .int (nI n)]
  refine WS.as rfl rfl (congrArg (fun z => Value.int z :: _) (show l_sum (σ.1 14) n = nI (cnt (σ.1 14) n) from hQ.o.1)) ?_
  skip
  refine WS.isub hx dX6_closedOnes_14 ?_
  exact WS.iret hx he dX6_closedOnes_15 (Ro.i (pk_sub hQ.o.2).symm)
set_option maxHeartbeats 1000000 in
theorem lp_X6_sayers (V : Vt) (d : Nat) (σ : Sg) (n : Nat) (hQ : QI σ n) (x : Int32) (X : Xt) (hx : Ok V RX6 cX6_sayers 4 (d + 3) X) (he : En layC V (some .int) (Ro (nI (cntB (fun b => decide (¬ σ.1 14 b = 1 ∧ wn σ b = x)) n)) σ) X) : ∀ i : Nat, i ≤ n → WS layC V 4 X σ 4 [(3, .int (nI i)), (2, .int (nI (cntB (fun b => decide (¬ σ.1 14 b = 1 ∧ wn σ b = x)) i))), (0, rf V 5), (1, .int x)] [] := by
  intro i
  induction hm : n - i using Nat.strongRecOn generalizing i with
  | _ m9 ih =>
    intro hi
    have hn10 := hQ.n
    have hiI : (nI i).toInt = (i : Int) := nI_c (by omega)
    have hnI : (nI n).toInt = (n : Int) := nI_c (by omega)
    refine WS.iload_n hx dX6_sayers_4 rfl 0 rfl ?_
    refine WS.aload_n hx dX6_sayers_5 rfl 2 rfl ?_
    refine WS.getR hx okX6 lf6_21 rfl rfl dX6_sayers_6 ?_
    refine WS.callVi (st := [.int (nI i)]) [] hx (c_X7_size V (d + 2) σ n hQ) okX7_size lm6_34 rfl rfl rfl rfl (Nat.le_of_ble_eq_true rfl) dX6_sayers_9 (fun v1 σ2 h3 => ?_)
    obtain ⟨rfl, rfl⟩ := h3
    show WS layC V 4 X σ 12 [(3, .int (nI i)), (2, .int (nI (cntB (fun b => decide (¬ σ.1 14 b = 1 ∧ wn σ b = x)) i))), (0, rf V 5), (1, .int x)] [.int (nI n), .int (nI i)]
    refine WS.icmp_ge (tgt := 47) hx dX6_sayers_12 (by decide) (fun c12 => ?_) (fun c12 => ?_)
    · skip
      show WS layC V 4 X σ 47 [(3, .int (nI i)), (2, .int (nI (cntB (fun b => decide (¬ σ.1 14 b = 1 ∧ wn σ b = x)) i))), (0, rf V 5), (1, .int x)] []
      refine WS.iload_n hx dX6_sayers_47 rfl 1 rfl ?_
      exact WS.iret hx he dX6_sayers_48 (Ro.i (by rw [show n = i by (try simp only [i_le, i_lt, i_eq, tI_0, tI_1] at c12); (try simp only [i_le, i_lt, i_eq, tI_0, tI_1]); omega]))
    · skip
      show WS layC V 4 X σ 15 [(3, .int (nI i)), (2, .int (nI (cntB (fun b => decide (¬ σ.1 14 b = 1 ∧ wn σ b = x)) i))), (0, rf V 5), (1, .int x)] []
      refine WS.aload_n hx dX6_sayers_15 rfl 2 rfl ?_
      refine WS.getR hx okX6 lf6_21 rfl rfl dX6_sayers_16 ?_
      refine WS.iload_n hx dX6_sayers_19 rfl 0 rfl ?_
      refine WS.callVi (st := []) [.int (nI i)] hx (c_X7_isOpen V d σ n hQ i (by (try simp only [i_le, i_lt, i_eq, tI_0, tI_1] at c12); (try simp only [i_le, i_lt, i_eq, tI_0, tI_1]); omega)) okX7_isOpen lm6_43 rfl rfl rfl rfl (Nat.le_of_ble_eq_true rfl) dX6_sayers_20 (fun v4 σ5 h6 => ?_)
      rcases h6 with ⟨rfl, rfl, hb20⟩ | ⟨rfl, rfl, hb20⟩
      · skip
        show WS layC V 4 X σ 23 [(3, .int (nI i)), (2, .int (nI (cntB (fun b => decide (¬ σ.1 14 b = 1 ∧ wn σ b = x)) i))), (0, rf V 5), (1, .int x)] [.int 1]
        refine WS.if_ne (tgt := 41) hx dX6_sayers_23 (by decide) (fun _ => ?_) (fun h => absurd h (by decide))
        refine WS.iinc (v := nI (i + 1)) (lo' := [(3, .int (nI (i + 1))), (2, .int (nI (cntB (fun b => decide (¬ σ.1 14 b = 1 ∧ wn σ b = x)) i))), (0, rf V 5), (1, .int x)]) hx dX6_sayers_41 0 rfl (nI_1 i) (by decide) rfl ?_
        refine WS.goto (tgt := 4) hx dX6_sayers_44 (by decide) ?_
        have hw : cntB (fun b => decide (¬ σ.1 14 b = 1 ∧ wn σ b = x)) (i + 1) = cntB (fun b => decide (¬ σ.1 14 b = 1 ∧ wn σ b = x)) i := by show _ + (if _ then 1 else 0) = _; rw [if_neg (by rw [decide_eq_true_eq]; first | exact fun q => q.1 hb20 | exact fun q => c35 q.2)]; rfl
        rw [← hw]
        exact WS.los [0, 1, 2, 3] rfl (ih _ (by (try simp only [i_le, i_lt, i_eq, tI_0, tI_1] at c12); (try simp only [i_le, i_lt, i_eq, tI_0, tI_1] at hb20); (try simp only [i_le, i_lt, i_eq, tI_0, tI_1]); omega) (i + 1) rfl (by (try simp only [i_le, i_lt, i_eq, tI_0, tI_1] at c12); (try simp only [i_le, i_lt, i_eq, tI_0, tI_1] at hb20); (try simp only [i_le, i_lt, i_eq, tI_0, tI_1]); omega))
      · skip
        show WS layC V 4 X σ 23 [(3, .int (nI i)), (2, .int (nI (cntB (fun b => decide (¬ σ.1 14 b = 1 ∧ wn σ b = x)) i))), (0, rf V 5), (1, .int x)] [.int 0]
        refine WS.if_ne (tgt := 41) hx dX6_sayers_23 (by decide) (fun h => absurd (by decide) h) (fun _ => ?_)
        refine WS.aload_n hx dX6_sayers_26 rfl 2 rfl ?_
        refine WS.getR hx okX6 lf6_21 rfl rfl dX6_sayers_27 ?_
        refine WS.iload_n hx dX6_sayers_30 rfl 0 rfl ?_
        refine WS.callVi (st := []) [.int (nI i)] hx (c_X7_wordNow V d σ n hQ i (by (try simp only [i_le, i_lt, i_eq, tI_0, tI_1] at c12); (try simp only [i_le, i_lt, i_eq, tI_0, tI_1] at hb20); (try simp only [i_le, i_lt, i_eq, tI_0, tI_1]); omega)) okX7_wordNow lm6_47 rfl rfl rfl rfl (Nat.le_of_ble_eq_true rfl) dX6_sayers_31 (fun v7 σ8 h9 => ?_)
        obtain ⟨rfl, rfl⟩ := h9
        show WS layC V 4 X σ 34 [(3, .int (nI i)), (2, .int (nI (cntB (fun b => decide (¬ σ.1 14 b = 1 ∧ wn σ b = x)) i))), (0, rf V 5), (1, .int x)] [.int (σ.1 17 (nn (σ.1 12 (i))))]
        refine WS.as rfl rfl (congrArg (fun z => Value.int z :: _) (show σ.1 17 (nn (σ.1 12 (i))) = wn σ i from rfl)) ?_
        skip
        refine WS.iload_n hx dX6_sayers_34 rfl 3 rfl ?_
        refine WS.icmp_ne (tgt := 41) hx dX6_sayers_35 (by decide) (fun c35 => ?_) (fun c35 => ?_)
        · skip
          show WS layC V 4 X σ 41 [(3, .int (nI i)), (2, .int (nI (cntB (fun b => decide (¬ σ.1 14 b = 1 ∧ wn σ b = x)) i))), (0, rf V 5), (1, .int x)] []
          refine WS.iinc (v := nI (i + 1)) (lo' := [(3, .int (nI (i + 1))), (2, .int (nI (cntB (fun b => decide (¬ σ.1 14 b = 1 ∧ wn σ b = x)) i))), (0, rf V 5), (1, .int x)]) hx dX6_sayers_41 0 rfl (nI_1 i) (by decide) rfl ?_
          refine WS.goto (tgt := 4) hx dX6_sayers_44 (by decide) ?_
          have hw : cntB (fun b => decide (¬ σ.1 14 b = 1 ∧ wn σ b = x)) (i + 1) = cntB (fun b => decide (¬ σ.1 14 b = 1 ∧ wn σ b = x)) i := by show _ + (if _ then 1 else 0) = _; rw [if_neg (by rw [decide_eq_true_eq]; first | exact fun q => q.1 hb20 | exact fun q => c35 q.2)]; rfl
          rw [← hw]
          exact WS.los [0, 1, 2, 3] rfl (ih _ (by (try simp only [i_le, i_lt, i_eq, tI_0, tI_1] at c12); (try simp only [i_le, i_lt, i_eq, tI_0, tI_1] at hb20); (try simp only [i_le, i_lt, i_eq, tI_0, tI_1] at c35); (try simp only [i_le, i_lt, i_eq, tI_0, tI_1]); omega) (i + 1) rfl (by (try simp only [i_le, i_lt, i_eq, tI_0, tI_1] at c12); (try simp only [i_le, i_lt, i_eq, tI_0, tI_1] at hb20); (try simp only [i_le, i_lt, i_eq, tI_0, tI_1] at c35); (try simp only [i_le, i_lt, i_eq, tI_0, tI_1]); omega))
        · skip
          show WS layC V 4 X σ 38 [(3, .int (nI i)), (2, .int (nI (cntB (fun b => decide (¬ σ.1 14 b = 1 ∧ wn σ b = x)) i))), (0, rf V 5), (1, .int x)] []
          refine WS.iinc (v := nI (cntB (fun b => decide (¬ σ.1 14 b = 1 ∧ wn σ b = x)) i + 1)) (lo' := [(2, .int (nI (cntB (fun b => decide (¬ σ.1 14 b = 1 ∧ wn σ b = x)) i + 1))), (3, .int (nI i)), (0, rf V 5), (1, .int x)]) hx dX6_sayers_38 1 rfl (nI_1 _) (by decide) rfl ?_
          refine WS.iinc (v := nI (i + 1)) (lo' := [(3, .int (nI (i + 1))), (2, .int (nI (cntB (fun b => decide (¬ σ.1 14 b = 1 ∧ wn σ b = x)) i + 1))), (0, rf V 5), (1, .int x)]) hx dX6_sayers_41 1 rfl (nI_1 i) (by decide) rfl ?_
          refine WS.goto (tgt := 4) hx dX6_sayers_44 (by decide) ?_
          have hw : cntB (fun b => decide (¬ σ.1 14 b = 1 ∧ wn σ b = x)) (i + 1) = cntB (fun b => decide (¬ σ.1 14 b = 1 ∧ wn σ b = x)) i + 1 := by show _ + (if _ then 1 else 0) = _; rw [if_pos (by rw [decide_eq_true_eq]; exact ⟨hb20, c35⟩)]
          rw [← hw]
          exact WS.los [0, 1, 2, 3] rfl (ih _ (by (try simp only [i_le, i_lt, i_eq, tI_0, tI_1] at c12); (try simp only [i_le, i_lt, i_eq, tI_0, tI_1] at hb20); (try simp only [i_le, i_lt, i_eq, tI_0, tI_1] at c35); (try simp only [i_le, i_lt, i_eq, tI_0, tI_1]); omega) (i + 1) rfl (by (try simp only [i_le, i_lt, i_eq, tI_0, tI_1] at c12); (try simp only [i_le, i_lt, i_eq, tI_0, tI_1] at hb20); (try simp only [i_le, i_lt, i_eq, tI_0, tI_1] at c35); (try simp only [i_le, i_lt, i_eq, tI_0, tI_1]); omega))
set_option maxHeartbeats 1000000 in
theorem c_X6_sayers (V : Vt) (d : Nat) (σ : Sg) (n : Nat) (hQ : QI σ n) (x : Int32) : CT layC V mX6_sayers (d + 3) [rf V 5, .int x] σ (Ro (nI (cntB (fun b => decide (¬ σ.1 14 b = 1 ∧ wn σ b = x)) n)) σ) := by
  refine CT.of (own := RX6) rfl (by decide) (Nat.le_of_ble_eq_true rfl) (fun X (hx : Ok V RX6 cX6_sayers 4 (d + 3) X) (he : En layC V (some .int) (Ro (nI (cntB (fun b => decide (¬ σ.1 14 b = 1 ∧ wn σ b = x)) n)) σ) X) => ?_)
  change WS layC V 4 X σ 0 [(0, rf V 5), (1, .int x)] []
  refine WS.iconst (v := 0) hx dX6_sayers_0 (by decide) ?_
  refine WS.istore_n (lo' := [(2, .int 0), (0, rf V 5), (1, .int x)]) hx dX6_sayers_1 rfl (by decide) rfl ?_
  refine WS.iconst (v := 0) hx dX6_sayers_2 (by decide) ?_
  refine WS.istore_n (lo' := [(3, .int 0), (2, .int 0), (0, rf V 5), (1, .int x)]) hx dX6_sayers_3 rfl (by decide) rfl ?_
  exact lp_X6_sayers V d σ n hQ x X hx he 0 (Nat.zero_le n)
set_option maxHeartbeats 1000000 in
theorem c_X6_pairs (V : Vt) (d : Nat) (σ : Sg) (n : Nat) (hQ : QI σ n) : CT layC V mX6_pairs (d + 2) [rf V 5] σ (Ro (nI ((n - cnt (σ.1 14) n) * ((n - cnt (σ.1 14) n) - 1) / 2)) σ) := by
  refine CT.of (own := RX6) rfl (by decide) (Nat.le_of_ble_eq_true rfl) (fun X (hx : Ok V RX6 cX6_pairs 1 (d + 2) X) (he : En layC V (some .int) (Ro (nI ((n - cnt (σ.1 14) n) * ((n - cnt (σ.1 14) n) - 1) / 2)) σ) X) => ?_)
  change WS layC V 1 X σ 0 [(0, rf V 5)] []
  refine WS.aload_n hx dX6_pairs_0 rfl 0 rfl ?_
  refine WS.callVi (st := []) [] hx (c_X6_closedOnes V d σ n hQ ) okX6_closedOnes lm6_51 rfl rfl rfl rfl (Nat.le_of_ble_eq_true rfl) dX6_pairs_1 (fun v1 σ2 h3 => ?_)
  obtain ⟨rfl, rfl⟩ := h3
  show WS layC V 1 X σ 4 [(0, rf V 5)] [.int (nI (n - cnt (σ.1 14) n))]
  refine WS.aload_n hx dX6_pairs_4 rfl 0 rfl ?_
  refine WS.callVi (st := [.int (nI (n - cnt (σ.1 14) n))]) [] hx (c_X6_closedOnes V d σ n hQ ) okX6_closedOnes lm6_51 rfl rfl rfl rfl (Nat.le_of_ble_eq_true rfl) dX6_pairs_5 (fun v4 σ5 h6 => ?_)
  obtain ⟨rfl, rfl⟩ := h6
  show WS layC V 1 X σ 8 [(0, rf V 5)] [.int (nI (n - cnt (σ.1 14) n)), .int (nI (n - cnt (σ.1 14) n))]
  refine WS.iconst (v := 1) hx dX6_pairs_8 (by decide) ?_
  refine WS.isub hx dX6_pairs_9 ?_
  refine WS.imul hx dX6_pairs_10 ?_
  refine WS.iconst (v := 2) hx dX6_pairs_11 (by decide) ?_
  refine WS.idiv hx dX6_pairs_12 (by decide) ?_
  exact WS.iret hx he dX6_pairs_13 (Ro.i (pr_c (by have := hQ.n; omega)).symm)
set_option maxHeartbeats 1000000 in
theorem lp_X6_likePairs (V : Vt) (d : Nat) (σ : Sg) (n : Nat) (hQ : QI σ n) (X : Xt) (hx : Ok V RX6 cX6_likePairs 3 (d + 4) X) (he : En layC V (some .int) (Ro (nI (smN (fun w => cntB (fun b => decide (¬ σ.1 14 b = 1 ∧ wn σ b = nI w)) n * (cntB (fun b => decide (¬ σ.1 14 b = 1 ∧ wn σ b = nI w)) n - 1) / 2) 10)) σ) X) : ∀ i : Nat, i ≤ 10 → WS layC V 3 X σ 4 [(2, .int (nI i)), (1, .int (nI (smN (fun w => cntB (fun b => decide (¬ σ.1 14 b = 1 ∧ wn σ b = nI w)) n * (cntB (fun b => decide (¬ σ.1 14 b = 1 ∧ wn σ b = nI w)) n - 1) / 2) i))), (0, rf V 5)] [] := by
  intro i
  induction hm : 10 - i using Nat.strongRecOn generalizing i with
  | _ m9 ih =>
    intro hi
    have hn10 := hQ.n
    have hiI : (nI i).toInt = (i : Int) := nI_c (by omega)
    have hcb := cntB_le (fun b => decide (¬ σ.1 14 b = 1 ∧ wn σ b = nI i)) n
    refine WS.iload_n hx dX6_likePairs_4 rfl 0 rfl ?_
    refine WS.bipush (v := 10) hx dX6_likePairs_5 (by decide) ?_
    refine WS.icmp_ge (tgt := 34) hx dX6_likePairs_7 (by decide) (fun c7 => ?_) (fun c7 => ?_)
    · skip
      show WS layC V 3 X σ 34 [(2, .int (nI i)), (1, .int (nI (smN (fun w => cntB (fun b => decide (¬ σ.1 14 b = 1 ∧ wn σ b = nI w)) n * (cntB (fun b => decide (¬ σ.1 14 b = 1 ∧ wn σ b = nI w)) n - 1) / 2) i))), (0, rf V 5)] []
      refine WS.iload_n hx dX6_likePairs_34 rfl 1 rfl ?_
      exact WS.iret hx he dX6_likePairs_35 (Ro.i (by rw [show i = 10 by (try simp only [i_le, i_lt, i_eq, tI_0, tI_1, tI_2, tI_10] at c7); (try simp only [i_le, i_lt, i_eq, tI_0, tI_1, tI_2, tI_10]); omega]))
    · skip
      show WS layC V 3 X σ 10 [(2, .int (nI i)), (1, .int (nI (smN (fun w => cntB (fun b => decide (¬ σ.1 14 b = 1 ∧ wn σ b = nI w)) n * (cntB (fun b => decide (¬ σ.1 14 b = 1 ∧ wn σ b = nI w)) n - 1) / 2) i))), (0, rf V 5)] []
      refine WS.iload_n hx dX6_likePairs_10 rfl 1 rfl ?_
      refine WS.aload_n hx dX6_likePairs_11 rfl 2 rfl ?_
      refine WS.iload_n hx dX6_likePairs_12 rfl 0 rfl ?_
      refine WS.callVi (st := [.int (nI (smN (fun w => cntB (fun b => decide (¬ σ.1 14 b = 1 ∧ wn σ b = nI w)) n * (cntB (fun b => decide (¬ σ.1 14 b = 1 ∧ wn σ b = nI w)) n - 1) / 2) i))]) [.int (nI i)] hx (c_X6_sayers V d σ n hQ (nI i)) okX6_sayers lm6_54 rfl rfl rfl rfl (Nat.le_of_ble_eq_true rfl) dX6_likePairs_13 (fun v1 σ2 h3 => ?_)
      obtain ⟨rfl, rfl⟩ := h3
      show WS layC V 3 X σ 16 [(2, .int (nI i)), (1, .int (nI (smN (fun w => cntB (fun b => decide (¬ σ.1 14 b = 1 ∧ wn σ b = nI w)) n * (cntB (fun b => decide (¬ σ.1 14 b = 1 ∧ wn σ b = nI w)) n - 1) / 2) i))), (0, rf V 5)] [.int (nI (cntB (fun b => decide (¬ σ.1 14 b = 1 ∧ wn σ b = (nI i))) n)), .int (nI (smN (fun w => cntB (fun b => decide (¬ σ.1 14 b = 1 ∧ wn σ b = nI w)) n * (cntB (fun b => decide (¬ σ.1 14 b = 1 ∧ wn σ b = nI w)) n - 1) / 2) i))]
      refine WS.aload_n hx dX6_likePairs_16 rfl 2 rfl ?_
      refine WS.iload_n hx dX6_likePairs_17 rfl 0 rfl ?_
      refine WS.callVi (st := [.int (nI (cntB (fun b => decide (¬ σ.1 14 b = 1 ∧ wn σ b = (nI i))) n)), .int (nI (smN (fun w => cntB (fun b => decide (¬ σ.1 14 b = 1 ∧ wn σ b = nI w)) n * (cntB (fun b => decide (¬ σ.1 14 b = 1 ∧ wn σ b = nI w)) n - 1) / 2) i))]) [.int (nI i)] hx (c_X6_sayers V d σ n hQ (nI i)) okX6_sayers lm6_54 rfl rfl rfl rfl (Nat.le_of_ble_eq_true rfl) dX6_likePairs_18 (fun v4 σ5 h6 => ?_)
      obtain ⟨rfl, rfl⟩ := h6
      show WS layC V 3 X σ 21 [(2, .int (nI i)), (1, .int (nI (smN (fun w => cntB (fun b => decide (¬ σ.1 14 b = 1 ∧ wn σ b = nI w)) n * (cntB (fun b => decide (¬ σ.1 14 b = 1 ∧ wn σ b = nI w)) n - 1) / 2) i))), (0, rf V 5)] [.int (nI (cntB (fun b => decide (¬ σ.1 14 b = 1 ∧ wn σ b = (nI i))) n)), .int (nI (cntB (fun b => decide (¬ σ.1 14 b = 1 ∧ wn σ b = (nI i))) n)), .int (nI (smN (fun w => cntB (fun b => decide (¬ σ.1 14 b = 1 ∧ wn σ b = nI w)) n * (cntB (fun b => decide (¬ σ.1 14 b = 1 ∧ wn σ b = nI w)) n - 1) / 2) i))]
      refine WS.iconst (v := 1) hx dX6_likePairs_21 (by decide) ?_
      refine WS.isub hx dX6_likePairs_22 ?_
      refine WS.imul hx dX6_likePairs_23 ?_
      refine WS.iconst (v := 2) hx dX6_likePairs_24 (by decide) ?_
      refine WS.idiv hx dX6_likePairs_25 (by decide) ?_
      refine WS.iadd hx dX6_likePairs_26 ?_
      refine WS.as rfl rfl (congrArg (fun z => Value.int z :: _) (show (nI (smN (fun w => cntB (fun b => decide (¬ σ.1 14 b = 1 ∧ wn σ b = nI w)) n * (cntB (fun b => decide (¬ σ.1 14 b = 1 ∧ wn σ b = nI w)) n - 1) / 2) i)) + (((nI (cntB (fun b => decide (¬ σ.1 14 b = 1 ∧ wn σ b = (nI i))) n)) * ((nI (cntB (fun b => decide (¬ σ.1 14 b = 1 ∧ wn σ b = (nI i))) n)) - 1)) / 2) = nI (smN (fun w => cntB (fun b => decide (¬ σ.1 14 b = 1 ∧ wn σ b = nI w)) n * (cntB (fun b => decide (¬ σ.1 14 b = 1 ∧ wn σ b = nI w)) n - 1) / 2) (i + 1)) from by rw [pr_c (by omega), nI_add]; rfl)) ?_
      skip
      refine WS.istore_n (lo' := [(1, .int (nI (smN (fun w => cntB (fun b => decide (¬ σ.1 14 b = 1 ∧ wn σ b = nI w)) n * (cntB (fun b => decide (¬ σ.1 14 b = 1 ∧ wn σ b = nI w)) n - 1) / 2) (i + 1)))), (2, .int (nI i)), (0, rf V 5)]) hx dX6_likePairs_27 rfl (by decide) rfl ?_
      refine WS.iinc (v := nI (i + 1)) (lo' := [(2, .int (nI (i + 1))), (1, .int (nI (smN (fun w => cntB (fun b => decide (¬ σ.1 14 b = 1 ∧ wn σ b = nI w)) n * (cntB (fun b => decide (¬ σ.1 14 b = 1 ∧ wn σ b = nI w)) n - 1) / 2) (i + 1)))), (0, rf V 5)]) hx dX6_likePairs_28 1 rfl (nI_1 i) (by decide) rfl ?_
      refine WS.goto (tgt := 4) hx dX6_likePairs_31 (by decide) ?_
      exact WS.los [0, 1, 2] rfl (ih _ (by (try simp only [i_le, i_lt, i_eq, tI_0, tI_1, tI_2, tI_10] at c7); (try simp only [i_le, i_lt, i_eq, tI_0, tI_1, tI_2, tI_10]); omega) (i + 1) rfl (by (try simp only [i_le, i_lt, i_eq, tI_0, tI_1, tI_2, tI_10] at c7); (try simp only [i_le, i_lt, i_eq, tI_0, tI_1, tI_2, tI_10]); omega))
set_option maxHeartbeats 1000000 in
theorem c_X6_likePairs (V : Vt) (d : Nat) (σ : Sg) (n : Nat) (hQ : QI σ n) : CT layC V mX6_likePairs (d + 4) [rf V 5] σ (Ro (nI (smN (fun w => cntB (fun b => decide (¬ σ.1 14 b = 1 ∧ wn σ b = nI w)) n * (cntB (fun b => decide (¬ σ.1 14 b = 1 ∧ wn σ b = nI w)) n - 1) / 2) 10)) σ) := by
  refine CT.of (own := RX6) rfl (by decide) (Nat.le_of_ble_eq_true rfl) (fun X (hx : Ok V RX6 cX6_likePairs 3 (d + 4) X) (he : En layC V (some .int) (Ro (nI (smN (fun w => cntB (fun b => decide (¬ σ.1 14 b = 1 ∧ wn σ b = nI w)) n * (cntB (fun b => decide (¬ σ.1 14 b = 1 ∧ wn σ b = nI w)) n - 1) / 2) 10)) σ) X) => ?_)
  change WS layC V 3 X σ 0 [(0, rf V 5)] []
  refine WS.iconst (v := 0) hx dX6_likePairs_0 (by decide) ?_
  refine WS.istore_n (lo' := [(1, .int 0), (0, rf V 5)]) hx dX6_likePairs_1 rfl (by decide) rfl ?_
  refine WS.iconst (v := 0) hx dX6_likePairs_2 (by decide) ?_
  refine WS.istore_n (lo' := [(2, .int 0), (1, .int 0), (0, rf V 5)]) hx dX6_likePairs_3 rfl (by decide) rfl ?_
  exact lp_X6_likePairs V d σ n hQ X hx he 0 (by decide)
set_option maxHeartbeats 1000000 in
theorem lp_X6_closedBits (V : Vt) (d : Nat) (σ : Sg) (n : Nat) (hQ : QI σ n) (X : Xt) (hx : Ok V RX6 cX6_closedBits 3 (d + 3) X) (he : En layC V (some .int) (Ro (orW (fun b => decide (¬ σ.1 14 b = 1)) nI n) σ) X) : ∀ i : Nat, i ≤ n → WS layC V 3 X σ 4 [(2, .int (nI i)), (1, .int (orW (fun b => decide (¬ σ.1 14 b = 1)) nI i)), (0, rf V 5)] [] := by
  intro i
  induction hm : n - i using Nat.strongRecOn generalizing i with
  | _ m9 ih =>
    intro hi
    have hn10 := hQ.n
    have hiI : (nI i).toInt = (i : Int) := nI_c (by omega)
    have hnI : (nI n).toInt = (n : Int) := nI_c (by omega)
    refine WS.iload_n hx dX6_closedBits_4 rfl 0 rfl ?_
    refine WS.aload_n hx dX6_closedBits_5 rfl 2 rfl ?_
    refine WS.getR hx okX6 lf6_21 rfl rfl dX6_closedBits_6 ?_
    refine WS.callVi (st := [.int (nI i)]) [] hx (c_X7_size V (d + 2) σ n hQ) okX7_size lm6_34 rfl rfl rfl rfl (Nat.le_of_ble_eq_true rfl) dX6_closedBits_9 (fun v1 σ2 h3 => ?_)
    obtain ⟨rfl, rfl⟩ := h3
    show WS layC V 3 X σ 12 [(2, .int (nI i)), (1, .int (orW (fun b => decide (¬ σ.1 14 b = 1)) nI i)), (0, rf V 5)] [.int (nI n), .int (nI i)]
    refine WS.icmp_ge (tgt := 38) hx dX6_closedBits_12 (by decide) (fun c12 => ?_) (fun c12 => ?_)
    · skip
      show WS layC V 3 X σ 38 [(2, .int (nI i)), (1, .int (orW (fun b => decide (¬ σ.1 14 b = 1)) nI i)), (0, rf V 5)] []
      refine WS.iload_n hx dX6_closedBits_38 rfl 1 rfl ?_
      exact WS.iret hx he dX6_closedBits_39 (Ro.i (by rw [show n = i by (try simp only [i_le, i_lt, i_eq, tI_0, tI_1] at c12); (try simp only [i_le, i_lt, i_eq, tI_0, tI_1]); omega]))
    · skip
      show WS layC V 3 X σ 15 [(2, .int (nI i)), (1, .int (orW (fun b => decide (¬ σ.1 14 b = 1)) nI i)), (0, rf V 5)] []
      refine WS.aload_n hx dX6_closedBits_15 rfl 2 rfl ?_
      refine WS.getR hx okX6 lf6_21 rfl rfl dX6_closedBits_16 ?_
      refine WS.iload_n hx dX6_closedBits_19 rfl 0 rfl ?_
      refine WS.callVi (st := []) [.int (nI i)] hx (c_X7_isOpen V d σ n hQ i (by (try simp only [i_le, i_lt, i_eq, tI_0, tI_1] at c12); (try simp only [i_le, i_lt, i_eq, tI_0, tI_1]); omega)) okX7_isOpen lm6_43 rfl rfl rfl rfl (Nat.le_of_ble_eq_true rfl) dX6_closedBits_20 (fun v4 σ5 h6 => ?_)
      rcases h6 with ⟨rfl, rfl, hb20⟩ | ⟨rfl, rfl, hb20⟩
      · skip
        show WS layC V 3 X σ 23 [(2, .int (nI i)), (1, .int (orW (fun b => decide (¬ σ.1 14 b = 1)) nI i)), (0, rf V 5)] [.int 1]
        refine WS.if_ne (tgt := 32) hx dX6_closedBits_23 (by decide) (fun _ => ?_) (fun h => absurd h (by decide))
        refine WS.iinc (v := nI (i + 1)) (lo' := [(2, .int (nI (i + 1))), (1, .int (orW (fun b => decide (¬ σ.1 14 b = 1)) nI i)), (0, rf V 5)]) hx dX6_closedBits_32 0 rfl (nI_1 i) (by decide) rfl ?_
        refine WS.goto (tgt := 4) hx dX6_closedBits_35 (by decide) ?_
        have hw : orW (fun b => decide (¬ σ.1 14 b = 1)) nI (i + 1) = (orW (fun b => decide (¬ σ.1 14 b = 1)) nI i) := if_neg (by rw [decide_eq_true_eq]; exact fun q => q hb20)
        have h9 := ih _ (by (try simp only [i_le, i_lt, i_eq, tI_0, tI_1] at c12); (try simp only [i_le, i_lt, i_eq, tI_0, tI_1] at hb20); (try simp only [i_le, i_lt, i_eq, tI_0, tI_1]); omega) (i + 1) rfl (by (try simp only [i_le, i_lt, i_eq, tI_0, tI_1] at c12); (try simp only [i_le, i_lt, i_eq, tI_0, tI_1] at hb20); (try simp only [i_le, i_lt, i_eq, tI_0, tI_1]); omega)
        rw [hw] at h9
        exact WS.los [0, 1, 2] rfl h9
      · skip
        show WS layC V 3 X σ 23 [(2, .int (nI i)), (1, .int (orW (fun b => decide (¬ σ.1 14 b = 1)) nI i)), (0, rf V 5)] [.int 0]
        refine WS.if_ne (tgt := 32) hx dX6_closedBits_23 (by decide) (fun h => absurd (by decide) h) (fun _ => ?_)
        refine WS.iload_n hx dX6_closedBits_26 rfl 1 rfl ?_
        refine WS.iconst (v := 1) hx dX6_closedBits_27 (by decide) ?_
        refine WS.iload_n hx dX6_closedBits_28 rfl 0 rfl ?_
        refine WS.ishl hx dX6_closedBits_29 ?_
        refine WS.ior hx dX6_closedBits_30 ?_
        refine WS.istore_n (lo' := [(1, .int ((orW (fun b => decide (¬ σ.1 14 b = 1)) nI i) ||| (1 <<< ((nI i) &&& 31)))), (2, .int (nI i)), (0, rf V 5)]) hx dX6_closedBits_31 rfl (by decide) rfl ?_
        refine WS.iinc (v := nI (i + 1)) (lo' := [(2, .int (nI (i + 1))), (1, .int ((orW (fun b => decide (¬ σ.1 14 b = 1)) nI i) ||| (1 <<< ((nI i) &&& 31)))), (0, rf V 5)]) hx dX6_closedBits_32 1 rfl (nI_1 i) (by decide) rfl ?_
        refine WS.goto (tgt := 4) hx dX6_closedBits_35 (by decide) ?_
        have hw : orW (fun b => decide (¬ σ.1 14 b = 1)) nI (i + 1) = ((orW (fun b => decide (¬ σ.1 14 b = 1)) nI i) ||| (1 <<< ((nI i) &&& 31))) := if_pos (by rw [decide_eq_true_eq]; exact hb20)
        have h9 := ih _ (by (try simp only [i_le, i_lt, i_eq, tI_0, tI_1] at c12); (try simp only [i_le, i_lt, i_eq, tI_0, tI_1] at hb20); (try simp only [i_le, i_lt, i_eq, tI_0, tI_1]); omega) (i + 1) rfl (by (try simp only [i_le, i_lt, i_eq, tI_0, tI_1] at c12); (try simp only [i_le, i_lt, i_eq, tI_0, tI_1] at hb20); (try simp only [i_le, i_lt, i_eq, tI_0, tI_1]); omega)
        rw [hw] at h9
        exact WS.los [0, 1, 2] rfl h9
set_option maxHeartbeats 1000000 in
theorem c_X6_closedBits (V : Vt) (d : Nat) (σ : Sg) (n : Nat) (hQ : QI σ n) : CT layC V mX6_closedBits (d + 3) [rf V 5] σ (Ro (orW (fun b => decide (¬ σ.1 14 b = 1)) nI n) σ) := by
  refine CT.of (own := RX6) rfl (by decide) (Nat.le_of_ble_eq_true rfl) (fun X (hx : Ok V RX6 cX6_closedBits 3 (d + 3) X) (he : En layC V (some .int) (Ro (orW (fun b => decide (¬ σ.1 14 b = 1)) nI n) σ) X) => ?_)
  change WS layC V 3 X σ 0 [(0, rf V 5)] []
  refine WS.iconst (v := 0) hx dX6_closedBits_0 (by decide) ?_
  refine WS.istore_n (lo' := [(1, .int 0), (0, rf V 5)]) hx dX6_closedBits_1 rfl (by decide) rfl ?_
  refine WS.iconst (v := 0) hx dX6_closedBits_2 (by decide) ?_
  refine WS.istore_n (lo' := [(2, .int 0), (1, .int 0), (0, rf V 5)]) hx dX6_closedBits_3 rfl (by decide) rfl ?_
  exact lp_X6_closedBits V d σ n hQ X hx he 0 (Nat.zero_le n)
set_option maxHeartbeats 1000000 in
theorem lp_X6_wordsOf (V : Vt) (d : Nat) (σ : Sg) (n : Nat) (hQ : QI σ n) (x : Int32) (X : Xt) (hx : Ok V RX6 cX6_wordsOf 4 (d + 3) X) (he : En layC V (some .int) (Ro (orW (bitP x) (wn σ) n) σ) X) : ∀ i : Nat, i ≤ n → WS layC V 4 X σ 4 [(3, .int (nI i)), (2, .int (orW (bitP x) (wn σ) i)), (0, rf V 5), (1, .int x)] [] := by
  intro i
  induction hm : n - i using Nat.strongRecOn generalizing i with
  | _ m9 ih =>
    intro hi
    have hn10 := hQ.n
    have hiI : (nI i).toInt = (i : Int) := nI_c (by omega)
    have hnI : (nI n).toInt = (n : Int) := nI_c (by omega)
    refine WS.iload_n hx dX6_wordsOf_4 rfl 0 rfl ?_
    refine WS.aload_n hx dX6_wordsOf_5 rfl 2 rfl ?_
    refine WS.getR hx okX6 lf6_21 rfl rfl dX6_wordsOf_6 ?_
    refine WS.callVi (st := [.int (nI i)]) [] hx (c_X7_size V (d + 2) σ n hQ) okX7_size lm6_34 rfl rfl rfl rfl (Nat.le_of_ble_eq_true rfl) dX6_wordsOf_9 (fun v1 σ2 h3 => ?_)
    obtain ⟨rfl, rfl⟩ := h3
    show WS layC V 4 X σ 12 [(3, .int (nI i)), (2, .int (orW (bitP x) (wn σ) i)), (0, rf V 5), (1, .int x)] [.int (nI n), .int (nI i)]
    refine WS.icmp_ge (tgt := 43) hx dX6_wordsOf_12 (by decide) (fun c12 => ?_) (fun c12 => ?_)
    · skip
      show WS layC V 4 X σ 43 [(3, .int (nI i)), (2, .int (orW (bitP x) (wn σ) i)), (0, rf V 5), (1, .int x)] []
      refine WS.iload_n hx dX6_wordsOf_43 rfl 1 rfl ?_
      exact WS.iret hx he dX6_wordsOf_44 (Ro.i (by rw [show n = i by (try simp only [i_le, i_lt, i_eq, tI_0, tI_1] at c12); (try simp only [i_le, i_lt, i_eq, tI_0, tI_1]); omega]))
    · skip
      show WS layC V 4 X σ 15 [(3, .int (nI i)), (2, .int (orW (bitP x) (wn σ) i)), (0, rf V 5), (1, .int x)] []
      refine WS.iload_n hx dX6_wordsOf_15 rfl 3 rfl ?_
      refine WS.iload_n hx dX6_wordsOf_16 rfl 0 rfl ?_
      refine WS.ishr hx dX6_wordsOf_17 ?_
      refine WS.iconst (v := 1) hx dX6_wordsOf_18 (by decide) ?_
      refine WS.iand hx dX6_wordsOf_19 ?_
      refine WS.iconst (v := 1) hx dX6_wordsOf_20 (by decide) ?_
      refine WS.icmp_ne (tgt := 37) hx dX6_wordsOf_21 (by decide) (fun c21 => ?_) (fun c21 => ?_)
      · skip
        show WS layC V 4 X σ 37 [(3, .int (nI i)), (2, .int (orW (bitP x) (wn σ) i)), (0, rf V 5), (1, .int x)] []
        refine WS.iinc (v := nI (i + 1)) (lo' := [(3, .int (nI (i + 1))), (2, .int (orW (bitP x) (wn σ) i)), (0, rf V 5), (1, .int x)]) hx dX6_wordsOf_37 0 rfl (nI_1 i) (by decide) rfl ?_
        refine WS.goto (tgt := 4) hx dX6_wordsOf_40 (by decide) ?_
        have hw : orW (bitP x) (wn σ) (i + 1) = (orW (bitP x) (wn σ) i) := if_neg (by unfold bitP; rw [decide_eq_true_eq]; exact c21)
        have h9 := ih _ (by (try simp only [i_le, i_lt, i_eq, tI_0, tI_1] at c12); (try simp only [i_le, i_lt, i_eq, tI_0, tI_1] at c21); (try simp only [i_le, i_lt, i_eq, tI_0, tI_1]); omega) (i + 1) rfl (by (try simp only [i_le, i_lt, i_eq, tI_0, tI_1] at c12); (try simp only [i_le, i_lt, i_eq, tI_0, tI_1] at c21); (try simp only [i_le, i_lt, i_eq, tI_0, tI_1]); omega)
        rw [hw] at h9
        exact WS.los [0, 1, 2, 3] rfl h9
      · skip
        show WS layC V 4 X σ 24 [(3, .int (nI i)), (2, .int (orW (bitP x) (wn σ) i)), (0, rf V 5), (1, .int x)] []
        refine WS.iload_n hx dX6_wordsOf_24 rfl 1 rfl ?_
        refine WS.iconst (v := 1) hx dX6_wordsOf_25 (by decide) ?_
        refine WS.aload_n hx dX6_wordsOf_26 rfl 2 rfl ?_
        refine WS.getR hx okX6 lf6_21 rfl rfl dX6_wordsOf_27 ?_
        refine WS.iload_n hx dX6_wordsOf_30 rfl 0 rfl ?_
        refine WS.callVi (st := [.int 1, .int (orW (bitP x) (wn σ) i)]) [.int (nI i)] hx (c_X7_wordNow V d σ n hQ i (by (try simp only [i_le, i_lt, i_eq, tI_0, tI_1] at c12); (try simp only [i_le, i_lt, i_eq, tI_0, tI_1] at c21); (try simp only [i_le, i_lt, i_eq, tI_0, tI_1]); omega)) okX7_wordNow lm6_47 rfl rfl rfl rfl (Nat.le_of_ble_eq_true rfl) dX6_wordsOf_31 (fun v4 σ5 h6 => ?_)
        obtain ⟨rfl, rfl⟩ := h6
        show WS layC V 4 X σ 34 [(3, .int (nI i)), (2, .int (orW (bitP x) (wn σ) i)), (0, rf V 5), (1, .int x)] [.int (σ.1 17 (nn (σ.1 12 (i)))), .int 1, .int (orW (bitP x) (wn σ) i)]
        refine WS.as rfl rfl (congrArg (fun z => Value.int z :: _) (show σ.1 17 (nn (σ.1 12 (i))) = wn σ i from rfl)) ?_
        skip
        refine WS.ishl hx dX6_wordsOf_34 ?_
        refine WS.ior hx dX6_wordsOf_35 ?_
        refine WS.istore_n (lo' := [(2, .int ((orW (bitP x) (wn σ) i) ||| (1 <<< ((wn σ i) &&& 31)))), (3, .int (nI i)), (0, rf V 5), (1, .int x)]) hx dX6_wordsOf_36 rfl (by decide) rfl ?_
        refine WS.iinc (v := nI (i + 1)) (lo' := [(3, .int (nI (i + 1))), (2, .int ((orW (bitP x) (wn σ) i) ||| (1 <<< ((wn σ i) &&& 31)))), (0, rf V 5), (1, .int x)]) hx dX6_wordsOf_37 1 rfl (nI_1 i) (by decide) rfl ?_
        refine WS.goto (tgt := 4) hx dX6_wordsOf_40 (by decide) ?_
        have hw : orW (bitP x) (wn σ) (i + 1) = ((orW (bitP x) (wn σ) i) ||| (1 <<< ((wn σ i) &&& 31))) := if_pos (by unfold bitP; rw [decide_eq_true_eq]; exact c21)
        have h9 := ih _ (by (try simp only [i_le, i_lt, i_eq, tI_0, tI_1] at c12); (try simp only [i_le, i_lt, i_eq, tI_0, tI_1] at c21); (try simp only [i_le, i_lt, i_eq, tI_0, tI_1]); omega) (i + 1) rfl (by (try simp only [i_le, i_lt, i_eq, tI_0, tI_1] at c12); (try simp only [i_le, i_lt, i_eq, tI_0, tI_1] at c21); (try simp only [i_le, i_lt, i_eq, tI_0, tI_1]); omega)
        rw [hw] at h9
        exact WS.los [0, 1, 2, 3] rfl h9
set_option maxHeartbeats 1000000 in
theorem c_X6_wordsOf (V : Vt) (d : Nat) (σ : Sg) (n : Nat) (hQ : QI σ n) (x : Int32) : CT layC V mX6_wordsOf (d + 3) [rf V 5, .int x] σ (Ro (orW (bitP x) (wn σ) n) σ) := by
  refine CT.of (own := RX6) rfl (by decide) (Nat.le_of_ble_eq_true rfl) (fun X (hx : Ok V RX6 cX6_wordsOf 4 (d + 3) X) (he : En layC V (some .int) (Ro (orW (bitP x) (wn σ) n) σ) X) => ?_)
  change WS layC V 4 X σ 0 [(0, rf V 5), (1, .int x)] []
  refine WS.iconst (v := 0) hx dX6_wordsOf_0 (by decide) ?_
  refine WS.istore_n (lo' := [(2, .int 0), (0, rf V 5), (1, .int x)]) hx dX6_wordsOf_1 rfl (by decide) rfl ?_
  refine WS.iconst (v := 0) hx dX6_wordsOf_2 (by decide) ?_
  refine WS.istore_n (lo' := [(3, .int 0), (2, .int 0), (0, rf V 5), (1, .int x)]) hx dX6_wordsOf_3 rfl (by decide) rfl ?_
  exact lp_X6_wordsOf V d σ n hQ x X hx he 0 (Nat.zero_le n)
def fwC (σ : Sg) (n : Nat) (x best : Int32) (k : Nat) : Prop := (best = -2 ∨ bcF (nI k) < bcF best) ∧ nI k &&& ((orW (fun b => decide (¬ σ.1 14 b = 1)) nI n) ^^^ (-1)) = 0 ∧ x &&& ((orW (bitP (nI k)) (wn σ) n) ^^^ (-1)) = 0
noncomputable def fwF (σ : Sg) (n : Nat) (x : Int32) : Nat → Int32
  | 0 => -2
  | k + 1 => have := Classical.propDecidable; if fwC σ n x (fwF σ n x k) k then nI k else fwF σ n x k
theorem fwF_t {σ : Sg} {n k : Nat} {x : Int32} (h : fwC σ n x (fwF σ n x k) k) : fwF σ n x (k + 1) = nI k := if_pos h
theorem fwF_f {σ : Sg} {n k : Nat} {x : Int32} (h : ¬ fwC σ n x (fwF σ n x k) k) : fwF σ n x (k + 1) = fwF σ n x k := if_neg h
theorem one_sh {n : Nat} (h : n ≤ 30) : (1 : Int32) <<< (nI n &&& 31) = nI (2 ^ n) := by
  have := (by decide +kernel : ∀ n, n ≤ 30 → (1 : Int32) <<< (nI n &&& 31) = nI (2 ^ n))
  exact this n h
set_option maxHeartbeats 1000000 in
theorem lp_X6_fewestThatSay (V : Vt) (d : Nat) (σ : Sg) (n : Nat) (hQ : QI σ n) (x : Int32) (X : Xt) (hx : Ok V RX6 cX6_fewestThatSay 6 (d + 4) X) (he : En layC V (some .int) (Ro (fwF σ n x (2 ^ n)) σ) X) : ∀ i : Nat, i ≤ 2 ^ n → WS layC V 6 X σ 11 [(4, .int (nI i)), (3, .int (fwF σ n x i)), (2, .int (orW (fun b => decide (¬ σ.1 14 b = 1)) nI n)), (0, rf V 5), (1, .int x)] [] := by
  intro i
  induction hm : 2 ^ n - i using Nat.strongRecOn generalizing i with
  | _ m9 ih =>
    intro hi
    have hn10 := hQ.n
    have h2n : 2 ^ n ≤ 2 ^ 10 := Nat.pow_le_pow_right (by decide) hn10
    have h2c : 2 ^ 10 = 1024 := rfl
    have h2I : (nI (2 ^ n)).toInt = ((2 ^ n : Nat) : Int) := nI_c (by omega)
    have hiI : (nI i).toInt = (i : Int) := nI_c (by omega)
    have hnI : (nI n).toInt = (n : Int) := nI_c (by omega)
    refine WS.iload hx dX6_fewestThatSay_11 0 rfl ?_
    refine WS.iconst (v := 1) hx dX6_fewestThatSay_13 (by decide) ?_
    refine WS.aload_n hx dX6_fewestThatSay_14 rfl 3 rfl ?_
    refine WS.getR hx okX6 lf6_21 rfl rfl dX6_fewestThatSay_15 ?_
    refine WS.callVi (st := [.int 1, .int (nI i)]) [] hx (c_X7_size V (d + 3) σ n hQ) okX7_size lm6_34 rfl rfl rfl rfl (Nat.le_of_ble_eq_true rfl) dX6_fewestThatSay_18 (fun v1 σ2 h3 => ?_)
    obtain ⟨rfl, rfl⟩ := h3
    show WS layC V 6 X σ 21 [(4, .int (nI i)), (3, .int (fwF σ n x i)), (2, .int (orW (fun b => decide (¬ σ.1 14 b = 1)) nI n)), (0, rf V 5), (1, .int x)] [.int (nI n), .int 1, .int (nI i)]
    refine WS.ishl hx dX6_fewestThatSay_21 ?_
    refine WS.as rfl rfl (congrArg (fun z => Value.int z :: _) (show 1 <<< ((nI n) &&& 31) = nI (2 ^ n) from one_sh (by omega))) ?_
    skip
    refine WS.icmp_ge (tgt := 86) hx dX6_fewestThatSay_22 (by decide) (fun c22 => ?_) (fun c22 => ?_)
    · skip
      show WS layC V 6 X σ 86 [(4, .int (nI i)), (3, .int (fwF σ n x i)), (2, .int (orW (fun b => decide (¬ σ.1 14 b = 1)) nI n)), (0, rf V 5), (1, .int x)] []
      refine WS.iload_n hx dX6_fewestThatSay_86 rfl 1 rfl ?_
      exact WS.iret hx he dX6_fewestThatSay_87 (Ro.i (by rw [show i = 2 ^ n by (try simp only [i_le, i_lt, i_eq, tI_m2, tI_m1, tI_0, tI_1] at c22); (try simp only [i_le, i_lt, i_eq, tI_m2, tI_m1, tI_0, tI_1]); omega]))
    · skip
      show WS layC V 6 X σ 25 [(4, .int (nI i)), (3, .int (fwF σ n x i)), (2, .int (orW (fun b => decide (¬ σ.1 14 b = 1)) nI n)), (0, rf V 5), (1, .int x)] []
      refine WS.iload_n hx dX6_fewestThatSay_25 rfl 1 rfl ?_
      refine WS.bipush (v := (-2)) hx dX6_fewestThatSay_26 (by decide) ?_
      refine WS.icmp_eq (tgt := 43) hx dX6_fewestThatSay_28 (by decide) (fun c28 => ?_) (fun c28 => ?_)
      · skip
        show WS layC V 6 X σ 43 [(4, .int (nI i)), (3, .int (fwF σ n x i)), (2, .int (orW (fun b => decide (¬ σ.1 14 b = 1)) nI n)), (0, rf V 5), (1, .int x)] []
        refine WS.iconst (v := 1) hx dX6_fewestThatSay_43 (by decide) ?_
        refine WS.goto (tgt := 48) hx dX6_fewestThatSay_44 (by decide) ?_
        refine WS.istore (lo' := [(5, .int 1), (4, .int (nI i)), (3, .int (fwF σ n x i)), (2, .int (orW (fun b => decide (¬ σ.1 14 b = 1)) nI n)), (0, rf V 5), (1, .int x)]) hx dX6_fewestThatSay_48 (by decide) rfl ?_
        refine WS.iload hx dX6_fewestThatSay_50 1 rfl ?_
        refine WS.iload_n hx dX6_fewestThatSay_52 rfl 3 rfl ?_
        refine WS.iconst (v := (-1)) hx dX6_fewestThatSay_53 (by decide) ?_
        refine WS.ixor hx dX6_fewestThatSay_54 ?_
        refine WS.iand hx dX6_fewestThatSay_55 ?_
        refine WS.if_ne (tgt := 80) hx dX6_fewestThatSay_56 (by decide) (fun c56 => ?_) (fun c56 => ?_)
        · skip
          show WS layC V 6 X σ 80 [(5, .int 1), (4, .int (nI i)), (3, .int (fwF σ n x i)), (2, .int (orW (fun b => decide (¬ σ.1 14 b = 1)) nI n)), (0, rf V 5), (1, .int x)] []
          have hno : ¬ fwC σ n x (fwF σ n x i) i := fun q => c56 q.2.1
          refine WS.iinc (v := nI (i + 1)) (lo' := [(4, .int (nI (i + 1))), (5, .int 1), (3, .int (fwF σ n x i)), (2, .int (orW (fun b => decide (¬ σ.1 14 b = 1)) nI n)), (0, rf V 5), (1, .int x)]) hx dX6_fewestThatSay_80 1 rfl (nI_1 i) (by decide) rfl ?_
          refine WS.goto (tgt := 11) hx dX6_fewestThatSay_83 (by decide) ?_
          have hno : ¬ fwC σ n x (fwF σ n x i) i := fun q => c56 q.2.1
          have h9 := ih _ (by (try simp only [i_le, i_lt, i_eq, tI_m2, tI_m1, tI_0, tI_1] at c22); (try simp only [i_le, i_lt, i_eq, tI_m2, tI_m1, tI_0, tI_1] at c28); (try simp only [i_le, i_lt, i_eq, tI_m2, tI_m1, tI_0, tI_1] at c56); (try simp only [i_le, i_lt, i_eq, tI_m2, tI_m1, tI_0, tI_1]); omega) (i + 1) rfl (by (try simp only [i_le, i_lt, i_eq, tI_m2, tI_m1, tI_0, tI_1] at c22); (try simp only [i_le, i_lt, i_eq, tI_m2, tI_m1, tI_0, tI_1] at c28); (try simp only [i_le, i_lt, i_eq, tI_m2, tI_m1, tI_0, tI_1] at c56); (try simp only [i_le, i_lt, i_eq, tI_m2, tI_m1, tI_0, tI_1]); omega)
          rw [fwF_f hno] at h9
          exact WS.los [0, 2, 3, 4, 5] rfl h9
        · skip
          show WS layC V 6 X σ 59 [(5, .int 1), (4, .int (nI i)), (3, .int (fwF σ n x i)), (2, .int (orW (fun b => decide (¬ σ.1 14 b = 1)) nI n)), (0, rf V 5), (1, .int x)] []
          refine WS.iload hx dX6_fewestThatSay_59 0 rfl ?_
          refine WS.if_eq (tgt := 80) hx dX6_fewestThatSay_61 (by decide) (fun h => absurd h (by decide)) (fun _ => ?_)
          refine WS.iload_n hx dX6_fewestThatSay_64 rfl 5 rfl ?_
          refine WS.aload_n hx dX6_fewestThatSay_65 rfl 4 rfl ?_
          refine WS.iload hx dX6_fewestThatSay_66 1 rfl ?_
          refine WS.callVi (st := [.int x]) [.int (nI i)] hx (c_X6_wordsOf V d σ n hQ (nI i)) okX6_wordsOf lm6_65 rfl rfl rfl rfl (Nat.le_of_ble_eq_true rfl) dX6_fewestThatSay_68 (fun v4 σ5 h6 => ?_)
          obtain ⟨rfl, rfl⟩ := h6
          show WS layC V 6 X σ 71 [(5, .int 1), (4, .int (nI i)), (3, .int (fwF σ n x i)), (2, .int (orW (fun b => decide (¬ σ.1 14 b = 1)) nI n)), (0, rf V 5), (1, .int x)] [.int (orW (bitP (nI i)) (wn σ) n), .int x]
          refine WS.iconst (v := (-1)) hx dX6_fewestThatSay_71 (by decide) ?_
          refine WS.ixor hx dX6_fewestThatSay_72 ?_
          refine WS.iand hx dX6_fewestThatSay_73 ?_
          refine WS.if_ne (tgt := 80) hx dX6_fewestThatSay_74 (by decide) (fun c74 => ?_) (fun c74 => ?_)
          · skip
            show WS layC V 6 X σ 80 [(5, .int 1), (4, .int (nI i)), (3, .int (fwF σ n x i)), (2, .int (orW (fun b => decide (¬ σ.1 14 b = 1)) nI n)), (0, rf V 5), (1, .int x)] []
            refine WS.iinc (v := nI (i + 1)) (lo' := [(4, .int (nI (i + 1))), (5, .int 1), (3, .int (fwF σ n x i)), (2, .int (orW (fun b => decide (¬ σ.1 14 b = 1)) nI n)), (0, rf V 5), (1, .int x)]) hx dX6_fewestThatSay_80 1 rfl (nI_1 i) (by decide) rfl ?_
            refine WS.goto (tgt := 11) hx dX6_fewestThatSay_83 (by decide) ?_
            have hno : ¬ fwC σ n x (fwF σ n x i) i := fun q => c74 q.2.2
            have h9 := ih _ (by (try simp only [i_le, i_lt, i_eq, tI_m2, tI_m1, tI_0, tI_1] at c22); (try simp only [i_le, i_lt, i_eq, tI_m2, tI_m1, tI_0, tI_1] at c28); (try simp only [i_le, i_lt, i_eq, tI_m2, tI_m1, tI_0, tI_1] at c56); (try simp only [i_le, i_lt, i_eq, tI_m2, tI_m1, tI_0, tI_1] at c74); (try simp only [i_le, i_lt, i_eq, tI_m2, tI_m1, tI_0, tI_1]); omega) (i + 1) rfl (by (try simp only [i_le, i_lt, i_eq, tI_m2, tI_m1, tI_0, tI_1] at c22); (try simp only [i_le, i_lt, i_eq, tI_m2, tI_m1, tI_0, tI_1] at c28); (try simp only [i_le, i_lt, i_eq, tI_m2, tI_m1, tI_0, tI_1] at c56); (try simp only [i_le, i_lt, i_eq, tI_m2, tI_m1, tI_0, tI_1] at c74); (try simp only [i_le, i_lt, i_eq, tI_m2, tI_m1, tI_0, tI_1]); omega)
            rw [fwF_f hno] at h9
            exact WS.los [0, 2, 3, 4, 5] rfl h9
          · skip
            show WS layC V 6 X σ 77 [(5, .int 1), (4, .int (nI i)), (3, .int (fwF σ n x i)), (2, .int (orW (fun b => decide (¬ σ.1 14 b = 1)) nI n)), (0, rf V 5), (1, .int x)] []
            refine WS.iload hx dX6_fewestThatSay_77 1 rfl ?_
            refine WS.istore_n (lo' := [(3, .int (nI i)), (5, .int 1), (4, .int (nI i)), (2, .int (orW (fun b => decide (¬ σ.1 14 b = 1)) nI n)), (0, rf V 5), (1, .int x)]) hx dX6_fewestThatSay_79 rfl (by decide) rfl ?_
            refine WS.iinc (v := nI (i + 1)) (lo' := [(4, .int (nI (i + 1))), (3, .int (nI i)), (5, .int 1), (2, .int (orW (fun b => decide (¬ σ.1 14 b = 1)) nI n)), (0, rf V 5), (1, .int x)]) hx dX6_fewestThatSay_80 2 rfl (nI_1 i) (by decide) rfl ?_
            refine WS.goto (tgt := 11) hx dX6_fewestThatSay_83 (by decide) ?_
            have hyes : fwC σ n x (fwF σ n x i) i := ⟨Or.inl c28, c56, c74⟩
            have h9 := ih _ (by (try simp only [i_le, i_lt, i_eq, tI_m2, tI_m1, tI_0, tI_1] at c22); (try simp only [i_le, i_lt, i_eq, tI_m2, tI_m1, tI_0, tI_1] at c28); (try simp only [i_le, i_lt, i_eq, tI_m2, tI_m1, tI_0, tI_1] at c56); (try simp only [i_le, i_lt, i_eq, tI_m2, tI_m1, tI_0, tI_1] at c74); (try simp only [i_le, i_lt, i_eq, tI_m2, tI_m1, tI_0, tI_1]); omega) (i + 1) rfl (by (try simp only [i_le, i_lt, i_eq, tI_m2, tI_m1, tI_0, tI_1] at c22); (try simp only [i_le, i_lt, i_eq, tI_m2, tI_m1, tI_0, tI_1] at c28); (try simp only [i_le, i_lt, i_eq, tI_m2, tI_m1, tI_0, tI_1] at c56); (try simp only [i_le, i_lt, i_eq, tI_m2, tI_m1, tI_0, tI_1] at c74); (try simp only [i_le, i_lt, i_eq, tI_m2, tI_m1, tI_0, tI_1]); omega)
            rw [fwF_t hyes] at h9
            exact WS.los [0, 1, 3, 4, 5] rfl h9
      · skip
        show WS layC V 6 X σ 31 [(4, .int (nI i)), (3, .int (fwF σ n x i)), (2, .int (orW (fun b => decide (¬ σ.1 14 b = 1)) nI n)), (0, rf V 5), (1, .int x)] []
        refine WS.iload hx dX6_fewestThatSay_31 0 rfl ?_
        refine WS.callSi (st := []) [.int (nI i)] hx (c_J_bits V (d + 3) σ (nI i)) okJ_bits lm6_60 rfl rfl (Nat.le_of_ble_eq_true rfl) dX6_fewestThatSay_33 (fun v7 σ8 h9 => ?_)
        obtain ⟨rfl, rfl⟩ := h9
        show WS layC V 6 X σ 36 [(4, .int (nI i)), (3, .int (fwF σ n x i)), (2, .int (orW (fun b => decide (¬ σ.1 14 b = 1)) nI n)), (0, rf V 5), (1, .int x)] [.int (bcF (nI i))]
        refine WS.iload_n hx dX6_fewestThatSay_36 rfl 1 rfl ?_
        refine WS.callSi (st := [.int (bcF (nI i))]) [.int (fwF σ n x i)] hx (c_J_bits V (d + 3) σ (fwF σ n x i)) okJ_bits lm6_60 rfl rfl (Nat.le_of_ble_eq_true rfl) dX6_fewestThatSay_37 (fun v10 σ11 h12 => ?_)
        obtain ⟨rfl, rfl⟩ := h12
        show WS layC V 6 X σ 40 [(4, .int (nI i)), (3, .int (fwF σ n x i)), (2, .int (orW (fun b => decide (¬ σ.1 14 b = 1)) nI n)), (0, rf V 5), (1, .int x)] [.int (bcF (fwF σ n x i)), .int (bcF (nI i))]
        refine WS.icmp_ge (tgt := 47) hx dX6_fewestThatSay_40 (by decide) (fun c40 => ?_) (fun c40 => ?_)
        · skip
          show WS layC V 6 X σ 47 [(4, .int (nI i)), (3, .int (fwF σ n x i)), (2, .int (orW (fun b => decide (¬ σ.1 14 b = 1)) nI n)), (0, rf V 5), (1, .int x)] []
          refine WS.iconst (v := 0) hx dX6_fewestThatSay_47 (by decide) ?_
          refine WS.istore (lo' := [(5, .int 0), (4, .int (nI i)), (3, .int (fwF σ n x i)), (2, .int (orW (fun b => decide (¬ σ.1 14 b = 1)) nI n)), (0, rf V 5), (1, .int x)]) hx dX6_fewestThatSay_48 (by decide) rfl ?_
          refine WS.iload hx dX6_fewestThatSay_50 1 rfl ?_
          refine WS.iload_n hx dX6_fewestThatSay_52 rfl 3 rfl ?_
          refine WS.iconst (v := (-1)) hx dX6_fewestThatSay_53 (by decide) ?_
          refine WS.ixor hx dX6_fewestThatSay_54 ?_
          refine WS.iand hx dX6_fewestThatSay_55 ?_
          refine WS.if_ne (tgt := 80) hx dX6_fewestThatSay_56 (by decide) (fun c56 => ?_) (fun c56 => ?_)
          · skip
            show WS layC V 6 X σ 80 [(5, .int 0), (4, .int (nI i)), (3, .int (fwF σ n x i)), (2, .int (orW (fun b => decide (¬ σ.1 14 b = 1)) nI n)), (0, rf V 5), (1, .int x)] []
            have hno : ¬ fwC σ n x (fwF σ n x i) i := fun q => c56 q.2.1
            refine WS.iinc (v := nI (i + 1)) (lo' := [(4, .int (nI (i + 1))), (5, .int 0), (3, .int (fwF σ n x i)), (2, .int (orW (fun b => decide (¬ σ.1 14 b = 1)) nI n)), (0, rf V 5), (1, .int x)]) hx dX6_fewestThatSay_80 1 rfl (nI_1 i) (by decide) rfl ?_
            refine WS.goto (tgt := 11) hx dX6_fewestThatSay_83 (by decide) ?_
            have hno : ¬ fwC σ n x (fwF σ n x i) i := fun q => c56 q.2.1
            have h9 := ih _ (by (try simp only [i_le, i_lt, i_eq, tI_m2, tI_m1, tI_0, tI_1] at c22); (try simp only [i_le, i_lt, i_eq, tI_m2, tI_m1, tI_0, tI_1] at c28); (try simp only [i_le, i_lt, i_eq, tI_m2, tI_m1, tI_0, tI_1] at c40); (try simp only [i_le, i_lt, i_eq, tI_m2, tI_m1, tI_0, tI_1] at c56); (try simp only [i_le, i_lt, i_eq, tI_m2, tI_m1, tI_0, tI_1]); omega) (i + 1) rfl (by (try simp only [i_le, i_lt, i_eq, tI_m2, tI_m1, tI_0, tI_1] at c22); (try simp only [i_le, i_lt, i_eq, tI_m2, tI_m1, tI_0, tI_1] at c28); (try simp only [i_le, i_lt, i_eq, tI_m2, tI_m1, tI_0, tI_1] at c40); (try simp only [i_le, i_lt, i_eq, tI_m2, tI_m1, tI_0, tI_1] at c56); (try simp only [i_le, i_lt, i_eq, tI_m2, tI_m1, tI_0, tI_1]); omega)
            rw [fwF_f hno] at h9
            exact WS.los [0, 2, 3, 4, 5] rfl h9
          · skip
            show WS layC V 6 X σ 59 [(5, .int 0), (4, .int (nI i)), (3, .int (fwF σ n x i)), (2, .int (orW (fun b => decide (¬ σ.1 14 b = 1)) nI n)), (0, rf V 5), (1, .int x)] []
            refine WS.iload hx dX6_fewestThatSay_59 0 rfl ?_
            refine WS.if_eq (tgt := 80) hx dX6_fewestThatSay_61 (by decide) (fun _ => ?_) (fun h => absurd (by decide) h)
            refine WS.iinc (v := nI (i + 1)) (lo' := [(4, .int (nI (i + 1))), (5, .int 0), (3, .int (fwF σ n x i)), (2, .int (orW (fun b => decide (¬ σ.1 14 b = 1)) nI n)), (0, rf V 5), (1, .int x)]) hx dX6_fewestThatSay_80 1 rfl (nI_1 i) (by decide) rfl ?_
            refine WS.goto (tgt := 11) hx dX6_fewestThatSay_83 (by decide) ?_
            have hno : ¬ fwC σ n x (fwF σ n x i) i := fun q => q.1.elim c28 (fun z => absurd c40 (Int32.not_le.mpr z))
            have h9 := ih _ (by (try simp only [i_le, i_lt, i_eq, tI_m2, tI_m1, tI_0, tI_1] at c22); (try simp only [i_le, i_lt, i_eq, tI_m2, tI_m1, tI_0, tI_1] at c28); (try simp only [i_le, i_lt, i_eq, tI_m2, tI_m1, tI_0, tI_1] at c40); (try simp only [i_le, i_lt, i_eq, tI_m2, tI_m1, tI_0, tI_1] at c56); (try simp only [i_le, i_lt, i_eq, tI_m2, tI_m1, tI_0, tI_1]); omega) (i + 1) rfl (by (try simp only [i_le, i_lt, i_eq, tI_m2, tI_m1, tI_0, tI_1] at c22); (try simp only [i_le, i_lt, i_eq, tI_m2, tI_m1, tI_0, tI_1] at c28); (try simp only [i_le, i_lt, i_eq, tI_m2, tI_m1, tI_0, tI_1] at c40); (try simp only [i_le, i_lt, i_eq, tI_m2, tI_m1, tI_0, tI_1] at c56); (try simp only [i_le, i_lt, i_eq, tI_m2, tI_m1, tI_0, tI_1]); omega)
            rw [fwF_f hno] at h9
            exact WS.los [0, 2, 3, 4, 5] rfl h9
        · skip
          show WS layC V 6 X σ 43 [(4, .int (nI i)), (3, .int (fwF σ n x i)), (2, .int (orW (fun b => decide (¬ σ.1 14 b = 1)) nI n)), (0, rf V 5), (1, .int x)] []
          refine WS.iconst (v := 1) hx dX6_fewestThatSay_43 (by decide) ?_
          refine WS.goto (tgt := 48) hx dX6_fewestThatSay_44 (by decide) ?_
          refine WS.istore (lo' := [(5, .int 1), (4, .int (nI i)), (3, .int (fwF σ n x i)), (2, .int (orW (fun b => decide (¬ σ.1 14 b = 1)) nI n)), (0, rf V 5), (1, .int x)]) hx dX6_fewestThatSay_48 (by decide) rfl ?_
          refine WS.iload hx dX6_fewestThatSay_50 1 rfl ?_
          refine WS.iload_n hx dX6_fewestThatSay_52 rfl 3 rfl ?_
          refine WS.iconst (v := (-1)) hx dX6_fewestThatSay_53 (by decide) ?_
          refine WS.ixor hx dX6_fewestThatSay_54 ?_
          refine WS.iand hx dX6_fewestThatSay_55 ?_
          refine WS.if_ne (tgt := 80) hx dX6_fewestThatSay_56 (by decide) (fun c56 => ?_) (fun c56 => ?_)
          · skip
            show WS layC V 6 X σ 80 [(5, .int 1), (4, .int (nI i)), (3, .int (fwF σ n x i)), (2, .int (orW (fun b => decide (¬ σ.1 14 b = 1)) nI n)), (0, rf V 5), (1, .int x)] []
            have hno : ¬ fwC σ n x (fwF σ n x i) i := fun q => c56 q.2.1
            refine WS.iinc (v := nI (i + 1)) (lo' := [(4, .int (nI (i + 1))), (5, .int 1), (3, .int (fwF σ n x i)), (2, .int (orW (fun b => decide (¬ σ.1 14 b = 1)) nI n)), (0, rf V 5), (1, .int x)]) hx dX6_fewestThatSay_80 1 rfl (nI_1 i) (by decide) rfl ?_
            refine WS.goto (tgt := 11) hx dX6_fewestThatSay_83 (by decide) ?_
            have hno : ¬ fwC σ n x (fwF σ n x i) i := fun q => c56 q.2.1
            have h9 := ih _ (by (try simp only [i_le, i_lt, i_eq, tI_m2, tI_m1, tI_0, tI_1] at c22); (try simp only [i_le, i_lt, i_eq, tI_m2, tI_m1, tI_0, tI_1] at c28); (try simp only [i_le, i_lt, i_eq, tI_m2, tI_m1, tI_0, tI_1] at c40); (try simp only [i_le, i_lt, i_eq, tI_m2, tI_m1, tI_0, tI_1] at c56); (try simp only [i_le, i_lt, i_eq, tI_m2, tI_m1, tI_0, tI_1]); omega) (i + 1) rfl (by (try simp only [i_le, i_lt, i_eq, tI_m2, tI_m1, tI_0, tI_1] at c22); (try simp only [i_le, i_lt, i_eq, tI_m2, tI_m1, tI_0, tI_1] at c28); (try simp only [i_le, i_lt, i_eq, tI_m2, tI_m1, tI_0, tI_1] at c40); (try simp only [i_le, i_lt, i_eq, tI_m2, tI_m1, tI_0, tI_1] at c56); (try simp only [i_le, i_lt, i_eq, tI_m2, tI_m1, tI_0, tI_1]); omega)
            rw [fwF_f hno] at h9
            exact WS.los [0, 2, 3, 4, 5] rfl h9
          · skip
            show WS layC V 6 X σ 59 [(5, .int 1), (4, .int (nI i)), (3, .int (fwF σ n x i)), (2, .int (orW (fun b => decide (¬ σ.1 14 b = 1)) nI n)), (0, rf V 5), (1, .int x)] []
            refine WS.iload hx dX6_fewestThatSay_59 0 rfl ?_
            refine WS.if_eq (tgt := 80) hx dX6_fewestThatSay_61 (by decide) (fun h => absurd h (by decide)) (fun _ => ?_)
            refine WS.iload_n hx dX6_fewestThatSay_64 rfl 5 rfl ?_
            refine WS.aload_n hx dX6_fewestThatSay_65 rfl 4 rfl ?_
            refine WS.iload hx dX6_fewestThatSay_66 1 rfl ?_
            refine WS.callVi (st := [.int x]) [.int (nI i)] hx (c_X6_wordsOf V d σ n hQ (nI i)) okX6_wordsOf lm6_65 rfl rfl rfl rfl (Nat.le_of_ble_eq_true rfl) dX6_fewestThatSay_68 (fun v13 σ14 h15 => ?_)
            obtain ⟨rfl, rfl⟩ := h15
            show WS layC V 6 X σ 71 [(5, .int 1), (4, .int (nI i)), (3, .int (fwF σ n x i)), (2, .int (orW (fun b => decide (¬ σ.1 14 b = 1)) nI n)), (0, rf V 5), (1, .int x)] [.int (orW (bitP (nI i)) (wn σ) n), .int x]
            refine WS.iconst (v := (-1)) hx dX6_fewestThatSay_71 (by decide) ?_
            refine WS.ixor hx dX6_fewestThatSay_72 ?_
            refine WS.iand hx dX6_fewestThatSay_73 ?_
            refine WS.if_ne (tgt := 80) hx dX6_fewestThatSay_74 (by decide) (fun c74 => ?_) (fun c74 => ?_)
            · skip
              show WS layC V 6 X σ 80 [(5, .int 1), (4, .int (nI i)), (3, .int (fwF σ n x i)), (2, .int (orW (fun b => decide (¬ σ.1 14 b = 1)) nI n)), (0, rf V 5), (1, .int x)] []
              refine WS.iinc (v := nI (i + 1)) (lo' := [(4, .int (nI (i + 1))), (5, .int 1), (3, .int (fwF σ n x i)), (2, .int (orW (fun b => decide (¬ σ.1 14 b = 1)) nI n)), (0, rf V 5), (1, .int x)]) hx dX6_fewestThatSay_80 1 rfl (nI_1 i) (by decide) rfl ?_
              refine WS.goto (tgt := 11) hx dX6_fewestThatSay_83 (by decide) ?_
              have hno : ¬ fwC σ n x (fwF σ n x i) i := fun q => c74 q.2.2
              have h9 := ih _ (by (try simp only [i_le, i_lt, i_eq, tI_m2, tI_m1, tI_0, tI_1] at c22); (try simp only [i_le, i_lt, i_eq, tI_m2, tI_m1, tI_0, tI_1] at c28); (try simp only [i_le, i_lt, i_eq, tI_m2, tI_m1, tI_0, tI_1] at c40); (try simp only [i_le, i_lt, i_eq, tI_m2, tI_m1, tI_0, tI_1] at c56); (try simp only [i_le, i_lt, i_eq, tI_m2, tI_m1, tI_0, tI_1] at c74); (try simp only [i_le, i_lt, i_eq, tI_m2, tI_m1, tI_0, tI_1]); omega) (i + 1) rfl (by (try simp only [i_le, i_lt, i_eq, tI_m2, tI_m1, tI_0, tI_1] at c22); (try simp only [i_le, i_lt, i_eq, tI_m2, tI_m1, tI_0, tI_1] at c28); (try simp only [i_le, i_lt, i_eq, tI_m2, tI_m1, tI_0, tI_1] at c40); (try simp only [i_le, i_lt, i_eq, tI_m2, tI_m1, tI_0, tI_1] at c56); (try simp only [i_le, i_lt, i_eq, tI_m2, tI_m1, tI_0, tI_1] at c74); (try simp only [i_le, i_lt, i_eq, tI_m2, tI_m1, tI_0, tI_1]); omega)
              rw [fwF_f hno] at h9
              exact WS.los [0, 2, 3, 4, 5] rfl h9
            · skip
              show WS layC V 6 X σ 77 [(5, .int 1), (4, .int (nI i)), (3, .int (fwF σ n x i)), (2, .int (orW (fun b => decide (¬ σ.1 14 b = 1)) nI n)), (0, rf V 5), (1, .int x)] []
              refine WS.iload hx dX6_fewestThatSay_77 1 rfl ?_
              refine WS.istore_n (lo' := [(3, .int (nI i)), (5, .int 1), (4, .int (nI i)), (2, .int (orW (fun b => decide (¬ σ.1 14 b = 1)) nI n)), (0, rf V 5), (1, .int x)]) hx dX6_fewestThatSay_79 rfl (by decide) rfl ?_
              refine WS.iinc (v := nI (i + 1)) (lo' := [(4, .int (nI (i + 1))), (3, .int (nI i)), (5, .int 1), (2, .int (orW (fun b => decide (¬ σ.1 14 b = 1)) nI n)), (0, rf V 5), (1, .int x)]) hx dX6_fewestThatSay_80 2 rfl (nI_1 i) (by decide) rfl ?_
              refine WS.goto (tgt := 11) hx dX6_fewestThatSay_83 (by decide) ?_
              have hyes : fwC σ n x (fwF σ n x i) i := ⟨Or.inr (Int32.not_le.mp c40), c56, c74⟩
              have h9 := ih _ (by (try simp only [i_le, i_lt, i_eq, tI_m2, tI_m1, tI_0, tI_1] at c22); (try simp only [i_le, i_lt, i_eq, tI_m2, tI_m1, tI_0, tI_1] at c28); (try simp only [i_le, i_lt, i_eq, tI_m2, tI_m1, tI_0, tI_1] at c40); (try simp only [i_le, i_lt, i_eq, tI_m2, tI_m1, tI_0, tI_1] at c56); (try simp only [i_le, i_lt, i_eq, tI_m2, tI_m1, tI_0, tI_1] at c74); (try simp only [i_le, i_lt, i_eq, tI_m2, tI_m1, tI_0, tI_1]); omega) (i + 1) rfl (by (try simp only [i_le, i_lt, i_eq, tI_m2, tI_m1, tI_0, tI_1] at c22); (try simp only [i_le, i_lt, i_eq, tI_m2, tI_m1, tI_0, tI_1] at c28); (try simp only [i_le, i_lt, i_eq, tI_m2, tI_m1, tI_0, tI_1] at c40); (try simp only [i_le, i_lt, i_eq, tI_m2, tI_m1, tI_0, tI_1] at c56); (try simp only [i_le, i_lt, i_eq, tI_m2, tI_m1, tI_0, tI_1] at c74); (try simp only [i_le, i_lt, i_eq, tI_m2, tI_m1, tI_0, tI_1]); omega)
              rw [fwF_t hyes] at h9
              exact WS.los [0, 1, 3, 4, 5] rfl h9
set_option maxHeartbeats 1000000 in
theorem c_X6_fewestThatSay (V : Vt) (d : Nat) (σ : Sg) (n : Nat) (hQ : QI σ n) (x : Int32) : CT layC V mX6_fewestThatSay (d + 4) [rf V 5, .int x] σ (Ro (fwF σ n x (2 ^ n)) σ) := by
  refine CT.of (own := RX6) rfl (by decide) (Nat.le_of_ble_eq_true rfl) (fun X (hx : Ok V RX6 cX6_fewestThatSay 6 (d + 4) X) (he : En layC V (some .int) (Ro (fwF σ n x (2 ^ n)) σ) X) => ?_)
  change WS layC V 6 X σ 0 [(0, rf V 5), (1, .int x)] []
  refine WS.aload_n hx dX6_fewestThatSay_0 rfl 0 rfl ?_
  refine WS.callVi (st := []) [] hx (c_X6_closedBits V d σ n hQ ) okX6_closedBits lm6_57 rfl rfl rfl rfl (Nat.le_of_ble_eq_true rfl) dX6_fewestThatSay_1 (fun v1 σ2 h3 => ?_)
  obtain ⟨rfl, rfl⟩ := h3
  show WS layC V 6 X σ 4 [(0, rf V 5), (1, .int x)] [.int (orW (fun b => decide (¬ σ.1 14 b = 1)) nI n)]
  refine WS.istore_n (lo' := [(2, .int (orW (fun b => decide (¬ σ.1 14 b = 1)) nI n)), (0, rf V 5), (1, .int x)]) hx dX6_fewestThatSay_4 rfl (by decide) rfl ?_
  refine WS.bipush (v := (-2)) hx dX6_fewestThatSay_5 (by decide) ?_
  refine WS.istore_n (lo' := [(3, .int (-2)), (2, .int (orW (fun b => decide (¬ σ.1 14 b = 1)) nI n)), (0, rf V 5), (1, .int x)]) hx dX6_fewestThatSay_7 rfl (by decide) rfl ?_
  refine WS.iconst (v := 0) hx dX6_fewestThatSay_8 (by decide) ?_
  refine WS.istore (lo' := [(4, .int 0), (3, .int (-2)), (2, .int (orW (fun b => decide (¬ σ.1 14 b = 1)) nI n)), (0, rf V 5), (1, .int x)]) hx dX6_fewestThatSay_9 (by decide) rfl ?_
  exact WS.los [0, 1, 2, 3, 4] rfl (lp_X6_fewestThatSay V d σ n hQ x X hx he 0 (Nat.zero_le _))

theorem sh_in {f : Int32} (h : 0 ≤ f.toInt ∧ f.toInt ≤ 5) : vp_in f 6 := vp_in_iff.mpr (by omega)
theorem sh_nn {f : Int32} (h : 0 ≤ f.toInt ∧ f.toInt ≤ 5) : nn f < 6 := by have := nn_int h.1; omega
theorem smN_le {f : Nat → Nat} {M : Nat} : ∀ k, (∀ j, j < k → f j ≤ M) → smN f k ≤ k * M
  | 0, _ => by simp [smN]
  | k + 1, h => by
    have h1 := smN_le k (fun j hj => h j (by omega))
    have h2 := h k (by omega)
    show smN f k + f k ≤ (k + 1) * M
    rw [Nat.add_mul]; omega
theorem pr_le {k : Nat} (h : k ≤ 10) : k * (k - 1) / 2 ≤ 45 := by
  have : k = 0 ∨ k = 1 ∨ k = 2 ∨ k = 3 ∨ k = 4 ∨ k = 5 ∨ k = 6 ∨ k = 7 ∨ k = 8 ∨ k = 9 ∨ k = 10 := by omega
  rcases this with rfl | rfl | rfl | rfl | rfl | rfl | rfl | rfl | rfl | rfl | rfl <;> decide
def chV (A B : Nat) (q : Int32) : Int64 := if A = 0 then q.toInt64 else (nI ((if q.toInt = 0 then A else B) / cdL A B (min A B - 1))).toInt64
theorem cdL_pos (A B : Nat) : ∀ k, 1 ≤ cdL A B k ∧ cdL A B k ≤ k + 1
  | 0 => ⟨Nat.le_refl _, Nat.le_refl _⟩
  | k + 1 => by
    have h := cdL_pos A B k
    unfold cdL
    split <;> omega
def lpC (σ : Sg) (n : Nat) : Nat := smN (fun w => cntB (fun b => decide (¬ σ.1 14 b = 1 ∧ wn σ b = nI w)) n * (cntB (fun b => decide (¬ σ.1 14 b = 1 ∧ wn σ b = nI w)) n - 1) / 2) 10
def syC (σ : Sg) (n : Nat) (w : Int32) : Nat := cntB (fun b => decide (¬ σ.1 14 b = 1 ∧ wn σ b = w)) n
set_option maxHeartbeats 1000000 in
theorem tl_X10_chance (V : Vt) (d : Nat) (σ : Sg) (x q : Int32) (A B : Nat) (hA : A ≤ 1000) (hB : B ≤ 1000) (X : Xt) (P : Int64 → Sg → Prop) (hx : Ok V RX10 cX10_chance 6 (d + 5) X) (he : En layC V (some .long) (Rl P) X) (hP : P (chV A B q) σ) : WS layC V 6 X σ 69 [(4, .int (nI B)), (3, .int (nI A)), (0, rf V 0), (1, .int x), (2, .int q)] [] := by
  have hAI : (nI A).toInt = (A : Int) := nI_c (by omega)
  have hBI : (nI B).toInt = (B : Int) := nI_c (by omega)
  have hc := cdL_pos A B (min A B - 1)
  have hcI : (nI (cdL A B (min A B - 1))).toInt = ((cdL A B (min A B - 1) : Nat) : Int) := nI_c (by omega)
  unfold chV at hP
  refine WS.iload_n hx dX10_chance_69 rfl 1 rfl ?_
  refine WS.if_ne (tgt := 76) hx dX10_chance_70 (by decide) (fun c70 => ?_) (fun c70 => ?_)
  · skip
    show WS layC V 6 X σ 76 [(4, .int (nI B)), (3, .int (nI A)), (0, rf V 0), (1, .int x), (2, .int q)] []
    rw [if_neg (by (try simp only [i_le, i_lt, i_eq, tI_m1, tI_0, tI_1, tI_9] at c70); omega)] at hP
    refine WS.iload_n hx dX10_chance_76 rfl 1 rfl ?_
    refine WS.iload hx dX10_chance_77 0 rfl ?_
    refine WS.callSi (st := []) [.int (nI A), .int (nI B)] hx (c_X10_commonDivisor V (d + 4) σ A B hA hB) okX10_commonDivisor lm10_211 rfl rfl (Nat.le_of_ble_eq_true rfl) dX10_chance_79 (fun v1 σ2 h3 => ?_)
    obtain ⟨rfl, rfl⟩ := h3
    show WS layC V 6 X σ 82 [(4, .int (nI B)), (3, .int (nI A)), (0, rf V 0), (1, .int x), (2, .int q)] [.int (nI (cdL A B (min A B - 1)))]
    refine WS.istore (lo' := [(5, .int (nI (cdL A B (min A B - 1)))), (4, .int (nI B)), (3, .int (nI A)), (0, rf V 0), (1, .int x), (2, .int q)]) hx dX10_chance_82 (by decide) rfl ?_
    refine WS.iload_n hx dX10_chance_84 rfl 5 rfl ?_
    refine WS.if_ne (tgt := 92) hx dX10_chance_85 (by decide) (fun c85 => ?_) (fun c85 => ?_)
    · skip
      show WS layC V 6 X σ 92 [(5, .int (nI (cdL A B (min A B - 1)))), (4, .int (nI B)), (3, .int (nI A)), (0, rf V 0), (1, .int x), (2, .int q)] []
      rw [if_neg (by (try simp only [i_le, i_lt, i_eq, tI_m1, tI_0, tI_1, tI_9] at c70); (try simp only [i_le, i_lt, i_eq, tI_m1, tI_0, tI_1, tI_9] at c85); omega), ← pk_div (by omega) (by omega) (by omega)] at hP
      refine WS.iload hx dX10_chance_92 1 rfl ?_
      refine WS.iload hx dX10_chance_94 0 rfl ?_
      refine WS.idiv hx dX10_chance_96 (by rw [i_eq, hcI, tI_0]; omega) ?_
      refine WS.i2l hx dX10_chance_97 ?_
      exact WS.lret hx he dX10_chance_98 ⟨_, rfl, hP⟩
    · skip
      show WS layC V 6 X σ 88 [(5, .int (nI (cdL A B (min A B - 1)))), (4, .int (nI B)), (3, .int (nI A)), (0, rf V 0), (1, .int x), (2, .int q)] []
      rw [if_pos (by (try simp only [i_le, i_lt, i_eq, tI_m1, tI_0, tI_1, tI_9] at c70); (try simp only [i_le, i_lt, i_eq, tI_m1, tI_0, tI_1, tI_9] at c85); omega), ← pk_div (by omega) (by omega) (by omega)] at hP
      refine WS.iload_n hx dX10_chance_88 rfl 2 rfl ?_
      refine WS.goto (tgt := 94) hx dX10_chance_89 (by decide) ?_
      refine WS.iload hx dX10_chance_94 0 rfl ?_
      refine WS.idiv hx dX10_chance_96 (by rw [i_eq, hcI, tI_0]; omega) ?_
      refine WS.i2l hx dX10_chance_97 ?_
      exact WS.lret hx he dX10_chance_98 ⟨_, rfl, hP⟩
  · skip
    show WS layC V 6 X σ 73 [(4, .int (nI B)), (3, .int (nI A)), (0, rf V 0), (1, .int x), (2, .int q)] []
    rw [if_pos (by (try simp only [i_le, i_lt, i_eq, tI_m1, tI_0, tI_1, tI_9] at c70); omega)] at hP
    refine WS.iload_n hx dX10_chance_73 rfl 4 rfl ?_
    refine WS.i2l hx dX10_chance_74 ?_
    exact WS.lret hx he dX10_chance_75 ⟨_, rfl, hP⟩
set_option maxHeartbeats 1000000 in
theorem c_X10_chance (V : Vt) (d : Nat) (σ : Sg) (n : Nat) (hQ : QI σ n) (x q : Int32) : CT layC V mX10_chance (d + 5) [rf V 0, .int x, .int q] σ (Rl fun v σ' => σ' = σ ∧ (¬ (-1 ≤ x.toInt ∧ x.toInt ≤ 9 ∧ 0 ≤ q.toInt ∧ q.toInt ≤ 1) → v = -9223372036854775808) ∧ (¬ ¬ (-1 ≤ x.toInt ∧ x.toInt ≤ 9 ∧ 0 ≤ q.toInt ∧ q.toInt ≤ 1) → (x.toInt < 0 → v = chV (lpC σ n) ((n - cnt (σ.1 14) n) * ((n - cnt (σ.1 14) n) - 1) / 2) q) ∧ (¬ x.toInt < 0 → v = chV (syC σ n x) (n - cnt (σ.1 14) n) q))) := by
  refine CT.of (own := RX10) rfl (by decide) (Nat.le_of_ble_eq_true rfl) (fun X (hx : Ok V RX10 cX10_chance 6 (d + 5) X) (he : En layC V (some .long) (Rl fun v σ' => σ' = σ ∧ (¬ (-1 ≤ x.toInt ∧ x.toInt ≤ 9 ∧ 0 ≤ q.toInt ∧ q.toInt ≤ 1) → v = -9223372036854775808) ∧ (¬ ¬ (-1 ≤ x.toInt ∧ x.toInt ≤ 9 ∧ 0 ≤ q.toInt ∧ q.toInt ≤ 1) → (x.toInt < 0 → v = chV (lpC σ n) ((n - cnt (σ.1 14) n) * ((n - cnt (σ.1 14) n) - 1) / 2) q) ∧ (¬ x.toInt < 0 → v = chV (syC σ n x) (n - cnt (σ.1 14) n) q))) X) => ?_)
  change WS layC V 6 X σ 0 [(0, rf V 0), (1, .int x), (2, .int q)] []
  have hn10 := hQ.n
  have hl : lpC σ n ≤ 1000 := Nat.le_trans (smN_le 10 (fun w _ => pr_le (Nat.le_trans (cntB_le _ n) hn10))) (by decide)
  have hp : (n - cnt (σ.1 14) n) * ((n - cnt (σ.1 14) n) - 1) / 2 ≤ 1000 := Nat.le_trans (pr_le (by omega)) (by decide)
  have hs : syC σ n x ≤ 1000 := Nat.le_trans (cntB_le _ n) (by omega)
  refine WS.iload_n hx dX10_chance_0 rfl 1 rfl ?_
  refine WS.iconst (v := (-1)) hx dX10_chance_1 (by decide) ?_
  refine WS.bipush (v := 9) hx dX10_chance_2 (by decide) ?_
  refine WS.callSi (st := []) [.int x, .int (-1), .int 9] hx (c_X10_within V (d + 4) σ x (-1) 9) okX10_within lm10_80 rfl rfl (Nat.le_of_ble_eq_true rfl) dX10_chance_4 (fun v1 σ2 h3 => ?_)
  rcases h3 with ⟨rfl, rfl, hb4⟩ | ⟨rfl, rfl, hb4⟩
  · skip
    show WS layC V 6 X σ 7 [(0, rf V 0), (1, .int x), (2, .int q)] [.int 1]
    refine WS.if_eq (tgt := 19) hx dX10_chance_7 (by decide) (fun h => absurd h (by decide)) (fun _ => ?_)
    refine WS.iload_n hx dX10_chance_10 rfl 2 rfl ?_
    refine WS.iconst (v := 0) hx dX10_chance_11 (by decide) ?_
    refine WS.iconst (v := 1) hx dX10_chance_12 (by decide) ?_
    refine WS.callSi (st := []) [.int q, .int 0, .int 1] hx (c_X10_within V (d + 4) σ q 0 1) okX10_within lm10_80 rfl rfl (Nat.le_of_ble_eq_true rfl) dX10_chance_13 (fun v4 σ5 h6 => ?_)
    rcases h6 with ⟨rfl, rfl, hb13⟩ | ⟨rfl, rfl, hb13⟩
    · skip
      show WS layC V 6 X σ 16 [(0, rf V 0), (1, .int x), (2, .int q)] [.int 1]
      refine WS.if_ne (tgt := 23) hx dX10_chance_16 (by decide) (fun _ => ?_) (fun h => absurd h (by decide))
      refine WS.iload_n hx dX10_chance_23 rfl 1 rfl ?_
      refine WS.if_ge (tgt := 37) hx dX10_chance_24 (by decide) (fun c24 => ?_) (fun c24 => ?_)
      · skip
        show WS layC V 6 X σ 37 [(0, rf V 0), (1, .int x), (2, .int q)] []
        refine WS.aload_n hx dX10_chance_37 rfl 0 rfl ?_
        refine WS.getR hx okX10 lf10_39 rfl rfl dX10_chance_38 ?_
        refine WS.iload_n hx dX10_chance_41 rfl 1 rfl ?_
        refine WS.callVi (st := []) [.int x] hx (c_X6_sayers V (d + 1) σ n hQ x) okX6_sayers lm10_202 rfl rfl rfl rfl (Nat.le_of_ble_eq_true rfl) dX10_chance_42 (fun v7 σ8 h9 => ?_)
        obtain ⟨rfl, rfl⟩ := h9
        show WS layC V 6 X σ 45 [(0, rf V 0), (1, .int x), (2, .int q)] [.int (nI (cntB (fun b => decide (¬ σ.1 14 b = 1 ∧ wn σ b = x)) n))]
        refine WS.istore_n (lo' := [(3, .int (nI (cntB (fun b => decide (¬ σ.1 14 b = 1 ∧ wn σ b = x)) n))), (0, rf V 0), (1, .int x), (2, .int q)]) hx dX10_chance_45 rfl (by decide) rfl ?_
        refine WS.iload_n hx dX10_chance_46 rfl 2 rfl ?_
        refine WS.if_ge (tgt := 60) hx dX10_chance_47 (by decide) (fun c47 => ?_) (fun c47 => ?_)
        · skip
          show WS layC V 6 X σ 60 [(3, .int (nI (cntB (fun b => decide (¬ σ.1 14 b = 1 ∧ wn σ b = x)) n))), (0, rf V 0), (1, .int x), (2, .int q)] []
          refine WS.aload_n hx dX10_chance_60 rfl 1 rfl ?_
          refine WS.getR hx okX10 lf10_39 rfl rfl dX10_chance_61 ?_
          refine WS.callVi (st := []) [] hx (c_X6_closedOnes V (d + 3) σ n hQ ) okX6_closedOnes lm10_208 rfl rfl rfl rfl (Nat.le_of_ble_eq_true rfl) dX10_chance_64 (fun v10 σ11 h12 => ?_)
          obtain ⟨rfl, rfl⟩ := h12
          show WS layC V 6 X σ 67 [(3, .int (nI (cntB (fun b => decide (¬ σ.1 14 b = 1 ∧ wn σ b = x)) n))), (0, rf V 0), (1, .int x), (2, .int q)] [.int (nI (n - cnt (σ.1 14) n))]
          refine WS.istore (lo' := [(4, .int (nI (n - cnt (σ.1 14) n))), (3, .int (nI (cntB (fun b => decide (¬ σ.1 14 b = 1 ∧ wn σ b = x)) n))), (0, rf V 0), (1, .int x), (2, .int q)]) hx dX10_chance_67 (by decide) rfl ?_
          exact WS.los [0, 1, 2, 3, 4] rfl (tl_X10_chance V d σ x q _ _ hs (by omega) X _ hx he ⟨rfl, fun h => by exfalso; (try simp only [i_le, i_lt, i_eq, tI_m1, tI_0, tI_1, tI_9] at hb4); (try simp only [i_le, i_lt, i_eq, tI_m1, tI_0, tI_1, tI_9] at hb13); (try simp only [i_le, i_lt, i_eq, tI_m1, tI_0, tI_1, tI_9] at c24); (try simp only [i_le, i_lt, i_eq, tI_m1, tI_0, tI_1, tI_9] at c47); omega, fun _ => ⟨fun h => by exfalso; (try simp only [i_le, i_lt, i_eq, tI_m1, tI_0, tI_1, tI_9] at hb4); (try simp only [i_le, i_lt, i_eq, tI_m1, tI_0, tI_1, tI_9] at hb13); (try simp only [i_le, i_lt, i_eq, tI_m1, tI_0, tI_1, tI_9] at c24); (try simp only [i_le, i_lt, i_eq, tI_m1, tI_0, tI_1, tI_9] at c47); omega, fun _ => rfl⟩⟩)
        · skip
          show WS layC V 6 X σ 50 [(3, .int (nI (cntB (fun b => decide (¬ σ.1 14 b = 1 ∧ wn σ b = x)) n))), (0, rf V 0), (1, .int x), (2, .int q)] []
          refine WS.aload_n hx dX10_chance_50 rfl 1 rfl ?_
          refine WS.getR hx okX10 lf10_39 rfl rfl dX10_chance_51 ?_
          refine WS.callVi (st := []) [] hx (c_X6_pairs V (d + 2) σ n hQ ) okX6_pairs lm10_205 rfl rfl rfl rfl (Nat.le_of_ble_eq_true rfl) dX10_chance_54 (fun v13 σ14 h15 => ?_)
          obtain ⟨rfl, rfl⟩ := h15
          show WS layC V 6 X σ 57 [(3, .int (nI (cntB (fun b => decide (¬ σ.1 14 b = 1 ∧ wn σ b = x)) n))), (0, rf V 0), (1, .int x), (2, .int q)] [.int (nI ((n - cnt (σ.1 14) n) * (n - cnt (σ.1 14) n - 1) / 2))]
          refine WS.goto (tgt := 67) hx dX10_chance_57 (by decide) ?_
          refine WS.istore (lo' := [(4, .int (nI ((n - cnt (σ.1 14) n) * (n - cnt (σ.1 14) n - 1) / 2))), (3, .int (nI (cntB (fun b => decide (¬ σ.1 14 b = 1 ∧ wn σ b = x)) n))), (0, rf V 0), (1, .int x), (2, .int q)]) hx dX10_chance_67 (by decide) rfl ?_
          exfalso; (try simp only [i_le, i_lt, i_eq, tI_m1, tI_0, tI_1, tI_9] at hb4); (try simp only [i_le, i_lt, i_eq, tI_m1, tI_0, tI_1, tI_9] at hb13); (try simp only [i_le, i_lt, i_eq, tI_m1, tI_0, tI_1, tI_9] at c24); (try simp only [i_le, i_lt, i_eq, tI_m1, tI_0, tI_1, tI_9] at c47); omega
      · skip
        show WS layC V 6 X σ 27 [(0, rf V 0), (1, .int x), (2, .int q)] []
        refine WS.aload_n hx dX10_chance_27 rfl 0 rfl ?_
        refine WS.getR hx okX10 lf10_39 rfl rfl dX10_chance_28 ?_
        refine WS.callVi (st := []) [] hx (c_X6_likePairs V d σ n hQ ) okX6_likePairs lm10_198 rfl rfl rfl rfl (Nat.le_of_ble_eq_true rfl) dX10_chance_31 (fun v16 σ17 h18 => ?_)
        obtain ⟨rfl, rfl⟩ := h18
        show WS layC V 6 X σ 34 [(0, rf V 0), (1, .int x), (2, .int q)] [.int (nI (smN (fun w => cntB (fun b => decide (¬ σ.1 14 b = 1 ∧ wn σ b = nI w)) n * (cntB (fun b => decide (¬ σ.1 14 b = 1 ∧ wn σ b = nI w)) n - 1) / 2) 10))]
        refine WS.goto (tgt := 45) hx dX10_chance_34 (by decide) ?_
        refine WS.istore_n (lo' := [(3, .int (nI (smN (fun w => cntB (fun b => decide (¬ σ.1 14 b = 1 ∧ wn σ b = nI w)) n * (cntB (fun b => decide (¬ σ.1 14 b = 1 ∧ wn σ b = nI w)) n - 1) / 2) 10))), (0, rf V 0), (1, .int x), (2, .int q)]) hx dX10_chance_45 rfl (by decide) rfl ?_
        refine WS.iload_n hx dX10_chance_46 rfl 2 rfl ?_
        refine WS.if_ge (tgt := 60) hx dX10_chance_47 (by decide) (fun c47 => ?_) (fun c47 => ?_)
        · skip
          show WS layC V 6 X σ 60 [(3, .int (nI (smN (fun w => cntB (fun b => decide (¬ σ.1 14 b = 1 ∧ wn σ b = nI w)) n * (cntB (fun b => decide (¬ σ.1 14 b = 1 ∧ wn σ b = nI w)) n - 1) / 2) 10))), (0, rf V 0), (1, .int x), (2, .int q)] []
          refine WS.aload_n hx dX10_chance_60 rfl 1 rfl ?_
          refine WS.getR hx okX10 lf10_39 rfl rfl dX10_chance_61 ?_
          refine WS.callVi (st := []) [] hx (c_X6_closedOnes V (d + 3) σ n hQ ) okX6_closedOnes lm10_208 rfl rfl rfl rfl (Nat.le_of_ble_eq_true rfl) dX10_chance_64 (fun v19 σ20 h21 => ?_)
          obtain ⟨rfl, rfl⟩ := h21
          show WS layC V 6 X σ 67 [(3, .int (nI (smN (fun w => cntB (fun b => decide (¬ σ.1 14 b = 1 ∧ wn σ b = nI w)) n * (cntB (fun b => decide (¬ σ.1 14 b = 1 ∧ wn σ b = nI w)) n - 1) / 2) 10))), (0, rf V 0), (1, .int x), (2, .int q)] [.int (nI (n - cnt (σ.1 14) n))]
          refine WS.istore (lo' := [(4, .int (nI (n - cnt (σ.1 14) n))), (3, .int (nI (smN (fun w => cntB (fun b => decide (¬ σ.1 14 b = 1 ∧ wn σ b = nI w)) n * (cntB (fun b => decide (¬ σ.1 14 b = 1 ∧ wn σ b = nI w)) n - 1) / 2) 10))), (0, rf V 0), (1, .int x), (2, .int q)]) hx dX10_chance_67 (by decide) rfl ?_
          exfalso; (try simp only [i_le, i_lt, i_eq, tI_m1, tI_0, tI_1, tI_9] at hb4); (try simp only [i_le, i_lt, i_eq, tI_m1, tI_0, tI_1, tI_9] at hb13); (try simp only [i_le, i_lt, i_eq, tI_m1, tI_0, tI_1, tI_9] at c24); (try simp only [i_le, i_lt, i_eq, tI_m1, tI_0, tI_1, tI_9] at c47); omega
        · skip
          show WS layC V 6 X σ 50 [(3, .int (nI (smN (fun w => cntB (fun b => decide (¬ σ.1 14 b = 1 ∧ wn σ b = nI w)) n * (cntB (fun b => decide (¬ σ.1 14 b = 1 ∧ wn σ b = nI w)) n - 1) / 2) 10))), (0, rf V 0), (1, .int x), (2, .int q)] []
          refine WS.aload_n hx dX10_chance_50 rfl 1 rfl ?_
          refine WS.getR hx okX10 lf10_39 rfl rfl dX10_chance_51 ?_
          refine WS.callVi (st := []) [] hx (c_X6_pairs V (d + 2) σ n hQ ) okX6_pairs lm10_205 rfl rfl rfl rfl (Nat.le_of_ble_eq_true rfl) dX10_chance_54 (fun v22 σ23 h24 => ?_)
          obtain ⟨rfl, rfl⟩ := h24
          show WS layC V 6 X σ 57 [(3, .int (nI (smN (fun w => cntB (fun b => decide (¬ σ.1 14 b = 1 ∧ wn σ b = nI w)) n * (cntB (fun b => decide (¬ σ.1 14 b = 1 ∧ wn σ b = nI w)) n - 1) / 2) 10))), (0, rf V 0), (1, .int x), (2, .int q)] [.int (nI ((n - cnt (σ.1 14) n) * (n - cnt (σ.1 14) n - 1) / 2))]
          refine WS.goto (tgt := 67) hx dX10_chance_57 (by decide) ?_
          refine WS.istore (lo' := [(4, .int (nI ((n - cnt (σ.1 14) n) * (n - cnt (σ.1 14) n - 1) / 2))), (3, .int (nI (smN (fun w => cntB (fun b => decide (¬ σ.1 14 b = 1 ∧ wn σ b = nI w)) n * (cntB (fun b => decide (¬ σ.1 14 b = 1 ∧ wn σ b = nI w)) n - 1) / 2) 10))), (0, rf V 0), (1, .int x), (2, .int q)]) hx dX10_chance_67 (by decide) rfl ?_
          exact WS.los [0, 1, 2, 3, 4] rfl (tl_X10_chance V d σ x q _ _ hl hp X _ hx he ⟨rfl, fun h => by exfalso; (try simp only [i_le, i_lt, i_eq, tI_m1, tI_0, tI_1, tI_9] at hb4); (try simp only [i_le, i_lt, i_eq, tI_m1, tI_0, tI_1, tI_9] at hb13); (try simp only [i_le, i_lt, i_eq, tI_m1, tI_0, tI_1, tI_9] at c24); (try simp only [i_le, i_lt, i_eq, tI_m1, tI_0, tI_1, tI_9] at c47); omega, fun _ => ⟨fun _ => rfl, fun h => by exfalso; (try simp only [i_le, i_lt, i_eq, tI_m1, tI_0, tI_1, tI_9] at hb4); (try simp only [i_le, i_lt, i_eq, tI_m1, tI_0, tI_1, tI_9] at hb13); (try simp only [i_le, i_lt, i_eq, tI_m1, tI_0, tI_1, tI_9] at c24); (try simp only [i_le, i_lt, i_eq, tI_m1, tI_0, tI_1, tI_9] at c47); omega⟩⟩)
    · skip
      show WS layC V 6 X σ 16 [(0, rf V 0), (1, .int x), (2, .int q)] [.int 0]
      refine WS.if_ne (tgt := 23) hx dX10_chance_16 (by decide) (fun h => absurd (by decide) h) (fun _ => ?_)
      refine WS.ldc2 (v := (-9223372036854775808)) hx lc10_196 dX10_chance_19 ?_
      exact WS.lret hx he dX10_chance_22 ⟨_, rfl, rfl, fun _ => rfl, fun h => by exfalso; (try simp only [i_le, i_lt, i_eq, tI_m1, tI_0, tI_1, tI_9] at hb4); (try simp only [i_le, i_lt, i_eq, tI_m1, tI_0, tI_1, tI_9] at hb13); omega⟩
  · skip
    show WS layC V 6 X σ 7 [(0, rf V 0), (1, .int x), (2, .int q)] [.int 0]
    refine WS.if_eq (tgt := 19) hx dX10_chance_7 (by decide) (fun _ => ?_) (fun h => absurd (by decide) h)
    refine WS.ldc2 (v := (-9223372036854775808)) hx lc10_196 dX10_chance_19 ?_
    exact WS.lret hx he dX10_chance_22 ⟨_, rfl, rfl, fun _ => rfl, fun h => by exfalso; (try simp only [i_le, i_lt, i_eq, tI_m1, tI_0, tI_1, tI_9] at hb4); omega⟩
set_option maxHeartbeats 1000000 in
theorem c_X10_bookRefusal (V : Vt) (d : Nat) (σ : Sg) (n : Nat) (hQ : QI σ n) (f b : Int32) : CT layC V mX10_bookRefusal (d + 2) [rf V 0, .int f, .int b] σ (Ri fun v σ' => (¬ ((0 ≤ f.toInt ∧ f.toInt ≤ 5) ∧ (0 ≤ b.toInt ∧ b.toInt < n)) ∧ -1 = v ∧ σ = σ') ∨ (((0 ≤ f.toInt ∧ f.toInt ≤ 5) ∧ (0 ≤ b.toInt ∧ b.toInt < n)) ∧ σ.1 (52 + nn f) 1 = 0 ∧ -11 = v ∧ σ = σ') ∨ (((0 ≤ f.toInt ∧ f.toInt ≤ 5) ∧ (0 ≤ b.toInt ∧ b.toInt < n)) ∧ ¬ σ.1 (52 + nn f) 1 = 0 ∧ ¬ (σ.1 (52 + nn f) 1 = 2 ∧ σ.1 (52 + nn f) 3 = 0) ∧ -12 = v ∧ σ = σ') ∨ (((0 ≤ f.toInt ∧ f.toInt ≤ 5) ∧ (0 ≤ b.toInt ∧ b.toInt < n)) ∧ ¬ σ.1 (52 + nn f) 1 = 0 ∧ (σ.1 (52 + nn f) 1 = 2 ∧ σ.1 (52 + nn f) 3 = 0) ∧ 0 = v ∧ σ = σ')) := by
  refine CT.of (own := RX10) rfl (by decide) (Nat.le_of_ble_eq_true rfl) (fun X (hx : Ok V RX10 cX10_bookRefusal 3 (d + 2) X) (he : En layC V (some .int) (Ri fun v σ' => (¬ ((0 ≤ f.toInt ∧ f.toInt ≤ 5) ∧ (0 ≤ b.toInt ∧ b.toInt < n)) ∧ -1 = v ∧ σ = σ') ∨ (((0 ≤ f.toInt ∧ f.toInt ≤ 5) ∧ (0 ≤ b.toInt ∧ b.toInt < n)) ∧ σ.1 (52 + nn f) 1 = 0 ∧ -11 = v ∧ σ = σ') ∨ (((0 ≤ f.toInt ∧ f.toInt ≤ 5) ∧ (0 ≤ b.toInt ∧ b.toInt < n)) ∧ ¬ σ.1 (52 + nn f) 1 = 0 ∧ ¬ (σ.1 (52 + nn f) 1 = 2 ∧ σ.1 (52 + nn f) 3 = 0) ∧ -12 = v ∧ σ = σ') ∨ (((0 ≤ f.toInt ∧ f.toInt ≤ 5) ∧ (0 ≤ b.toInt ∧ b.toInt < n)) ∧ ¬ σ.1 (52 + nn f) 1 = 0 ∧ (σ.1 (52 + nn f) 1 = 2 ∧ σ.1 (52 + nn f) 3 = 0) ∧ 0 = v ∧ σ = σ')) X) => ?_)
  change WS layC V 3 X σ 0 [(0, rf V 0), (1, .int f), (2, .int b)] []
  refine WS.iload_n hx dX10_bookRefusal_0 rfl 1 rfl ?_
  refine WS.callSi (st := []) [.int f] hx (c_X10_isShelf V d σ f) okX10_isShelf lm10_92 rfl rfl (Nat.le_of_ble_eq_true rfl) dX10_bookRefusal_1 (fun v1 σ2 h3 => ?_)
  rcases h3 with ⟨rfl, rfl, hb1⟩ | ⟨rfl, rfl, hb1⟩
  · skip
    show WS layC V 3 X σ 4 [(0, rf V 0), (1, .int f), (2, .int b)] [.int 1]
    have hsh := sh_nn hb1
    refine WS.if_eq (tgt := 18) hx dX10_bookRefusal_4 (by decide) (fun h => absurd h (by decide)) (fun _ => ?_)
    refine WS.aload_n hx dX10_bookRefusal_7 rfl 0 rfl ?_
    refine WS.getR hx okX10 lf10_12 rfl rfl dX10_bookRefusal_8 ?_
    refine WS.iload_n hx dX10_bookRefusal_11 rfl 2 rfl ?_
    refine WS.callVi (st := []) [.int b] hx (c_X7_hasBlock V d σ n hQ b) okX7_hasBlock lm10_140 rfl rfl rfl rfl (Nat.le_of_ble_eq_true rfl) dX10_bookRefusal_12 (fun v4 σ5 h6 => ?_)
    rcases h6 with ⟨rfl, rfl, hb12⟩ | ⟨rfl, rfl, hb12⟩
    · skip
      show WS layC V 3 X σ 15 [(0, rf V 0), (1, .int f), (2, .int b)] [.int 1]
      refine WS.if_ne (tgt := 20) hx dX10_bookRefusal_15 (by decide) (fun _ => ?_) (fun h => absurd h (by decide))
      refine WS.aload_n hx dX10_bookRefusal_20 rfl 0 rfl ?_
      refine WS.getR hx okX10 lf10_75 rfl rfl dX10_bookRefusal_21 ?_
      refine WS.iload_n hx dX10_bookRefusal_24 rfl 1 rfl ?_
      refine WS.aald hx rfl rfl (sh_in hb1) dX10_bookRefusal_25 ?_
      refine WS.callVi (st := []) [] hx (c_X8_isBare V (d + 1) σ (nn f) hsh) okX8_isBare lm10_96 rfl (lay_sh hsh) rfl rfl (Nat.le_of_ble_eq_true rfl) dX10_bookRefusal_26 (fun v7 σ8 h9 => ?_)
      rcases h9 with ⟨rfl, rfl, hb26⟩ | ⟨rfl, rfl, hb26⟩
      · skip
        show WS layC V 3 X σ 29 [(0, rf V 0), (1, .int f), (2, .int b)] [.int 1]
        refine WS.if_eq (tgt := 35) hx dX10_bookRefusal_29 (by decide) (fun h => absurd h (by decide)) (fun _ => ?_)
        refine WS.bipush (v := (-11)) hx dX10_bookRefusal_32 (by decide) ?_
        exact WS.iret hx he dX10_bookRefusal_34 ⟨_, rfl, Or.inr (Or.inl ⟨⟨hb1, hb12⟩, hb26, rfl, rfl⟩)⟩
      · skip
        show WS layC V 3 X σ 29 [(0, rf V 0), (1, .int f), (2, .int b)] [.int 0]
        refine WS.if_eq (tgt := 35) hx dX10_bookRefusal_29 (by decide) (fun _ => ?_) (fun h => absurd (by decide) h)
        refine WS.aload_n hx dX10_bookRefusal_35 rfl 0 rfl ?_
        refine WS.getR hx okX10 lf10_75 rfl rfl dX10_bookRefusal_36 ?_
        refine WS.iload_n hx dX10_bookRefusal_39 rfl 1 rfl ?_
        refine WS.aald hx rfl rfl (sh_in hb1) dX10_bookRefusal_40 ?_
        refine WS.callVi (st := []) [] hx (c_X8_isRowOfBytes V (d + 1) σ (nn f) hsh) okX8_isRowOfBytes lm10_99 rfl (lay_sh hsh) rfl rfl (Nat.le_of_ble_eq_true rfl) dX10_bookRefusal_41 (fun v10 σ11 h12 => ?_)
        rcases h12 with ⟨rfl, rfl, hb41⟩ | ⟨rfl, rfl, hb41⟩
        · skip
          show WS layC V 3 X σ 44 [(0, rf V 0), (1, .int f), (2, .int b)] [.int 1]
          refine WS.if_eq (tgt := 51) hx dX10_bookRefusal_44 (by decide) (fun h => absurd h (by decide)) (fun _ => ?_)
          refine WS.iconst (v := 0) hx dX10_bookRefusal_47 (by decide) ?_
          refine WS.goto (tgt := 53) hx dX10_bookRefusal_48 (by decide) ?_
          exact WS.iret hx he dX10_bookRefusal_53 ⟨_, rfl, Or.inr (Or.inr (Or.inr ⟨⟨hb1, hb12⟩, hb26, hb41, rfl, rfl⟩))⟩
        · skip
          show WS layC V 3 X σ 44 [(0, rf V 0), (1, .int f), (2, .int b)] [.int 0]
          refine WS.if_eq (tgt := 51) hx dX10_bookRefusal_44 (by decide) (fun _ => ?_) (fun h => absurd (by decide) h)
          refine WS.bipush (v := (-12)) hx dX10_bookRefusal_51 (by decide) ?_
          exact WS.iret hx he dX10_bookRefusal_53 ⟨_, rfl, Or.inr (Or.inr (Or.inl ⟨⟨hb1, hb12⟩, hb26, hb41, rfl, rfl⟩))⟩
    · skip
      show WS layC V 3 X σ 15 [(0, rf V 0), (1, .int f), (2, .int b)] [.int 0]
      refine WS.if_ne (tgt := 20) hx dX10_bookRefusal_15 (by decide) (fun h => absurd (by decide) h) (fun _ => ?_)
      refine WS.iconst (v := (-1)) hx dX10_bookRefusal_18 (by decide) ?_
      exact WS.iret hx he dX10_bookRefusal_19 ⟨_, rfl, Or.inl ⟨fun h => by first | exact hb1 h.1 | exact hb12 h.2, rfl, rfl⟩⟩
  · skip
    show WS layC V 3 X σ 4 [(0, rf V 0), (1, .int f), (2, .int b)] [.int 0]
    refine WS.if_eq (tgt := 18) hx dX10_bookRefusal_4 (by decide) (fun _ => ?_) (fun h => absurd (by decide) h)
    refine WS.iconst (v := (-1)) hx dX10_bookRefusal_18 (by decide) ?_
    exact WS.iret hx he dX10_bookRefusal_19 ⟨_, rfl, Or.inl ⟨fun h => by first | exact hb1 h.1 | exact hb12 h.2, rfl, rfl⟩⟩
set_option maxHeartbeats 1000000 in
theorem c_X10_judge (V : Vt) (d : Nat) (σ : Sg) (n : Nat) (hQ : QI σ n) (m c : Nat) (hL : LI V σ m c) (hZ : ∀ s, s < 6 → rg (σ.1 (52 + s) 4) 60) (f b : Int32) : CT layC V mX10_judge (d + 7) [rf V 0, .int f, .int b] σ (Ri fun v σ' => (if ¬ ((0 ≤ f.toInt ∧ f.toInt ≤ 5) ∧ (0 ≤ b.toInt ∧ b.toInt < n)) then v = -1 ∧ σ' = σ else (if σ.1 (52 + nn f) 1 = 0 then v = -11 ∧ σ' = σ else (if ¬ (σ.1 (52 + nn f) 1 = 2 ∧ σ.1 (52 + nn f) 3 = 0) then v = -12 ∧ σ' = σ else (v = oN (fsB ((wdS σ n m c).cn (nn b) ((wdS σ n m c).bd (nn b))) (σ.1 17) (σ.2.1 (58 + nn f)) (min (nn (σ.1 (52 + nn f) 4)) 41) 0 ((wdS σ n m c).s0 (nn b))) ∧ SE σ σ' ∧ LI V σ' m c))))) := by
  refine CT.of (own := RX10) rfl (by decide) (Nat.le_of_ble_eq_true rfl) (fun X (hx : Ok V RX10 cX10_judge 4 (d + 7) X) (he : En layC V (some .int) (Ri fun v σ' => (if ¬ ((0 ≤ f.toInt ∧ f.toInt ≤ 5) ∧ (0 ≤ b.toInt ∧ b.toInt < n)) then v = -1 ∧ σ' = σ else (if σ.1 (52 + nn f) 1 = 0 then v = -11 ∧ σ' = σ else (if ¬ (σ.1 (52 + nn f) 1 = 2 ∧ σ.1 (52 + nn f) 3 = 0) then v = -12 ∧ σ' = σ else (v = oN (fsB ((wdS σ n m c).cn (nn b) ((wdS σ n m c).bd (nn b))) (σ.1 17) (σ.2.1 (58 + nn f)) (min (nn (σ.1 (52 + nn f) 4)) 41) 0 ((wdS σ n m c).s0 (nn b))) ∧ SE σ σ' ∧ LI V σ' m c))))) X) => ?_)
  change WS layC V 4 X σ 0 [(0, rf V 0), (1, .int f), (2, .int b)] []
  refine WS.aload_n hx dX10_judge_0 rfl 0 rfl ?_
  refine WS.iload_n hx dX10_judge_1 rfl 1 rfl ?_
  refine WS.iload_n hx dX10_judge_2 rfl 2 rfl ?_
  refine WS.callVi (st := []) [.int f, .int b] hx (c_X10_bookRefusal V (d + 4) σ n hQ f b) okX10_bookRefusal lm10_214 rfl rfl rfl rfl (Nat.le_of_ble_eq_true rfl) dX10_judge_3 (fun v1 σ2 h3 => ?_)
  rcases h3 with ⟨hr, rfl, rfl⟩ | ⟨hr, hb, rfl, rfl⟩ | ⟨hr, hb, hc, rfl, rfl⟩ | ⟨hr, hb, hc, rfl, rfl⟩
  · skip
    show WS layC V 4 X σ 6 [(0, rf V 0), (1, .int f), (2, .int b)] [.int (-1)]
    refine WS.istore_n (lo' := [(3, .int (-1)), (0, rf V 0), (1, .int f), (2, .int b)]) hx dX10_judge_6 rfl (by decide) rfl ?_
    refine WS.iload_n hx dX10_judge_7 rfl 0 rfl ?_
    refine WS.if_ge (tgt := 15) hx dX10_judge_8 (by decide) (fun h => absurd h (by decide)) (fun _ => ?_)
    refine WS.iload_n hx dX10_judge_11 rfl 0 rfl ?_
    refine WS.goto (tgt := 29) hx dX10_judge_12 (by decide) ?_
    exact WS.iret hx he dX10_judge_29 ⟨_, rfl, by (repeat' split) <;> first | (exfalso; omega) | exact ⟨rfl, rfl⟩ | contradiction | exact ⟨hv26.symm, se26, li26⟩⟩
  · skip
    show WS layC V 4 X σ 6 [(0, rf V 0), (1, .int f), (2, .int b)] [.int (-11)]
    refine WS.istore_n (lo' := [(3, .int (-11)), (0, rf V 0), (1, .int f), (2, .int b)]) hx dX10_judge_6 rfl (by decide) rfl ?_
    refine WS.iload_n hx dX10_judge_7 rfl 0 rfl ?_
    refine WS.if_ge (tgt := 15) hx dX10_judge_8 (by decide) (fun h => absurd h (by decide)) (fun _ => ?_)
    refine WS.iload_n hx dX10_judge_11 rfl 0 rfl ?_
    refine WS.goto (tgt := 29) hx dX10_judge_12 (by decide) ?_
    exact WS.iret hx he dX10_judge_29 ⟨_, rfl, by (try simp only [i_le, i_lt, i_eq, tI_0, tI_1] at hb3); (repeat' split) <;> first | (exfalso; omega) | exact ⟨rfl, rfl⟩ | contradiction | exact ⟨hv26.symm, se26, li26⟩⟩
  · skip
    show WS layC V 4 X σ 6 [(0, rf V 0), (1, .int f), (2, .int b)] [.int (-12)]
    refine WS.istore_n (lo' := [(3, .int (-12)), (0, rf V 0), (1, .int f), (2, .int b)]) hx dX10_judge_6 rfl (by decide) rfl ?_
    refine WS.iload_n hx dX10_judge_7 rfl 0 rfl ?_
    refine WS.if_ge (tgt := 15) hx dX10_judge_8 (by decide) (fun h => absurd h (by decide)) (fun _ => ?_)
    refine WS.iload_n hx dX10_judge_11 rfl 0 rfl ?_
    refine WS.goto (tgt := 29) hx dX10_judge_12 (by decide) ?_
    exact WS.iret hx he dX10_judge_29 ⟨_, rfl, by (try simp only [i_le, i_lt, i_eq, tI_0, tI_1] at hb3); (repeat' split) <;> first | (exfalso; omega) | exact ⟨rfl, rfl⟩ | contradiction | exact ⟨hv26.symm, se26, li26⟩⟩
  · skip
    show WS layC V 4 X σ 6 [(0, rf V 0), (1, .int f), (2, .int b)] [.int 0]
    have hsh := sh_nn hr.1
    have hz := (nI_nn (hZ (nn f) hsh).1).symm
    have hz2 : nn (σ.1 (52 + nn f) 4) ≤ 60 := by have h9 := hZ (nn f) hsh; have := nn_int h9.1; unfold rg at h9; omega
    have hkn : nn b < n := by have := nn_int hr.2.1; omega
    refine WS.istore_n (lo' := [(3, .int 0), (0, rf V 0), (1, .int f), (2, .int b)]) hx dX10_judge_6 rfl (by decide) rfl ?_
    refine WS.iload_n hx dX10_judge_7 rfl 0 rfl ?_
    refine WS.if_ge (tgt := 15) hx dX10_judge_8 (by decide) (fun _ => ?_) (fun h => absurd (by decide) h)
    refine WS.aload_n hx dX10_judge_15 rfl 1 rfl ?_
    refine WS.getR hx okX10 lf10_32 rfl rfl dX10_judge_16 ?_
    refine WS.aload_n hx dX10_judge_19 rfl 1 rfl ?_
    refine WS.getR hx okX10 lf10_75 rfl rfl dX10_judge_20 ?_
    refine WS.iload_n hx dX10_judge_23 rfl 2 rfl ?_
    refine WS.aald hx rfl rfl (sh_in hr.1) dX10_judge_24 ?_
    refine WS.iload_n hx dX10_judge_25 rfl 3 rfl ?_
    refine WS.as rfl rfl (congrArg (fun z => Value.int z :: _) (show b = nI (nn b) from (nI_nn hr.2.1).symm)) ?_
    skip
    refine WS.callVi (st := []) [rf V (52 + (nn f)), .int (nI (nn b))] hx (c_X4_judged V d σ n hQ m c hL (nn f) hsh (nn (σ.1 (52 + nn f) 4)) hz hz2 (nn b) hkn) okX4_judged lm10_217 rfl rfl rfl rfl (Nat.le_of_ble_eq_true rfl) dX10_judge_26 (fun v4 σ5 h6 => ?_)
    obtain ⟨hv26, se26, li26⟩ := h6
    show WS layC V 4 X σ5 29 [(3, .int 0), (0, rf V 0), (1, .int f), (2, .int b)] [.int v4]
    exact WS.iret hx he dX10_judge_29 ⟨_, rfl, by (try simp only [i_le, i_lt, i_eq, tI_0, tI_1] at hb3); (repeat' split) <;> first | (exfalso; omega) | exact ⟨rfl, rfl⟩ | contradiction | exact ⟨hv26.symm, se26, li26⟩⟩
set_option maxHeartbeats 1000000 in
theorem c_X10_fits (V : Vt) (d : Nat) (σ : Sg) (n : Nat) (hQ : QI σ n) (m c : Nat) (hL : LI V σ m c) (hZ : ∀ s, s < 6 → rg (σ.1 (52 + s) 4) 60) (f b q : Int32) : CT layC V mX10_fits (d + 7) [rf V 0, .int f, .int b, .int q] σ (Ri fun v σ' => (if ¬ (0 ≤ q.toInt ∧ q.toInt ≤ 1) then v = -1 ∧ σ' = σ else (if ¬ ((0 ≤ f.toInt ∧ f.toInt ≤ 5) ∧ (0 ≤ b.toInt ∧ b.toInt < n)) then v = -1 ∧ σ' = σ else (if σ.1 (52 + nn f) 1 = 0 then v = -11 ∧ σ' = σ else (if ¬ (σ.1 (52 + nn f) 1 = 2 ∧ σ.1 (52 + nn f) 3 = 0) then v = -12 ∧ σ' = σ else (if q.toInt = 0 then v = orW (fun j => decide (oN (fsB ((wdS σ n m c).cn (nn b) ((wdS σ n m c).bd (nn b))) (σ.1 17) (σ.2.1 (58 + nn f)) (min (nn (σ.1 (52 + nn f) 4)) 41) 0 (j, ((wdS σ n m c).s0 (nn b)).2)) = -2)) nI 16 ∧ SE σ σ' ∧ LI V σ' m c else (v = orW (fun j => decide (oN (fsB ((wdS σ n m c).cn (nn b) j) (σ.1 17) (σ.2.1 (58 + nn f)) (min (nn (σ.1 (52 + nn f) 4)) 41) 0 ((wdS σ n m c).s0 (nn b))) = -2)) nI 10 ∧ SE σ σ' ∧ LI V σ' m c))))))) := by
  refine CT.of (own := RX10) rfl (by decide) (Nat.le_of_ble_eq_true rfl) (fun X (hx : Ok V RX10 cX10_fits 6 (d + 7) X) (he : En layC V (some .int) (Ri fun v σ' => (if ¬ (0 ≤ q.toInt ∧ q.toInt ≤ 1) then v = -1 ∧ σ' = σ else (if ¬ ((0 ≤ f.toInt ∧ f.toInt ≤ 5) ∧ (0 ≤ b.toInt ∧ b.toInt < n)) then v = -1 ∧ σ' = σ else (if σ.1 (52 + nn f) 1 = 0 then v = -11 ∧ σ' = σ else (if ¬ (σ.1 (52 + nn f) 1 = 2 ∧ σ.1 (52 + nn f) 3 = 0) then v = -12 ∧ σ' = σ else (if q.toInt = 0 then v = orW (fun j => decide (oN (fsB ((wdS σ n m c).cn (nn b) ((wdS σ n m c).bd (nn b))) (σ.1 17) (σ.2.1 (58 + nn f)) (min (nn (σ.1 (52 + nn f) 4)) 41) 0 (j, ((wdS σ n m c).s0 (nn b)).2)) = -2)) nI 16 ∧ SE σ σ' ∧ LI V σ' m c else (v = orW (fun j => decide (oN (fsB ((wdS σ n m c).cn (nn b) j) (σ.1 17) (σ.2.1 (58 + nn f)) (min (nn (σ.1 (52 + nn f) 4)) 41) 0 ((wdS σ n m c).s0 (nn b))) = -2)) nI 10 ∧ SE σ σ' ∧ LI V σ' m c))))))) X) => ?_)
  change WS layC V 6 X σ 0 [(0, rf V 0), (1, .int f), (2, .int b), (3, .int q)] []
  refine WS.iload_n hx dX10_fits_0 rfl 3 rfl ?_
  refine WS.iconst (v := 0) hx dX10_fits_1 (by decide) ?_
  refine WS.iconst (v := 1) hx dX10_fits_2 (by decide) ?_
  refine WS.callSi (st := []) [.int q, .int 0, .int 1] hx (c_X10_within V (d + 6) σ q 0 1) okX10_within lm10_80 rfl rfl (Nat.le_of_ble_eq_true rfl) dX10_fits_3 (fun v1 σ2 h3 => ?_)
  rcases h3 with ⟨rfl, rfl, hb3⟩ | ⟨rfl, rfl, hb3⟩
  · skip
    show WS layC V 6 X σ 6 [(0, rf V 0), (1, .int f), (2, .int b), (3, .int q)] [.int 1]
    refine WS.if_ne (tgt := 11) hx dX10_fits_6 (by decide) (fun _ => ?_) (fun h => absurd h (by decide))
    refine WS.aload_n hx dX10_fits_11 rfl 0 rfl ?_
    refine WS.iload_n hx dX10_fits_12 rfl 1 rfl ?_
    refine WS.iload_n hx dX10_fits_13 rfl 2 rfl ?_
    refine WS.callVi (st := []) [.int f, .int b] hx (c_X10_bookRefusal V (d + 4) σ n hQ f b) okX10_bookRefusal lm10_214 rfl rfl rfl rfl (Nat.le_of_ble_eq_true rfl) dX10_fits_14 (fun v4 σ5 h6 => ?_)
    rcases h6 with ⟨hr, rfl, rfl⟩ | ⟨hr, hb, rfl, rfl⟩ | ⟨hr, hb, hc, rfl, rfl⟩ | ⟨hr, hb, hc, rfl, rfl⟩
    · skip
      show WS layC V 6 X σ 17 [(0, rf V 0), (1, .int f), (2, .int b), (3, .int q)] [.int (-1)]
      refine WS.istore (lo' := [(4, .int (-1)), (0, rf V 0), (1, .int f), (2, .int b), (3, .int q)]) hx dX10_fits_17 (by decide) rfl ?_
      refine WS.iload hx dX10_fits_19 0 rfl ?_
      refine WS.if_ge (tgt := 27) hx dX10_fits_21 (by decide) (fun h => absurd h (by decide)) (fun _ => ?_)
      refine WS.iload hx dX10_fits_24 0 rfl ?_
      exact WS.iret hx he dX10_fits_26 ⟨_, rfl, by (try simp only [i_le, i_lt, i_eq, tI_m1, tI_0, tI_1] at hb3); (repeat' split) <;> first | (exfalso; omega) | exact ⟨rfl, rfl⟩ | contradiction | exact ⟨hv46.symm, se46, li46⟩ | exact ⟨hv59.symm, se59, li59⟩⟩
    · skip
      show WS layC V 6 X σ 17 [(0, rf V 0), (1, .int f), (2, .int b), (3, .int q)] [.int (-11)]
      refine WS.istore (lo' := [(4, .int (-11)), (0, rf V 0), (1, .int f), (2, .int b), (3, .int q)]) hx dX10_fits_17 (by decide) rfl ?_
      refine WS.iload hx dX10_fits_19 0 rfl ?_
      refine WS.if_ge (tgt := 27) hx dX10_fits_21 (by decide) (fun h => absurd h (by decide)) (fun _ => ?_)
      refine WS.iload hx dX10_fits_24 0 rfl ?_
      exact WS.iret hx he dX10_fits_26 ⟨_, rfl, by (try simp only [i_le, i_lt, i_eq, tI_m1, tI_0, tI_1] at hb3); (try simp only [i_le, i_lt, i_eq, tI_m1, tI_0, tI_1] at hb14); (repeat' split) <;> first | (exfalso; omega) | exact ⟨rfl, rfl⟩ | contradiction | exact ⟨hv46.symm, se46, li46⟩ | exact ⟨hv59.symm, se59, li59⟩⟩
    · skip
      show WS layC V 6 X σ 17 [(0, rf V 0), (1, .int f), (2, .int b), (3, .int q)] [.int (-12)]
      refine WS.istore (lo' := [(4, .int (-12)), (0, rf V 0), (1, .int f), (2, .int b), (3, .int q)]) hx dX10_fits_17 (by decide) rfl ?_
      refine WS.iload hx dX10_fits_19 0 rfl ?_
      refine WS.if_ge (tgt := 27) hx dX10_fits_21 (by decide) (fun h => absurd h (by decide)) (fun _ => ?_)
      refine WS.iload hx dX10_fits_24 0 rfl ?_
      exact WS.iret hx he dX10_fits_26 ⟨_, rfl, by (try simp only [i_le, i_lt, i_eq, tI_m1, tI_0, tI_1] at hb3); (try simp only [i_le, i_lt, i_eq, tI_m1, tI_0, tI_1] at hb14); (repeat' split) <;> first | (exfalso; omega) | exact ⟨rfl, rfl⟩ | contradiction | exact ⟨hv46.symm, se46, li46⟩ | exact ⟨hv59.symm, se59, li59⟩⟩
    · skip
      show WS layC V 6 X σ 17 [(0, rf V 0), (1, .int f), (2, .int b), (3, .int q)] [.int 0]
      have hsh := sh_nn hr.1
      have hz := (nI_nn (hZ (nn f) hsh).1).symm
      have hz2 : nn (σ.1 (52 + nn f) 4) ≤ 60 := by have h9 := hZ (nn f) hsh; have := nn_int h9.1; unfold rg at h9; omega
      have hkn : nn b < n := by have := nn_int hr.2.1; omega
      refine WS.istore (lo' := [(4, .int 0), (0, rf V 0), (1, .int f), (2, .int b), (3, .int q)]) hx dX10_fits_17 (by decide) rfl ?_
      refine WS.iload hx dX10_fits_19 0 rfl ?_
      refine WS.if_ge (tgt := 27) hx dX10_fits_21 (by decide) (fun _ => ?_) (fun h => absurd (by decide) h)
      refine WS.aload_n hx dX10_fits_27 rfl 1 rfl ?_
      refine WS.getR hx okX10 lf10_75 rfl rfl dX10_fits_28 ?_
      refine WS.iload_n hx dX10_fits_31 rfl 2 rfl ?_
      refine WS.aald hx rfl rfl (sh_in hr.1) dX10_fits_32 ?_
      refine WS.astore (lo' := [(5, rf V (52 + (nn f))), (4, .int 0), (0, rf V 0), (1, .int f), (2, .int b), (3, .int q)]) hx dX10_fits_33 (by decide) rfl ?_
      refine WS.iload_n hx dX10_fits_35 rfl 5 rfl ?_
      refine WS.if_ne (tgt := 52) hx dX10_fits_36 (by decide) (fun c36 => ?_) (fun c36 => ?_)
      · skip
        show WS layC V 6 X σ 52 [(5, rf V (52 + (nn f))), (4, .int 0), (0, rf V 0), (1, .int f), (2, .int b), (3, .int q)] []
        refine WS.aload_n hx dX10_fits_52 rfl 2 rfl ?_
        refine WS.getR hx okX10 lf10_32 rfl rfl dX10_fits_53 ?_
        refine WS.aload hx dX10_fits_56 0 rfl ?_
        refine WS.iload_n hx dX10_fits_58 rfl 4 rfl ?_
        refine WS.as rfl rfl (congrArg (fun z => Value.int z :: _) (show b = nI (nn b) from (nI_nn hr.2.1).symm)) ?_
        skip
        refine WS.callVi (st := []) [rf V (52 + (nn f)), .int (nI (nn b))] hx (c_X4_fittingBeds V d σ n hQ m c hL (nn f) hsh (nn (σ.1 (52 + nn f) 4)) hz hz2 (nn b) hkn) okX4_fittingBeds lm10_224 rfl rfl rfl rfl (Nat.le_of_ble_eq_true rfl) dX10_fits_59 (fun v7 σ8 h9 => ?_)
        obtain ⟨hv59, se59, li59⟩ := h9
        show WS layC V 6 X σ8 62 [(5, rf V (52 + (nn f))), (4, .int 0), (0, rf V 0), (1, .int f), (2, .int b), (3, .int q)] [.int v7]
        exact WS.iret hx he dX10_fits_62 ⟨_, rfl, by (try simp only [i_le, i_lt, i_eq, tI_m1, tI_0, tI_1] at hb3); (try simp only [i_le, i_lt, i_eq, tI_m1, tI_0, tI_1] at hb14); (try simp only [i_le, i_lt, i_eq, tI_m1, tI_0, tI_1] at c36); (repeat' split) <;> first | (exfalso; omega) | exact ⟨rfl, rfl⟩ | contradiction | exact ⟨hv46.symm, se46, li46⟩ | exact ⟨hv59.symm, se59, li59⟩⟩
      · skip
        show WS layC V 6 X σ 39 [(5, rf V (52 + (nn f))), (4, .int 0), (0, rf V 0), (1, .int f), (2, .int b), (3, .int q)] []
        refine WS.aload_n hx dX10_fits_39 rfl 2 rfl ?_
        refine WS.getR hx okX10 lf10_32 rfl rfl dX10_fits_40 ?_
        refine WS.aload hx dX10_fits_43 0 rfl ?_
        refine WS.iload_n hx dX10_fits_45 rfl 4 rfl ?_
        refine WS.as rfl rfl (congrArg (fun z => Value.int z :: _) (show b = nI (nn b) from (nI_nn hr.2.1).symm)) ?_
        skip
        refine WS.callVi (st := []) [rf V (52 + (nn f)), .int (nI (nn b))] hx (c_X4_fittingThoughts V d σ n hQ m c hL (nn f) hsh (nn (σ.1 (52 + nn f) 4)) hz hz2 (nn b) hkn) okX4_fittingThoughts lm10_221 rfl rfl rfl rfl (Nat.le_of_ble_eq_true rfl) dX10_fits_46 (fun v10 σ11 h12 => ?_)
        obtain ⟨hv46, se46, li46⟩ := h12
        show WS layC V 6 X σ11 49 [(5, rf V (52 + (nn f))), (4, .int 0), (0, rf V 0), (1, .int f), (2, .int b), (3, .int q)] [.int v10]
        refine WS.goto (tgt := 62) hx dX10_fits_49 (by decide) ?_
        exact WS.iret hx he dX10_fits_62 ⟨_, rfl, by (try simp only [i_le, i_lt, i_eq, tI_m1, tI_0, tI_1] at hb3); (try simp only [i_le, i_lt, i_eq, tI_m1, tI_0, tI_1] at hb14); (try simp only [i_le, i_lt, i_eq, tI_m1, tI_0, tI_1] at c36); (repeat' split) <;> first | (exfalso; omega) | exact ⟨rfl, rfl⟩ | contradiction | exact ⟨hv46.symm, se46, li46⟩ | exact ⟨hv59.symm, se59, li59⟩⟩
  · skip
    show WS layC V 6 X σ 6 [(0, rf V 0), (1, .int f), (2, .int b), (3, .int q)] [.int 0]
    refine WS.if_ne (tgt := 11) hx dX10_fits_6 (by decide) (fun h => absurd (by decide) h) (fun _ => ?_)
    refine WS.iconst (v := (-1)) hx dX10_fits_9 (by decide) ?_
    exact WS.iret hx he dX10_fits_10 ⟨_, rfl, by (try simp only [i_le, i_lt, i_eq, tI_m1, tI_0, tI_1] at hb3); (repeat' split) <;> first | (exfalso; omega) | exact ⟨rfl, rfl⟩ | contradiction | exact ⟨hv46.symm, se46, li46⟩ | exact ⟨hv59.symm, se59, li59⟩⟩
theorem sr4 (x : Int32) : (x >>> ((4 : Int32) &&& 31)).toInt = x.toInt / 16 := by
  rw [pk_shr x _ 4 (by decide), Int.shiftRight_eq_div_pow]; rfl
theorem an15 (x : Int32) : (x &&& 15).toInt = x.toInt % 16 := by
  have h : x &&& 15 = nI (x.toBitVec.toNat % 2 ^ 4) := pk_and x 4 (by decide)
  rw [h, nI_c (by omega)]
  have h2 : x.toInt = x.toBitVec.toInt := rfl
  rw [h2, BitVec.toInt_eq_toNat_cond]
  split <;> omega

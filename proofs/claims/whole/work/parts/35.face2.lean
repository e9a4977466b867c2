set_option maxHeartbeats 1000000 in
theorem c_X10_wall (V : Vt) (d : Nat) (σ : Sg) (n : Nat) (hQ : QI σ n) (m c : Nat) (hL : LI V σ m c) (u q : Int32) : CT layC V mX10_wall (d + 7) [rf V 0, .int u, .int q] σ (Ri fun v σ' => (if ¬ (0 ≤ u.toInt ∧ u.toInt ≤ 60 ∧ 0 ≤ q.toInt ∧ q.toInt ≤ 1) then v = -1 ∧ σ' = σ else (if q.toInt = 0 then v = orW (bitP (orW (fun j => decide (¬ σ.1 14 j = 1)) (fun j => nI (rep ((wdS σ n m c).cn j ((wdS σ n m c).bd j)) (nn u) ((wdS σ n m c).s0 j)).1) n)) (σ.1 17) 16 ∧ SE σ σ' ∧ LI V σ' m c else (v = bcF (orW (fun j => decide (¬ σ.1 14 j = 1)) (fun j => nI (rep ((wdS σ n m c).cn j ((wdS σ n m c).bd j)) (nn u) ((wdS σ n m c).s0 j)).1) n) ∧ SE σ σ' ∧ LI V σ' m c)))) := by
  refine CT.of (own := RX10) rfl (by decide) (Nat.le_of_ble_eq_true rfl) (fun X (hx : Ok V RX10 cX10_wall 4 (d + 7) X) (he : En layC V (some .int) (Ri fun v σ' => (if ¬ (0 ≤ u.toInt ∧ u.toInt ≤ 60 ∧ 0 ≤ q.toInt ∧ q.toInt ≤ 1) then v = -1 ∧ σ' = σ else (if q.toInt = 0 then v = orW (bitP (orW (fun j => decide (¬ σ.1 14 j = 1)) (fun j => nI (rep ((wdS σ n m c).cn j ((wdS σ n m c).bd j)) (nn u) ((wdS σ n m c).s0 j)).1) n)) (σ.1 17) 16 ∧ SE σ σ' ∧ LI V σ' m c else (v = bcF (orW (fun j => decide (¬ σ.1 14 j = 1)) (fun j => nI (rep ((wdS σ n m c).cn j ((wdS σ n m c).bd j)) (nn u) ((wdS σ n m c).s0 j)).1) n) ∧ SE σ σ' ∧ LI V σ' m c)))) X) => ?_)
  change WS layC V 4 X σ 0 [(0, rf V 0), (1, .int u), (2, .int q)] []
  refine WS.iload_n hx dX10_wall_0 rfl 1 rfl ?_
  refine WS.iconst (v := 0) hx dX10_wall_1 (by decide) ?_
  refine WS.bipush (v := 60) hx dX10_wall_2 (by decide) ?_
  refine WS.callSi (st := []) [.int u, .int 0, .int 60] hx (c_X10_within V (d + 6) σ u 0 60) okX10_within lm10_80 rfl rfl (Nat.le_of_ble_eq_true rfl) dX10_wall_4 (fun v1 σ2 h3 => ?_)
  rcases h3 with ⟨rfl, rfl, hb4⟩ | ⟨rfl, rfl, hb4⟩
  · skip
    show WS layC V 4 X σ 7 [(0, rf V 0), (1, .int u), (2, .int q)] [.int 1]
    refine WS.if_eq (tgt := 19) hx dX10_wall_7 (by decide) (fun h => absurd h (by decide)) (fun _ => ?_)
    refine WS.iload_n hx dX10_wall_10 rfl 2 rfl ?_
    refine WS.iconst (v := 0) hx dX10_wall_11 (by decide) ?_
    refine WS.iconst (v := 1) hx dX10_wall_12 (by decide) ?_
    refine WS.callSi (st := []) [.int q, .int 0, .int 1] hx (c_X10_within V (d + 6) σ q 0 1) okX10_within lm10_80 rfl rfl (Nat.le_of_ble_eq_true rfl) dX10_wall_13 (fun v4 σ5 h6 => ?_)
    rcases h6 with ⟨rfl, rfl, hb13⟩ | ⟨rfl, rfl, hb13⟩
    · skip
      show WS layC V 4 X σ 16 [(0, rf V 0), (1, .int u), (2, .int q)] [.int 1]
      have hu0 : 0 ≤ u.toInt := by simp only [i_le, tI_0] at hb4; exact hb4.1
      refine WS.if_ne (tgt := 21) hx dX10_wall_16 (by decide) (fun _ => ?_) (fun h => absurd h (by decide))
      refine WS.aload_n hx dX10_wall_21 rfl 0 rfl ?_
      refine WS.getR hx okX10 lf10_32 rfl rfl dX10_wall_22 ?_
      refine WS.iload_n hx dX10_wall_25 rfl 1 rfl ?_
      refine WS.as rfl rfl (congrArg (fun z => Value.int z :: _) (show u = nI (nn u) from (nI_nn hu0).symm)) ?_
      skip
      refine WS.callVi (st := []) [.int (nI (nn u))] hx (c_X4_thoughtsBehind V d σ n hQ m c hL (nn u) (by have := nn_int hu0; (try simp only [i_le, i_lt, i_eq, tI_m1, tI_0, tI_1, tI_60] at hb4); (try simp only [i_le, i_lt, i_eq, tI_m1, tI_0, tI_1, tI_60] at hb13); omega)) okX4_thoughtsBehind lm10_153 rfl rfl rfl rfl (Nat.le_of_ble_eq_true rfl) dX10_wall_26 (fun v7 σ8 h9 => ?_)
      obtain ⟨rfl, se26, li26⟩ := h9
      show WS layC V 4 X σ8 29 [(0, rf V 0), (1, .int u), (2, .int q)] [.int (orW (fun j => decide (¬ σ.1 14 j = 1)) (fun j => nI (rep ((wdS σ n m c).cn j ((wdS σ n m c).bd j)) (nn u) ((wdS σ n m c).s0 j)).1) n)]
      refine WS.istore_n (lo' := [(3, .int (orW (fun j => decide (¬ σ.1 14 j = 1)) (fun j => nI (rep ((wdS σ n m c).cn j ((wdS σ n m c).bd j)) (nn u) ((wdS σ n m c).s0 j)).1) n)), (0, rf V 0), (1, .int u), (2, .int q)]) hx dX10_wall_29 rfl (by decide) rfl ?_
      refine WS.iload_n hx dX10_wall_30 rfl 3 rfl ?_
      refine WS.if_ne (tgt := 45) hx dX10_wall_31 (by decide) (fun c31 => ?_) (fun c31 => ?_)
      · skip
        show WS layC V 4 X σ8 45 [(3, .int (orW (fun j => decide (¬ σ.1 14 j = 1)) (fun j => nI (rep ((wdS σ n m c).cn j ((wdS σ n m c).bd j)) (nn u) ((wdS σ n m c).s0 j)).1) n)), (0, rf V 0), (1, .int u), (2, .int q)] []
        refine WS.iload_n hx dX10_wall_45 rfl 0 rfl ?_
        refine WS.callSi (st := []) [.int (orW (fun j => decide (¬ σ.1 14 j = 1)) (fun j => nI (rep ((wdS σ n m c).cn j ((wdS σ n m c).bd j)) (nn u) ((wdS σ n m c).s0 j)).1) n)] hx (c_J_bits V (d + 6) σ8 (orW (fun j => decide (¬ σ.1 14 j = 1)) (fun j => nI (rep ((wdS σ n m c).cn j ((wdS σ n m c).bd j)) (nn u) ((wdS σ n m c).s0 j)).1) n)) okJ_bits lm10_159 rfl rfl (Nat.le_of_ble_eq_true rfl) dX10_wall_46 (fun v10 σ11 h12 => ?_)
        obtain ⟨rfl, rfl⟩ := h12
        show WS layC V 4 X σ8 49 [(3, .int (orW (fun j => decide (¬ σ.1 14 j = 1)) (fun j => nI (rep ((wdS σ n m c).cn j ((wdS σ n m c).bd j)) (nn u) ((wdS σ n m c).s0 j)).1) n)), (0, rf V 0), (1, .int u), (2, .int q)] [.int (bcF (orW (fun j => decide (¬ σ.1 14 j = 1)) (fun j => nI (rep ((wdS σ n m c).cn j ((wdS σ n m c).bd j)) (nn u) ((wdS σ n m c).s0 j)).1) n))]
        exact WS.iret hx he dX10_wall_49 ⟨_, rfl, by (try simp only [i_le, i_lt, i_eq, tI_m1, tI_0, tI_1, tI_60] at hb4); (try simp only [i_le, i_lt, i_eq, tI_m1, tI_0, tI_1, tI_60] at hb13); (try simp only [i_le, i_lt, i_eq, tI_m1, tI_0, tI_1, tI_60] at c31); (repeat' split) <;> first | (exfalso; omega) | exact ⟨rfl, rfl⟩ | exact ⟨rfl, se26, li26⟩ | exact ⟨by rw [se26.1 17 (ns (by decide))], se26, li26⟩⟩
      · skip
        show WS layC V 4 X σ8 34 [(3, .int (orW (fun j => decide (¬ σ.1 14 j = 1)) (fun j => nI (rep ((wdS σ n m c).cn j ((wdS σ n m c).bd j)) (nn u) ((wdS σ n m c).s0 j)).1) n)), (0, rf V 0), (1, .int u), (2, .int q)] []
        refine WS.aload_n hx dX10_wall_34 rfl 1 rfl ?_
        refine WS.getR hx okX10 lf10_12 rfl rfl dX10_wall_35 ?_
        refine WS.iload_n hx dX10_wall_38 rfl 0 rfl ?_
        refine WS.callVi (st := []) [.int (orW (fun j => decide (¬ σ.1 14 j = 1)) (fun j => nI (rep ((wdS σ n m c).cn j ((wdS σ n m c).bd j)) (nn u) ((wdS σ n m c).s0 j)).1) n)] hx (c_X7_wordsAt V (d + 6) σ8 (orW (fun j => decide (¬ σ.1 14 j = 1)) (fun j => nI (rep ((wdS σ n m c).cn j ((wdS σ n m c).bd j)) (nn u) ((wdS σ n m c).s0 j)).1) n)) okX7_wordsAt lm10_156 rfl rfl rfl rfl (Nat.le_of_ble_eq_true rfl) dX10_wall_39 (fun v13 σ14 h15 => ?_)
        obtain ⟨rfl, rfl⟩ := h15
        show WS layC V 4 X σ8 42 [(3, .int (orW (fun j => decide (¬ σ.1 14 j = 1)) (fun j => nI (rep ((wdS σ n m c).cn j ((wdS σ n m c).bd j)) (nn u) ((wdS σ n m c).s0 j)).1) n)), (0, rf V 0), (1, .int u), (2, .int q)] [.int (orW (bitP (orW (fun j => decide (¬ σ.1 14 j = 1)) (fun j => nI (rep ((wdS σ n m c).cn j ((wdS σ n m c).bd j)) (nn u) ((wdS σ n m c).s0 j)).1) n)) (σ8.1 17) 16)]
        refine WS.goto (tgt := 49) hx dX10_wall_42 (by decide) ?_
        exact WS.iret hx he dX10_wall_49 ⟨_, rfl, by (try simp only [i_le, i_lt, i_eq, tI_m1, tI_0, tI_1, tI_60] at hb4); (try simp only [i_le, i_lt, i_eq, tI_m1, tI_0, tI_1, tI_60] at hb13); (try simp only [i_le, i_lt, i_eq, tI_m1, tI_0, tI_1, tI_60] at c31); (repeat' split) <;> first | (exfalso; omega) | exact ⟨rfl, rfl⟩ | exact ⟨rfl, se26, li26⟩ | exact ⟨by rw [se26.1 17 (ns (by decide))], se26, li26⟩⟩
    · skip
      show WS layC V 4 X σ 16 [(0, rf V 0), (1, .int u), (2, .int q)] [.int 0]
      refine WS.if_ne (tgt := 21) hx dX10_wall_16 (by decide) (fun h => absurd (by decide) h) (fun _ => ?_)
      refine WS.iconst (v := (-1)) hx dX10_wall_19 (by decide) ?_
      exact WS.iret hx he dX10_wall_20 ⟨_, rfl, by (try simp only [i_le, i_lt, i_eq, tI_m1, tI_0, tI_1, tI_60] at hb4); (try simp only [i_le, i_lt, i_eq, tI_m1, tI_0, tI_1, tI_60] at hb13); (repeat' split) <;> first | (exfalso; omega) | exact ⟨rfl, rfl⟩ | exact ⟨rfl, se26, li26⟩ | exact ⟨by rw [se26.1 17 (ns (by decide))], se26, li26⟩⟩
  · skip
    show WS layC V 4 X σ 7 [(0, rf V 0), (1, .int u), (2, .int q)] [.int 0]
    refine WS.if_eq (tgt := 19) hx dX10_wall_7 (by decide) (fun _ => ?_) (fun h => absurd (by decide) h)
    refine WS.iconst (v := (-1)) hx dX10_wall_19 (by decide) ?_
    exact WS.iret hx he dX10_wall_20 ⟨_, rfl, by (try simp only [i_le, i_lt, i_eq, tI_m1, tI_0, tI_1, tI_60] at hb4); (repeat' split) <;> first | (exfalso; omega) | exact ⟨rfl, rfl⟩ | exact ⟨rfl, se26, li26⟩ | exact ⟨by rw [se26.1 17 (ns (by decide))], se26, li26⟩⟩
set_option maxHeartbeats 1000000 in
theorem c_X10_when (V : Vt) (d : Nat) (σ : Sg) (n : Nat) (hQ : QI σ n) (m c : Nat) (hL : LI V σ m c) (b x : Int32) : CT layC V mX10_when (d + 6) [rf V 0, .int b, .int x] σ (Ri fun v σ' => (if ¬ (0 ≤ b.toInt ∧ b.toInt < n ∧ 0 ≤ x.toInt ∧ x.toInt ≤ 15) then v = -1 ∧ σ' = σ else (v = oN (fsA ((wdS σ n m c).cn (nn b) ((wdS σ n m c).bd (nn b))) (nn x) 61 0 ((wdS σ n m c).s0 (nn b))) ∧ SE σ σ' ∧ LI V σ' m c))) := by
  refine CT.of (own := RX10) rfl (by decide) (Nat.le_of_ble_eq_true rfl) (fun X (hx : Ok V RX10 cX10_when 3 (d + 6) X) (he : En layC V (some .int) (Ri fun v σ' => (if ¬ (0 ≤ b.toInt ∧ b.toInt < n ∧ 0 ≤ x.toInt ∧ x.toInt ≤ 15) then v = -1 ∧ σ' = σ else (v = oN (fsA ((wdS σ n m c).cn (nn b) ((wdS σ n m c).bd (nn b))) (nn x) 61 0 ((wdS σ n m c).s0 (nn b))) ∧ SE σ σ' ∧ LI V σ' m c))) X) => ?_)
  change WS layC V 3 X σ 0 [(0, rf V 0), (1, .int b), (2, .int x)] []
  refine WS.aload_n hx dX10_when_0 rfl 0 rfl ?_
  refine WS.getR hx okX10 lf10_12 rfl rfl dX10_when_1 ?_
  refine WS.iload_n hx dX10_when_4 rfl 1 rfl ?_
  refine WS.callVi (st := []) [.int b] hx (c_X7_hasBlock V (d + 4) σ n hQ b) okX7_hasBlock lm10_140 rfl rfl rfl rfl (Nat.le_of_ble_eq_true rfl) dX10_when_5 (fun v1 σ2 h3 => ?_)
  rcases h3 with ⟨rfl, rfl, hb5⟩ | ⟨rfl, rfl, hb5⟩
  · skip
    show WS layC V 3 X σ 8 [(0, rf V 0), (1, .int b), (2, .int x)] [.int 1]
    refine WS.if_eq (tgt := 18) hx dX10_when_8 (by decide) (fun h => absurd h (by decide)) (fun _ => ?_)
    refine WS.iload_n hx dX10_when_11 rfl 2 rfl ?_
    refine WS.callSi (st := []) [.int x] hx (c_X10_isThought V (d + 4) σ x) okX10_isThought lm10_164 rfl rfl (Nat.le_of_ble_eq_true rfl) dX10_when_12 (fun v4 σ5 h6 => ?_)
    rcases h6 with ⟨rfl, rfl, hb12⟩ | ⟨rfl, rfl, hb12⟩
    · skip
      show WS layC V 3 X σ 15 [(0, rf V 0), (1, .int b), (2, .int x)] [.int 1]
      have hkn : nn b < n := by have := nn_int hb5.1; omega
      have htn : nn x < 16 := by have := nn_int hb12.1; omega
      refine WS.if_ne (tgt := 20) hx dX10_when_15 (by decide) (fun _ => ?_) (fun h => absurd h (by decide))
      refine WS.aload_n hx dX10_when_20 rfl 0 rfl ?_
      refine WS.getR hx okX10 lf10_32 rfl rfl dX10_when_21 ?_
      refine WS.iload_n hx dX10_when_24 rfl 1 rfl ?_
      refine WS.as rfl rfl (congrArg (fun z => Value.int z :: _) (show b = nI (nn b) from (nI_nn hb5.1).symm)) ?_
      skip
      refine WS.iload_n hx dX10_when_25 rfl 2 rfl ?_
      refine WS.as rfl rfl (congrArg (fun z => Value.int z :: _) (show x = nI (nn x) from (nI_nn hb12.1).symm)) ?_
      skip
      refine WS.callVi (st := []) [.int (nI (nn b)), .int (nI (nn x))] hx (c_X4_firstAt V d σ n hQ m c hL (nn b) hkn (nn x) htn) okX4_firstAt lm10_167 rfl rfl rfl rfl (Nat.le_of_ble_eq_true rfl) dX10_when_26 (fun v7 σ8 h9 => ?_)
      obtain ⟨rfl, se26, li26⟩ := h9
      show WS layC V 3 X σ8 29 [(0, rf V 0), (1, .int b), (2, .int x)] [.int (oN (fsA ((wdS σ n m c).cn (nn b) ((wdS σ n m c).bd (nn b))) (nn x) 61 0 ((wdS σ n m c).s0 (nn b))))]
      exact WS.iret hx he dX10_when_29 ⟨_, rfl, by (try simp only [i_le, i_lt, i_eq, tI_m1, tI_0, tI_1] at hb5); (try simp only [i_le, i_lt, i_eq, tI_m1, tI_0, tI_1] at hb12); (repeat' split) <;> first | (exfalso; omega) | exact ⟨rfl, rfl⟩ | exact ⟨rfl, se26, li26⟩⟩
    · skip
      show WS layC V 3 X σ 15 [(0, rf V 0), (1, .int b), (2, .int x)] [.int 0]
      refine WS.if_ne (tgt := 20) hx dX10_when_15 (by decide) (fun h => absurd (by decide) h) (fun _ => ?_)
      refine WS.iconst (v := (-1)) hx dX10_when_18 (by decide) ?_
      exact WS.iret hx he dX10_when_19 ⟨_, rfl, by (try simp only [i_le, i_lt, i_eq, tI_m1, tI_0, tI_1] at hb5); (try simp only [i_le, i_lt, i_eq, tI_m1, tI_0, tI_1] at hb12); (repeat' split) <;> first | (exfalso; omega) | exact ⟨rfl, rfl⟩ | exact ⟨rfl, se26, li26⟩⟩
  · skip
    show WS layC V 3 X σ 8 [(0, rf V 0), (1, .int b), (2, .int x)] [.int 0]
    refine WS.if_eq (tgt := 18) hx dX10_when_8 (by decide) (fun _ => ?_) (fun h => absurd (by decide) h)
    refine WS.iconst (v := (-1)) hx dX10_when_18 (by decide) ?_
    exact WS.iret hx he dX10_when_19 ⟨_, rfl, by (try simp only [i_le, i_lt, i_eq, tI_m1, tI_0, tI_1] at hb5); (repeat' split) <;> first | (exfalso; omega) | exact ⟨rfl, rfl⟩ | exact ⟨rfl, se26, li26⟩⟩
set_option maxHeartbeats 1000000 in
theorem c_X10_meet (V : Vt) (d : Nat) (σ : Sg) (n : Nat) (hQ : QI σ n) (m c : Nat) (hL : LI V σ m c) (x : Int32) : CT layC V mX10_meet (d + 6) [rf V 0, .int x] σ (Ri fun v σ' => (if ¬ (0 ≤ (x / 10).toInt ∧ (x / 10).toInt < n ∧ 0 ≤ (x - x / 10 * 10).toInt ∧ (x - x / 10 * 10).toInt < n ∧ ¬ (x / 10).toInt = (x - x / 10 * 10).toInt) then v = -1 ∧ σ' = σ else (v = oN (fsT ((wdS σ n m c).cn (nn (x / 10)) ((wdS σ n m c).bd (nn (x / 10)))) ((wdS σ n m c).cn (nn (x - x / 10 * 10)) ((wdS σ n m c).bd (nn (x - x / 10 * 10)))) 61 0 ((wdS σ n m c).s0 (nn (x / 10))) ((wdS σ n m c).s0 (nn (x - x / 10 * 10)))) ∧ SE σ σ' ∧ LI V σ' m c))) := by
  refine CT.of (own := RX10) rfl (by decide) (Nat.le_of_ble_eq_true rfl) (fun X (hx : Ok V RX10 cX10_meet 4 (d + 6) X) (he : En layC V (some .int) (Ri fun v σ' => (if ¬ (0 ≤ (x / 10).toInt ∧ (x / 10).toInt < n ∧ 0 ≤ (x - x / 10 * 10).toInt ∧ (x - x / 10 * 10).toInt < n ∧ ¬ (x / 10).toInt = (x - x / 10 * 10).toInt) then v = -1 ∧ σ' = σ else (v = oN (fsT ((wdS σ n m c).cn (nn (x / 10)) ((wdS σ n m c).bd (nn (x / 10)))) ((wdS σ n m c).cn (nn (x - x / 10 * 10)) ((wdS σ n m c).bd (nn (x - x / 10 * 10)))) 61 0 ((wdS σ n m c).s0 (nn (x / 10))) ((wdS σ n m c).s0 (nn (x - x / 10 * 10)))) ∧ SE σ σ' ∧ LI V σ' m c))) X) => ?_)
  change WS layC V 4 X σ 0 [(0, rf V 0), (1, .int x)] []
  refine WS.iload_n hx dX10_meet_0 rfl 1 rfl ?_
  refine WS.bipush (v := 10) hx dX10_meet_1 (by decide) ?_
  refine WS.idiv hx dX10_meet_3 (by decide) ?_
  refine WS.istore_n (lo' := [(2, .int (x / 10)), (0, rf V 0), (1, .int x)]) hx dX10_meet_4 rfl (by decide) rfl ?_
  refine WS.iload_n hx dX10_meet_5 rfl 2 rfl ?_
  refine WS.bipush (v := 10) hx dX10_meet_6 (by decide) ?_
  refine WS.irem hx dX10_meet_8 (by decide) ?_
  refine WS.istore_n (lo' := [(3, .int (x - x / 10 * 10)), (2, .int (x / 10)), (0, rf V 0), (1, .int x)]) hx dX10_meet_9 rfl (by decide) rfl ?_
  refine WS.aload_n hx dX10_meet_10 rfl 2 rfl ?_
  refine WS.getR hx okX10 lf10_12 rfl rfl dX10_meet_11 ?_
  refine WS.iload_n hx dX10_meet_14 rfl 1 rfl ?_
  refine WS.callVi (st := []) [.int (x / 10)] hx (c_X7_hasBlock V (d + 4) σ n hQ (x / 10)) okX7_hasBlock lm10_140 rfl rfl rfl rfl (Nat.le_of_ble_eq_true rfl) dX10_meet_15 (fun v1 σ2 h3 => ?_)
  rcases h3 with ⟨rfl, rfl, hb15⟩ | ⟨rfl, rfl, hb15⟩
  · skip
    show WS layC V 4 X σ 18 [(3, .int (x - x / 10 * 10)), (2, .int (x / 10)), (0, rf V 0), (1, .int x)] [.int 1]
    refine WS.if_eq (tgt := 37) hx dX10_meet_18 (by decide) (fun h => absurd h (by decide)) (fun _ => ?_)
    refine WS.aload_n hx dX10_meet_21 rfl 2 rfl ?_
    refine WS.getR hx okX10 lf10_12 rfl rfl dX10_meet_22 ?_
    refine WS.iload_n hx dX10_meet_25 rfl 0 rfl ?_
    refine WS.callVi (st := []) [.int (x - x / 10 * 10)] hx (c_X7_hasBlock V (d + 4) σ n hQ (x - x / 10 * 10)) okX7_hasBlock lm10_140 rfl rfl rfl rfl (Nat.le_of_ble_eq_true rfl) dX10_meet_26 (fun v4 σ5 h6 => ?_)
    rcases h6 with ⟨rfl, rfl, hb26⟩ | ⟨rfl, rfl, hb26⟩
    · skip
      show WS layC V 4 X σ 29 [(3, .int (x - x / 10 * 10)), (2, .int (x / 10)), (0, rf V 0), (1, .int x)] [.int 1]
      refine WS.if_eq (tgt := 37) hx dX10_meet_29 (by decide) (fun h => absurd h (by decide)) (fun _ => ?_)
      refine WS.iload_n hx dX10_meet_32 rfl 1 rfl ?_
      refine WS.iload_n hx dX10_meet_33 rfl 0 rfl ?_
      refine WS.icmp_ne (tgt := 39) hx dX10_meet_34 (by decide) (fun c34 => ?_) (fun c34 => ?_)
      · skip
        show WS layC V 4 X σ 39 [(3, .int (x - x / 10 * 10)), (2, .int (x / 10)), (0, rf V 0), (1, .int x)] []
        have hk1 : nn (x / 10) < n := by have := nn_int hb15.1; omega
        have hk2 : nn (x - x / 10 * 10) < n := by have := nn_int hb26.1; omega
        refine WS.aload_n hx dX10_meet_39 rfl 2 rfl ?_
        refine WS.getR hx okX10 lf10_32 rfl rfl dX10_meet_40 ?_
        refine WS.iload_n hx dX10_meet_43 rfl 1 rfl ?_
        refine WS.as rfl rfl (congrArg (fun z => Value.int z :: _) (show x / 10 = nI (nn (x / 10)) from (nI_nn hb15.1).symm)) ?_
        skip
        refine WS.iload_n hx dX10_meet_44 rfl 0 rfl ?_
        refine WS.as rfl rfl (congrArg (fun z => Value.int z :: _) (show x - x / 10 * 10 = nI (nn (x - x / 10 * 10)) from (nI_nn hb26.1).symm)) ?_
        skip
        refine WS.callVi (st := []) [.int (nI (nn (x / 10))), .int (nI (nn (x - x / 10 * 10)))] hx (c_X4_firstTogether V d σ n hQ m c hL (nn (x / 10)) hk1 (nn (x - x / 10 * 10)) hk2) okX4_firstTogether lm10_170 rfl rfl rfl rfl (Nat.le_of_ble_eq_true rfl) dX10_meet_45 (fun v7 σ8 h9 => ?_)
        obtain ⟨rfl, se45, li45⟩ := h9
        show WS layC V 4 X σ8 48 [(3, .int (x - x / 10 * 10)), (2, .int (x / 10)), (0, rf V 0), (1, .int x)] [.int (oN (fsT ((wdS σ n m c).cn (nn (x / 10)) ((wdS σ n m c).bd (nn (x / 10)))) ((wdS σ n m c).cn (nn (x - x / 10 * 10)) ((wdS σ n m c).bd (nn (x - x / 10 * 10)))) 61 0 ((wdS σ n m c).s0 (nn (x / 10))) ((wdS σ n m c).s0 (nn (x - x / 10 * 10)))))]
        exact WS.iret hx he dX10_meet_48 ⟨_, rfl, by (try simp only [i_le, i_lt, i_eq, tI_m1, tI_0, tI_1, tI_10] at hb15); (try simp only [i_le, i_lt, i_eq, tI_m1, tI_0, tI_1, tI_10] at hb26); (try simp only [i_le, i_lt, i_eq, tI_m1, tI_0, tI_1, tI_10] at c34); (repeat' split) <;> first | (exfalso; omega) | exact ⟨rfl, rfl⟩ | exact ⟨rfl, se45, li45⟩⟩
      · skip
        show WS layC V 4 X σ 37 [(3, .int (x - x / 10 * 10)), (2, .int (x / 10)), (0, rf V 0), (1, .int x)] []
        refine WS.iconst (v := (-1)) hx dX10_meet_37 (by decide) ?_
        exact WS.iret hx he dX10_meet_38 ⟨_, rfl, by (try simp only [i_le, i_lt, i_eq, tI_m1, tI_0, tI_1, tI_10] at hb15); (try simp only [i_le, i_lt, i_eq, tI_m1, tI_0, tI_1, tI_10] at hb26); (try simp only [i_le, i_lt, i_eq, tI_m1, tI_0, tI_1, tI_10] at c34); (repeat' split) <;> first | (exfalso; omega) | exact ⟨rfl, rfl⟩ | exact ⟨rfl, se45, li45⟩⟩
    · skip
      show WS layC V 4 X σ 29 [(3, .int (x - x / 10 * 10)), (2, .int (x / 10)), (0, rf V 0), (1, .int x)] [.int 0]
      refine WS.if_eq (tgt := 37) hx dX10_meet_29 (by decide) (fun _ => ?_) (fun h => absurd (by decide) h)
      refine WS.iconst (v := (-1)) hx dX10_meet_37 (by decide) ?_
      exact WS.iret hx he dX10_meet_38 ⟨_, rfl, by (try simp only [i_le, i_lt, i_eq, tI_m1, tI_0, tI_1, tI_10] at hb15); (try simp only [i_le, i_lt, i_eq, tI_m1, tI_0, tI_1, tI_10] at hb26); (repeat' split) <;> first | (exfalso; omega) | exact ⟨rfl, rfl⟩ | exact ⟨rfl, se45, li45⟩⟩
  · skip
    show WS layC V 4 X σ 18 [(3, .int (x - x / 10 * 10)), (2, .int (x / 10)), (0, rf V 0), (1, .int x)] [.int 0]
    refine WS.if_eq (tgt := 37) hx dX10_meet_18 (by decide) (fun _ => ?_) (fun h => absurd (by decide) h)
    refine WS.iconst (v := (-1)) hx dX10_meet_37 (by decide) ?_
    exact WS.iret hx he dX10_meet_38 ⟨_, rfl, by (try simp only [i_le, i_lt, i_eq, tI_m1, tI_0, tI_1, tI_10] at hb15); (repeat' split) <;> first | (exfalso; omega) | exact ⟨rfl, rfl⟩ | exact ⟨rfl, se45, li45⟩⟩
set_option maxHeartbeats 1000000 in
theorem c_X10_steps (V : Vt) (d : Nat) (σ : Sg) (n : Nat) (hQ : QI σ n) (x y : Int32) : CT layC V mX10_steps (d + 2) [rf V 0, .int x, .int y] σ (Ri fun v σ' => (if ¬ (0 ≤ x.toInt ∧ x.toInt ≤ 15 ∧ 0 ≤ y.toInt ∧ y.toInt ≤ 15) then v = -1 ∧ σ' = σ else (v = oN (stp (Lc σ) (nn y) 16 0 (nn x)) ∧ σ' = σ))) := by
  refine CT.of (own := RX10) rfl (by decide) (Nat.le_of_ble_eq_true rfl) (fun X (hx : Ok V RX10 cX10_steps 3 (d + 2) X) (he : En layC V (some .int) (Ri fun v σ' => (if ¬ (0 ≤ x.toInt ∧ x.toInt ≤ 15 ∧ 0 ≤ y.toInt ∧ y.toInt ≤ 15) then v = -1 ∧ σ' = σ else (v = oN (stp (Lc σ) (nn y) 16 0 (nn x)) ∧ σ' = σ))) X) => ?_)
  change WS layC V 3 X σ 0 [(0, rf V 0), (1, .int x), (2, .int y)] []
  refine WS.iload_n hx dX10_steps_0 rfl 1 rfl ?_
  refine WS.callSi (st := []) [.int x] hx (c_X10_isThought V d σ x) okX10_isThought lm10_164 rfl rfl (Nat.le_of_ble_eq_true rfl) dX10_steps_1 (fun v1 σ2 h3 => ?_)
  rcases h3 with ⟨rfl, rfl, hb1⟩ | ⟨rfl, rfl, hb1⟩
  · skip
    show WS layC V 3 X σ 4 [(0, rf V 0), (1, .int x), (2, .int y)] [.int 1]
    refine WS.if_eq (tgt := 14) hx dX10_steps_4 (by decide) (fun h => absurd h (by decide)) (fun _ => ?_)
    refine WS.iload_n hx dX10_steps_7 rfl 2 rfl ?_
    refine WS.callSi (st := []) [.int y] hx (c_X10_isThought V d σ y) okX10_isThought lm10_164 rfl rfl (Nat.le_of_ble_eq_true rfl) dX10_steps_8 (fun v4 σ5 h6 => ?_)
    rcases h6 with ⟨rfl, rfl, hb8⟩ | ⟨rfl, rfl, hb8⟩
    · skip
      show WS layC V 3 X σ 11 [(0, rf V 0), (1, .int x), (2, .int y)] [.int 1]
      have hx16 : nn x < 16 := by have := nn_int hb1.1; omega
      have hy16 : nn y < 16 := by have := nn_int hb8.1; omega
      refine WS.if_ne (tgt := 16) hx dX10_steps_11 (by decide) (fun _ => ?_) (fun h => absurd h (by decide))
      refine WS.aload_n hx dX10_steps_16 rfl 0 rfl ?_
      refine WS.getR hx okX10 lf10_12 rfl rfl dX10_steps_17 ?_
      refine WS.iload_n hx dX10_steps_20 rfl 1 rfl ?_
      refine WS.as rfl rfl (congrArg (fun z => Value.int z :: _) (show x = nI (nn x) from (nI_nn hb1.1).symm)) ?_
      skip
      refine WS.iload_n hx dX10_steps_21 rfl 2 rfl ?_
      refine WS.as rfl rfl (congrArg (fun z => Value.int z :: _) (show y = nI (nn y) from (nI_nn hb8.1).symm)) ?_
      skip
      refine WS.callVi (st := []) [.int (nI (nn x)), .int (nI (nn y))] hx (c_X7_stepsBetween V d σ n hQ (nn x) (nn y) hx16 hy16) okX7_stepsBetween lm10_173 rfl rfl rfl rfl (Nat.le_of_ble_eq_true rfl) dX10_steps_22 (fun v7 σ8 h9 => ?_)
      obtain ⟨rfl, rfl⟩ := h9
      show WS layC V 3 X σ 25 [(0, rf V 0), (1, .int x), (2, .int y)] [.int (oN (stp (Lc σ) (nn y) 16 0 (nn x)))]
      exact WS.iret hx he dX10_steps_25 ⟨_, rfl, by (try simp only [i_le, i_lt, i_eq, tI_m1, tI_0, tI_1] at hb1); (try simp only [i_le, i_lt, i_eq, tI_m1, tI_0, tI_1] at hb8); (repeat' split) <;> first | (exfalso; omega) | exact ⟨rfl, rfl⟩⟩
    · skip
      show WS layC V 3 X σ 11 [(0, rf V 0), (1, .int x), (2, .int y)] [.int 0]
      refine WS.if_ne (tgt := 16) hx dX10_steps_11 (by decide) (fun h => absurd (by decide) h) (fun _ => ?_)
      refine WS.iconst (v := (-1)) hx dX10_steps_14 (by decide) ?_
      exact WS.iret hx he dX10_steps_15 ⟨_, rfl, by (try simp only [i_le, i_lt, i_eq, tI_m1, tI_0, tI_1] at hb1); (try simp only [i_le, i_lt, i_eq, tI_m1, tI_0, tI_1] at hb8); (repeat' split) <;> first | (exfalso; omega) | exact ⟨rfl, rfl⟩⟩
  · skip
    show WS layC V 3 X σ 4 [(0, rf V 0), (1, .int x), (2, .int y)] [.int 0]
    refine WS.if_eq (tgt := 14) hx dX10_steps_4 (by decide) (fun _ => ?_) (fun h => absurd (by decide) h)
    refine WS.iconst (v := (-1)) hx dX10_steps_14 (by decide) ?_
    exact WS.iret hx he dX10_steps_15 ⟨_, rfl, by (try simp only [i_le, i_lt, i_eq, tI_m1, tI_0, tI_1] at hb1); (repeat' split) <;> first | (exfalso; omega) | exact ⟨rfl, rfl⟩⟩
set_option maxHeartbeats 1000000 in
theorem c_X10_net (V : Vt) (d : Nat) (σ : Sg) (n : Nat) (hQ : QI σ n) (x q : Int32) : CT layC V mX10_net (d + 3) [rf V 0, .int x, .int q] σ (Ri fun v σ' => (if ¬ (0 ≤ x.toInt ∧ x.toInt ≤ 15 ∧ 0 ≤ q.toInt ∧ q.toInt ≤ 2) then v = -1 ∧ σ' = σ else (if q.toInt = 0 then v = orW (fun j => (stp (Lc σ) (nn x) 16 0 j).isSome) nI 16 ∧ σ' = σ else (if q.toInt = 1 then v = ringC (Lc σ) (nn x) ∧ σ' = σ else (v = nI (ahd (Lc σ) 16 0 (nn x)) ∧ σ' = σ))))) := by
  refine CT.of (own := RX10) rfl (by decide) (Nat.le_of_ble_eq_true rfl) (fun X (hx : Ok V RX10 cX10_net 3 (d + 3) X) (he : En layC V (some .int) (Ri fun v σ' => (if ¬ (0 ≤ x.toInt ∧ x.toInt ≤ 15 ∧ 0 ≤ q.toInt ∧ q.toInt ≤ 2) then v = -1 ∧ σ' = σ else (if q.toInt = 0 then v = orW (fun j => (stp (Lc σ) (nn x) 16 0 j).isSome) nI 16 ∧ σ' = σ else (if q.toInt = 1 then v = ringC (Lc σ) (nn x) ∧ σ' = σ else (v = nI (ahd (Lc σ) 16 0 (nn x)) ∧ σ' = σ))))) X) => ?_)
  change WS layC V 3 X σ 0 [(0, rf V 0), (1, .int x), (2, .int q)] []
  refine WS.iload_n hx dX10_net_0 rfl 1 rfl ?_
  refine WS.callSi (st := []) [.int x] hx (c_X10_isThought V (d + 1) σ x) okX10_isThought lm10_164 rfl rfl (Nat.le_of_ble_eq_true rfl) dX10_net_1 (fun v1 σ2 h3 => ?_)
  rcases h3 with ⟨rfl, rfl, hb1⟩ | ⟨rfl, rfl, hb1⟩
  · skip
    show WS layC V 3 X σ 4 [(0, rf V 0), (1, .int x), (2, .int q)] [.int 1]
    have htn : nn x < 16 := by have := nn_int hb1.1; omega
    refine WS.if_eq (tgt := 16) hx dX10_net_4 (by decide) (fun h => absurd h (by decide)) (fun _ => ?_)
    refine WS.iload_n hx dX10_net_7 rfl 2 rfl ?_
    refine WS.iconst (v := 0) hx dX10_net_8 (by decide) ?_
    refine WS.iconst (v := 2) hx dX10_net_9 (by decide) ?_
    refine WS.callSi (st := []) [.int q, .int 0, .int 2] hx (c_X10_within V (d + 2) σ q 0 2) okX10_within lm10_80 rfl rfl (Nat.le_of_ble_eq_true rfl) dX10_net_10 (fun v4 σ5 h6 => ?_)
    rcases h6 with ⟨rfl, rfl, hb10⟩ | ⟨rfl, rfl, hb10⟩
    · skip
      show WS layC V 3 X σ 13 [(0, rf V 0), (1, .int x), (2, .int q)] [.int 1]
      refine WS.if_ne (tgt := 18) hx dX10_net_13 (by decide) (fun _ => ?_) (fun h => absurd h (by decide))
      refine WS.iload_n hx dX10_net_18 rfl 2 rfl ?_
      refine WS.if_ne (tgt := 31) hx dX10_net_19 (by decide) (fun c19 => ?_) (fun c19 => ?_)
      · skip
        show WS layC V 3 X σ 31 [(0, rf V 0), (1, .int x), (2, .int q)] []
        refine WS.iload_n hx dX10_net_31 rfl 2 rfl ?_
        refine WS.iconst (v := 1) hx dX10_net_32 (by decide) ?_
        refine WS.icmp_ne (tgt := 47) hx dX10_net_33 (by decide) (fun c33 => ?_) (fun c33 => ?_)
        · skip
          show WS layC V 3 X σ 47 [(0, rf V 0), (1, .int x), (2, .int q)] []
          refine WS.aload_n hx dX10_net_47 rfl 0 rfl ?_
          refine WS.getR hx okX10 lf10_12 rfl rfl dX10_net_48 ?_
          refine WS.iload_n hx dX10_net_51 rfl 1 rfl ?_
          refine WS.as rfl rfl (congrArg (fun z => Value.int z :: _) (show x = nI (nn x) from (nI_nn hb1.1).symm)) ?_
          skip
          refine WS.callVi (st := []) [.int (nI (nn x))] hx (c_X7_aheadOfRing V d σ n hQ (nn x) htn) okX7_aheadOfRing lm10_182 rfl rfl rfl rfl (Nat.le_of_ble_eq_true rfl) dX10_net_52 (fun v7 σ8 h9 => ?_)
          obtain ⟨rfl, rfl⟩ := h9
          show WS layC V 3 X σ 55 [(0, rf V 0), (1, .int x), (2, .int q)] [.int (nI (ahd (Lc σ) 16 0 (nn x)))]
          exact WS.iret hx he dX10_net_55 ⟨_, rfl, by (try simp only [i_le, i_lt, i_eq, tI_m1, tI_0, tI_1, tI_2] at hb1); (try simp only [i_le, i_lt, i_eq, tI_m1, tI_0, tI_1, tI_2] at hb10); (try simp only [i_le, i_lt, i_eq, tI_m1, tI_0, tI_1, tI_2] at c19); (try simp only [i_le, i_lt, i_eq, tI_m1, tI_0, tI_1, tI_2] at c33); (repeat' split) <;> first | (exfalso; omega) | exact ⟨rfl, rfl⟩⟩
        · skip
          show WS layC V 3 X σ 36 [(0, rf V 0), (1, .int x), (2, .int q)] []
          refine WS.aload_n hx dX10_net_36 rfl 0 rfl ?_
          refine WS.getR hx okX10 lf10_12 rfl rfl dX10_net_37 ?_
          refine WS.iload_n hx dX10_net_40 rfl 1 rfl ?_
          refine WS.as rfl rfl (congrArg (fun z => Value.int z :: _) (show x = nI (nn x) from (nI_nn hb1.1).symm)) ?_
          skip
          refine WS.callVi (st := []) [.int (nI (nn x))] hx (c_X7_ringOf V d σ n hQ (nn x) htn) okX7_ringOf lm10_179 rfl rfl rfl rfl (Nat.le_of_ble_eq_true rfl) dX10_net_41 (fun v10 σ11 h12 => ?_)
          obtain ⟨rfl, rfl⟩ := h12
          show WS layC V 3 X σ 44 [(0, rf V 0), (1, .int x), (2, .int q)] [.int (ringC (Lc σ) (nn x))]
          refine WS.goto (tgt := 55) hx dX10_net_44 (by decide) ?_
          exact WS.iret hx he dX10_net_55 ⟨_, rfl, by (try simp only [i_le, i_lt, i_eq, tI_m1, tI_0, tI_1, tI_2] at hb1); (try simp only [i_le, i_lt, i_eq, tI_m1, tI_0, tI_1, tI_2] at hb10); (try simp only [i_le, i_lt, i_eq, tI_m1, tI_0, tI_1, tI_2] at c19); (try simp only [i_le, i_lt, i_eq, tI_m1, tI_0, tI_1, tI_2] at c33); (repeat' split) <;> first | (exfalso; omega) | exact ⟨rfl, rfl⟩⟩
      · skip
        show WS layC V 3 X σ 22 [(0, rf V 0), (1, .int x), (2, .int q)] []
        refine WS.aload_n hx dX10_net_22 rfl 0 rfl ?_
        refine WS.getR hx okX10 lf10_12 rfl rfl dX10_net_23 ?_
        refine WS.iload_n hx dX10_net_26 rfl 1 rfl ?_
        refine WS.as rfl rfl (congrArg (fun z => Value.int z :: _) (show x = nI (nn x) from (nI_nn hb1.1).symm)) ?_
        skip
        refine WS.callVi (st := []) [.int (nI (nn x))] hx (c_X7_leadingTo V d σ n hQ (nn x) htn) okX7_leadingTo lm10_176 rfl rfl rfl rfl (Nat.le_of_ble_eq_true rfl) dX10_net_27 (fun v13 σ14 h15 => ?_)
        obtain ⟨rfl, rfl⟩ := h15
        show WS layC V 3 X σ 30 [(0, rf V 0), (1, .int x), (2, .int q)] [.int (orW (fun j => (stp (Lc σ) (nn x) 16 0 j).isSome) nI 16)]
        exact WS.iret hx he dX10_net_30 ⟨_, rfl, by (try simp only [i_le, i_lt, i_eq, tI_m1, tI_0, tI_1, tI_2] at hb1); (try simp only [i_le, i_lt, i_eq, tI_m1, tI_0, tI_1, tI_2] at hb10); (try simp only [i_le, i_lt, i_eq, tI_m1, tI_0, tI_1, tI_2] at c19); (repeat' split) <;> first | (exfalso; omega) | exact ⟨rfl, rfl⟩⟩
    · skip
      show WS layC V 3 X σ 13 [(0, rf V 0), (1, .int x), (2, .int q)] [.int 0]
      refine WS.if_ne (tgt := 18) hx dX10_net_13 (by decide) (fun h => absurd (by decide) h) (fun _ => ?_)
      refine WS.iconst (v := (-1)) hx dX10_net_16 (by decide) ?_
      exact WS.iret hx he dX10_net_17 ⟨_, rfl, by (try simp only [i_le, i_lt, i_eq, tI_m1, tI_0, tI_1, tI_2] at hb1); (try simp only [i_le, i_lt, i_eq, tI_m1, tI_0, tI_1, tI_2] at hb10); (repeat' split) <;> first | (exfalso; omega) | exact ⟨rfl, rfl⟩⟩
  · skip
    show WS layC V 3 X σ 4 [(0, rf V 0), (1, .int x), (2, .int q)] [.int 0]
    refine WS.if_eq (tgt := 16) hx dX10_net_4 (by decide) (fun _ => ?_) (fun h => absurd (by decide) h)
    refine WS.iconst (v := (-1)) hx dX10_net_16 (by decide) ?_
    exact WS.iret hx he dX10_net_17 ⟨_, rfl, by (try simp only [i_le, i_lt, i_eq, tI_m1, tI_0, tI_1, tI_2] at hb1); (repeat' split) <;> first | (exfalso; omega) | exact ⟨rfl, rfl⟩⟩
set_option maxHeartbeats 1000000 in
theorem c_X10_fewest (V : Vt) (d : Nat) (σ : Sg) (n : Nat) (hQ : QI σ n) (x q : Int32) : CT layC V mX10_fewest (d + 5) [rf V 0, .int x, .int q] σ (Ri fun v σ' => (if ¬ (0 ≤ x.toInt ∧ x.toInt ≤ 1023 ∧ 0 ≤ q.toInt ∧ q.toInt ≤ 1) then v = -1 ∧ σ' = σ else (if (fwF σ n x (2 ^ n)).toInt < 0 then v = -2 ∧ σ' = σ else (if q.toInt = 0 then v = bcF (fwF σ n x (2 ^ n)) ∧ σ' = σ else (v = fwF σ n x (2 ^ n) ∧ σ' = σ))))) := by
  refine CT.of (own := RX10) rfl (by decide) (Nat.le_of_ble_eq_true rfl) (fun X (hx : Ok V RX10 cX10_fewest 4 (d + 5) X) (he : En layC V (some .int) (Ri fun v σ' => (if ¬ (0 ≤ x.toInt ∧ x.toInt ≤ 1023 ∧ 0 ≤ q.toInt ∧ q.toInt ≤ 1) then v = -1 ∧ σ' = σ else (if (fwF σ n x (2 ^ n)).toInt < 0 then v = -2 ∧ σ' = σ else (if q.toInt = 0 then v = bcF (fwF σ n x (2 ^ n)) ∧ σ' = σ else (v = fwF σ n x (2 ^ n) ∧ σ' = σ))))) X) => ?_)
  change WS layC V 4 X σ 0 [(0, rf V 0), (1, .int x), (2, .int q)] []
  refine WS.iload_n hx dX10_fewest_0 rfl 1 rfl ?_
  refine WS.iconst (v := 0) hx dX10_fewest_1 (by decide) ?_
  refine WS.sipush (v := 1023) hx dX10_fewest_2 (by decide) ?_
  refine WS.callSi (st := []) [.int x, .int 0, .int 1023] hx (c_X10_within V (d + 4) σ x 0 1023) okX10_within lm10_80 rfl rfl (Nat.le_of_ble_eq_true rfl) dX10_fewest_5 (fun v1 σ2 h3 => ?_)
  rcases h3 with ⟨rfl, rfl, hb5⟩ | ⟨rfl, rfl, hb5⟩
  · skip
    show WS layC V 4 X σ 8 [(0, rf V 0), (1, .int x), (2, .int q)] [.int 1]
    refine WS.if_eq (tgt := 20) hx dX10_fewest_8 (by decide) (fun h => absurd h (by decide)) (fun _ => ?_)
    refine WS.iload_n hx dX10_fewest_11 rfl 2 rfl ?_
    refine WS.iconst (v := 0) hx dX10_fewest_12 (by decide) ?_
    refine WS.iconst (v := 1) hx dX10_fewest_13 (by decide) ?_
    refine WS.callSi (st := []) [.int q, .int 0, .int 1] hx (c_X10_within V (d + 4) σ q 0 1) okX10_within lm10_80 rfl rfl (Nat.le_of_ble_eq_true rfl) dX10_fewest_14 (fun v4 σ5 h6 => ?_)
    rcases h6 with ⟨rfl, rfl, hb14⟩ | ⟨rfl, rfl, hb14⟩
    · skip
      show WS layC V 4 X σ 17 [(0, rf V 0), (1, .int x), (2, .int q)] [.int 1]
      refine WS.if_ne (tgt := 22) hx dX10_fewest_17 (by decide) (fun _ => ?_) (fun h => absurd h (by decide))
      refine WS.aload_n hx dX10_fewest_22 rfl 0 rfl ?_
      refine WS.getR hx okX10 lf10_39 rfl rfl dX10_fewest_23 ?_
      refine WS.iload_n hx dX10_fewest_26 rfl 1 rfl ?_
      refine WS.callVi (st := []) [.int x] hx (c_X6_fewestThatSay V d σ n hQ x) okX6_fewestThatSay lm10_185 rfl rfl rfl rfl (Nat.le_of_ble_eq_true rfl) dX10_fewest_27 (fun v7 σ8 h9 => ?_)
      obtain ⟨rfl, rfl⟩ := h9
      show WS layC V 4 X σ 30 [(0, rf V 0), (1, .int x), (2, .int q)] [.int (fwF σ n x (2 ^ n))]
      refine WS.istore_n (lo' := [(3, .int (fwF σ n x (2 ^ n))), (0, rf V 0), (1, .int x), (2, .int q)]) hx dX10_fewest_30 rfl (by decide) rfl ?_
      refine WS.iload_n hx dX10_fewest_31 rfl 0 rfl ?_
      refine WS.if_ge (tgt := 38) hx dX10_fewest_32 (by decide) (fun c32 => ?_) (fun c32 => ?_)
      · skip
        show WS layC V 4 X σ 38 [(3, .int (fwF σ n x (2 ^ n))), (0, rf V 0), (1, .int x), (2, .int q)] []
        refine WS.iload_n hx dX10_fewest_38 rfl 3 rfl ?_
        refine WS.if_ne (tgt := 49) hx dX10_fewest_39 (by decide) (fun c39 => ?_) (fun c39 => ?_)
        · skip
          show WS layC V 4 X σ 49 [(3, .int (fwF σ n x (2 ^ n))), (0, rf V 0), (1, .int x), (2, .int q)] []
          refine WS.iload_n hx dX10_fewest_49 rfl 0 rfl ?_
          exact WS.iret hx he dX10_fewest_50 ⟨_, rfl, by (try simp only [i_le, i_lt, i_eq, tI_m2, tI_m1, tI_0, tI_1, tI_1023] at hb5); (try simp only [i_le, i_lt, i_eq, tI_m2, tI_m1, tI_0, tI_1, tI_1023] at hb14); (try simp only [i_le, i_lt, i_eq, tI_m2, tI_m1, tI_0, tI_1, tI_1023] at c32); (try simp only [i_le, i_lt, i_eq, tI_m2, tI_m1, tI_0, tI_1, tI_1023] at c39); (repeat' split) <;> first | (exfalso; omega) | exact ⟨rfl, rfl⟩⟩
        · skip
          show WS layC V 4 X σ 42 [(3, .int (fwF σ n x (2 ^ n))), (0, rf V 0), (1, .int x), (2, .int q)] []
          refine WS.iload_n hx dX10_fewest_42 rfl 0 rfl ?_
          refine WS.callSi (st := []) [.int (fwF σ n x (2 ^ n))] hx (c_J_bits V (d + 4) σ (fwF σ n x (2 ^ n))) okJ_bits lm10_159 rfl rfl (Nat.le_of_ble_eq_true rfl) dX10_fewest_43 (fun v10 σ11 h12 => ?_)
          obtain ⟨rfl, rfl⟩ := h12
          show WS layC V 4 X σ 46 [(3, .int (fwF σ n x (2 ^ n))), (0, rf V 0), (1, .int x), (2, .int q)] [.int (bcF (fwF σ n x (2 ^ n)))]
          refine WS.goto (tgt := 50) hx dX10_fewest_46 (by decide) ?_
          exact WS.iret hx he dX10_fewest_50 ⟨_, rfl, by (try simp only [i_le, i_lt, i_eq, tI_m2, tI_m1, tI_0, tI_1, tI_1023] at hb5); (try simp only [i_le, i_lt, i_eq, tI_m2, tI_m1, tI_0, tI_1, tI_1023] at hb14); (try simp only [i_le, i_lt, i_eq, tI_m2, tI_m1, tI_0, tI_1, tI_1023] at c32); (try simp only [i_le, i_lt, i_eq, tI_m2, tI_m1, tI_0, tI_1, tI_1023] at c39); (repeat' split) <;> first | (exfalso; omega) | exact ⟨rfl, rfl⟩⟩
      · skip
        show WS layC V 4 X σ 35 [(3, .int (fwF σ n x (2 ^ n))), (0, rf V 0), (1, .int x), (2, .int q)] []
        refine WS.bipush (v := (-2)) hx dX10_fewest_35 (by decide) ?_
        exact WS.iret hx he dX10_fewest_37 ⟨_, rfl, by (try simp only [i_le, i_lt, i_eq, tI_m2, tI_m1, tI_0, tI_1, tI_1023] at hb5); (try simp only [i_le, i_lt, i_eq, tI_m2, tI_m1, tI_0, tI_1, tI_1023] at hb14); (try simp only [i_le, i_lt, i_eq, tI_m2, tI_m1, tI_0, tI_1, tI_1023] at c32); (repeat' split) <;> first | (exfalso; omega) | exact ⟨rfl, rfl⟩⟩
    · skip
      show WS layC V 4 X σ 17 [(0, rf V 0), (1, .int x), (2, .int q)] [.int 0]
      refine WS.if_ne (tgt := 22) hx dX10_fewest_17 (by decide) (fun h => absurd (by decide) h) (fun _ => ?_)
      refine WS.iconst (v := (-1)) hx dX10_fewest_20 (by decide) ?_
      exact WS.iret hx he dX10_fewest_21 ⟨_, rfl, by (try simp only [i_le, i_lt, i_eq, tI_m2, tI_m1, tI_0, tI_1, tI_1023] at hb5); (try simp only [i_le, i_lt, i_eq, tI_m2, tI_m1, tI_0, tI_1, tI_1023] at hb14); (repeat' split) <;> first | (exfalso; omega) | exact ⟨rfl, rfl⟩⟩
  · skip
    show WS layC V 4 X σ 8 [(0, rf V 0), (1, .int x), (2, .int q)] [.int 0]
    refine WS.if_eq (tgt := 20) hx dX10_fewest_8 (by decide) (fun _ => ?_) (fun h => absurd (by decide) h)
    refine WS.iconst (v := (-1)) hx dX10_fewest_20 (by decide) ?_
    exact WS.iret hx he dX10_fewest_21 ⟨_, rfl, by (try simp only [i_le, i_lt, i_eq, tI_m2, tI_m1, tI_0, tI_1, tI_1023] at hb5); (repeat' split) <;> first | (exfalso; omega) | exact ⟨rfl, rfl⟩⟩
set_option maxHeartbeats 1000000 in
theorem c_X10_openings (V : Vt) (d : Nat) (σ : Sg) (n : Nat) (hQ : QI σ n) (m c : Nat) (hL : LI V σ m c) (k i : Int32) : CT layC V mX10_openings (d + 9) [rf V 0, .int k, .int i] σ (Ri fun v σ' => (if ¬ (0 ≤ k.toInt ∧ k.toInt ≤ 4 ∧ -1 ≤ i.toInt) then v = -1 ∧ σ' = σ else (if i.toInt < 0 then v = (skF σ n m c (nn k)).2.2 ∧ SE σ σ' ∧ LI V σ' m c else (v = (if i.toInt < ((min (min (nn k) (n - cnt (σ.1 14) n)) 4 : Nat) : Int) then (skF σ n m c (nn k)).2.1 (nn i) else -2) ∧ SE σ σ' ∧ LI V σ' m c)))) := by
  refine CT.of (own := RX10) rfl (by decide) (Nat.le_of_ble_eq_true rfl) (fun X (hx : Ok V RX10 cX10_openings 3 (d + 9) X) (he : En layC V (some .int) (Ri fun v σ' => (if ¬ (0 ≤ k.toInt ∧ k.toInt ≤ 4 ∧ -1 ≤ i.toInt) then v = -1 ∧ σ' = σ else (if i.toInt < 0 then v = (skF σ n m c (nn k)).2.2 ∧ SE σ σ' ∧ LI V σ' m c else (v = (if i.toInt < ((min (min (nn k) (n - cnt (σ.1 14) n)) 4 : Nat) : Int) then (skF σ n m c (nn k)).2.1 (nn i) else -2) ∧ SE σ σ' ∧ LI V σ' m c)))) X) => ?_)
  change WS layC V 3 X σ 0 [(0, rf V 0), (1, .int k), (2, .int i)] []
  refine WS.iload_n hx dX10_openings_0 rfl 1 rfl ?_
  refine WS.iconst (v := 0) hx dX10_openings_1 (by decide) ?_
  refine WS.iconst (v := 4) hx dX10_openings_2 (by decide) ?_
  refine WS.callSi (st := []) [.int k, .int 0, .int 4] hx (c_X10_within V (d + 8) σ k 0 4) okX10_within lm10_80 rfl rfl (Nat.le_of_ble_eq_true rfl) dX10_openings_3 (fun v1 σ2 h3 => ?_)
  rcases h3 with ⟨rfl, rfl, hb3⟩ | ⟨rfl, rfl, hb3⟩
  · skip
    show WS layC V 3 X σ 6 [(0, rf V 0), (1, .int k), (2, .int i)] [.int 1]
    have hk0 : 0 ≤ k.toInt := by simp only [i_le, tI_0] at hb3; exact hb3.1
    have hk4 : nn k ≤ 4 := by simp only [i_le, tI_0, tI_4] at hb3; have := nn_int hk0; omega
    refine WS.if_eq (tgt := 14) hx dX10_openings_6 (by decide) (fun h => absurd h (by decide)) (fun _ => ?_)
    refine WS.iload_n hx dX10_openings_9 rfl 2 rfl ?_
    refine WS.iconst (v := (-1)) hx dX10_openings_10 (by decide) ?_
    refine WS.icmp_ge (tgt := 16) hx dX10_openings_11 (by decide) (fun c11 => ?_) (fun c11 => ?_)
    · skip
      show WS layC V 3 X σ 16 [(0, rf V 0), (1, .int k), (2, .int i)] []
      refine WS.iload_n hx dX10_openings_16 rfl 2 rfl ?_
      refine WS.if_ge (tgt := 29) hx dX10_openings_17 (by decide) (fun c17 => ?_) (fun c17 => ?_)
      · skip
        show WS layC V 3 X σ 29 [(0, rf V 0), (1, .int k), (2, .int i)] []
        refine WS.aload_n hx dX10_openings_29 rfl 0 rfl ?_
        refine WS.getR hx okX10 lf10_39 rfl rfl dX10_openings_30 ?_
        refine WS.iload_n hx dX10_openings_33 rfl 1 rfl ?_
        refine WS.as rfl rfl (congrArg (fun z => Value.int z :: _) (show k = nI (nn k) from (nI_nn hk0).symm)) ?_
        skip
        refine WS.iload_n hx dX10_openings_34 rfl 2 rfl ?_
        refine WS.callVi (st := []) [.int (nI (nn k)), .int i] hx (c_X6_openedInOrder V d σ n hQ m c hL (nn k) hk4 i (by (try simp only [i_le, i_lt, i_eq, tI_m1, tI_0, tI_1, tI_4] at hb3); (try simp only [i_le, i_lt, i_eq, tI_m1, tI_0, tI_1, tI_4] at c11); (try simp only [i_le, i_lt, i_eq, tI_m1, tI_0, tI_1, tI_4] at c17); omega)) okX6_openedInOrder lm10_191 rfl rfl rfl rfl (Nat.le_of_ble_eq_true rfl) dX10_openings_35 (fun v4 σ5 h6 => ?_)
        obtain ⟨hv35, se35, li35⟩ := h6
        show WS layC V 3 X σ5 38 [(0, rf V 0), (1, .int k), (2, .int i)] [.int v4]
        exact WS.iret hx he dX10_openings_38 ⟨_, rfl, by (try simp only [i_le, i_lt, i_eq, tI_m1, tI_0, tI_1, tI_4] at hb3); (try simp only [i_le, i_lt, i_eq, tI_m1, tI_0, tI_1, tI_4] at c11); (try simp only [i_le, i_lt, i_eq, tI_m1, tI_0, tI_1, tI_4] at c17); (repeat' split) <;> first | (exfalso; omega) | exact ⟨rfl, rfl⟩ | exact ⟨rfl, se25, li25⟩ | exact ⟨by rw [← hv35, if_pos (by assumption)], se35, li35⟩ | exact ⟨by rw [← hv35, if_neg (by assumption)], se35, li35⟩⟩
      · skip
        show WS layC V 3 X σ 20 [(0, rf V 0), (1, .int k), (2, .int i)] []
        refine WS.aload_n hx dX10_openings_20 rfl 0 rfl ?_
        refine WS.getR hx okX10 lf10_39 rfl rfl dX10_openings_21 ?_
        refine WS.iload_n hx dX10_openings_24 rfl 1 rfl ?_
        refine WS.as rfl rfl (congrArg (fun z => Value.int z :: _) (show k = nI (nn k) from (nI_nn hk0).symm)) ?_
        skip
        refine WS.callVi (st := []) [.int (nI (nn k))] hx (c_X6_mostUnlike V d σ n hQ m c hL (nn k) hk4) okX6_mostUnlike lm10_188 rfl rfl rfl rfl (Nat.le_of_ble_eq_true rfl) dX10_openings_25 (fun v7 σ8 h9 => ?_)
        obtain ⟨rfl, se25, li25⟩ := h9
        show WS layC V 3 X σ8 28 [(0, rf V 0), (1, .int k), (2, .int i)] [.int ((skF σ n m c (nn k)).2.2)]
        exact WS.iret hx he dX10_openings_28 ⟨_, rfl, by (try simp only [i_le, i_lt, i_eq, tI_m1, tI_0, tI_1, tI_4] at hb3); (try simp only [i_le, i_lt, i_eq, tI_m1, tI_0, tI_1, tI_4] at c11); (try simp only [i_le, i_lt, i_eq, tI_m1, tI_0, tI_1, tI_4] at c17); (repeat' split) <;> first | (exfalso; omega) | exact ⟨rfl, rfl⟩ | exact ⟨rfl, se25, li25⟩ | exact ⟨by rw [← hv35, if_pos (by assumption)], se35, li35⟩ | exact ⟨by rw [← hv35, if_neg (by assumption)], se35, li35⟩⟩
    · skip
      show WS layC V 3 X σ 14 [(0, rf V 0), (1, .int k), (2, .int i)] []
      refine WS.iconst (v := (-1)) hx dX10_openings_14 (by decide) ?_
      exact WS.iret hx he dX10_openings_15 ⟨_, rfl, by (try simp only [i_le, i_lt, i_eq, tI_m1, tI_0, tI_1, tI_4] at hb3); (try simp only [i_le, i_lt, i_eq, tI_m1, tI_0, tI_1, tI_4] at c11); (repeat' split) <;> first | (exfalso; omega) | exact ⟨rfl, rfl⟩ | exact ⟨rfl, se25, li25⟩ | exact ⟨by rw [← hv35, if_pos (by assumption)], se35, li35⟩ | exact ⟨by rw [← hv35, if_neg (by assumption)], se35, li35⟩⟩
  · skip
    show WS layC V 3 X σ 6 [(0, rf V 0), (1, .int k), (2, .int i)] [.int 0]
    refine WS.if_eq (tgt := 14) hx dX10_openings_6 (by decide) (fun _ => ?_) (fun h => absurd (by decide) h)
    refine WS.iconst (v := (-1)) hx dX10_openings_14 (by decide) ?_
    exact WS.iret hx he dX10_openings_15 ⟨_, rfl, by (try simp only [i_le, i_lt, i_eq, tI_m1, tI_0, tI_1, tI_4] at hb3); (repeat' split) <;> first | (exfalso; omega) | exact ⟨rfl, rfl⟩ | exact ⟨rfl, se25, li25⟩ | exact ⟨by rw [← hv35, if_pos (by assumption)], se35, li35⟩ | exact ⟨by rw [← hv35, if_neg (by assumption)], se35, li35⟩⟩
def cdL (A B : Nat) : Nat → Nat
  | 0 => 1
  | k + 1 => if A % (k + 2) = 0 ∧ B % (k + 2) = 0 then k + 2 else cdL A B k
set_option maxHeartbeats 1000000 in
theorem lp_X10_commonDivisor (V : Vt) (d : Nat) (σ : Sg) (A B : Nat) (hA : A ≤ 1000) (hB : B ≤ 1000) (X : Xt) (hx : Ok V RX10 cX10_commonDivisor 4 d X) (he : En layC V (some .int) (Ro (nI (cdL A B (min A B - 1))) σ) X) : ∀ i : Nat, i ≤ min A B - 1 → WS layC V 4 X σ 4 [(3, .int (nI (i + 2))), (2, .int (nI (cdL A B i))), (0, .int (nI A)), (1, .int (nI B))] [] := by
  intro i
  induction hm : (min A B - 1) - i using Nat.strongRecOn generalizing i with
  | _ m9 ih =>
    intro hi
    have hiI : (nI (i + 2)).toInt = ((i + 2 : Nat) : Int) := nI_c (by omega)
    have hAI : (nI A).toInt = (A : Int) := nI_c (by omega)
    have hBI : (nI B).toInt = (B : Int) := nI_c (by omega)
    have ra : (nI (A % (i + 2))).toInt = ((A % (i + 2) : Nat) : Int) := nI_c (by have := Nat.mod_le A (i + 2); omega)
    have rb : (nI (B % (i + 2))).toInt = ((B % (i + 2) : Nat) : Int) := nI_c (by have := Nat.mod_le B (i + 2); omega)
    refine WS.iload_n hx dX10_commonDivisor_4 rfl 0 rfl ?_
    refine WS.iload_n hx dX10_commonDivisor_5 rfl 2 rfl ?_
    refine WS.icmp_gt (tgt := 34) hx dX10_commonDivisor_6 (by decide) (fun c6 => ?_) (fun c6 => ?_)
    · skip
      show WS layC V 4 X σ 34 [(3, .int (nI (i + 2))), (2, .int (nI (cdL A B i))), (0, .int (nI A)), (1, .int (nI B))] []
      refine WS.iload_n hx dX10_commonDivisor_34 rfl 1 rfl ?_
      exact WS.iret hx he dX10_commonDivisor_35 (Ro.i (by rw [show min A B - 1 = i by (try simp only [i_le, i_lt, i_eq, tI_0, tI_1, tI_2] at c6); (try simp only [i_le, i_lt, i_eq, tI_0, tI_1, tI_2]); omega]))
    · skip
      show WS layC V 4 X σ 9 [(3, .int (nI (i + 2))), (2, .int (nI (cdL A B i))), (0, .int (nI A)), (1, .int (nI B))] []
      refine WS.iload_n hx dX10_commonDivisor_9 rfl 0 rfl ?_
      refine WS.iload_n hx dX10_commonDivisor_10 rfl 3 rfl ?_
      refine WS.icmp_gt (tgt := 34) hx dX10_commonDivisor_11 (by decide) (fun c11 => ?_) (fun c11 => ?_)
      · skip
        show WS layC V 4 X σ 34 [(3, .int (nI (i + 2))), (2, .int (nI (cdL A B i))), (0, .int (nI A)), (1, .int (nI B))] []
        refine WS.iload_n hx dX10_commonDivisor_34 rfl 1 rfl ?_
        exact WS.iret hx he dX10_commonDivisor_35 (Ro.i (by rw [show min A B - 1 = i by (try simp only [i_le, i_lt, i_eq, tI_0, tI_1, tI_2] at c6); (try simp only [i_le, i_lt, i_eq, tI_0, tI_1, tI_2] at c11); (try simp only [i_le, i_lt, i_eq, tI_0, tI_1, tI_2]); omega]))
      · skip
        show WS layC V 4 X σ 14 [(3, .int (nI (i + 2))), (2, .int (nI (cdL A B i))), (0, .int (nI A)), (1, .int (nI B))] []
        refine WS.iload_n hx dX10_commonDivisor_14 rfl 2 rfl ?_
        refine WS.iload_n hx dX10_commonDivisor_15 rfl 0 rfl ?_
        refine WS.irem hx dX10_commonDivisor_16 (by rw [i_eq, hiI, tI_0]; omega) ?_
        refine WS.as rfl rfl (congrArg (fun z => Value.int z :: _) (show (nI A) - (nI A) / (nI (i + 2)) * (nI (i + 2)) = nI (A % (i + 2)) from pk_rem (by omega) (by omega) (by omega))) ?_
        skip
        refine WS.if_ne (tgt := 28) hx dX10_commonDivisor_17 (by decide) (fun c17 => ?_) (fun c17 => ?_)
        · skip
          show WS layC V 4 X σ 28 [(3, .int (nI (i + 2))), (2, .int (nI (cdL A B i))), (0, .int (nI A)), (1, .int (nI B))] []
          refine WS.iinc (v := nI (i + 1 + 2)) (lo' := [(3, .int (nI (i + 1 + 2))), (2, .int (nI (cdL A B i))), (0, .int (nI A)), (1, .int (nI B))]) hx dX10_commonDivisor_28 0 rfl (nI_1 _) (by decide) rfl ?_
          refine WS.goto (tgt := 4) hx dX10_commonDivisor_31 (by decide) ?_
          have hw : cdL A B (i + 1) = cdL A B i := if_neg (by (try simp only [i_le, i_lt, i_eq, tI_0, tI_1, tI_2] at c6); (try simp only [i_le, i_lt, i_eq, tI_0, tI_1, tI_2] at c11); (try simp only [i_le, i_lt, i_eq, tI_0, tI_1, tI_2] at c17); (try simp only [i_le, i_lt, i_eq, tI_0, tI_1, tI_2]); omega)
          have h9 := ih _ (by (try simp only [i_le, i_lt, i_eq, tI_0, tI_1, tI_2] at c6); (try simp only [i_le, i_lt, i_eq, tI_0, tI_1, tI_2] at c11); (try simp only [i_le, i_lt, i_eq, tI_0, tI_1, tI_2] at c17); (try simp only [i_le, i_lt, i_eq, tI_0, tI_1, tI_2]); omega) (i + 1) rfl (by (try simp only [i_le, i_lt, i_eq, tI_0, tI_1, tI_2] at c6); (try simp only [i_le, i_lt, i_eq, tI_0, tI_1, tI_2] at c11); (try simp only [i_le, i_lt, i_eq, tI_0, tI_1, tI_2] at c17); (try simp only [i_le, i_lt, i_eq, tI_0, tI_1, tI_2]); omega)
          rw [hw] at h9
          exact WS.los [0, 1, 2, 3] rfl h9
        · skip
          show WS layC V 4 X σ 20 [(3, .int (nI (i + 2))), (2, .int (nI (cdL A B i))), (0, .int (nI A)), (1, .int (nI B))] []
          refine WS.iload_n hx dX10_commonDivisor_20 rfl 3 rfl ?_
          refine WS.iload_n hx dX10_commonDivisor_21 rfl 0 rfl ?_
          refine WS.irem hx dX10_commonDivisor_22 (by rw [i_eq, hiI, tI_0]; omega) ?_
          refine WS.as rfl rfl (congrArg (fun z => Value.int z :: _) (show (nI B) - (nI B) / (nI (i + 2)) * (nI (i + 2)) = nI (B % (i + 2)) from pk_rem (by omega) (by omega) (by omega))) ?_
          skip
          refine WS.if_ne (tgt := 28) hx dX10_commonDivisor_23 (by decide) (fun c23 => ?_) (fun c23 => ?_)
          · skip
            show WS layC V 4 X σ 28 [(3, .int (nI (i + 2))), (2, .int (nI (cdL A B i))), (0, .int (nI A)), (1, .int (nI B))] []
            refine WS.iinc (v := nI (i + 1 + 2)) (lo' := [(3, .int (nI (i + 1 + 2))), (2, .int (nI (cdL A B i))), (0, .int (nI A)), (1, .int (nI B))]) hx dX10_commonDivisor_28 0 rfl (nI_1 _) (by decide) rfl ?_
            refine WS.goto (tgt := 4) hx dX10_commonDivisor_31 (by decide) ?_
            have hw : cdL A B (i + 1) = cdL A B i := if_neg (by (try simp only [i_le, i_lt, i_eq, tI_0, tI_1, tI_2] at c6); (try simp only [i_le, i_lt, i_eq, tI_0, tI_1, tI_2] at c11); (try simp only [i_le, i_lt, i_eq, tI_0, tI_1, tI_2] at c17); (try simp only [i_le, i_lt, i_eq, tI_0, tI_1, tI_2] at c23); (try simp only [i_le, i_lt, i_eq, tI_0, tI_1, tI_2]); omega)
            have h9 := ih _ (by (try simp only [i_le, i_lt, i_eq, tI_0, tI_1, tI_2] at c6); (try simp only [i_le, i_lt, i_eq, tI_0, tI_1, tI_2] at c11); (try simp only [i_le, i_lt, i_eq, tI_0, tI_1, tI_2] at c17); (try simp only [i_le, i_lt, i_eq, tI_0, tI_1, tI_2] at c23); (try simp only [i_le, i_lt, i_eq, tI_0, tI_1, tI_2]); omega) (i + 1) rfl (by (try simp only [i_le, i_lt, i_eq, tI_0, tI_1, tI_2] at c6); (try simp only [i_le, i_lt, i_eq, tI_0, tI_1, tI_2] at c11); (try simp only [i_le, i_lt, i_eq, tI_0, tI_1, tI_2] at c17); (try simp only [i_le, i_lt, i_eq, tI_0, tI_1, tI_2] at c23); (try simp only [i_le, i_lt, i_eq, tI_0, tI_1, tI_2]); omega)
            rw [hw] at h9
            exact WS.los [0, 1, 2, 3] rfl h9
          · skip
            show WS layC V 4 X σ 26 [(3, .int (nI (i + 2))), (2, .int (nI (cdL A B i))), (0, .int (nI A)), (1, .int (nI B))] []
            refine WS.iload_n hx dX10_commonDivisor_26 rfl 0 rfl ?_
            refine WS.istore_n (lo' := [(2, .int (nI (i + 2))), (3, .int (nI (i + 2))), (0, .int (nI A)), (1, .int (nI B))]) hx dX10_commonDivisor_27 rfl (by decide) rfl ?_
            refine WS.iinc (v := nI (i + 1 + 2)) (lo' := [(3, .int (nI (i + 1 + 2))), (2, .int (nI (i + 2))), (0, .int (nI A)), (1, .int (nI B))]) hx dX10_commonDivisor_28 1 rfl (nI_1 _) (by decide) rfl ?_
            refine WS.goto (tgt := 4) hx dX10_commonDivisor_31 (by decide) ?_
            have hw : cdL A B (i + 1) = i + 2 := if_pos ⟨by (try simp only [i_le, i_lt, i_eq, tI_0, tI_1, tI_2] at c6); (try simp only [i_le, i_lt, i_eq, tI_0, tI_1, tI_2] at c11); (try simp only [i_le, i_lt, i_eq, tI_0, tI_1, tI_2] at c17); (try simp only [i_le, i_lt, i_eq, tI_0, tI_1, tI_2] at c23); (try simp only [i_le, i_lt, i_eq, tI_0, tI_1, tI_2]); omega, by (try simp only [i_le, i_lt, i_eq, tI_0, tI_1, tI_2] at c6); (try simp only [i_le, i_lt, i_eq, tI_0, tI_1, tI_2] at c11); (try simp only [i_le, i_lt, i_eq, tI_0, tI_1, tI_2] at c17); (try simp only [i_le, i_lt, i_eq, tI_0, tI_1, tI_2] at c23); (try simp only [i_le, i_lt, i_eq, tI_0, tI_1, tI_2]); omega⟩
            have h9 := ih _ (by (try simp only [i_le, i_lt, i_eq, tI_0, tI_1, tI_2] at c6); (try simp only [i_le, i_lt, i_eq, tI_0, tI_1, tI_2] at c11); (try simp only [i_le, i_lt, i_eq, tI_0, tI_1, tI_2] at c17); (try simp only [i_le, i_lt, i_eq, tI_0, tI_1, tI_2] at c23); (try simp only [i_le, i_lt, i_eq, tI_0, tI_1, tI_2]); omega) (i + 1) rfl (by (try simp only [i_le, i_lt, i_eq, tI_0, tI_1, tI_2] at c6); (try simp only [i_le, i_lt, i_eq, tI_0, tI_1, tI_2] at c11); (try simp only [i_le, i_lt, i_eq, tI_0, tI_1, tI_2] at c17); (try simp only [i_le, i_lt, i_eq, tI_0, tI_1, tI_2] at c23); (try simp only [i_le, i_lt, i_eq, tI_0, tI_1, tI_2]); omega)
            rw [hw] at h9
            exact WS.los [0, 1, 2, 3] rfl h9
set_option maxHeartbeats 1000000 in
theorem c_X10_commonDivisor (V : Vt) (d : Nat) (σ : Sg) (A B : Nat) (hA : A ≤ 1000) (hB : B ≤ 1000) : CT layC V mX10_commonDivisor (d) [.int (nI A), .int (nI B)] σ (Ro (nI (cdL A B (min A B - 1))) σ) := by
  refine CT.of (own := RX10) rfl (by decide) (Nat.le_of_ble_eq_true rfl) (fun X (hx : Ok V RX10 cX10_commonDivisor 4 (d) X) (he : En layC V (some .int) (Ro (nI (cdL A B (min A B - 1))) σ) X) => ?_)
  change WS layC V 4 X σ 0 [(0, .int (nI A)), (1, .int (nI B))] []
  refine WS.iconst (v := 1) hx dX10_commonDivisor_0 (by decide) ?_
  refine WS.istore_n (lo' := [(2, .int 1), (0, .int (nI A)), (1, .int (nI B))]) hx dX10_commonDivisor_1 rfl (by decide) rfl ?_
  refine WS.iconst (v := 2) hx dX10_commonDivisor_2 (by decide) ?_
  refine WS.istore_n (lo' := [(3, .int 2), (2, .int 1), (0, .int (nI A)), (1, .int (nI B))]) hx dX10_commonDivisor_3 rfl (by decide) rfl ?_
  exact WS.los [0, 1, 2, 3] rfl (lp_X10_commonDivisor V d σ A B hA hB X hx he 0 (Nat.zero_le _))

set_option maxHeartbeats 1000000 in
theorem lp_X4_firstNotSo (V : Vt) (d : Nat) (σ : Sg) (n : Nat) (hQ : QI σ n) (m c : Nat) (hL : LI V σ m c) (s : Nat) (hsh : s < 6) (z : Nat) (hz : σ.1 (52 + s) 4 = nI z) (hz2 : z ≤ 60) (k : Nat) (hk : k < n) (b : Nat) (hb : b ≤ 9) (r : Option Nat) (X : Xt) (hx : Ok V RX4 cX4_firstNotSo 5 (d + 5) X) (he : En layC V (some .int) (Ri fun v σ' => oN r = v ∧ SE σ σ' ∧ LI V σ' m c) X) : ∀ (j i : Nat) (q : Nat × Nat) (τ : Sg), i + j = min z 41 → q.1 < 16 → q.2 ≤ 99 → ThE 38 σ τ → LI V τ m c → Tk (wdS σ n m c) b τ 38 k q → fsB ((wdS σ n m c).cn k b) (σ.1 17) (σ.2.1 (58 + s)) j i q = r → WS layC V 5 X τ 2 [(2, .int (nI i)), (0, rf V 4), (1, rf V (52 + s))] [] := by
  intro j
  induction j with
  | zero =>
    intro i q τ hij hs hy hE hLt hT hf
    have hiI : (nI i).toInt = (i : Int) := nI_c (by omega)
    have hzI : (nI z).toInt = (z : Int) := nI_c (by omega)
    have hzt : τ.1 (52 + s) 4 = nI z := by rw [hE.1 (52 + s) (by omega) (by omega) (by omega) (by omega)]; exact hz
    refine WS.iload_n hx dX4_firstNotSo_2 rfl 0 rfl ?_
    refine WS.aload_n hx dX4_firstNotSo_3 rfl 2 rfl ?_
    refine WS.callVi (st := [.int (nI i)]) [] hx (c_X8_size V (d + 4) τ s hsh) okX8_size lm4_64 rfl (lay_sh hsh) rfl rfl (Nat.le_of_ble_eq_true rfl) dX4_firstNotSo_4 (fun v1 σ2 h3 => ?_)
    obtain ⟨rfl, rfl⟩ := h3
    show WS layC V 5 X τ 7 [(2, .int (nI i)), (0, rf V 4), (1, rf V (52 + s))] [.int (τ.1 (52 + s) 4), .int (nI i)]
    refine WS.as rfl rfl (congrArg (fun z => Value.int z :: _) (show τ.1 (52 + s) 4 = nI z from hzt)) ?_
    skip
    refine WS.icmp_ge (tgt := 59) hx dX4_firstNotSo_7 (by decide) (fun c7 => ?_) (fun c7 => ?_)
    · skip
      show WS layC V 5 X τ 59 [(2, .int (nI i)), (0, rf V 4), (1, rf V (52 + s))] []
      refine WS.bipush (v := (-2)) hx dX4_firstNotSo_59 (by decide) ?_
      exact WS.iret hx he dX4_firstNotSo_61 ⟨_, rfl, by rw [← hf]; rfl, SE.the (by decide) hE, hLt⟩
    · skip
      show WS layC V 5 X τ 10 [(2, .int (nI i)), (0, rf V 4), (1, rf V (52 + s))] []
      refine WS.iload_n hx dX4_firstNotSo_10 rfl 0 rfl ?_
      refine WS.bipush (v := 41) hx dX4_firstNotSo_11 (by decide) ?_
      refine WS.icmp_ge (tgt := 59) hx dX4_firstNotSo_13 (by decide) (fun c13 => ?_) (fun c13 => ?_)
      · skip
        show WS layC V 5 X τ 59 [(2, .int (nI i)), (0, rf V 4), (1, rf V (52 + s))] []
        refine WS.bipush (v := (-2)) hx dX4_firstNotSo_59 (by decide) ?_
        exact WS.iret hx he dX4_firstNotSo_61 ⟨_, rfl, by rw [← hf]; rfl, SE.the (by decide) hE, hLt⟩
      · skip
        show WS layC V 5 X τ 16 [(2, .int (nI i)), (0, rf V 4), (1, rf V (52 + s))] []
        exfalso; (try simp only [i_le, i_lt, i_eq, tI_m2, tI_0, tI_1, tI_41] at c7); (try simp only [i_le, i_lt, i_eq, tI_m2, tI_0, tI_1, tI_41] at c13); (try simp only [i_le, i_lt, i_eq, tI_m2, tI_0, tI_1, tI_41]); omega
  | succ j ih =>
    intro i q τ hij hs hy hE hLt hT hf
    have hiI : (nI i).toInt = (i : Int) := nI_c (by omega)
    have hzI : (nI z).toInt = (z : Int) := nI_c (by omega)
    have hzt : τ.1 (52 + s) 4 = nI z := by rw [hE.1 (52 + s) (by omega) (by omega) (by omega) (by omega)]; exact hz
    have h17 : τ.1 17 = σ.1 17 := hE.1 17 (by decide) (by decide) (by decide) (by decide)
    have hQt := hQ.the (by decide) hE
    have hcc := hL.c.2.2
    have hwt : wdS τ n m c = wdS σ n m c := wdS_the (by decide) hE hcc
    have hcr := cn_r (m := m) (c := c) (k := k) (b := b) hQ hs
    unfold fsB at hf
    refine WS.iload_n hx dX4_firstNotSo_2 rfl 0 rfl ?_
    refine WS.aload_n hx dX4_firstNotSo_3 rfl 2 rfl ?_
    refine WS.callVi (st := [.int (nI i)]) [] hx (c_X8_size V (d + 4) τ s hsh) okX8_size lm4_64 rfl (lay_sh hsh) rfl rfl (Nat.le_of_ble_eq_true rfl) dX4_firstNotSo_4 (fun v1 σ2 h3 => ?_)
    obtain ⟨rfl, rfl⟩ := h3
    show WS layC V 5 X τ 7 [(2, .int (nI i)), (0, rf V 4), (1, rf V (52 + s))] [.int (τ.1 (52 + s) 4), .int (nI i)]
    refine WS.as rfl rfl (congrArg (fun z => Value.int z :: _) (show τ.1 (52 + s) 4 = nI z from hzt)) ?_
    skip
    refine WS.icmp_ge (tgt := 59) hx dX4_firstNotSo_7 (by decide) (fun c7 => by exfalso; (try simp only [i_le, i_lt, i_eq, tI_m2, tI_0, tI_1, tI_41] at c7); (try simp only [i_le, i_lt, i_eq, tI_m2, tI_0, tI_1, tI_41]); omega) (fun c7 => ?_)
    refine WS.iload_n hx dX4_firstNotSo_10 rfl 0 rfl ?_
    refine WS.bipush (v := 41) hx dX4_firstNotSo_11 (by decide) ?_
    refine WS.icmp_ge (tgt := 59) hx dX4_firstNotSo_13 (by decide) (fun c13 => by exfalso; (try simp only [i_le, i_lt, i_eq, tI_m2, tI_0, tI_1, tI_41] at c7); (try simp only [i_le, i_lt, i_eq, tI_m2, tI_0, tI_1, tI_41] at c13); (try simp only [i_le, i_lt, i_eq, tI_m2, tI_0, tI_1, tI_41]); omega) (fun c13 => ?_)
    refine WS.aload_n hx dX4_firstNotSo_16 rfl 2 rfl ?_
    refine WS.iload_n hx dX4_firstNotSo_17 rfl 0 rfl ?_
    refine WS.callVl (st := []) [.int (nI i)] hx (c_X8_at V (d + 3) τ s hsh z hzt hz2 i (by omega)) okX8_at lm4_67 rfl (lay_sh hsh) rfl rfl (Nat.le_of_ble_eq_true rfl) dX4_firstNotSo_18 (fun v4 σ5 h6 => ?_)
    obtain ⟨rfl, rfl⟩ := h6
    show WS layC V 5 X τ 21 [(2, .int (nI i)), (0, rf V 4), (1, rf V (52 + s))] [.long (τ.2.1 (58 + s) i)]
    refine WS.as rfl rfl (congrArg (fun z => Value.long z :: _) (show τ.2.1 (58 + s) i = σ.2.1 (58 + s) i from by rw [hE.2])) ?_
    skip
    refine WS.lstore_n (lo' := [(3, .long (σ.2.1 (58 + s) i)), (2, .int (nI i)), (0, rf V 4), (1, rf V (52 + s))]) hx dX4_firstNotSo_21 rfl (by decide) rfl ?_
    refine WS.lload_n hx dX4_firstNotSo_22 rfl 0 rfl ?_
    refine WS.ldc2 (v := 10) hx lc4_71 dX4_firstNotSo_23 ?_
    refine WS.lcmp hx dX4_firstNotSo_26 ?_
    refine WS.if_eq (tgt := 45) hx dX4_firstNotSo_27 (by decide) (fun c27 => ?_) (fun c27 => ?_)
    · skip
      show WS layC V 5 X τ 45 [(3, .long (σ.2.1 (58 + s) i)), (2, .int (nI i)), (0, rf V 4), (1, rf V (52 + s))] []
      have hn : ¬ (¬ σ.2.1 (58 + s) i = 10 ∧ ¬ σ.2.1 (58 + s) i = (σ.1 17 q.1).toInt64) := fun h => h.1 ((lcmp_eq).mp c27)
      refine WS.aload_n hx dX4_firstNotSo_45 rfl 2 rfl ?_
      refine WS.getR hx okX4 lf4_20 rfl rfl dX4_firstNotSo_46 ?_
      refine WS.iconst (v := 1) hx dX4_firstNotSo_49 (by decide) ?_
      refine WS.callVv (st := []) [.int 1] hx (ck_pass V d τ 38 (by decide) n hQt m c hLt k hk b hb q hs hy (by rw [hwt]; exact hT) 1 (by decide)) okX9_passCenturies lm4_35 rfl rfl rfl rfl (Nat.le_of_ble_eq_true rfl) dX4_firstNotSo_50 (fun σ8 h9 => ?_)
      obtain ⟨the50, li50, tk50⟩ := h9
      rw [hwt] at tk50
      show WS layC V 5 X σ8 53 [(3, .long (σ.2.1 (58 + s) i)), (2, .int (nI i)), (0, rf V 4), (1, rf V (52 + s))] []
      refine WS.iinc (v := nI (i + 1)) (lo' := [(2, .int (nI (i + 1))), (3, .long (σ.2.1 (58 + s) i)), (0, rf V 4), (1, rf V (52 + s))]) hx dX4_firstNotSo_53 1 rfl (nI_1 i) (by decide) rfl ?_
      refine WS.goto (tgt := 2) hx dX4_firstNotSo_56 (by decide) ?_
      rw [if_neg hn] at hf
      exact WS.los [0, 2, 3] rfl (ih (i + 1) _ σ8 (by omega) hcr.1 hcr.2 (hE.tr the50) li50 tk50 hf)
    · skip
      show WS layC V 5 X τ 30 [(3, .long (σ.2.1 (58 + s) i)), (2, .int (nI i)), (0, rf V 4), (1, rf V (52 + s))] []
      refine WS.lload_n hx dX4_firstNotSo_30 rfl 0 rfl ?_
      refine WS.aload_n hx dX4_firstNotSo_31 rfl 2 rfl ?_
      refine WS.getR hx okX4 lf4_20 rfl rfl dX4_firstNotSo_32 ?_
      refine WS.callVi (st := [.long (σ.2.1 (58 + s) i)]) [] hx (c_X9_wouldSay V (d + 3) τ 38 (by decide) q.1 hs hT.at) okX9_wouldSay lm4_73 rfl rfl rfl rfl (Nat.le_of_ble_eq_true rfl) dX4_firstNotSo_35 (fun v10 σ11 h12 => ?_)
      obtain ⟨rfl, rfl⟩ := h12
      show WS layC V 5 X τ 38 [(3, .long (σ.2.1 (58 + s) i)), (2, .int (nI i)), (0, rf V 4), (1, rf V (52 + s))] [.int (τ.1 17 q.1), .long (σ.2.1 (58 + s) i)]
      refine WS.as rfl rfl (congrArg (fun z => Value.int z :: _) (show τ.1 17 q.1 = σ.1 17 q.1 from by rw [h17])) ?_
      skip
      refine WS.i2l hx dX4_firstNotSo_38 ?_
      refine WS.lcmp hx dX4_firstNotSo_39 ?_
      refine WS.if_eq (tgt := 45) hx dX4_firstNotSo_40 (by decide) (fun c40 => ?_) (fun c40 => ?_)
      · skip
        show WS layC V 5 X τ 45 [(3, .long (σ.2.1 (58 + s) i)), (2, .int (nI i)), (0, rf V 4), (1, rf V (52 + s))] []
        have hn : ¬ (¬ σ.2.1 (58 + s) i = 10 ∧ ¬ σ.2.1 (58 + s) i = (σ.1 17 q.1).toInt64) := fun h => h.2 ((lcmp_eq).mp c40)
        refine WS.aload_n hx dX4_firstNotSo_45 rfl 2 rfl ?_
        refine WS.getR hx okX4 lf4_20 rfl rfl dX4_firstNotSo_46 ?_
        refine WS.iconst (v := 1) hx dX4_firstNotSo_49 (by decide) ?_
        refine WS.callVv (st := []) [.int 1] hx (ck_pass V d τ 38 (by decide) n hQt m c hLt k hk b hb q hs hy (by rw [hwt]; exact hT) 1 (by decide)) okX9_passCenturies lm4_35 rfl rfl rfl rfl (Nat.le_of_ble_eq_true rfl) dX4_firstNotSo_50 (fun σ14 h15 => ?_)
        obtain ⟨the50, li50, tk50⟩ := h15
        rw [hwt] at tk50
        show WS layC V 5 X σ14 53 [(3, .long (σ.2.1 (58 + s) i)), (2, .int (nI i)), (0, rf V 4), (1, rf V (52 + s))] []
        refine WS.iinc (v := nI (i + 1)) (lo' := [(2, .int (nI (i + 1))), (3, .long (σ.2.1 (58 + s) i)), (0, rf V 4), (1, rf V (52 + s))]) hx dX4_firstNotSo_53 1 rfl (nI_1 i) (by decide) rfl ?_
        refine WS.goto (tgt := 2) hx dX4_firstNotSo_56 (by decide) ?_
        rw [if_neg hn] at hf
        exact WS.los [0, 2, 3] rfl (ih (i + 1) _ σ14 (by omega) hcr.1 hcr.2 (hE.tr the50) li50 tk50 hf)
      · skip
        show WS layC V 5 X τ 43 [(3, .long (σ.2.1 (58 + s) i)), (2, .int (nI i)), (0, rf V 4), (1, rf V (52 + s))] []
        have hn : ¬ σ.2.1 (58 + s) i = 10 ∧ ¬ σ.2.1 (58 + s) i = (σ.1 17 q.1).toInt64 := ⟨fun h => c27 ((lcmp_eq).mpr h), fun h => c40 ((lcmp_eq).mpr h)⟩
        refine WS.iload_n hx dX4_firstNotSo_43 rfl 1 rfl ?_
        exact WS.iret hx he dX4_firstNotSo_44 ⟨_, rfl, by rw [if_pos hn] at hf; rw [← hf]; rfl, SE.the (by decide) hE, hLt⟩
set_option maxHeartbeats 1000000 in
theorem c_X4_firstNotSo (V : Vt) (d : Nat) (σ : Sg) (n : Nat) (hQ : QI σ n) (m c : Nat) (hL : LI V σ m c) (s : Nat) (hsh : s < 6) (z : Nat) (hz : σ.1 (52 + s) 4 = nI z) (hz2 : z ≤ 60) (k : Nat) (hk : k < n) (b : Nat) (hb : b ≤ 9) (q : Nat × Nat) (hq : q.1 < 16) (hy : q.2 ≤ 99) (hT : Tk (wdS σ n m c) b σ 38 k q) : CT layC V mX4_firstNotSo (d + 5) [rf V 4, rf V (52 + s)] σ (Ri fun v σ' => oN (fsB ((wdS σ n m c).cn k b) (σ.1 17) (σ.2.1 (58 + s)) (min z 41) 0 q) = v ∧ SE σ σ' ∧ LI V σ' m c) := by
  refine CT.of (own := RX4) rfl (by decide) (Nat.le_of_ble_eq_true rfl) (fun X (hx : Ok V RX4 cX4_firstNotSo 5 (d + 5) X) (he : En layC V (some .int) (Ri fun v σ' => oN (fsB ((wdS σ n m c).cn k b) (σ.1 17) (σ.2.1 (58 + s)) (min z 41) 0 q) = v ∧ SE σ σ' ∧ LI V σ' m c) X) => ?_)
  change WS layC V 5 X σ 0 [(0, rf V 4), (1, rf V (52 + s))] []
  refine WS.iconst (v := 0) hx dX4_firstNotSo_0 (by decide) ?_
  refine WS.istore_n (lo' := [(2, .int 0), (0, rf V 4), (1, rf V (52 + s))]) hx dX4_firstNotSo_1 rfl (by decide) rfl ?_
  exact lp_X4_firstNotSo V d σ n hQ m c hL s hsh z hz hz2 k hk b hb _ X hx he (min z 41) 0 q σ (Nat.zero_add _) hq hy ThE.rf hL hT rfl
set_option maxHeartbeats 1000000 in
theorem c_X4_judged (V : Vt) (d : Nat) (σ : Sg) (n : Nat) (hQ : QI σ n) (m c : Nat) (hL : LI V σ m c) (s : Nat) (hsh : s < 6) (z : Nat) (hz : σ.1 (52 + s) 4 = nI z) (hz2 : z ≤ 60) (k : Nat) (hk : k < n) : CT layC V mX4_judged (d + 6) [rf V 4, rf V (52 + s), .int (nI k)] σ (Ri fun v σ' => oN (fsB ((wdS σ n m c).cn k ((wdS σ n m c).bd k)) (σ.1 17) (σ.2.1 (58 + s)) (min z 41) 0 ((wdS σ n m c).s0 k)) = v ∧ SE σ σ' ∧ LI V σ' m c) := by
  refine CT.of (own := RX4) rfl (by decide) (Nat.le_of_ble_eq_true rfl) (fun X (hx : Ok V RX4 cX4_judged 3 (d + 6) X) (he : En layC V (some .int) (Ri fun v σ' => oN (fsB ((wdS σ n m c).cn k ((wdS σ n m c).bd k)) (σ.1 17) (σ.2.1 (58 + s)) (min z 41) 0 ((wdS σ n m c).s0 k)) = v ∧ SE σ σ' ∧ LI V σ' m c) X) => ?_)
  change WS layC V 3 X σ 0 [(0, rf V 4), (1, rf V (52 + s)), (2, .int (nI k))] []
  have hb0 := bd_r (m := m) (c := c) hQ hk
  have hr0 := s0_r (m := m) (c := c) hQ hk
  have hcc := hL.c.2.2
  refine WS.aload_n hx dX4_judged_0 rfl 0 rfl ?_
  refine WS.getR hx okX4 lf4_20 rfl rfl dX4_judged_1 ?_
  refine WS.iload_n hx dX4_judged_4 rfl 2 rfl ?_
  refine WS.callVv (st := []) [.int (nI k)] hx (ck_begin V (d + 2) σ 38 (by decide) n hQ m c hL k hk) okX9_begin lm4_27 rfl rfl rfl rfl (Nat.le_of_ble_eq_true rfl) dX4_judged_5 (fun σ2 h3 => ?_)
  obtain ⟨the5, li5, tk5⟩ := h3
  have hQ5 := hQ.se (SE.the (by decide) the5)
  have hw5 : wdS σ2 n m c = wdS σ n m c := wdS_the (by decide) the5 hcc
  show WS layC V 3 X σ2 8 [(0, rf V 4), (1, rf V (52 + s)), (2, .int (nI k))] []
  refine WS.aload_n hx dX4_judged_8 rfl 0 rfl ?_
  refine WS.aload_n hx dX4_judged_9 rfl 1 rfl ?_
  refine WS.callVi (st := []) [rf V (52 + s)] hx (c_X4_firstNotSo V d σ2 n hQ5 m c li5 s hsh z (by rw [the5.1 (52 + s) (by omega) (by omega) (by omega) (by omega)]; exact hz) hz2 k hk _ hb0 _ hr0.1 hr0.2 (by rw [hw5]; exact tk5)) okX4_firstNotSo lm4_54 rfl rfl rfl rfl (Nat.le_of_ble_eq_true rfl) dX4_judged_10 (fun v4 σ5 h6 => ?_)
  obtain ⟨hv10, the10, li10⟩ := h6
  show WS layC V 3 X σ5 13 [(0, rf V 4), (1, rf V (52 + s)), (2, .int (nI k))] [.int v4]
  exact WS.iret hx he dX4_judged_13 ⟨_, rfl, by rw [← hv10, hw5, the5.1 17 (by decide) (by decide) (by decide) (by decide), the5.2], (SE.the (by decide) the5).tr the10, li10⟩
set_option maxHeartbeats 1000000 in
theorem lp_X4_fittingThoughts (V : Vt) (d : Nat) (σ : Sg) (n : Nat) (hQ : QI σ n) (m c : Nat) (hL : LI V σ m c) (s : Nat) (hsh : s < 6) (z : Nat) (hz : σ.1 (52 + s) 4 = nI z) (hz2 : z ≤ 60) (k : Nat) (hk : k < n) (X : Xt) (hx : Ok V RX4 cX4_fittingThoughts 5 (d + 6) X) (he : En layC V (some .int) (Ri fun v σ' => orW (fun j => decide (oN (fsB ((wdS σ n m c).cn k ((wdS σ n m c).bd k)) (σ.1 17) (σ.2.1 (58 + s)) (min z 41) 0 (j, ((wdS σ n m c).s0 k).2)) = -2)) nI 16 = v ∧ SE σ σ' ∧ LI V σ' m c) X) : ∀ (i : Nat) (τ : Sg), i ≤ 16 → SE σ τ → LI V τ m c → WS layC V 5 X τ 5 [(4, .int (nI i)), (3, .int (orW (fun j => decide (oN (fsB ((wdS σ n m c).cn k ((wdS σ n m c).bd k)) (σ.1 17) (σ.2.1 (58 + s)) (min z 41) 0 (j, ((wdS σ n m c).s0 k).2)) = -2)) nI i)), (0, rf V 4), (1, rf V (52 + s)), (2, .int (nI k))] [] := by
  intro i
  induction hm : 16 - i using Nat.strongRecOn generalizing i with
  | _ m9 ih =>
    intro τ hi hE hLt
    have hiI : (nI i).toInt = (i : Int) := nI_c (by omega)
    have hQt := hQ.se hE
    have hcc := hL.c.2.2
    have hwt : wdS τ n m c = wdS σ n m c := wdS_se hE hcc
    have hb0 := bd_r (m := m) (c := c) hQ hk
    have hr0 := s0_r (m := m) (c := c) hQ hk
    refine WS.iload hx dX4_fittingThoughts_5 0 rfl ?_
    refine WS.bipush (v := 16) hx dX4_fittingThoughts_7 (by decide) ?_
    refine WS.icmp_ge (tgt := 52) hx dX4_fittingThoughts_9 (by decide) (fun c9 => ?_) (fun c9 => ?_)
    · skip
      show WS layC V 5 X τ 52 [(4, .int (nI i)), (3, .int (orW (fun j => decide (oN (fsB ((wdS σ n m c).cn k ((wdS σ n m c).bd k)) (σ.1 17) (σ.2.1 (58 + s)) (min z 41) 0 (j, ((wdS σ n m c).s0 k).2)) = -2)) nI i)), (0, rf V 4), (1, rf V (52 + s)), (2, .int (nI k))] []
      refine WS.iload_n hx dX4_fittingThoughts_52 rfl 1 rfl ?_
      exact WS.iret hx he dX4_fittingThoughts_53 ⟨_, rfl, by rw [show i = 16 by (try simp only [i_le, i_lt, i_eq, tI_m2, tI_0, tI_1, tI_16] at c9); (try simp only [i_le, i_lt, i_eq, tI_m2, tI_0, tI_1, tI_16]); omega], hE, hLt⟩
    · skip
      show WS layC V 5 X τ 12 [(4, .int (nI i)), (3, .int (orW (fun j => decide (oN (fsB ((wdS σ n m c).cn k ((wdS σ n m c).bd k)) (σ.1 17) (σ.2.1 (58 + s)) (min z 41) 0 (j, ((wdS σ n m c).s0 k).2)) = -2)) nI i)), (0, rf V 4), (1, rf V (52 + s)), (2, .int (nI k))] []
      refine WS.aload_n hx dX4_fittingThoughts_12 rfl 2 rfl ?_
      refine WS.getR hx okX4 lf4_20 rfl rfl dX4_fittingThoughts_13 ?_
      refine WS.iload_n hx dX4_fittingThoughts_16 rfl 4 rfl ?_
      refine WS.callVv (st := []) [.int (nI k)] hx (ck_begin V (d + 2) τ 38 (by decide) n hQt m c hLt k hk) okX9_begin lm4_27 rfl rfl rfl rfl (Nat.le_of_ble_eq_true rfl) dX4_fittingThoughts_17 (fun σ2 h3 => ?_)
      obtain ⟨the17, li17, tk17⟩ := h3
      rw [hwt] at tk17
      have hQ17 := hQt.the (by decide) the17
      have e17 : SE σ σ2 := hE.tr (SE.the (by decide) the17)
      show WS layC V 5 X σ2 20 [(4, .int (nI i)), (3, .int (orW (fun j => decide (oN (fsB ((wdS σ n m c).cn k ((wdS σ n m c).bd k)) (σ.1 17) (σ.2.1 (58 + s)) (min z 41) 0 (j, ((wdS σ n m c).s0 k).2)) = -2)) nI i)), (0, rf V 4), (1, rf V (52 + s)), (2, .int (nI k))] []
      refine WS.aload_n hx dX4_fittingThoughts_20 rfl 2 rfl ?_
      refine WS.getR hx okX4 lf4_20 rfl rfl dX4_fittingThoughts_21 ?_
      refine WS.iload hx dX4_fittingThoughts_24 0 rfl ?_
      refine WS.callVv (st := []) [.int (nI i)] hx (c_X9_supposeAt V (d + 5) σ2 38 (by decide) (nI i)) okX9_supposeAt lm4_58 rfl rfl rfl rfl (Nat.le_of_ble_eq_true rfl) dX4_fittingThoughts_26 (fun σ5 h6 => ?_)
      obtain rfl := h6
      have tk26 : Tk (wdS σ n m c) ((wdS σ n m c).bd k) (stI σ2 38 4 (nI i)) 38 k (i, ((wdS σ n m c).s0 k).2) := by obtain ⟨ol, h⟩ := tk17; exact ⟨ol, h.at i⟩
      have e26 : SE σ (stI σ2 38 4 (nI i)) := e17.tr (SE.the (by decide) ThE.st)
      have w26 : wdS (stI σ2 38 4 (nI i)) n m c = wdS σ n m c := wdS_se e26 hcc
      show WS layC V 5 X (stI σ2 38 4 (nI i)) 29 [(4, .int (nI i)), (3, .int (orW (fun j => decide (oN (fsB ((wdS σ n m c).cn k ((wdS σ n m c).bd k)) (σ.1 17) (σ.2.1 (58 + s)) (min z 41) 0 (j, ((wdS σ n m c).s0 k).2)) = -2)) nI i)), (0, rf V 4), (1, rf V (52 + s)), (2, .int (nI k))] []
      refine WS.aload_n hx dX4_fittingThoughts_29 rfl 2 rfl ?_
      refine WS.aload_n hx dX4_fittingThoughts_30 rfl 3 rfl ?_
      refine WS.callVi (st := []) [rf V (52 + s)] hx (c_X4_firstNotSo V d (stI σ2 38 4 (nI i)) n (hQ17.the (by decide) ThE.st) m c (li17.th (by decide)) s hsh z (by rw [e26.1 (52 + s) (ns (by omega))]; exact hz) hz2 k hk ((wdS σ n m c).bd k) (by first | exact hb0 | (try simp only [i_le, i_lt, i_eq, tI_m2, tI_0, tI_1, tI_16] at c9); (try simp only [i_le, i_lt, i_eq, tI_m2, tI_0, tI_1, tI_16]); omega) (i, ((wdS σ n m c).s0 k).2) (by first | exact hr0.1 | (try simp only [i_le, i_lt, i_eq, tI_m2, tI_0, tI_1, tI_16] at c9); (try simp only [i_le, i_lt, i_eq, tI_m2, tI_0, tI_1, tI_16]); omega) hr0.2 (by rw [w26]; exact tk26)) okX4_firstNotSo lm4_54 rfl rfl rfl rfl (Nat.le_of_ble_eq_true rfl) dX4_fittingThoughts_31 (fun v7 σ8 h9 => ?_)
      obtain ⟨hv31, the31, li31⟩ := h9
      have hv9 : oN (fsB ((wdS σ n m c).cn k ((wdS σ n m c).bd k)) (σ.1 17) (σ.2.1 (58 + s)) (min z 41) 0 (i, ((wdS σ n m c).s0 k).2)) = v7 := by rw [← hv31, w26, e26.1 17 (ns (by decide)), e26.2]
      show WS layC V 5 X σ8 34 [(4, .int (nI i)), (3, .int (orW (fun j => decide (oN (fsB ((wdS σ n m c).cn k ((wdS σ n m c).bd k)) (σ.1 17) (σ.2.1 (58 + s)) (min z 41) 0 (j, ((wdS σ n m c).s0 k).2)) = -2)) nI i)), (0, rf V 4), (1, rf V (52 + s)), (2, .int (nI k))] [.int v7]
      refine WS.bipush (v := (-2)) hx dX4_fittingThoughts_34 (by decide) ?_
      refine WS.icmp_ne (tgt := 46) hx dX4_fittingThoughts_36 (by decide) (fun c36 => ?_) (fun c36 => ?_)
      · skip
        show WS layC V 5 X σ8 46 [(4, .int (nI i)), (3, .int (orW (fun j => decide (oN (fsB ((wdS σ n m c).cn k ((wdS σ n m c).bd k)) (σ.1 17) (σ.2.1 (58 + s)) (min z 41) 0 (j, ((wdS σ n m c).s0 k).2)) = -2)) nI i)), (0, rf V 4), (1, rf V (52 + s)), (2, .int (nI k))] []
        refine WS.iinc (v := nI (i + 1)) (lo' := [(4, .int (nI (i + 1))), (3, .int (orW (fun j => decide (oN (fsB ((wdS σ n m c).cn k ((wdS σ n m c).bd k)) (σ.1 17) (σ.2.1 (58 + s)) (min z 41) 0 (j, ((wdS σ n m c).s0 k).2)) = -2)) nI i)), (0, rf V 4), (1, rf V (52 + s)), (2, .int (nI k))]) hx dX4_fittingThoughts_46 0 rfl (nI_1 i) (by decide) rfl ?_
        refine WS.goto (tgt := 5) hx dX4_fittingThoughts_49 (by decide) ?_
        have hw : orW (fun j => decide (oN (fsB ((wdS σ n m c).cn k ((wdS σ n m c).bd k)) (σ.1 17) (σ.2.1 (58 + s)) (min z 41) 0 (j, ((wdS σ n m c).s0 k).2)) = -2)) nI (i + 1) = (orW (fun j => decide (oN (fsB ((wdS σ n m c).cn k ((wdS σ n m c).bd k)) (σ.1 17) (σ.2.1 (58 + s)) (min z 41) 0 (j, ((wdS σ n m c).s0 k).2)) = -2)) nI i) := if_neg (by rw [decide_eq_true_eq, hv9]; exact c36)
        have h9 := ih (16 - (i + 1)) (by (try simp only [i_le, i_lt, i_eq, tI_m2, tI_0, tI_1, tI_16] at c9); (try simp only [i_le, i_lt, i_eq, tI_m2, tI_0, tI_1, tI_16] at c36); (try simp only [i_le, i_lt, i_eq, tI_m2, tI_0, tI_1, tI_16]); omega) (i + 1) rfl σ8 (by (try simp only [i_le, i_lt, i_eq, tI_m2, tI_0, tI_1, tI_16] at c9); (try simp only [i_le, i_lt, i_eq, tI_m2, tI_0, tI_1, tI_16] at c36); (try simp only [i_le, i_lt, i_eq, tI_m2, tI_0, tI_1, tI_16]); omega) (e26.tr the31) li31
        rw [hw] at h9
        exact WS.los [0, 1, 2, 3, 4] rfl h9
      · skip
        show WS layC V 5 X σ8 39 [(4, .int (nI i)), (3, .int (orW (fun j => decide (oN (fsB ((wdS σ n m c).cn k ((wdS σ n m c).bd k)) (σ.1 17) (σ.2.1 (58 + s)) (min z 41) 0 (j, ((wdS σ n m c).s0 k).2)) = -2)) nI i)), (0, rf V 4), (1, rf V (52 + s)), (2, .int (nI k))] []
        refine WS.iload_n hx dX4_fittingThoughts_39 rfl 1 rfl ?_
        refine WS.iconst (v := 1) hx dX4_fittingThoughts_40 (by decide) ?_
        refine WS.iload hx dX4_fittingThoughts_41 0 rfl ?_
        refine WS.ishl hx dX4_fittingThoughts_43 ?_
        refine WS.ior hx dX4_fittingThoughts_44 ?_
        refine WS.istore_n (lo' := [(3, .int ((orW (fun j => decide (oN (fsB ((wdS σ n m c).cn k ((wdS σ n m c).bd k)) (σ.1 17) (σ.2.1 (58 + s)) (min z 41) 0 (j, ((wdS σ n m c).s0 k).2)) = -2)) nI i) ||| (1 <<< ((nI i) &&& 31)))), (4, .int (nI i)), (0, rf V 4), (1, rf V (52 + s)), (2, .int (nI k))]) hx dX4_fittingThoughts_45 rfl (by decide) rfl ?_
        refine WS.iinc (v := nI (i + 1)) (lo' := [(4, .int (nI (i + 1))), (3, .int ((orW (fun j => decide (oN (fsB ((wdS σ n m c).cn k ((wdS σ n m c).bd k)) (σ.1 17) (σ.2.1 (58 + s)) (min z 41) 0 (j, ((wdS σ n m c).s0 k).2)) = -2)) nI i) ||| (1 <<< ((nI i) &&& 31)))), (0, rf V 4), (1, rf V (52 + s)), (2, .int (nI k))]) hx dX4_fittingThoughts_46 1 rfl (nI_1 i) (by decide) rfl ?_
        refine WS.goto (tgt := 5) hx dX4_fittingThoughts_49 (by decide) ?_
        have hw : orW (fun j => decide (oN (fsB ((wdS σ n m c).cn k ((wdS σ n m c).bd k)) (σ.1 17) (σ.2.1 (58 + s)) (min z 41) 0 (j, ((wdS σ n m c).s0 k).2)) = -2)) nI (i + 1) = ((orW (fun j => decide (oN (fsB ((wdS σ n m c).cn k ((wdS σ n m c).bd k)) (σ.1 17) (σ.2.1 (58 + s)) (min z 41) 0 (j, ((wdS σ n m c).s0 k).2)) = -2)) nI i) ||| (1 <<< ((nI i) &&& 31))) := if_pos (by rw [decide_eq_true_eq, hv9]; exact c36)
        have h9 := ih (16 - (i + 1)) (by (try simp only [i_le, i_lt, i_eq, tI_m2, tI_0, tI_1, tI_16] at c9); (try simp only [i_le, i_lt, i_eq, tI_m2, tI_0, tI_1, tI_16] at c36); (try simp only [i_le, i_lt, i_eq, tI_m2, tI_0, tI_1, tI_16]); omega) (i + 1) rfl σ8 (by (try simp only [i_le, i_lt, i_eq, tI_m2, tI_0, tI_1, tI_16] at c9); (try simp only [i_le, i_lt, i_eq, tI_m2, tI_0, tI_1, tI_16] at c36); (try simp only [i_le, i_lt, i_eq, tI_m2, tI_0, tI_1, tI_16]); omega) (e26.tr the31) li31
        rw [hw] at h9
        exact WS.los [0, 1, 2, 3, 4] rfl h9
set_option maxHeartbeats 1000000 in
theorem c_X4_fittingThoughts (V : Vt) (d : Nat) (σ : Sg) (n : Nat) (hQ : QI σ n) (m c : Nat) (hL : LI V σ m c) (s : Nat) (hsh : s < 6) (z : Nat) (hz : σ.1 (52 + s) 4 = nI z) (hz2 : z ≤ 60) (k : Nat) (hk : k < n) : CT layC V mX4_fittingThoughts (d + 6) [rf V 4, rf V (52 + s), .int (nI k)] σ (Ri fun v σ' => orW (fun j => decide (oN (fsB ((wdS σ n m c).cn k ((wdS σ n m c).bd k)) (σ.1 17) (σ.2.1 (58 + s)) (min z 41) 0 (j, ((wdS σ n m c).s0 k).2)) = -2)) nI 16 = v ∧ SE σ σ' ∧ LI V σ' m c) := by
  refine CT.of (own := RX4) rfl (by decide) (Nat.le_of_ble_eq_true rfl) (fun X (hx : Ok V RX4 cX4_fittingThoughts 5 (d + 6) X) (he : En layC V (some .int) (Ri fun v σ' => orW (fun j => decide (oN (fsB ((wdS σ n m c).cn k ((wdS σ n m c).bd k)) (σ.1 17) (σ.2.1 (58 + s)) (min z 41) 0 (j, ((wdS σ n m c).s0 k).2)) = -2)) nI 16 = v ∧ SE σ σ' ∧ LI V σ' m c) X) => ?_)
  change WS layC V 5 X σ 0 [(0, rf V 4), (1, rf V (52 + s)), (2, .int (nI k))] []
  refine WS.iconst (v := 0) hx dX4_fittingThoughts_0 (by decide) ?_
  refine WS.istore_n (lo' := [(3, .int 0), (0, rf V 4), (1, rf V (52 + s)), (2, .int (nI k))]) hx dX4_fittingThoughts_1 rfl (by decide) rfl ?_
  refine WS.iconst (v := 0) hx dX4_fittingThoughts_2 (by decide) ?_
  refine WS.istore (lo' := [(4, .int 0), (3, .int 0), (0, rf V 4), (1, rf V (52 + s)), (2, .int (nI k))]) hx dX4_fittingThoughts_3 (by decide) rfl ?_
  exact lp_X4_fittingThoughts V d σ n hQ m c hL s hsh z hz hz2 k hk X hx he 0 σ (Nat.zero_le _) SE.rf hL
set_option maxHeartbeats 1000000 in
theorem lp_X4_fittingBeds (V : Vt) (d : Nat) (σ : Sg) (n : Nat) (hQ : QI σ n) (m c : Nat) (hL : LI V σ m c) (s : Nat) (hsh : s < 6) (z : Nat) (hz : σ.1 (52 + s) 4 = nI z) (hz2 : z ≤ 60) (k : Nat) (hk : k < n) (X : Xt) (hx : Ok V RX4 cX4_fittingBeds 5 (d + 6) X) (he : En layC V (some .int) (Ri fun v σ' => orW (fun j => decide (oN (fsB ((wdS σ n m c).cn k j) (σ.1 17) (σ.2.1 (58 + s)) (min z 41) 0 ((wdS σ n m c).s0 k)) = -2)) nI 10 = v ∧ SE σ σ' ∧ LI V σ' m c) X) : ∀ (i : Nat) (τ : Sg), i ≤ 10 → SE σ τ → LI V τ m c → WS layC V 5 X τ 5 [(4, .int (nI i)), (3, .int (orW (fun j => decide (oN (fsB ((wdS σ n m c).cn k j) (σ.1 17) (σ.2.1 (58 + s)) (min z 41) 0 ((wdS σ n m c).s0 k)) = -2)) nI i)), (0, rf V 4), (1, rf V (52 + s)), (2, .int (nI k))] [] := by
  intro i
  induction hm : 10 - i using Nat.strongRecOn generalizing i with
  | _ m9 ih =>
    intro τ hi hE hLt
    have hiI : (nI i).toInt = (i : Int) := nI_c (by omega)
    have hQt := hQ.se hE
    have hcc := hL.c.2.2
    have hwt : wdS τ n m c = wdS σ n m c := wdS_se hE hcc
    have hb0 := bd_r (m := m) (c := c) hQ hk
    have hr0 := s0_r (m := m) (c := c) hQ hk
    refine WS.iload hx dX4_fittingBeds_5 0 rfl ?_
    refine WS.bipush (v := 10) hx dX4_fittingBeds_7 (by decide) ?_
    refine WS.icmp_ge (tgt := 52) hx dX4_fittingBeds_9 (by decide) (fun c9 => ?_) (fun c9 => ?_)
    · skip
      show WS layC V 5 X τ 52 [(4, .int (nI i)), (3, .int (orW (fun j => decide (oN (fsB ((wdS σ n m c).cn k j) (σ.1 17) (σ.2.1 (58 + s)) (min z 41) 0 ((wdS σ n m c).s0 k)) = -2)) nI i)), (0, rf V 4), (1, rf V (52 + s)), (2, .int (nI k))] []
      refine WS.iload_n hx dX4_fittingBeds_52 rfl 1 rfl ?_
      exact WS.iret hx he dX4_fittingBeds_53 ⟨_, rfl, by rw [show i = 10 by (try simp only [i_le, i_lt, i_eq, tI_m2, tI_0, tI_1, tI_10] at c9); (try simp only [i_le, i_lt, i_eq, tI_m2, tI_0, tI_1, tI_10]); omega], hE, hLt⟩
    · skip
      show WS layC V 5 X τ 12 [(4, .int (nI i)), (3, .int (orW (fun j => decide (oN (fsB ((wdS σ n m c).cn k j) (σ.1 17) (σ.2.1 (58 + s)) (min z 41) 0 ((wdS σ n m c).s0 k)) = -2)) nI i)), (0, rf V 4), (1, rf V (52 + s)), (2, .int (nI k))] []
      refine WS.aload_n hx dX4_fittingBeds_12 rfl 2 rfl ?_
      refine WS.getR hx okX4 lf4_20 rfl rfl dX4_fittingBeds_13 ?_
      refine WS.iload_n hx dX4_fittingBeds_16 rfl 4 rfl ?_
      refine WS.callVv (st := []) [.int (nI k)] hx (ck_begin V (d + 2) τ 38 (by decide) n hQt m c hLt k hk) okX9_begin lm4_27 rfl rfl rfl rfl (Nat.le_of_ble_eq_true rfl) dX4_fittingBeds_17 (fun σ2 h3 => ?_)
      obtain ⟨the17, li17, tk17⟩ := h3
      rw [hwt] at tk17
      have hQ17 := hQt.the (by decide) the17
      have e17 : SE σ σ2 := hE.tr (SE.the (by decide) the17)
      show WS layC V 5 X σ2 20 [(4, .int (nI i)), (3, .int (orW (fun j => decide (oN (fsB ((wdS σ n m c).cn k j) (σ.1 17) (σ.2.1 (58 + s)) (min z 41) 0 ((wdS σ n m c).s0 k)) = -2)) nI i)), (0, rf V 4), (1, rf V (52 + s)), (2, .int (nI k))] []
      refine WS.aload_n hx dX4_fittingBeds_20 rfl 2 rfl ?_
      refine WS.getR hx okX4 lf4_20 rfl rfl dX4_fittingBeds_21 ?_
      refine WS.iload hx dX4_fittingBeds_24 0 rfl ?_
      refine WS.callVv (st := []) [.int (nI i)] hx (c_X9_supposeBed V (d + 5) σ2 38 (by decide) (nI i)) okX9_supposeBed lm4_61 rfl rfl rfl rfl (Nat.le_of_ble_eq_true rfl) dX4_fittingBeds_26 (fun σ5 h6 => ?_)
      obtain rfl := h6
      have tk26 : Tk (wdS σ n m c) i (stI σ2 38 3 (nI i)) 38 k ((wdS σ n m c).s0 k) := by obtain ⟨ol, t2, t3, t4, t5, t6, t7, t8, t9⟩ := tk17; exact ⟨ol, by rw [stI_k _ _ _ _ (by decide)]; exact t2, stI_1 _ _ _ _, by rw [stI_k _ _ _ _ (by decide)]; exact t4, by rw [stI_k _ _ _ _ (by decide)]; exact t5, by rw [stI_k _ _ _ _ (by decide)]; exact t6, by rw [stI_k _ _ _ _ (by decide)]; exact t7, by rw [stI_k _ _ _ _ (by decide)]; exact t8, by rw [stI_k _ _ _ _ (by decide)]; exact t9⟩
      have e26 : SE σ (stI σ2 38 3 (nI i)) := e17.tr (SE.the (by decide) ThE.st)
      have w26 : wdS (stI σ2 38 3 (nI i)) n m c = wdS σ n m c := wdS_se e26 hcc
      show WS layC V 5 X (stI σ2 38 3 (nI i)) 29 [(4, .int (nI i)), (3, .int (orW (fun j => decide (oN (fsB ((wdS σ n m c).cn k j) (σ.1 17) (σ.2.1 (58 + s)) (min z 41) 0 ((wdS σ n m c).s0 k)) = -2)) nI i)), (0, rf V 4), (1, rf V (52 + s)), (2, .int (nI k))] []
      refine WS.aload_n hx dX4_fittingBeds_29 rfl 2 rfl ?_
      refine WS.aload_n hx dX4_fittingBeds_30 rfl 3 rfl ?_
      refine WS.callVi (st := []) [rf V (52 + s)] hx (c_X4_firstNotSo V d (stI σ2 38 3 (nI i)) n (hQ17.the (by decide) ThE.st) m c (li17.th (by decide)) s hsh z (by rw [e26.1 (52 + s) (ns (by omega))]; exact hz) hz2 k hk i (by first | exact hb0 | (try simp only [i_le, i_lt, i_eq, tI_m2, tI_0, tI_1, tI_10] at c9); (try simp only [i_le, i_lt, i_eq, tI_m2, tI_0, tI_1, tI_10]); omega) ((wdS σ n m c).s0 k) (by first | exact hr0.1 | (try simp only [i_le, i_lt, i_eq, tI_m2, tI_0, tI_1, tI_10] at c9); (try simp only [i_le, i_lt, i_eq, tI_m2, tI_0, tI_1, tI_10]); omega) hr0.2 (by rw [w26]; exact tk26)) okX4_firstNotSo lm4_54 rfl rfl rfl rfl (Nat.le_of_ble_eq_true rfl) dX4_fittingBeds_31 (fun v7 σ8 h9 => ?_)
      obtain ⟨hv31, the31, li31⟩ := h9
      have hv9 : oN (fsB ((wdS σ n m c).cn k i) (σ.1 17) (σ.2.1 (58 + s)) (min z 41) 0 ((wdS σ n m c).s0 k)) = v7 := by rw [← hv31, w26, e26.1 17 (ns (by decide)), e26.2]
      show WS layC V 5 X σ8 34 [(4, .int (nI i)), (3, .int (orW (fun j => decide (oN (fsB ((wdS σ n m c).cn k j) (σ.1 17) (σ.2.1 (58 + s)) (min z 41) 0 ((wdS σ n m c).s0 k)) = -2)) nI i)), (0, rf V 4), (1, rf V (52 + s)), (2, .int (nI k))] [.int v7]
      refine WS.bipush (v := (-2)) hx dX4_fittingBeds_34 (by decide) ?_
      refine WS.icmp_ne (tgt := 46) hx dX4_fittingBeds_36 (by decide) (fun c36 => ?_) (fun c36 => ?_)
      · skip
        show WS layC V 5 X σ8 46 [(4, .int (nI i)), (3, .int (orW (fun j => decide (oN (fsB ((wdS σ n m c).cn k j) (σ.1 17) (σ.2.1 (58 + s)) (min z 41) 0 ((wdS σ n m c).s0 k)) = -2)) nI i)), (0, rf V 4), (1, rf V (52 + s)), (2, .int (nI k))] []
        refine WS.iinc (v := nI (i + 1)) (lo' := [(4, .int (nI (i + 1))), (3, .int (orW (fun j => decide (oN (fsB ((wdS σ n m c).cn k j) (σ.1 17) (σ.2.1 (58 + s)) (min z 41) 0 ((wdS σ n m c).s0 k)) = -2)) nI i)), (0, rf V 4), (1, rf V (52 + s)), (2, .int (nI k))]) hx dX4_fittingBeds_46 0 rfl (nI_1 i) (by decide) rfl ?_
        refine WS.goto (tgt := 5) hx dX4_fittingBeds_49 (by decide) ?_
        have hw : orW (fun j => decide (oN (fsB ((wdS σ n m c).cn k j) (σ.1 17) (σ.2.1 (58 + s)) (min z 41) 0 ((wdS σ n m c).s0 k)) = -2)) nI (i + 1) = (orW (fun j => decide (oN (fsB ((wdS σ n m c).cn k j) (σ.1 17) (σ.2.1 (58 + s)) (min z 41) 0 ((wdS σ n m c).s0 k)) = -2)) nI i) := if_neg (by rw [decide_eq_true_eq, hv9]; exact c36)
        have h9 := ih (10 - (i + 1)) (by (try simp only [i_le, i_lt, i_eq, tI_m2, tI_0, tI_1, tI_10] at c9); (try simp only [i_le, i_lt, i_eq, tI_m2, tI_0, tI_1, tI_10] at c36); (try simp only [i_le, i_lt, i_eq, tI_m2, tI_0, tI_1, tI_10]); omega) (i + 1) rfl σ8 (by (try simp only [i_le, i_lt, i_eq, tI_m2, tI_0, tI_1, tI_10] at c9); (try simp only [i_le, i_lt, i_eq, tI_m2, tI_0, tI_1, tI_10] at c36); (try simp only [i_le, i_lt, i_eq, tI_m2, tI_0, tI_1, tI_10]); omega) (e26.tr the31) li31
        rw [hw] at h9
        exact WS.los [0, 1, 2, 3, 4] rfl h9
      · skip
        show WS layC V 5 X σ8 39 [(4, .int (nI i)), (3, .int (orW (fun j => decide (oN (fsB ((wdS σ n m c).cn k j) (σ.1 17) (σ.2.1 (58 + s)) (min z 41) 0 ((wdS σ n m c).s0 k)) = -2)) nI i)), (0, rf V 4), (1, rf V (52 + s)), (2, .int (nI k))] []
        refine WS.iload_n hx dX4_fittingBeds_39 rfl 1 rfl ?_
        refine WS.iconst (v := 1) hx dX4_fittingBeds_40 (by decide) ?_
        refine WS.iload hx dX4_fittingBeds_41 0 rfl ?_
        refine WS.ishl hx dX4_fittingBeds_43 ?_
        refine WS.ior hx dX4_fittingBeds_44 ?_
        refine WS.istore_n (lo' := [(3, .int ((orW (fun j => decide (oN (fsB ((wdS σ n m c).cn k j) (σ.1 17) (σ.2.1 (58 + s)) (min z 41) 0 ((wdS σ n m c).s0 k)) = -2)) nI i) ||| (1 <<< ((nI i) &&& 31)))), (4, .int (nI i)), (0, rf V 4), (1, rf V (52 + s)), (2, .int (nI k))]) hx dX4_fittingBeds_45 rfl (by decide) rfl ?_
        refine WS.iinc (v := nI (i + 1)) (lo' := [(4, .int (nI (i + 1))), (3, .int ((orW (fun j => decide (oN (fsB ((wdS σ n m c).cn k j) (σ.1 17) (σ.2.1 (58 + s)) (min z 41) 0 ((wdS σ n m c).s0 k)) = -2)) nI i) ||| (1 <<< ((nI i) &&& 31)))), (0, rf V 4), (1, rf V (52 + s)), (2, .int (nI k))]) hx dX4_fittingBeds_46 1 rfl (nI_1 i) (by decide) rfl ?_
        refine WS.goto (tgt := 5) hx dX4_fittingBeds_49 (by decide) ?_
        have hw : orW (fun j => decide (oN (fsB ((wdS σ n m c).cn k j) (σ.1 17) (σ.2.1 (58 + s)) (min z 41) 0 ((wdS σ n m c).s0 k)) = -2)) nI (i + 1) = ((orW (fun j => decide (oN (fsB ((wdS σ n m c).cn k j) (σ.1 17) (σ.2.1 (58 + s)) (min z 41) 0 ((wdS σ n m c).s0 k)) = -2)) nI i) ||| (1 <<< ((nI i) &&& 31))) := if_pos (by rw [decide_eq_true_eq, hv9]; exact c36)
        have h9 := ih (10 - (i + 1)) (by (try simp only [i_le, i_lt, i_eq, tI_m2, tI_0, tI_1, tI_10] at c9); (try simp only [i_le, i_lt, i_eq, tI_m2, tI_0, tI_1, tI_10] at c36); (try simp only [i_le, i_lt, i_eq, tI_m2, tI_0, tI_1, tI_10]); omega) (i + 1) rfl σ8 (by (try simp only [i_le, i_lt, i_eq, tI_m2, tI_0, tI_1, tI_10] at c9); (try simp only [i_le, i_lt, i_eq, tI_m2, tI_0, tI_1, tI_10] at c36); (try simp only [i_le, i_lt, i_eq, tI_m2, tI_0, tI_1, tI_10]); omega) (e26.tr the31) li31
        rw [hw] at h9
        exact WS.los [0, 1, 2, 3, 4] rfl h9
set_option maxHeartbeats 1000000 in
theorem c_X4_fittingBeds (V : Vt) (d : Nat) (σ : Sg) (n : Nat) (hQ : QI σ n) (m c : Nat) (hL : LI V σ m c) (s : Nat) (hsh : s < 6) (z : Nat) (hz : σ.1 (52 + s) 4 = nI z) (hz2 : z ≤ 60) (k : Nat) (hk : k < n) : CT layC V mX4_fittingBeds (d + 6) [rf V 4, rf V (52 + s), .int (nI k)] σ (Ri fun v σ' => orW (fun j => decide (oN (fsB ((wdS σ n m c).cn k j) (σ.1 17) (σ.2.1 (58 + s)) (min z 41) 0 ((wdS σ n m c).s0 k)) = -2)) nI 10 = v ∧ SE σ σ' ∧ LI V σ' m c) := by
  refine CT.of (own := RX4) rfl (by decide) (Nat.le_of_ble_eq_true rfl) (fun X (hx : Ok V RX4 cX4_fittingBeds 5 (d + 6) X) (he : En layC V (some .int) (Ri fun v σ' => orW (fun j => decide (oN (fsB ((wdS σ n m c).cn k j) (σ.1 17) (σ.2.1 (58 + s)) (min z 41) 0 ((wdS σ n m c).s0 k)) = -2)) nI 10 = v ∧ SE σ σ' ∧ LI V σ' m c) X) => ?_)
  change WS layC V 5 X σ 0 [(0, rf V 4), (1, rf V (52 + s)), (2, .int (nI k))] []
  refine WS.iconst (v := 0) hx dX4_fittingBeds_0 (by decide) ?_
  refine WS.istore_n (lo' := [(3, .int 0), (0, rf V 4), (1, rf V (52 + s)), (2, .int (nI k))]) hx dX4_fittingBeds_1 rfl (by decide) rfl ?_
  refine WS.iconst (v := 0) hx dX4_fittingBeds_2 (by decide) ?_
  refine WS.istore (lo' := [(4, .int 0), (3, .int 0), (0, rf V 4), (1, rf V (52 + s)), (2, .int (nI k))]) hx dX4_fittingBeds_3 (by decide) rfl ?_
  exact lp_X4_fittingBeds V d σ n hQ m c hL s hsh z hz hz2 k hk X hx he 0 σ (Nat.zero_le _) SE.rf hL
def Wd.ci (W : Wd) (f g k : Nat) (s : Nat × Nat) : Nat × Nat := cen W.1 (fun a => if a = f then g else W.2.1 a) W.2.2.1 k (W.bd k) W.2.2.2.2.2.1 (W.2.2.2.2.2.2.1 k) s
theorem elF_if {L : Nat → Nat} {f g a : Nat} (hf : f < 16) (hg : g < 16) (h : a < 16) : elF L (nI f) (nI g) a = if a = f then g else L a := by
  unfold elF
  by_cases e : a = f
  · rw [if_pos (by rw [e]), if_pos e, nn_nI (by omega)]
  · rw [if_neg (fun q => e ((nI_eq (by omega) (by omega)).mp q)), if_neg e]
set_option maxHeartbeats 1000000 in
theorem c_X4_atBehindIf (V : Vt) (d : Nat) (σ : Sg) (n : Nat) (hQ : QI σ n) (m c : Nat) (hL : LI V σ m c) (u : Nat) (hu : u ≤ 100) (k : Nat) (hk : k < n) (f g : Nat) (hf : f < 16) (hg : g < 16) : CT layC V mX4_atBehindIf (d + 5) [rf V 4, .int (nI u), .int (nI k), .int (nI f), .int (nI g)] σ (Ri fun v σ' => nI (rep ((wdS σ n m c).ci f g k) u ((wdS σ n m c).s0 k)).1 = v ∧ SE σ σ' ∧ LI V σ' m c) := by
  refine CT.of (own := RX4) rfl (by decide) (Nat.le_of_ble_eq_true rfl) (fun X (hx : Ok V RX4 cX4_atBehindIf 5 (d + 5) X) (he : En layC V (some .int) (Ri fun v σ' => nI (rep ((wdS σ n m c).ci f g k) u ((wdS σ n m c).s0 k)).1 = v ∧ SE σ σ' ∧ LI V σ' m c) X) => ?_)
  change WS layC V 5 X σ 0 [(0, rf V 4), (1, .int (nI u)), (2, .int (nI k)), (3, .int (nI f)), (4, .int (nI g))] []
  have hb0 := bd_r (m := m) (c := c) hQ hk
  have hr0 := s0_r (m := m) (c := c) hQ hk
  have hcc := hL.c.2.2
  refine WS.aload_n hx dX4_atBehindIf_0 rfl 0 rfl ?_
  refine WS.getR hx okX4 lf4_20 rfl rfl dX4_atBehindIf_1 ?_
  refine WS.iload_n hx dX4_atBehindIf_4 rfl 2 rfl ?_
  refine WS.callVv (st := []) [.int (nI k)] hx (ck_begin V (d + 1) σ 38 (by decide) n hQ m c hL k hk) okX9_begin lm4_27 rfl rfl rfl rfl (Nat.le_of_ble_eq_true rfl) dX4_atBehindIf_5 (fun σ2 h3 => ?_)
  obtain ⟨the5, li5, tk5⟩ := h3
  have hQ5 := hQ.se (SE.the (by decide) the5)
  have hw5 : wdS σ2 n m c = wdS σ n m c := wdS_the (by decide) the5 hcc
  obtain ⟨ol, t2, t3, t4, t5, t6, t7, t8, t9⟩ := tk5
  show WS layC V 5 X σ2 8 [(0, rf V 4), (1, .int (nI u)), (2, .int (nI k)), (3, .int (nI f)), (4, .int (nI g))] []
  refine WS.aload_n hx dX4_atBehindIf_8 rfl 0 rfl ?_
  refine WS.getR hx okX4 lf4_20 rfl rfl dX4_atBehindIf_9 ?_
  refine WS.iload_n hx dX4_atBehindIf_12 rfl 3 rfl ?_
  refine WS.iload hx dX4_atBehindIf_13 4 rfl ?_
  refine WS.callVv (st := []) [.int (nI f), .int (nI g)] hx (c_X9_supposeLeads V (d + 4) σ2 38 (by decide) (nI f) (nI g)) okX9_supposeLeads lm4_84 rfl rfl rfl rfl (Nat.le_of_ble_eq_true rfl) dX4_atBehindIf_15 (fun σ5 h6 => ?_)
  obtain rfl := h6
  have e15 : ThE 38 σ (stI (stI σ2 38 7 (nI f)) 38 8 (nI g)) := (the5.tr ThE.st).tr ThE.st
  have th15 : Th (stI (stI σ2 38 7 (nI f)) 38 8 (nI g)) 38 k ((wdS σ n m c).bd k) ((wdS σ n m c).s0 k).1 ((wdS σ n m c).s0 k).2 (wdS σ n m c).2.2.2.2.2.1 (nI f) (nI g) ((wdS σ n m c).2.2.2.2.2.2.1 k) := ⟨t2, t3, t4, t5, t6, rfl, rfl, t9⟩
  show WS layC V 5 X (stI (stI σ2 38 7 (nI f)) 38 8 (nI g)) 18 [(0, rf V 4), (1, .int (nI u)), (2, .int (nI k)), (3, .int (nI f)), (4, .int (nI g))] []
  refine WS.aload_n hx dX4_atBehindIf_18 rfl 0 rfl ?_
  refine WS.getR hx okX4 lf4_20 rfl rfl dX4_atBehindIf_19 ?_
  refine WS.iload_n hx dX4_atBehindIf_22 rfl 1 rfl ?_
  refine WS.callVv (st := []) [.int (nI u)] hx (c_X9_passCenturies V d (stI (stI σ2 38 7 (nI f)) 38 8 (nI g)) 38 (by decide) n (hQ.the (by decide) e15) m c ((li5.th (by decide)).th (by decide)) k _ _ _ _ (nI f) (nI g) _ th15 (Tk.tr (m := m) (c := c) hQ hk hb0 hr0.1 hr0.2) (Or.inr (rg_nI (by omega) (by decide))) u hu) okX9_passCenturies lm4_35 rfl rfl rfl rfl (Nat.le_of_ble_eq_true rfl) dX4_atBehindIf_23 (fun σ8 h9 => ?_)
  obtain ⟨the23, li23, th23⟩ := h9
  show WS layC V 5 X σ8 26 [(0, rf V 4), (1, .int (nI u)), (2, .int (nI k)), (3, .int (nI f)), (4, .int (nI g))] []
  refine WS.aload_n hx dX4_atBehindIf_26 rfl 0 rfl ?_
  refine WS.getR hx okX4 lf4_20 rfl rfl dX4_atBehindIf_27 ?_
  refine WS.callVi (st := []) [] hx (c_X9_place V (d + 4) σ8 38 (by decide)) okX9_place lm4_38 rfl rfl rfl rfl (Nat.le_of_ble_eq_true rfl) dX4_atBehindIf_30 (fun v10 σ11 h12 => ?_)
  obtain ⟨rfl, rfl⟩ := h12
  show WS layC V 5 X σ8 33 [(0, rf V 4), (1, .int (nI u)), (2, .int (nI k)), (3, .int (nI f)), (4, .int (nI g))] [.int (σ8.1 38 4)]
  exact WS.iret hx he dX4_atBehindIf_33 ⟨_, rfl, by
    have e9 := (cenN_rep (lw := lwF (σ.1 c) m) (L := elF (Lc σ) (nI f) (nI g)) (L' := fun a => if a = f then g else Lc σ a) (wd := σ.1 17) (k := k) (b := (wdS σ n m c).bd k) (o := (wdS σ n m c).2.2.2.2.2.1) (op := (wdS σ n m c).2.2.2.2.2.2.1 k) (fun a ha => elF_if hf hg ha) (fun a ha => by split; exact hg; exact (hQ.L ha).2) u ((wdS σ n m c).s0 k) hr0.1).1
    have h9 := th23.2.2.1
    rw [show Lc (stI (stI σ2 38 7 (nI f)) 38 8 (nI g)) = Lc σ from by funext a; unfold Lc; rw [e15.1 16 (by decide) (by decide) (by decide) (by decide)], e15.1 17 (by decide) (by decide) (by decide) (by decide), show (stI (stI σ2 38 7 (nI f)) 38 8 (nI g)).1 c = σ.1 c from by rcases hcc with rfl | rfl <;> exact e15.1 _ (by decide) (by decide) (by decide) (by decide), show ((((wdS σ n m c).s0 k).1, ((wdS σ n m c).s0 k).2) : Nat × Nat) = (wdS σ n m c).s0 k from rfl, e9] at h9
    exact h9.symm, (SE.the (by decide) e15).tr (SE.the (by decide) the23), li23⟩
def fst1 (P : Nat → Bool) : Nat → Nat → Option Nat
  | 0, _ => none
  | u + 1, i => if P i = true then some i else fst1 P u (i + 1)
def lcP (W : Wd) (k u th : Nat) (p : Nat) : Bool := decide (¬ p % 16 = W.2.1 (p / 16) ∧ (rep (W.ci (p / 16) (p % 16) k) u (W.s0 k)).1 = th)
def lcF (W : Wd) (k u th : Nat) : Int32 := if (rep (W.cn k (W.bd k)) u (W.s0 k)).1 = th then 256 else oN (fst1 (lcP W k u th) 256 0)
theorem sh4 {f g : Nat} (hf : f < 16) (hg : g < 16) : (nI f <<< ((4 : Int32) &&& 31)) ||| nI g = nI (16 * f + g) := by
  rw [pk_shlN ((4 : Int32) &&& 31) 4 (by decide) (by omega)]
  apply Int32.toBitVec_inj.1
  show BitVec.ofNat 32 (f * 2 ^ 4) ||| BitVec.ofNat 32 g = BitVec.ofNat 32 (16 * f + g)
  rw [← BitVec.ofNat_or, show f * 2 ^ 4 = 2 ^ 4 * f by omega, ← Nat.two_pow_add_eq_or_of_lt (by omega)]
theorem rep_ri {σ : Sg} {n m c k f g : Nat} (hQ : QI σ n) (hg : g < 16) : ∀ (u : Nat) {s : Nat × Nat}, s.1 < 16 → (rep ((wdS σ n m c).ci f g k) u s).1 < 16 ∧ True
  | 0, s, h1 => ⟨h1, trivial⟩
  | u + 1, s, h1 => rep_ri hQ hg u (itr_lt (fun a ha => by split; exact hg; exact (hQ.L ha).2) _ _ h1)
set_option maxHeartbeats 1000000 in
theorem lp_X4_leastChange (V : Vt) (d : Nat) (σ : Sg) (n : Nat) (hQ : QI σ n) (m c : Nat) (hL : LI V σ m c) (k : Nat) (hk : k < n) (u : Nat) (hu : u ≤ 100) (th : Nat) (hth : th < 16) (r : Option Nat) (X : Xt) (hx : Ok V RX4 cX4_leastChange 6 (d + 6) X) (he : En layC V (some .int) (Ri fun v σ' => oN r = v ∧ SE σ σ' ∧ LI V σ' m c) X) : ∀ (f g : Nat) (τ : Sg), f < 16 → g ≤ 16 → SE σ τ → LI V τ m c → fst1 (lcP (wdS σ n m c) k u th) (256 - (16 * f + g)) (16 * f + g) = r → WS layC V 6 X τ 27 [(5, .int (nI g)), (4, .int (nI f)), (0, rf V 4), (1, .int (nI k)), (2, .int (nI u)), (3, .int (nI th))] [] := by
  intro f g
  induction hm : (16 - f) * 17 + (16 - g) using Nat.strongRecOn generalizing f g with
  | _ m9 ih =>
    intro τ hf hg hE hLt hr
    have hfI : (nI f).toInt = (f : Int) := nI_c (by omega)
    have hgI : (nI g).toInt = (g : Int) := nI_c (by omega)
    have hf1 : (nI (f + 1)).toInt = ((f + 1 : Nat) : Int) := nI_c (by omega)
    have hQt := hQ.se hE
    have hcc := hL.c.2.2
    have hwt : wdS τ n m c = wdS σ n m c := wdS_se hE hcc
    have hl16 := hQt.L hf
    have hLI : (nI (Lc τ f)).toInt = (Lc τ f : Int) := nI_c (by omega)
    have hLs : Lc τ f = (wdS σ n m c).2.1 f := by rw [← hwt]; rfl
    have hr0 := s0_r (m := m) (c := c) hQ hk
    refine WS.iload hx dX4_leastChange_27 0 rfl ?_
    refine WS.bipush (v := 16) hx dX4_leastChange_29 (by decide) ?_
    refine WS.icmp_ge (tgt := 76) hx dX4_leastChange_31 (by decide) (fun c31 => ?_) (fun c31 => ?_)
    · skip
      show WS layC V 6 X τ 76 [(5, .int (nI g)), (4, .int (nI f)), (0, rf V 4), (1, .int (nI k)), (2, .int (nI u)), (3, .int (nI th))] []
      have hg16 : g = 16 := by (try simp only [i_le, i_lt, i_eq, tI_m2, tI_0, tI_1, tI_4, tI_16, tI_256] at c31); (try simp only [i_le, i_lt, i_eq, tI_m2, tI_0, tI_1, tI_4, tI_16, tI_256]); omega
      refine WS.iinc (v := nI (f + 1)) (lo' := [(4, .int (nI (f + 1))), (5, .int (nI g)), (0, rf V 4), (1, .int (nI k)), (2, .int (nI u)), (3, .int (nI th))]) hx dX4_leastChange_76 1 rfl (nI_1 f) (by decide) rfl ?_
      refine WS.goto (tgt := 17) hx dX4_leastChange_79 (by decide) ?_
      refine WS.iload hx dX4_leastChange_17 0 rfl ?_
      refine WS.bipush (v := 16) hx dX4_leastChange_19 (by decide) ?_
      refine WS.icmp_ge (tgt := 82) hx dX4_leastChange_21 (by decide) (fun c21 => ?_) (fun c21 => ?_)
      · skip
        show WS layC V 6 X τ 82 [(4, .int (nI (f + 1))), (5, .int (nI g)), (0, rf V 4), (1, .int (nI k)), (2, .int (nI u)), (3, .int (nI th))] []
        refine WS.bipush (v := (-2)) hx dX4_leastChange_82 (by decide) ?_
        exact WS.iret hx he dX4_leastChange_84 ⟨_, rfl, by rw [show 256 - (16 * f + g) = 0 by (try simp only [i_le, i_lt, i_eq, tI_m2, tI_0, tI_1, tI_4, tI_16, tI_256] at c31); (try simp only [i_le, i_lt, i_eq, tI_m2, tI_0, tI_1, tI_4, tI_16, tI_256] at c21); (try simp only [i_le, i_lt, i_eq, tI_m2, tI_0, tI_1, tI_4, tI_16, tI_256]); omega] at hr; rw [← hr]; rfl, hE, hLt⟩
      · skip
        show WS layC V 6 X τ 24 [(4, .int (nI (f + 1))), (5, .int (nI g)), (0, rf V 4), (1, .int (nI k)), (2, .int (nI u)), (3, .int (nI th))] []
        refine WS.iconst (v := 0) hx dX4_leastChange_24 (by decide) ?_
        refine WS.istore (lo' := [(5, .int 0), (4, .int (nI (f + 1))), (0, rf V 4), (1, .int (nI k)), (2, .int (nI u)), (3, .int (nI th))]) hx dX4_leastChange_25 (by decide) rfl ?_
        exact WS.los [0, 1, 2, 3, 4, 5] rfl (ih _ (by (try simp only [i_le, i_lt, i_eq, tI_m2, tI_0, tI_1, tI_4, tI_16, tI_256] at c31); (try simp only [i_le, i_lt, i_eq, tI_m2, tI_0, tI_1, tI_4, tI_16, tI_256] at c21); (try simp only [i_le, i_lt, i_eq, tI_m2, tI_0, tI_1, tI_4, tI_16, tI_256]); omega) (f + 1) 0 rfl τ (by (try simp only [i_le, i_lt, i_eq, tI_m2, tI_0, tI_1, tI_4, tI_16, tI_256] at c31); (try simp only [i_le, i_lt, i_eq, tI_m2, tI_0, tI_1, tI_4, tI_16, tI_256] at c21); (try simp only [i_le, i_lt, i_eq, tI_m2, tI_0, tI_1, tI_4, tI_16, tI_256]); omega) (by omega) hE hLt (by rw [show 16 * (f + 1) + 0 = 16 * f + g by omega]; exact hr))
    · skip
      show WS layC V 6 X τ 34 [(5, .int (nI g)), (4, .int (nI f)), (0, rf V 4), (1, .int (nI k)), (2, .int (nI u)), (3, .int (nI th))] []
      have hg16 : g < 16 := by (try simp only [i_le, i_lt, i_eq, tI_m2, tI_0, tI_1, tI_4, tI_16, tI_256] at c31); (try simp only [i_le, i_lt, i_eq, tI_m2, tI_0, tI_1, tI_4, tI_16, tI_256]); omega
      rw [show 256 - (16 * f + g) = (256 - (16 * f + (g + 1))) + 1 by omega] at hr
      unfold fst1 at hr
      have e1 : (16 * f + g) % 16 = g := by omega
      have e2 : (16 * f + g) / 16 = f := by omega
      refine WS.iload hx dX4_leastChange_34 0 rfl ?_
      refine WS.aload_n hx dX4_leastChange_36 rfl 2 rfl ?_
      refine WS.getR hx okX4 lf4_9 rfl rfl dX4_leastChange_37 ?_
      refine WS.iload hx dX4_leastChange_40 1 rfl ?_
      refine WS.callVi (st := [.int (nI g)]) [.int (nI f)] hx (c_X7_leadsFrom V (d + 5) τ f hf) okX7_leadsFrom lm4_76 rfl rfl rfl rfl (Nat.le_of_ble_eq_true rfl) dX4_leastChange_42 (fun v1 σ2 h3 => ?_)
      obtain ⟨rfl, rfl⟩ := h3
      show WS layC V 6 X τ 45 [(5, .int (nI g)), (4, .int (nI f)), (0, rf V 4), (1, .int (nI k)), (2, .int (nI u)), (3, .int (nI th))] [.int (τ.1 16 f), .int (nI g)]
      refine WS.as rfl rfl (congrArg (fun z => Value.int z :: _) (show τ.1 16 f = nI (Lc τ f) from hl16.1)) ?_
      skip
      refine WS.icmp_eq (tgt := 70) hx dX4_leastChange_45 (by decide) (fun c45 => ?_) (fun c45 => ?_)
      · skip
        show WS layC V 6 X τ 70 [(5, .int (nI g)), (4, .int (nI f)), (0, rf V 4), (1, .int (nI k)), (2, .int (nI u)), (3, .int (nI th))] []
        have hp : ¬ lcP (wdS σ n m c) k u th (16 * f + g) = true := by
          unfold lcP
          rw [decide_eq_true_eq, e1, e2]
          exact fun h => h.1 (by (try simp only [i_le, i_lt, i_eq, tI_m2, tI_0, tI_1, tI_4, tI_16, tI_256] at c31); (try simp only [i_le, i_lt, i_eq, tI_m2, tI_0, tI_1, tI_4, tI_16, tI_256] at c45); omega)
        refine WS.iinc (v := nI (g + 1)) (lo' := [(5, .int (nI (g + 1))), (4, .int (nI f)), (0, rf V 4), (1, .int (nI k)), (2, .int (nI u)), (3, .int (nI th))]) hx dX4_leastChange_70 0 rfl (nI_1 g) (by decide) rfl ?_
        refine WS.goto (tgt := 27) hx dX4_leastChange_73 (by decide) ?_
        rw [if_neg hp] at hr
        exact WS.los [0, 1, 2, 3, 4, 5] rfl (ih _ (by omega) f (g + 1) rfl τ hf (by omega) hE hLt hr)
      · skip
        show WS layC V 6 X τ 48 [(5, .int (nI g)), (4, .int (nI f)), (0, rf V 4), (1, .int (nI k)), (2, .int (nI u)), (3, .int (nI th))] []
        refine WS.aload_n hx dX4_leastChange_48 rfl 2 rfl ?_
        refine WS.iload_n hx dX4_leastChange_49 rfl 4 rfl ?_
        refine WS.iload_n hx dX4_leastChange_50 rfl 3 rfl ?_
        refine WS.iload hx dX4_leastChange_51 1 rfl ?_
        refine WS.iload hx dX4_leastChange_53 0 rfl ?_
        refine WS.callVi (st := []) [.int (nI u), .int (nI k), .int (nI f), .int (nI g)] hx (c_X4_atBehindIf V d τ n hQt m c hLt u hu k hk f g hf (by (try simp only [i_le, i_lt, i_eq, tI_m2, tI_0, tI_1, tI_4, tI_16, tI_256] at c31); (try simp only [i_le, i_lt, i_eq, tI_m2, tI_0, tI_1, tI_4, tI_16, tI_256] at c45); (try simp only [i_le, i_lt, i_eq, tI_m2, tI_0, tI_1, tI_4, tI_16, tI_256]); omega)) okX4_atBehindIf lm4_80 rfl rfl rfl rfl (Nat.le_of_ble_eq_true rfl) dX4_leastChange_55 (fun v4 σ5 h6 => ?_)
        obtain ⟨rfl, se55, li55⟩ := h6
        show WS layC V 6 X σ5 58 [(5, .int (nI g)), (4, .int (nI f)), (0, rf V 4), (1, .int (nI k)), (2, .int (nI u)), (3, .int (nI th))] [.int (nI (rep ((wdS τ n m c).ci f g k) u ((wdS τ n m c).s0 k)).1)]
        refine WS.as rfl rfl (congrArg (fun z => Value.int z :: _) (show nI (rep ((wdS τ n m c).ci f g k) u ((wdS τ n m c).s0 k)).1 = nI (rep ((wdS σ n m c).ci f g k) u ((wdS σ n m c).s0 k)).1 from by rw [hwt])) ?_
        skip
        refine WS.iload_n hx dX4_leastChange_58 rfl 5 rfl ?_
        refine WS.icmp_ne (tgt := 70) hx dX4_leastChange_59 (by decide) (fun c59 => ?_) (fun c59 => ?_)
        · skip
          show WS layC V 6 X σ5 70 [(5, .int (nI g)), (4, .int (nI f)), (0, rf V 4), (1, .int (nI k)), (2, .int (nI u)), (3, .int (nI th))] []
          have hp : ¬ lcP (wdS σ n m c) k u th (16 * f + g) = true := by
            unfold lcP
            rw [decide_eq_true_eq, e1, e2]
            exact fun h => c59 (by rw [h.2])
          refine WS.iinc (v := nI (g + 1)) (lo' := [(5, .int (nI (g + 1))), (4, .int (nI f)), (0, rf V 4), (1, .int (nI k)), (2, .int (nI u)), (3, .int (nI th))]) hx dX4_leastChange_70 0 rfl (nI_1 g) (by decide) rfl ?_
          refine WS.goto (tgt := 27) hx dX4_leastChange_73 (by decide) ?_
          rw [if_neg hp] at hr
          exact WS.los [0, 1, 2, 3, 4, 5] rfl (ih _ (by omega) f (g + 1) rfl σ5 hf (by omega) (hE.tr se55) li55 hr)
        · skip
          show WS layC V 6 X σ5 62 [(5, .int (nI g)), (4, .int (nI f)), (0, rf V 4), (1, .int (nI k)), (2, .int (nI u)), (3, .int (nI th))] []
          have hp : lcP (wdS σ n m c) k u th (16 * f + g) = true := by
            unfold lcP
            rw [decide_eq_true_eq, e1, e2]
            have h15 := (rep_ri (f := f) (g := g) (k := k) (m := m) (c := c) hQ hg16 u hr0.1).1
            exact ⟨fun h => c45 (by rw [h, hLs]), (nI_eq (by omega) (by omega)).mp c59⟩
          refine WS.iload hx dX4_leastChange_62 1 rfl ?_
          refine WS.iconst (v := 4) hx dX4_leastChange_64 (by decide) ?_
          refine WS.ishl hx dX4_leastChange_65 ?_
          refine WS.iload hx dX4_leastChange_66 0 rfl ?_
          refine WS.ior hx dX4_leastChange_68 ?_
          exact WS.iret hx he dX4_leastChange_69 ⟨_, rfl, by rw [if_pos hp] at hr; rw [← hr, sh4 hf hg16]; rfl, hE.tr se55, li55⟩
set_option maxHeartbeats 1000000 in
theorem c_X4_leastChange (V : Vt) (d : Nat) (σ : Sg) (n : Nat) (hQ : QI σ n) (m c : Nat) (hL : LI V σ m c) (k : Nat) (hk : k < n) (u : Nat) (hu : u ≤ 100) (th : Nat) (hth : th < 16) : CT layC V mX4_leastChange (d + 6) [rf V 4, .int (nI k), .int (nI u), .int (nI th)] σ (Ri fun v σ' => lcF (wdS σ n m c) k u th = v ∧ SE σ σ' ∧ LI V σ' m c) := by
  refine CT.of (own := RX4) rfl (by decide) (Nat.le_of_ble_eq_true rfl) (fun X (hx : Ok V RX4 cX4_leastChange 6 (d + 6) X) (he : En layC V (some .int) (Ri fun v σ' => lcF (wdS σ n m c) k u th = v ∧ SE σ σ' ∧ LI V σ' m c) X) => ?_)
  change WS layC V 6 X σ 0 [(0, rf V 4), (1, .int (nI k)), (2, .int (nI u)), (3, .int (nI th))] []
  have hr0 := s0_r (m := m) (c := c) hQ hk
  have h15 := (rep_r (m := m) (c := c) (k := k) (b := (wdS σ n m c).bd k) hQ u hr0.1 hr0.2).1
  refine WS.aload_n hx dX4_leastChange_0 rfl 0 rfl ?_
  refine WS.iload_n hx dX4_leastChange_1 rfl 2 rfl ?_
  refine WS.iload_n hx dX4_leastChange_2 rfl 1 rfl ?_
  refine WS.callVi (st := []) [.int (nI u), .int (nI k)] hx (c_X4_atBehind V d σ n hQ m c hL u hu k hk) okX4_atBehind lm4_50 rfl rfl rfl rfl (Nat.le_of_ble_eq_true rfl) dX4_leastChange_3 (fun v1 σ2 h3 => ?_)
  obtain ⟨rfl, se3, li3⟩ := h3
  show WS layC V 6 X σ2 6 [(0, rf V 4), (1, .int (nI k)), (2, .int (nI u)), (3, .int (nI th))] [.int (nI (rep ((wdS σ n m c).cn k ((wdS σ n m c).bd k)) u ((wdS σ n m c).s0 k)).1)]
  refine WS.iload_n hx dX4_leastChange_6 rfl 3 rfl ?_
  refine WS.icmp_ne (tgt := 14) hx dX4_leastChange_7 (by decide) (fun c7 => ?_) (fun c7 => ?_)
  · skip
    show WS layC V 6 X σ2 14 [(0, rf V 4), (1, .int (nI k)), (2, .int (nI u)), (3, .int (nI th))] []
    refine WS.iconst (v := 0) hx dX4_leastChange_14 (by decide) ?_
    refine WS.istore (lo' := [(4, .int 0), (0, rf V 4), (1, .int (nI k)), (2, .int (nI u)), (3, .int (nI th))]) hx dX4_leastChange_15 (by decide) rfl ?_
    refine WS.iload hx dX4_leastChange_17 0 rfl ?_
    refine WS.bipush (v := 16) hx dX4_leastChange_19 (by decide) ?_
    refine WS.icmp_ge (tgt := 82) hx dX4_leastChange_21 (by decide) (fun h => absurd h (by decide)) (fun _ => ?_)
    refine WS.iconst (v := 0) hx dX4_leastChange_24 (by decide) ?_
    refine WS.istore (lo' := [(5, .int 0), (4, .int 0), (0, rf V 4), (1, .int (nI k)), (2, .int (nI u)), (3, .int (nI th))]) hx dX4_leastChange_25 (by decide) rfl ?_
    have hne : ¬ (rep ((wdS σ n m c).cn k ((wdS σ n m c).bd k)) u ((wdS σ n m c).s0 k)).1 = th := fun h => c7 (by rw [h])
    rw [show lcF (wdS σ n m c) k u th = oN (fst1 (lcP (wdS σ n m c) k u th) 256 0) from if_neg hne] at he
    exact WS.los [0, 1, 2, 3, 4, 5] rfl (lp_X4_leastChange V d σ n hQ m c hL k hk u hu th hth _ X hx he 0 0 σ2 (by decide) (by decide) se3 li3 rfl)
  · skip
    show WS layC V 6 X σ2 10 [(0, rf V 4), (1, .int (nI k)), (2, .int (nI u)), (3, .int (nI th))] []
    refine WS.sipush (v := 256) hx dX4_leastChange_10 (by decide) ?_
    exact WS.iret hx he dX4_leastChange_13 ⟨_, rfl, if_pos ((nI_eq (by omega) (by omega)).mp c7), se3, li3⟩

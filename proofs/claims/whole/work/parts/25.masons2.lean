/-- two by turns: what the one whose turn it is has more in the end -/
def bmx (p : Nat → Bool) (g : Nat → Int32) : Nat → Int32
  | 0 => -2000000000
  | k + 1 => if p k = true then mx (bmx p g k) (g k) else bmx p g k
def clr (cl : Int32) (b : Nat) : Int32 := cl &&& (((1 : Int32) <<< (nI b &&& 31)) ^^^ (-1))
def bgF (σ : Sg) (n : Nat) : Nat → Int32 → Int32
  | 0, _ => 0
  | t + 1, cl => if cl = 0 then 0 else bmx (bitP cl) (fun b => wn σ b - bgF σ n t (clr cl b)) n
set_option maxHeartbeats 1000000 in
theorem c_X6_gainBy (V : Vt) (d : Nat) (σ : Sg) (n : Nat) (hQ : QI σ n) (t : Nat) (hB : ∀ cl : Int32, CT layC V mX6_bestGain (d + 3) [rf V 5, .int (nI t), .int cl] σ (Ro (bgF σ n t cl) σ)) (b : Nat) (hb : b < n) (cl : Int32) : CT layC V mX6_gainBy (d + 4) [rf V 5, .int (nI b), .int (nI (t + 1)), .int cl] σ (Ro (wn σ b - bgF σ n t (clr cl b)) σ) := by
  refine CT.of (own := RX6) rfl (by decide) (Nat.le_of_ble_eq_true rfl) (fun X (hx : Ok V RX6 cX6_gainBy 4 (d + 4) X) (he : En layC V (some .int) (Ro (wn σ b - bgF σ n t (clr cl b)) σ) X) => ?_)
  change WS layC V 4 X σ 0 [(0, rf V 5), (1, .int (nI b)), (2, .int (nI (t + 1))), (3, .int cl)] []
  refine WS.aload_n hx dX6_gainBy_0 rfl 0 rfl ?_
  refine WS.getR hx okX6 lf6_21 rfl rfl dX6_gainBy_1 ?_
  refine WS.iload_n hx dX6_gainBy_4 rfl 1 rfl ?_
  refine WS.callVi (st := []) [.int (nI b)] hx (c_X7_wordNow V (d + 1) σ n hQ b hb) okX7_wordNow lm6_47 rfl rfl rfl rfl (Nat.le_of_ble_eq_true rfl) dX6_gainBy_5 (fun v1 σ2 h3 => ?_)
  obtain ⟨rfl, rfl⟩ := h3
  show WS layC V 4 X σ 8 [(0, rf V 5), (1, .int (nI b)), (2, .int (nI (t + 1))), (3, .int cl)] [.int (σ.1 17 (nn (σ.1 12 (b))))]
  refine WS.as rfl rfl (congrArg (fun z => Value.int z :: _) (show σ.1 17 (nn (σ.1 12 (b))) = wn σ b from rfl)) ?_
  skip
  refine WS.aload_n hx dX6_gainBy_8 rfl 0 rfl ?_
  refine WS.iload_n hx dX6_gainBy_9 rfl 2 rfl ?_
  refine WS.iconst (v := 1) hx dX6_gainBy_10 (by decide) ?_
  refine WS.isub hx dX6_gainBy_11 ?_
  refine WS.as rfl rfl (congrArg (fun z => Value.int z :: _) (show (nI (t + 1)) - 1 = nI t from nI_pred t)) ?_
  skip
  refine WS.iload_n hx dX6_gainBy_12 rfl 3 rfl ?_
  refine WS.iconst (v := 1) hx dX6_gainBy_13 (by decide) ?_
  refine WS.iload_n hx dX6_gainBy_14 rfl 1 rfl ?_
  refine WS.ishl hx dX6_gainBy_15 ?_
  refine WS.iconst (v := (-1)) hx dX6_gainBy_16 (by decide) ?_
  refine WS.ixor hx dX6_gainBy_17 ?_
  refine WS.iand hx dX6_gainBy_18 ?_
  refine WS.as rfl rfl (congrArg (fun z => Value.int z :: _) (show cl &&& ((1 <<< ((nI b) &&& 31)) ^^^ (-1)) = clr cl b from rfl)) ?_
  skip
  refine WS.callVi (st := [.int (wn σ b)]) [.int (nI t), .int (clr cl b)] hx (hB (clr cl b)) okX6_bestGain lm6_110 rfl rfl rfl rfl (Nat.le_of_ble_eq_true rfl) dX6_gainBy_19 (fun v4 σ5 h6 => ?_)
  obtain ⟨rfl, rfl⟩ := h6
  show WS layC V 4 X σ 22 [(0, rf V 5), (1, .int (nI b)), (2, .int (nI (t + 1))), (3, .int cl)] [.int (bgF σ n t (clr cl b)), .int (wn σ b)]
  refine WS.isub hx dX6_gainBy_22 ?_
  exact WS.iret hx he dX6_gainBy_23 (Ro.i rfl)
set_option maxHeartbeats 1000000 in
theorem lp_X6_bestGain (V : Vt) (d : Nat) (σ : Sg) (n : Nat) (hQ : QI σ n) (t : Nat) (hB : ∀ cl : Int32, CT layC V mX6_bestGain (d + 3) [rf V 5, .int (nI t), .int cl] σ (Ro (bgF σ n t cl) σ)) (cl : Int32) (X : Xt) (hx : Ok V RX6 cX6_bestGain 5 (d + 5) X) (he : En layC V (some .int) (Ro (bmx (bitP cl) (fun b => wn σ b - bgF σ n t (clr cl b)) n) σ) X) : ∀ i : Nat, i ≤ n → WS layC V 5 X σ 16 [(4, .int (nI i)), (3, .int (bmx (bitP cl) (fun b => wn σ b - bgF σ n t (clr cl b)) i)), (0, rf V 5), (1, .int (nI (t + 1))), (2, .int cl)] [] := by
  intro i
  induction hm : n - i using Nat.strongRecOn generalizing i with
  | _ m9 ih =>
    intro hi
    have hn10 := hQ.n
    have hiI : (nI i).toInt = (i : Int) := nI_c (by omega)
    have hnI : (nI n).toInt = (n : Int) := nI_c (by omega)
    refine WS.iload hx dX6_bestGain_16 0 rfl ?_
    refine WS.aload_n hx dX6_bestGain_18 rfl 2 rfl ?_
    refine WS.getR hx okX6 lf6_21 rfl rfl dX6_bestGain_19 ?_
    refine WS.callVi (st := [.int (nI i)]) [] hx (c_X7_size V (d + 4) σ n hQ) okX7_size lm6_34 rfl rfl rfl rfl (Nat.le_of_ble_eq_true rfl) dX6_bestGain_22 (fun v1 σ2 h3 => ?_)
    obtain ⟨rfl, rfl⟩ := h3
    show WS layC V 5 X σ 25 [(4, .int (nI i)), (3, .int (bmx (bitP cl) (fun b => wn σ b - bgF σ n t (clr cl b)) i)), (0, rf V 5), (1, .int (nI (t + 1))), (2, .int cl)] [.int (nI n), .int (nI i)]
    refine WS.icmp_ge (tgt := 57) hx dX6_bestGain_25 (by decide) (fun c25 => ?_) (fun c25 => ?_)
    · skip
      show WS layC V 5 X σ 57 [(4, .int (nI i)), (3, .int (bmx (bitP cl) (fun b => wn σ b - bgF σ n t (clr cl b)) i)), (0, rf V 5), (1, .int (nI (t + 1))), (2, .int cl)] []
      refine WS.iload_n hx dX6_bestGain_57 rfl 1 rfl ?_
      exact WS.iret hx he dX6_bestGain_58 (Ro.i (by rw [show n = i by (try simp only [i_le, i_lt, i_eq, tI_0, tI_1] at c25); (try simp only [i_le, i_lt, i_eq, tI_0, tI_1]); omega]))
    · skip
      show WS layC V 5 X σ 28 [(4, .int (nI i)), (3, .int (bmx (bitP cl) (fun b => wn σ b - bgF σ n t (clr cl b)) i)), (0, rf V 5), (1, .int (nI (t + 1))), (2, .int cl)] []
      refine WS.iload_n hx dX6_bestGain_28 rfl 4 rfl ?_
      refine WS.iload hx dX6_bestGain_29 0 rfl ?_
      refine WS.ishr hx dX6_bestGain_31 ?_
      refine WS.iconst (v := 1) hx dX6_bestGain_32 (by decide) ?_
      refine WS.iand hx dX6_bestGain_33 ?_
      refine WS.iconst (v := 1) hx dX6_bestGain_34 (by decide) ?_
      refine WS.icmp_ne (tgt := 51) hx dX6_bestGain_35 (by decide) (fun c35 => ?_) (fun c35 => ?_)
      · skip
        show WS layC V 5 X σ 51 [(4, .int (nI i)), (3, .int (bmx (bitP cl) (fun b => wn σ b - bgF σ n t (clr cl b)) i)), (0, rf V 5), (1, .int (nI (t + 1))), (2, .int cl)] []
        refine WS.iinc (v := nI (i + 1)) (lo' := [(4, .int (nI (i + 1))), (3, .int (bmx (bitP cl) (fun b => wn σ b - bgF σ n t (clr cl b)) i)), (0, rf V 5), (1, .int (nI (t + 1))), (2, .int cl)]) hx dX6_bestGain_51 0 rfl (nI_1 i) (by decide) rfl ?_
        refine WS.goto (tgt := 16) hx dX6_bestGain_54 (by decide) ?_
        have hw : bmx (bitP cl) (fun b => wn σ b - bgF σ n t (clr cl b)) (i + 1) = (bmx (bitP cl) (fun b => wn σ b - bgF σ n t (clr cl b)) i) := if_neg (by unfold bitP; rw [decide_eq_true_eq]; exact c35)
        have h9 := ih _ (by (try simp only [i_le, i_lt, i_eq, tI_0, tI_1] at c25); (try simp only [i_le, i_lt, i_eq, tI_0, tI_1] at c35); (try simp only [i_le, i_lt, i_eq, tI_0, tI_1]); omega) (i + 1) rfl (by (try simp only [i_le, i_lt, i_eq, tI_0, tI_1] at c25); (try simp only [i_le, i_lt, i_eq, tI_0, tI_1] at c35); (try simp only [i_le, i_lt, i_eq, tI_0, tI_1]); omega)
        rw [hw] at h9
        exact WS.los [0, 1, 2, 3, 4] rfl h9
      · skip
        show WS layC V 5 X σ 38 [(4, .int (nI i)), (3, .int (bmx (bitP cl) (fun b => wn σ b - bgF σ n t (clr cl b)) i)), (0, rf V 5), (1, .int (nI (t + 1))), (2, .int cl)] []
        refine WS.iload_n hx dX6_bestGain_38 rfl 1 rfl ?_
        refine WS.aload_n hx dX6_bestGain_39 rfl 2 rfl ?_
        refine WS.iload hx dX6_bestGain_40 0 rfl ?_
        refine WS.iload_n hx dX6_bestGain_42 rfl 3 rfl ?_
        refine WS.iload_n hx dX6_bestGain_43 rfl 4 rfl ?_
        refine WS.callVi (st := [.int (bmx (bitP cl) (fun b => wn σ b - bgF σ n t (clr cl b)) i)]) [.int (nI i), .int (nI (t + 1)), .int cl] hx (c_X6_gainBy V d σ n hQ t hB i (by (try simp only [i_le, i_lt, i_eq, tI_0, tI_1] at c25); (try simp only [i_le, i_lt, i_eq, tI_0, tI_1] at c35); (try simp only [i_le, i_lt, i_eq, tI_0, tI_1]); omega) cl) okX6_gainBy lm6_116 rfl rfl rfl rfl (Nat.le_of_ble_eq_true rfl) dX6_bestGain_44 (fun v4 σ5 h6 => ?_)
        obtain ⟨rfl, rfl⟩ := h6
        show WS layC V 5 X σ 47 [(4, .int (nI i)), (3, .int (bmx (bitP cl) (fun b => wn σ b - bgF σ n t (clr cl b)) i)), (0, rf V 5), (1, .int (nI (t + 1))), (2, .int cl)] [.int (wn σ i - bgF σ n t (clr cl i)), .int (bmx (bitP cl) (fun b => wn σ b - bgF σ n t (clr cl b)) i)]
        refine WS.mmax hx lm6_121 (Nat.le_of_ble_eq_true rfl) dX6_bestGain_47 ?_
        refine WS.istore_n (lo' := [(3, .int (mx (bmx (bitP cl) (fun b => wn σ b - bgF σ n t (clr cl b)) i) (wn σ i - bgF σ n t (clr cl i)))), (4, .int (nI i)), (0, rf V 5), (1, .int (nI (t + 1))), (2, .int cl)]) hx dX6_bestGain_50 rfl (by decide) rfl ?_
        refine WS.iinc (v := nI (i + 1)) (lo' := [(4, .int (nI (i + 1))), (3, .int (mx (bmx (bitP cl) (fun b => wn σ b - bgF σ n t (clr cl b)) i) (wn σ i - bgF σ n t (clr cl i)))), (0, rf V 5), (1, .int (nI (t + 1))), (2, .int cl)]) hx dX6_bestGain_51 1 rfl (nI_1 i) (by decide) rfl ?_
        refine WS.goto (tgt := 16) hx dX6_bestGain_54 (by decide) ?_
        have hw : bmx (bitP cl) (fun b => wn σ b - bgF σ n t (clr cl b)) (i + 1) = (mx (bmx (bitP cl) (fun b => wn σ b - bgF σ n t (clr cl b)) i) (wn σ i - bgF σ n t (clr cl i))) := if_pos (by unfold bitP; rw [decide_eq_true_eq]; exact c35)
        have h9 := ih _ (by (try simp only [i_le, i_lt, i_eq, tI_0, tI_1] at c25); (try simp only [i_le, i_lt, i_eq, tI_0, tI_1] at c35); (try simp only [i_le, i_lt, i_eq, tI_0, tI_1]); omega) (i + 1) rfl (by (try simp only [i_le, i_lt, i_eq, tI_0, tI_1] at c25); (try simp only [i_le, i_lt, i_eq, tI_0, tI_1] at c35); (try simp only [i_le, i_lt, i_eq, tI_0, tI_1]); omega)
        rw [hw] at h9
        exact WS.los [0, 1, 2, 3, 4] rfl h9
set_option maxHeartbeats 1000000 in
theorem c_X6_bestGain0 (V : Vt) (d : Nat) (σ : Sg) (n : Nat) (hQ : QI σ n) (cl : Int32) : CT layC V mX6_bestGain (d) [rf V 5, .int (nI 0), .int cl] σ (Ro (bgF σ n 0 cl) σ) := by
  refine CT.of (own := RX6) rfl (by decide) (Nat.le_of_ble_eq_true rfl) (fun X (hx : Ok V RX6 cX6_bestGain 5 (d) X) (he : En layC V (some .int) (Ro (bgF σ n 0 cl) σ) X) => ?_)
  change WS layC V 5 X σ 0 [(0, rf V 5), (1, .int (nI 0)), (2, .int cl)] []
  refine WS.iload_n hx dX6_bestGain_0 rfl 1 rfl ?_
  refine WS.if_le (tgt := 8) hx dX6_bestGain_1 (by decide) (fun c1 => ?_) (fun c1 => absurd (by decide) c1)
  refine WS.iconst (v := 0) hx dX6_bestGain_8 (by decide) ?_
  exact WS.iret hx he dX6_bestGain_9 (Ro.i rfl)
set_option maxHeartbeats 1000000 in
theorem c_X6_bestGainS (V : Vt) (d : Nat) (σ : Sg) (n : Nat) (hQ : QI σ n) (t : Nat) (ht : t ≤ 100) (hB : ∀ cl : Int32, CT layC V mX6_bestGain (d + 3) [rf V 5, .int (nI t), .int cl] σ (Ro (bgF σ n t cl) σ)) (cl : Int32) : CT layC V mX6_bestGain (d + 5) [rf V 5, .int (nI (t + 1)), .int cl] σ (Ro (bgF σ n (t + 1) cl) σ) := by
  refine CT.of (own := RX6) rfl (by decide) (Nat.le_of_ble_eq_true rfl) (fun X (hx : Ok V RX6 cX6_bestGain 5 (d + 5) X) (he : En layC V (some .int) (Ro (bgF σ n (t + 1) cl) σ) X) => ?_)
  change WS layC V 5 X σ 0 [(0, rf V 5), (1, .int (nI (t + 1))), (2, .int cl)] []
  have htI : (nI (t + 1)).toInt = ((t + 1 : Nat) : Int) := nI_c (by omega)
  refine WS.iload_n hx dX6_bestGain_0 rfl 1 rfl ?_
  refine WS.if_le (tgt := 8) hx dX6_bestGain_1 (by decide) (fun c1 => by exfalso; (try simp only [i_le, i_lt, i_eq, tI_0, tI_1] at c1); (try simp only [i_le, i_lt, i_eq, tI_0, tI_1]); omega) (fun c1 => ?_)
  refine WS.iload_n hx dX6_bestGain_4 rfl 2 rfl ?_
  refine WS.if_ne (tgt := 10) hx dX6_bestGain_5 (by decide) (fun c5 => ?_) (fun c5 => ?_)
  · skip
    show WS layC V 5 X σ 10 [(0, rf V 5), (1, .int (nI (t + 1))), (2, .int cl)] []
    refine WS.ldc (v := (-2000000000)) hx lc6_120 dX6_bestGain_10 ?_
    refine WS.istore_n (lo' := [(3, .int (-2000000000)), (0, rf V 5), (1, .int (nI (t + 1))), (2, .int cl)]) hx dX6_bestGain_12 rfl (by decide) rfl ?_
    refine WS.iconst (v := 0) hx dX6_bestGain_13 (by decide) ?_
    refine WS.istore (lo' := [(4, .int 0), (3, .int (-2000000000)), (0, rf V 5), (1, .int (nI (t + 1))), (2, .int cl)]) hx dX6_bestGain_14 (by decide) rfl ?_
    have hne : ¬ cl = 0 := c5
    rw [show bgF σ n (t + 1) cl = bmx (bitP cl) (fun b => wn σ b - bgF σ n t (clr cl b)) n from if_neg hne] at he
    exact WS.los [0, 1, 2, 3, 4] rfl (lp_X6_bestGain V d σ n hQ t hB cl X hx he 0 (Nat.zero_le n))
  · skip
    show WS layC V 5 X σ 8 [(0, rf V 5), (1, .int (nI (t + 1))), (2, .int cl)] []
    refine WS.iconst (v := 0) hx dX6_bestGain_8 (by decide) ?_
    exact WS.iret hx he dX6_bestGain_9 (Ro.i (if_pos (by simpa using c5)))
theorem c_X6_bestGain (V : Vt) (σ : Sg) (n : Nat) (hQ : QI σ n) : ∀ (t : Nat) (d : Nat), t ≤ 100 → ∀ cl : Int32, CT layC V mX6_bestGain (d + 2 * t + 3) [rf V 5, .int (nI t), .int cl] σ (Ro (bgF σ n t cl) σ)
  | 0, d, _, cl => c_X6_bestGain0 V (d + 2 * 0 + 3) σ n hQ cl
  | t + 1, d, ht, cl => by
    have h := c_X6_bestGainS V (d + 2 * t) σ n hQ t (by omega) (fun cl => c_X6_bestGain V σ n hQ t d (by omega) cl) cl
    rw [show d + 2 * t + 5 = d + 2 * (t + 1) + 3 by omega] at h
    exact h
set_option maxHeartbeats 1000000 in
theorem c_X6_gainOf (V : Vt) (d : Nat) (σ : Sg) (n : Nat) (hQ : QI σ n) (t : Nat) (ht : t ≤ 4) : CT layC V mX6_gainOf (d + 12) [rf V 5, .int (nI t)] σ (Ro (bgF σ n t (orW (fun b => decide (¬ σ.1 14 b = 1)) nI n)) σ) := by
  refine CT.of (own := RX6) rfl (by decide) (Nat.le_of_ble_eq_true rfl) (fun X (hx : Ok V RX6 cX6_gainOf 2 (d + 12) X) (he : En layC V (some .int) (Ro (bgF σ n t (orW (fun b => decide (¬ σ.1 14 b = 1)) nI n)) σ) X) => ?_)
  change WS layC V 2 X σ 0 [(0, rf V 5), (1, .int (nI t))] []
  refine WS.aload_n hx dX6_gainOf_0 rfl 0 rfl ?_
  refine WS.iload_n hx dX6_gainOf_1 rfl 1 rfl ?_
  refine WS.aload_n hx dX6_gainOf_2 rfl 0 rfl ?_
  refine WS.callVi (st := [.int (nI t), rf V 5]) [] hx (c_X6_closedBits V (d + 8) σ n hQ ) okX6_closedBits lm6_57 rfl rfl rfl rfl (Nat.le_of_ble_eq_true rfl) dX6_gainOf_3 (fun v1 σ2 h3 => ?_)
  obtain ⟨rfl, rfl⟩ := h3
  show WS layC V 2 X σ 6 [(0, rf V 5), (1, .int (nI t))] [.int (orW (fun b => decide (¬ σ.1 14 b = 1)) nI n), .int (nI t), rf V 5]
  refine WS.callVi (st := []) [.int (nI t), .int (orW (fun b => decide (¬ σ.1 14 b = 1)) nI n)] hx (by have h9 := c_X6_bestGain V σ n hQ t (d + 2 * (4 - t)) (by omega) (orW (fun b => decide (¬ σ.1 14 b = 1)) nI n); rw [show d + 2 * (4 - t) + 2 * t + 3 = d + 11 by omega] at h9; exact h9) okX6_bestGain lm6_110 rfl rfl rfl rfl (Nat.le_of_ble_eq_true rfl) dX6_gainOf_6 (fun v4 σ5 h6 => ?_)
  obtain ⟨rfl, rfl⟩ := h6
  show WS layC V 2 X σ 9 [(0, rf V 5), (1, .int (nI t))] [.int (bgF σ n t (orW (fun b => decide (¬ σ.1 14 b = 1)) nI n))]
  exact WS.iret hx he dX6_gainOf_9 (Ro.i rfl)
def fch (σ : Sg) (n t : Nat) (cl best : Int32) : Nat → Nat → Int32
  | 0, _ => 10
  | u + 1, i => if bitP cl i = true ∧ wn σ i - bgF σ n t (clr cl i) = best then nI i else fch σ n t cl best u (i + 1)
set_option maxHeartbeats 1000000 in
theorem lp_X6_firstChoice (V : Vt) (d : Nat) (σ : Sg) (n : Nat) (hQ : QI σ n) (t : Nat) (ht : t ≤ 3) (cl bt9 r : Int32) (X : Xt) (hx : Ok V RX6 cX6_firstChoice 5 (d + 13) X) (he : En layC V (some .int) (Ro r σ) X) : ∀ (u i : Nat), i + u = n → fch σ n t cl bt9 u i = r → WS layC V 5 X σ 14 [(4, .int (nI i)), (3, .int bt9), (2, .int cl), (0, rf V 5), (1, .int (nI (t + 1)))] [] := by
  have hB : ∀ cl : Int32, CT layC V mX6_bestGain (d + 8 + 3) [rf V 5, .int (nI t), .int cl] σ (Ro (bgF σ n t cl) σ) := fun cl => by
    have h9 := c_X6_bestGain V σ n hQ t (d + 8 - 2 * t) (by omega) cl
    rw [show d + 8 - 2 * t + 2 * t + 3 = d + 8 + 3 by omega] at h9
    exact h9
  have hn10 := hQ.n
  have hnI : (nI n).toInt = (n : Int) := nI_c (by omega)
  intro u
  induction u with
  | zero =>
    intro i hiu hr
    have hiI : (nI i).toInt = (i : Int) := nI_c (by omega)
    refine WS.iload hx dX6_firstChoice_14 0 rfl ?_
    refine WS.aload_n hx dX6_firstChoice_16 rfl 3 rfl ?_
    refine WS.getR hx okX6 lf6_21 rfl rfl dX6_firstChoice_17 ?_
    refine WS.callVi (st := [.int (nI i)]) [] hx (c_X7_size V (d + 12) σ n hQ) okX7_size lm6_34 rfl rfl rfl rfl (Nat.le_of_ble_eq_true rfl) dX6_firstChoice_20 (fun v1 σ2 h3 => ?_)
    obtain ⟨rfl, rfl⟩ := h3
    show WS layC V 5 X σ 23 [(4, .int (nI i)), (3, .int bt9), (2, .int cl), (0, rf V 5), (1, .int (nI (t + 1)))] [.int (nI n), .int (nI i)]
    refine WS.icmp_ge (tgt := 57) hx dX6_firstChoice_23 (by decide) (fun c23 => ?_) (fun c23 => by exfalso; (try simp only [i_le, i_lt, i_eq, tI_0, tI_1, tI_10] at c23); (try simp only [i_le, i_lt, i_eq, tI_0, tI_1, tI_10]); omega)
    refine WS.bipush (v := 10) hx dX6_firstChoice_57 (by decide) ?_
    exact WS.iret hx he dX6_firstChoice_59 (Ro.i (by rw [← hr]; rfl))
  | succ u ih =>
    intro i hiu hr
    have hiI : (nI i).toInt = (i : Int) := nI_c (by omega)
    unfold fch at hr
    refine WS.iload hx dX6_firstChoice_14 0 rfl ?_
    refine WS.aload_n hx dX6_firstChoice_16 rfl 3 rfl ?_
    refine WS.getR hx okX6 lf6_21 rfl rfl dX6_firstChoice_17 ?_
    refine WS.callVi (st := [.int (nI i)]) [] hx (c_X7_size V (d + 12) σ n hQ) okX7_size lm6_34 rfl rfl rfl rfl (Nat.le_of_ble_eq_true rfl) dX6_firstChoice_20 (fun v1 σ2 h3 => ?_)
    obtain ⟨rfl, rfl⟩ := h3
    show WS layC V 5 X σ 23 [(4, .int (nI i)), (3, .int bt9), (2, .int cl), (0, rf V 5), (1, .int (nI (t + 1)))] [.int (nI n), .int (nI i)]
    refine WS.icmp_ge (tgt := 57) hx dX6_firstChoice_23 (by decide) (fun c23 => by exfalso; (try simp only [i_le, i_lt, i_eq, tI_0, tI_1, tI_10] at c23); (try simp only [i_le, i_lt, i_eq, tI_0, tI_1, tI_10]); omega) (fun c23 => ?_)
    refine WS.iload_n hx dX6_firstChoice_26 rfl 2 rfl ?_
    refine WS.iload hx dX6_firstChoice_27 0 rfl ?_
    refine WS.ishr hx dX6_firstChoice_29 ?_
    refine WS.iconst (v := 1) hx dX6_firstChoice_30 (by decide) ?_
    refine WS.iand hx dX6_firstChoice_31 ?_
    refine WS.iconst (v := 1) hx dX6_firstChoice_32 (by decide) ?_
    refine WS.icmp_ne (tgt := 51) hx dX6_firstChoice_33 (by decide) (fun c33 => ?_) (fun c33 => ?_)
    · skip
      show WS layC V 5 X σ 51 [(4, .int (nI i)), (3, .int bt9), (2, .int cl), (0, rf V 5), (1, .int (nI (t + 1)))] []
      refine WS.iinc (v := nI (i + 1)) (lo' := [(4, .int (nI (i + 1))), (3, .int bt9), (2, .int cl), (0, rf V 5), (1, .int (nI (t + 1)))]) hx dX6_firstChoice_51 0 rfl (nI_1 i) (by decide) rfl ?_
      refine WS.goto (tgt := 14) hx dX6_firstChoice_54 (by decide) ?_
      rw [if_neg (by unfold bitP; rw [decide_eq_true_eq]; first | exact fun q => c33 q.1 | exact fun q => c45 q.2)] at hr
      exact WS.los [0, 1, 2, 3, 4] rfl (ih (i + 1) (by omega) hr)
    · skip
      show WS layC V 5 X σ 36 [(4, .int (nI i)), (3, .int bt9), (2, .int cl), (0, rf V 5), (1, .int (nI (t + 1)))] []
      refine WS.aload_n hx dX6_firstChoice_36 rfl 3 rfl ?_
      refine WS.iload hx dX6_firstChoice_37 0 rfl ?_
      refine WS.iload_n hx dX6_firstChoice_39 rfl 4 rfl ?_
      refine WS.iload_n hx dX6_firstChoice_40 rfl 2 rfl ?_
      refine WS.callVi (st := []) [.int (nI i), .int (nI (t + 1)), .int cl] hx (c_X6_gainBy V (d + 8) σ n hQ t hB i (by omega) cl) okX6_gainBy lm6_116 rfl rfl rfl rfl (Nat.le_of_ble_eq_true rfl) dX6_firstChoice_41 (fun v4 σ5 h6 => ?_)
      obtain ⟨rfl, rfl⟩ := h6
      show WS layC V 5 X σ 44 [(4, .int (nI i)), (3, .int bt9), (2, .int cl), (0, rf V 5), (1, .int (nI (t + 1)))] [.int (wn σ i - bgF σ n t (clr cl i))]
      refine WS.iload_n hx dX6_firstChoice_44 rfl 1 rfl ?_
      refine WS.icmp_ne (tgt := 51) hx dX6_firstChoice_45 (by decide) (fun c45 => ?_) (fun c45 => ?_)
      · skip
        show WS layC V 5 X σ 51 [(4, .int (nI i)), (3, .int bt9), (2, .int cl), (0, rf V 5), (1, .int (nI (t + 1)))] []
        refine WS.iinc (v := nI (i + 1)) (lo' := [(4, .int (nI (i + 1))), (3, .int bt9), (2, .int cl), (0, rf V 5), (1, .int (nI (t + 1)))]) hx dX6_firstChoice_51 0 rfl (nI_1 i) (by decide) rfl ?_
        refine WS.goto (tgt := 14) hx dX6_firstChoice_54 (by decide) ?_
        rw [if_neg (by unfold bitP; rw [decide_eq_true_eq]; first | exact fun q => c33 q.1 | exact fun q => c45 q.2)] at hr
        exact WS.los [0, 1, 2, 3, 4] rfl (ih (i + 1) (by omega) hr)
      · skip
        show WS layC V 5 X σ 48 [(4, .int (nI i)), (3, .int bt9), (2, .int cl), (0, rf V 5), (1, .int (nI (t + 1)))] []
        refine WS.iload hx dX6_firstChoice_48 0 rfl ?_
        exact WS.iret hx he dX6_firstChoice_50 (Ro.i (by rw [if_pos (by unfold bitP; rw [decide_eq_true_eq]; exact ⟨c33, c45⟩)] at hr; exact hr.symm))
set_option maxHeartbeats 1000000 in
theorem c_X6_firstChoice (V : Vt) (d : Nat) (σ : Sg) (n : Nat) (hQ : QI σ n) (t : Nat) (ht : t ≤ 3) : CT layC V mX6_firstChoice (d + 13) [rf V 5, .int (nI (t + 1))] σ (Ro (fch σ n t (orW (fun b => decide (¬ σ.1 14 b = 1)) nI n) (bgF σ n (t + 1) (orW (fun b => decide (¬ σ.1 14 b = 1)) nI n)) n 0) σ) := by
  refine CT.of (own := RX6) rfl (by decide) (Nat.le_of_ble_eq_true rfl) (fun X (hx : Ok V RX6 cX6_firstChoice 5 (d + 13) X) (he : En layC V (some .int) (Ro (fch σ n t (orW (fun b => decide (¬ σ.1 14 b = 1)) nI n) (bgF σ n (t + 1) (orW (fun b => decide (¬ σ.1 14 b = 1)) nI n)) n 0) σ) X) => ?_)
  change WS layC V 5 X σ 0 [(0, rf V 5), (1, .int (nI (t + 1)))] []
  refine WS.aload_n hx dX6_firstChoice_0 rfl 0 rfl ?_
  refine WS.callVi (st := []) [] hx (c_X6_closedBits V (d + 9) σ n hQ ) okX6_closedBits lm6_57 rfl rfl rfl rfl (Nat.le_of_ble_eq_true rfl) dX6_firstChoice_1 (fun v1 σ2 h3 => ?_)
  obtain ⟨rfl, rfl⟩ := h3
  show WS layC V 5 X σ 4 [(0, rf V 5), (1, .int (nI (t + 1)))] [.int (orW (fun b => decide (¬ σ.1 14 b = 1)) nI n)]
  refine WS.istore_n (lo' := [(2, .int (orW (fun b => decide (¬ σ.1 14 b = 1)) nI n)), (0, rf V 5), (1, .int (nI (t + 1)))]) hx dX6_firstChoice_4 rfl (by decide) rfl ?_
  refine WS.aload_n hx dX6_firstChoice_5 rfl 1 rfl ?_
  refine WS.iload_n hx dX6_firstChoice_6 rfl 2 rfl ?_
  refine WS.callVi (st := []) [.int (nI (t + 1))] hx (c_X6_gainOf V d σ n hQ (t + 1) (by omega)) okX6_gainOf lm6_113 rfl rfl rfl rfl (Nat.le_of_ble_eq_true rfl) dX6_firstChoice_7 (fun v4 σ5 h6 => ?_)
  obtain ⟨rfl, rfl⟩ := h6
  show WS layC V 5 X σ 10 [(2, .int (orW (fun b => decide (¬ σ.1 14 b = 1)) nI n)), (0, rf V 5), (1, .int (nI (t + 1)))] [.int (bgF σ n (t + 1) (orW (fun b => decide (¬ σ.1 14 b = 1)) nI n))]
  refine WS.istore_n (lo' := [(3, .int (bgF σ n (t + 1) (orW (fun b => decide (¬ σ.1 14 b = 1)) nI n))), (2, .int (orW (fun b => decide (¬ σ.1 14 b = 1)) nI n)), (0, rf V 5), (1, .int (nI (t + 1)))]) hx dX6_firstChoice_10 rfl (by decide) rfl ?_
  refine WS.iconst (v := 0) hx dX6_firstChoice_11 (by decide) ?_
  refine WS.istore (lo' := [(4, .int 0), (3, .int (bgF σ n (t + 1) (orW (fun b => decide (¬ σ.1 14 b = 1)) nI n))), (2, .int (orW (fun b => decide (¬ σ.1 14 b = 1)) nI n)), (0, rf V 5), (1, .int (nI (t + 1)))]) hx dX6_firstChoice_12 (by decide) rfl ?_
  exact WS.los [0, 1, 2, 3, 4] rfl (lp_X6_firstChoice V d σ n hQ t ht _ _ _ X hx he n 0 (Nat.zero_add n) rfl)

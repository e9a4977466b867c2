/-- thought by thought: how many steps from one to another, as first found; bits of those that hold; sums -/
def stp (L : Nat → Nat) (to : Nat) : Nat → Nat → Nat → Option Nat
  | 0, _, _ => none
  | f + 1, s, t => if t = to then some s else stp L to f (s + 1) (L t)
def oN (r : Option Nat) : Int32 := match r with
  | some s => nI s
  | none => -2
def orW (p : Nat → Bool) (v : Nat → Int32) : Nat → Int32
  | 0 => 0
  | k + 1 => if p k = true then orW p v k ||| ((1 : Int32) <<< (v k &&& 31)) else orW p v k
def itr (L : Nat → Nat) : Nat → Nat → Nat
  | 0, t => t
  | f + 1, t => itr L f (L t)
def ahd (L : Nat → Nat) : Nat → Nat → Nat → Nat
  | 0, _, _ => 16
  | f + 1, s, a => if (stp L a 16 0 (L a)).isSome = true then s else ahd L f (s + 1) (L a)
def Lc (σ : Sg) (t : Nat) : Nat := nn (σ.1 16 t)
theorem stp_lt {L : Nat → Nat} {to : Nat} : ∀ (f s t r : Nat), stp L to f s t = some r → s ≤ r ∧ r < s + f
  | 0, s, t, r, h => by simp [stp] at h
  | f + 1, s, t, r, h => by
    unfold stp at h
    split at h
    · cases h; omega
    · have := stp_lt f (s + 1) (L t) r h; omega
theorem oN_neg {L : Nat → Nat} {to f s t : Nat} (hf : s + f ≤ 1000) : (oN (stp L to f s t)).toInt < 0 ↔ ¬ (stp L to f s t).isSome = true := by
  cases h : stp L to f s t with
  | none => simp [oN]
  | some r =>
    have := stp_lt f s t r h
    simp [oN, nI_c (show r ≤ 2147483647 by omega)]
theorem QI.L {σ : Sg} {n t : Nat} (h : QI σ n) (ht : t < 16) : σ.1 16 t = nI (Lc σ t) ∧ Lc σ t < 16 := by
  have h1 := h.2.2.2.2.2.2.2.1 t ht
  exact ⟨h1.i, by have := h1.le; unfold Lc; omega⟩

def addQ (σ : Sg) (n : Nat) (b a l : Int32) : Sg := stI (stI (stI (stI σ 11 n b) 12 n a) 13 n l) 1 8 (nI (n + 1))
set_option maxHeartbeats 1000000 in
theorem c_X7_add (V : Vt) (d : Nat) (σ : Sg) (n : Nat) (hQ : QI σ n) (hlt : n < 10) (b a l : Int32) : CT layC V mX7_add (d + 1) [rf V 1, .int b, .int a, .int l] σ (Ri fun v σ' => nI n = v ∧ addQ σ n b a l = σ') := by
  refine CT.of (own := RX7) rfl (by decide) (Nat.le_of_ble_eq_true rfl) (fun X (hx : Ok V RX7 cX7_add 4 (d + 1) X) (he : En layC V (some .int) (Ri fun v σ' => nI n = v ∧ addQ σ n b a l = σ') X) => ?_)
  change WS layC V 4 X σ 0 [(0, rf V 1), (1, .int b), (2, .int a), (3, .int l)] []
  have hs := hQ.s
  have hv : vp_in (nI n) 10 := vp_in_nI hlt (by decide)
  refine WS.aload_n hx dX7_add_0 rfl 0 rfl ?_
  refine WS.callVi (st := []) [] hx (c_X7_isFull V d σ n hQ) okX7_isFull lm7_46 rfl rfl rfl rfl (Nat.le_of_ble_eq_true rfl) dX7_add_1 (fun v1 σ2 h3 => ?_)
  rcases h3 with ⟨rfl, rfl, hb1⟩ | ⟨rfl, rfl, hb1⟩
  · skip
    show WS layC V 4 X σ 4 [(0, rf V 1), (1, .int b), (2, .int a), (3, .int l)] [.int 1]
    refine WS.if_eq (tgt := 10) hx dX7_add_4 (by decide) (fun h => absurd h (by decide)) (fun _ => ?_)
    refine WS.bipush (v := (-3)) hx dX7_add_7 (by decide) ?_
    exact WS.iret hx he dX7_add_9 (by exfalso; omega)
  · skip
    show WS layC V 4 X σ 4 [(0, rf V 1), (1, .int b), (2, .int a), (3, .int l)] [.int 0]
    refine WS.if_eq (tgt := 10) hx dX7_add_4 (by decide) (fun _ => ?_) (fun h => absurd (by decide) h)
    refine WS.aload_n hx dX7_add_10 rfl 0 rfl ?_
    refine WS.getR hx okX7 lf7_9 rfl rfl dX7_add_11 ?_
    refine WS.aload_n hx dX7_add_14 rfl 0 rfl ?_
    refine WS.getI hx okX7 lf7_42 rfl rfl dX7_add_15 ?_
    refine WS.as rfl rfl (congrArg (fun z => Value.int z :: _) (show σ.1 1 8 = nI n from hs)) ?_
    skip
    refine WS.iload_n hx dX7_add_18 rfl 1 rfl ?_
    refine WS.iast hx rfl hv dX7_add_19 ?_
    refine WS.aload_n hx dX7_add_20 rfl 0 rfl ?_
    refine WS.getR hx okX7 lf7_15 rfl rfl dX7_add_21 ?_
    refine WS.aload_n hx dX7_add_24 rfl 0 rfl ?_
    refine WS.getI hx okX7 lf7_42 rfl rfl dX7_add_25 ?_
    refine WS.as rfl rfl (congrArg (fun z => Value.int z :: _) (show (stI σ 11 (nn (nI n)) b).1 1 8 = nI n from hs)) ?_
    skip
    refine WS.iload_n hx dX7_add_28 rfl 2 rfl ?_
    refine WS.iast hx rfl hv dX7_add_29 ?_
    refine WS.aload_n hx dX7_add_30 rfl 0 rfl ?_
    refine WS.getR hx okX7 lf7_18 rfl rfl dX7_add_31 ?_
    refine WS.aload_n hx dX7_add_34 rfl 0 rfl ?_
    refine WS.getI hx okX7 lf7_42 rfl rfl dX7_add_35 ?_
    refine WS.as rfl rfl (congrArg (fun z => Value.int z :: _) (show (stI (stI σ 11 (nn (nI n)) b) 12 (nn (nI n)) a).1 1 8 = nI n from hs)) ?_
    skip
    refine WS.iload_n hx dX7_add_38 rfl 3 rfl ?_
    refine WS.iast hx rfl hv dX7_add_39 ?_
    refine WS.aload_n hx dX7_add_40 rfl 0 rfl ?_
    refine WS.dup hx dX7_add_41 rfl ?_
    refine WS.getI hx okX7 lf7_42 rfl rfl dX7_add_42 ?_
    refine WS.as rfl rfl (congrArg (fun z => Value.int z :: _) (show (stI (stI (stI σ 11 (nn (nI n)) b) 12 (nn (nI n)) a) 13 (nn (nI n)) l).1 1 8 = nI n from hs)) ?_
    skip
    refine WS.iconst (v := 1) hx dX7_add_45 (by decide) ?_
    refine WS.iadd hx dX7_add_46 ?_
    refine WS.putI hx okX7 lf7_42 rfl rfl rfl rfl dX7_add_47 ?_
    refine WS.aload_n hx dX7_add_50 rfl 0 rfl ?_
    refine WS.getI hx okX7 lf7_42 rfl rfl dX7_add_51 ?_
    refine WS.iconst (v := 1) hx dX7_add_54 (by decide) ?_
    refine WS.isub hx dX7_add_55 ?_
    exact WS.iret hx he dX7_add_56 ⟨_, rfl, by show nI n = nI n + 1 - 1; rw [Int32.add_sub_cancel], by unfold addQ; rw [← nI_1]; simp only [nI_clamp (show n < 2 ^ 31 by omega)]⟩
set_option maxHeartbeats 1000000 in
theorem lp_X7_openOnes (V : Vt) (d : Nat) (σ : Sg) (n : Nat) (hn : n ≤ 10) (hs : σ.1 1 8 = nI n) (X : Xt) (hx : Ok V RX7 cX7_openOnes 3 d X) (he : En layC V (some .int) (Ro (l_sum (σ.1 14) n) σ) X) : ∀ i : Nat, i ≤ n → WS layC V 3 X σ 4 [(2, .int (nI i)), (1, .int (l_sum (σ.1 14) i)), (0, rf V 1)] [] := by
  intro i
  induction hm : n - i using Nat.strongRecOn generalizing i with
  | _ m ih =>
    intro hi
    have hiI : (nI i).toInt = (i : Int) := nI_c (by omega)
    have hnI : (nI n).toInt = (n : Int) := nI_c (by omega)
    refine WS.iload_n hx dX7_openOnes_4 rfl 0 rfl ?_
    refine WS.aload_n hx dX7_openOnes_5 rfl 2 rfl ?_
    refine WS.getI hx okX7 lf7_42 rfl rfl dX7_openOnes_6 ?_
    refine WS.as rfl rfl (congrArg (fun z => Value.int z :: _) (show σ.1 1 8 = nI n from hs)) ?_
    skip
    refine WS.icmp_ge (tgt := 27) hx dX7_openOnes_9 (by decide) (fun c9 => ?_) (fun c9 => ?_)
    · skip
      show WS layC V 3 X σ 27 [(2, .int (nI i)), (1, .int (l_sum (σ.1 14) i)), (0, rf V 1)] []
      refine WS.iload_n hx dX7_openOnes_27 rfl 1 rfl ?_
      exact WS.iret hx he dX7_openOnes_28 (Ro.i (by rw [show n = i by (try simp only [i_le, i_lt, i_eq, tI_0, tI_1] at c9); (try simp only [i_le, i_lt, i_eq, tI_0, tI_1]); omega]))
    · skip
      show WS layC V 3 X σ 12 [(2, .int (nI i)), (1, .int (l_sum (σ.1 14) i)), (0, rf V 1)] []
      refine WS.iload_n hx dX7_openOnes_12 rfl 1 rfl ?_
      refine WS.aload_n hx dX7_openOnes_13 rfl 2 rfl ?_
      refine WS.getR hx okX7 lf7_21 rfl rfl dX7_openOnes_14 ?_
      refine WS.iload_n hx dX7_openOnes_17 rfl 0 rfl ?_
      refine WS.iald hx rfl (vp_in_nI (by (try simp only [i_le, i_lt, i_eq, tI_0, tI_1] at c9); (try simp only [i_le, i_lt, i_eq, tI_0, tI_1]); omega) (by decide)) dX7_openOnes_18 ?_
      refine WS.as rfl rfl (congrArg (fun z => Value.int z :: _) (show σ.1 14 (nn (nI i)) = σ.1 14 i from by rw [nn_nI (by omega)])) ?_
      skip
      refine WS.iadd hx dX7_openOnes_19 ?_
      refine WS.istore_n (lo' := [(1, .int ((l_sum (σ.1 14) i) + (σ.1 14 i))), (2, .int (nI i)), (0, rf V 1)]) hx dX7_openOnes_20 rfl (by decide) rfl ?_
      refine WS.iinc (v := nI (i + 1)) (lo' := [(2, .int (nI (i + 1))), (1, .int ((l_sum (σ.1 14) i) + (σ.1 14 i))), (0, rf V 1)]) hx dX7_openOnes_21 1 rfl (nI_1 i) (by decide) rfl ?_
      refine WS.goto (tgt := 4) hx dX7_openOnes_24 (by decide) ?_
      refine WS.los [0, 1, 2] rfl ?_
      exact ih (n - (i + 1)) (by (try simp only [i_le, i_lt, i_eq, tI_0, tI_1] at c9); (try simp only [i_le, i_lt, i_eq, tI_0, tI_1]); omega) (i + 1) rfl (by (try simp only [i_le, i_lt, i_eq, tI_0, tI_1] at c9); (try simp only [i_le, i_lt, i_eq, tI_0, tI_1]); omega)
set_option maxHeartbeats 1000000 in
theorem c_X7_openOnes (V : Vt) (d : Nat) (σ : Sg) (n : Nat) (hQ : QI σ n) : CT layC V mX7_openOnes (d) [rf V 1] σ (Ro (l_sum (σ.1 14) n) σ) := by
  refine CT.of (own := RX7) rfl (by decide) (Nat.le_of_ble_eq_true rfl) (fun X (hx : Ok V RX7 cX7_openOnes 3 (d) X) (he : En layC V (some .int) (Ro (l_sum (σ.1 14) n) σ) X) => ?_)
  change WS layC V 3 X σ 0 [(0, rf V 1)] []
  refine WS.iconst (v := 0) hx dX7_openOnes_0 (by decide) ?_
  refine WS.istore_n (lo' := [(1, .int 0), (0, rf V 1)]) hx dX7_openOnes_1 rfl (by decide) rfl ?_
  refine WS.iconst (v := 0) hx dX7_openOnes_2 (by decide) ?_
  refine WS.istore_n (lo' := [(2, .int 0), (1, .int 0), (0, rf V 1)]) hx dX7_openOnes_3 rfl (by decide) rfl ?_
  exact lp_X7_openOnes V d σ n hQ.n hQ.s X hx he 0 (Nat.zero_le n)
def bitP (x : Int32) (k : Nat) : Bool := decide ((x >>> (nI k &&& 31)) &&& 1 = 1)
set_option maxHeartbeats 1000000 in
theorem lp_X7_wordsAt (V : Vt) (d : Nat) (σ : Sg) (x : Int32) (X : Xt) (hx : Ok V RX7 cX7_wordsAt 4 d X) (he : En layC V (some .int) (Ro (orW (bitP x) (σ.1 17) 16) σ) X) : ∀ i : Nat, i ≤ 16 → WS layC V 4 X σ 4 [(3, .int (nI i)), (2, .int (orW (bitP x) (σ.1 17) i)), (0, rf V 1), (1, .int x)] [] := by
  intro i
  induction hm : 16 - i using Nat.strongRecOn generalizing i with
  | _ m ih =>
    intro hi
    have hiI : (nI i).toInt = (i : Int) := nI_c (by omega)
    refine WS.iload_n hx dX7_wordsAt_4 rfl 0 rfl ?_
    refine WS.bipush (v := 16) hx dX7_wordsAt_5 (by decide) ?_
    refine WS.icmp_ge (tgt := 36) hx dX7_wordsAt_7 (by decide) (fun c7 => ?_) (fun c7 => ?_)
    · skip
      show WS layC V 4 X σ 36 [(3, .int (nI i)), (2, .int (orW (bitP x) (σ.1 17) i)), (0, rf V 1), (1, .int x)] []
      refine WS.iload_n hx dX7_wordsAt_36 rfl 1 rfl ?_
      exact WS.iret hx he dX7_wordsAt_37 (Ro.i (by rw [show i = 16 by (try simp only [i_le, i_lt, i_eq, tI_0, tI_1, tI_16] at c7); (try simp only [i_le, i_lt, i_eq, tI_0, tI_1, tI_16]); omega]))
    · skip
      show WS layC V 4 X σ 10 [(3, .int (nI i)), (2, .int (orW (bitP x) (σ.1 17) i)), (0, rf V 1), (1, .int x)] []
      refine WS.iload_n hx dX7_wordsAt_10 rfl 3 rfl ?_
      refine WS.iload_n hx dX7_wordsAt_11 rfl 0 rfl ?_
      refine WS.ishr hx dX7_wordsAt_12 ?_
      refine WS.iconst (v := 1) hx dX7_wordsAt_13 (by decide) ?_
      refine WS.iand hx dX7_wordsAt_14 ?_
      refine WS.iconst (v := 1) hx dX7_wordsAt_15 (by decide) ?_
      refine WS.icmp_ne (tgt := 30) hx dX7_wordsAt_16 (by decide) (fun c16 => ?_) (fun c16 => ?_)
      · skip
        show WS layC V 4 X σ 30 [(3, .int (nI i)), (2, .int (orW (bitP x) (σ.1 17) i)), (0, rf V 1), (1, .int x)] []
        have hw : orW (bitP x) (σ.1 17) (i + 1) = orW (bitP x) (σ.1 17) i := if_neg (by unfold bitP; rw [decide_eq_true_eq]; exact c16)
        refine WS.iinc (v := nI (i + 1)) (lo' := [(3, .int (nI (i + 1))), (2, .int (orW (bitP x) (σ.1 17) i)), (0, rf V 1), (1, .int x)]) hx dX7_wordsAt_30 0 rfl (nI_1 i) (by decide) rfl ?_
        refine WS.goto (tgt := 4) hx dX7_wordsAt_33 (by decide) ?_
        have h9 := ih (16 - (i + 1)) (by (try simp only [i_le, i_lt, i_eq, tI_0, tI_1, tI_16] at c7); (try simp only [i_le, i_lt, i_eq, tI_0, tI_1, tI_16] at c16); (try simp only [i_le, i_lt, i_eq, tI_0, tI_1, tI_16]); omega) (i + 1) rfl (by (try simp only [i_le, i_lt, i_eq, tI_0, tI_1, tI_16] at c7); (try simp only [i_le, i_lt, i_eq, tI_0, tI_1, tI_16] at c16); (try simp only [i_le, i_lt, i_eq, tI_0, tI_1, tI_16]); omega)
        rw [hw] at h9
        first | exact WS.los [0, 1, 2, 3] rfl h9 | exact h9
      · skip
        show WS layC V 4 X σ 19 [(3, .int (nI i)), (2, .int (orW (bitP x) (σ.1 17) i)), (0, rf V 1), (1, .int x)] []
        have hw : orW (bitP x) (σ.1 17) (i + 1) = orW (bitP x) (σ.1 17) i ||| ((1 : Int32) <<< (σ.1 17 i &&& 31)) := if_pos (by unfold bitP; rw [decide_eq_true_eq]; exact c16)
        refine WS.iload_n hx dX7_wordsAt_19 rfl 1 rfl ?_
        refine WS.iconst (v := 1) hx dX7_wordsAt_20 (by decide) ?_
        refine WS.aload_n hx dX7_wordsAt_21 rfl 2 rfl ?_
        refine WS.getR hx okX7 lf7_30 rfl rfl dX7_wordsAt_22 ?_
        refine WS.iload_n hx dX7_wordsAt_25 rfl 0 rfl ?_
        refine WS.iald hx rfl (vp_in_nI (by (try simp only [i_le, i_lt, i_eq, tI_0, tI_1, tI_16] at c7); (try simp only [i_le, i_lt, i_eq, tI_0, tI_1, tI_16] at c16); (try simp only [i_le, i_lt, i_eq, tI_0, tI_1, tI_16]); omega) (by decide)) dX7_wordsAt_26 ?_
        refine WS.as rfl rfl (congrArg (fun z => Value.int z :: _) (show σ.1 17 (nn (nI i)) = σ.1 17 i from by rw [nn_nI (by omega)])) ?_
        skip
        refine WS.ishl hx dX7_wordsAt_27 ?_
        refine WS.ior hx dX7_wordsAt_28 ?_
        refine WS.istore_n (lo' := [(2, .int ((orW (bitP x) (σ.1 17) i) ||| (1 <<< ((σ.1 17 i) &&& 31)))), (3, .int (nI i)), (0, rf V 1), (1, .int x)]) hx dX7_wordsAt_29 rfl (by decide) rfl ?_
        refine WS.iinc (v := nI (i + 1)) (lo' := [(3, .int (nI (i + 1))), (2, .int ((orW (bitP x) (σ.1 17) i) ||| (1 <<< ((σ.1 17 i) &&& 31)))), (0, rf V 1), (1, .int x)]) hx dX7_wordsAt_30 1 rfl (nI_1 i) (by decide) rfl ?_
        refine WS.goto (tgt := 4) hx dX7_wordsAt_33 (by decide) ?_
        have h9 := ih (16 - (i + 1)) (by (try simp only [i_le, i_lt, i_eq, tI_0, tI_1, tI_16] at c7); (try simp only [i_le, i_lt, i_eq, tI_0, tI_1, tI_16] at c16); (try simp only [i_le, i_lt, i_eq, tI_0, tI_1, tI_16]); omega) (i + 1) rfl (by (try simp only [i_le, i_lt, i_eq, tI_0, tI_1, tI_16] at c7); (try simp only [i_le, i_lt, i_eq, tI_0, tI_1, tI_16] at c16); (try simp only [i_le, i_lt, i_eq, tI_0, tI_1, tI_16]); omega)
        rw [hw] at h9
        first | exact WS.los [0, 1, 2, 3] rfl h9 | exact h9
set_option maxHeartbeats 1000000 in
theorem c_X7_wordsAt (V : Vt) (d : Nat) (σ : Sg) (x : Int32) : CT layC V mX7_wordsAt (d) [rf V 1, .int x] σ (Ro (orW (bitP x) (σ.1 17) 16) σ) := by
  refine CT.of (own := RX7) rfl (by decide) (Nat.le_of_ble_eq_true rfl) (fun X (hx : Ok V RX7 cX7_wordsAt 4 (d) X) (he : En layC V (some .int) (Ro (orW (bitP x) (σ.1 17) 16) σ) X) => ?_)
  change WS layC V 4 X σ 0 [(0, rf V 1), (1, .int x)] []
  refine WS.iconst (v := 0) hx dX7_wordsAt_0 (by decide) ?_
  refine WS.istore_n (lo' := [(2, .int 0), (0, rf V 1), (1, .int x)]) hx dX7_wordsAt_1 rfl (by decide) rfl ?_
  refine WS.iconst (v := 0) hx dX7_wordsAt_2 (by decide) ?_
  refine WS.istore_n (lo' := [(3, .int 0), (2, .int 0), (0, rf V 1), (1, .int x)]) hx dX7_wordsAt_3 rfl (by decide) rfl ?_
  exact lp_X7_wordsAt V d σ x X hx he 0 (by decide)
set_option maxHeartbeats 1000000 in
theorem lp_X7_stepsBetween (V : Vt) (d : Nat) (σ : Sg) (n : Nat) (hQ : QI σ n) (f t : Nat) (ht : t < 16) (r : Option Nat) (X : Xt) (hx : Ok V RX7 cX7_stepsBetween 5 (d + 1) X) (he : En layC V (some .int) (Ro (oN r) σ) X) : ∀ (k s c : Nat), s + k = 16 → c < 16 → stp (Lc σ) t k s c = r → WS layC V 5 X σ 5 [(4, .int (nI s)), (3, .int (nI c)), (0, rf V 1), (1, .int (nI f)), (2, .int (nI t))] [] := by
  intro k
  induction k with
  | zero =>
    intro s c hsk hc hr
    have hsI : (nI s).toInt = (s : Int) := nI_c (by omega)
    refine WS.iload hx dX7_stepsBetween_5 0 rfl ?_
    refine WS.bipush (v := 16) hx dX7_stepsBetween_7 (by decide) ?_
    refine WS.icmp_ge (tgt := 32) hx dX7_stepsBetween_9 (by decide) (fun c9 => ?_) (fun c9 => by exfalso; rw [i_le, hsI, tI_16] at c9; omega)
    refine WS.bipush (v := (-2)) hx dX7_stepsBetween_32 (by decide) ?_
    exact WS.iret hx he dX7_stepsBetween_34 (Ro.i (by rw [← hr]; rfl))
  | succ k ih =>
    intro s c hsk hc hr
    have hsI : (nI s).toInt = (s : Int) := nI_c (by omega)
    have hcI : (nI c).toInt = (c : Int) := nI_c (by omega)
    have htI : (nI t).toInt = (t : Int) := nI_c (by omega)
    obtain ⟨hL1, hL2⟩ := hQ.L hc
    unfold stp at hr
    refine WS.iload hx dX7_stepsBetween_5 0 rfl ?_
    refine WS.bipush (v := 16) hx dX7_stepsBetween_7 (by decide) ?_
    refine WS.icmp_ge (tgt := 32) hx dX7_stepsBetween_9 (by decide) (fun c9 => by exfalso; (try simp only [i_le, i_lt, i_eq, tI_m2, tI_0, tI_1, tI_16] at c9); (try simp only [i_le, i_lt, i_eq, tI_m2, tI_0, tI_1, tI_16]); omega) (fun c9 => ?_)
    refine WS.iload_n hx dX7_stepsBetween_12 rfl 1 rfl ?_
    refine WS.iload_n hx dX7_stepsBetween_13 rfl 4 rfl ?_
    refine WS.icmp_ne (tgt := 20) hx dX7_stepsBetween_14 (by decide) (fun c14 => ?_) (fun c14 => ?_)
    · skip
      show WS layC V 5 X σ 20 [(4, .int (nI s)), (3, .int (nI c)), (0, rf V 1), (1, .int (nI f)), (2, .int (nI t))] []
      refine WS.aload_n hx dX7_stepsBetween_20 rfl 2 rfl ?_
      refine WS.iload_n hx dX7_stepsBetween_21 rfl 1 rfl ?_
      refine WS.callVi (st := []) [.int (nI c)] hx (c_X7_leadsFrom V d σ c hc) okX7_leadsFrom lm7_76 rfl rfl rfl rfl (Nat.le_of_ble_eq_true rfl) dX7_stepsBetween_22 (fun v1 σ2 h3 => ?_)
      obtain ⟨rfl, rfl⟩ := h3
      
      show WS layC V 5 X σ 25 [(4, .int (nI s)), (3, .int (nI c)), (0, rf V 1), (1, .int (nI f)), (2, .int (nI t))] [.int (σ.1 16 c)]
      refine WS.as rfl rfl (congrArg (fun z => Value.int z :: _) (show σ.1 16 c = nI (Lc σ c) from hL1)) ?_
      skip
      refine WS.istore_n (lo' := [(3, .int (nI (Lc σ c))), (4, .int (nI s)), (0, rf V 1), (1, .int (nI f)), (2, .int (nI t))]) hx dX7_stepsBetween_25 rfl (by decide) rfl ?_
      refine WS.iinc (v := nI (s + 1)) (lo' := [(4, .int (nI (s + 1))), (3, .int (nI (Lc σ c))), (0, rf V 1), (1, .int (nI f)), (2, .int (nI t))]) hx dX7_stepsBetween_26 1 rfl (nI_1 s) (by decide) rfl ?_
      refine WS.goto (tgt := 5) hx dX7_stepsBetween_29 (by decide) ?_
      rw [if_neg (by (try simp only [i_le, i_lt, i_eq, tI_m2, tI_0, tI_1, tI_16] at c9); (try simp only [i_le, i_lt, i_eq, tI_m2, tI_0, tI_1, tI_16] at c14); (try simp only [i_le, i_lt, i_eq, tI_m2, tI_0, tI_1, tI_16]); omega)] at hr
      exact WS.los [0, 1, 2, 3, 4] rfl (ih (s + 1) (Lc σ c) (by omega) hL2 hr)
    · skip
      show WS layC V 5 X σ 17 [(4, .int (nI s)), (3, .int (nI c)), (0, rf V 1), (1, .int (nI f)), (2, .int (nI t))] []
      refine WS.iload hx dX7_stepsBetween_17 0 rfl ?_
      exact WS.iret hx he dX7_stepsBetween_19 (Ro.i (by rw [if_pos (by (try simp only [i_le, i_lt, i_eq, tI_m2, tI_0, tI_1, tI_16] at c9); (try simp only [i_le, i_lt, i_eq, tI_m2, tI_0, tI_1, tI_16] at c14); (try simp only [i_le, i_lt, i_eq, tI_m2, tI_0, tI_1, tI_16]); omega)] at hr; rw [← hr]; rfl))
set_option maxHeartbeats 1000000 in
theorem c_X7_stepsBetween (V : Vt) (d : Nat) (σ : Sg) (n : Nat) (hQ : QI σ n) (f t : Nat) (hf : f < 16) (ht : t < 16) : CT layC V mX7_stepsBetween (d + 1) [rf V 1, .int (nI f), .int (nI t)] σ (Ro (oN (stp (Lc σ) t 16 0 f)) σ) := by
  refine CT.of (own := RX7) rfl (by decide) (Nat.le_of_ble_eq_true rfl) (fun X (hx : Ok V RX7 cX7_stepsBetween 5 (d + 1) X) (he : En layC V (some .int) (Ro (oN (stp (Lc σ) t 16 0 f)) σ) X) => ?_)
  change WS layC V 5 X σ 0 [(0, rf V 1), (1, .int (nI f)), (2, .int (nI t))] []
  refine WS.iload_n hx dX7_stepsBetween_0 rfl 1 rfl ?_
  refine WS.istore_n (lo' := [(3, .int (nI f)), (0, rf V 1), (1, .int (nI f)), (2, .int (nI t))]) hx dX7_stepsBetween_1 rfl (by decide) rfl ?_
  refine WS.iconst (v := 0) hx dX7_stepsBetween_2 (by decide) ?_
  refine WS.istore (lo' := [(4, .int 0), (3, .int (nI f)), (0, rf V 1), (1, .int (nI f)), (2, .int (nI t))]) hx dX7_stepsBetween_3 (by decide) rfl ?_
  exact lp_X7_stepsBetween V d σ n hQ f t ht _ X hx he 16 0 f rfl hf rfl
set_option maxHeartbeats 1000000 in
theorem lp_X7_leadingTo (V : Vt) (d : Nat) (σ : Sg) (n : Nat) (hQ : QI σ n) (t : Nat) (ht : t < 16) (X : Xt) (hx : Ok V RX7 cX7_leadingTo 4 (d + 2) X) (he : En layC V (some .int) (Ro (orW (fun j => (stp (Lc σ) t 16 0 j).isSome) nI 16) σ) X) : ∀ i : Nat, i ≤ 16 → WS layC V 4 X σ 4 [(3, .int (nI i)), (2, .int (orW (fun j => (stp (Lc σ) t 16 0 j).isSome) nI i)), (0, rf V 1), (1, .int (nI t))] [] := by
  intro i
  induction hm : 16 - i using Nat.strongRecOn generalizing i with
  | _ m ih =>
    intro hi
    have hiI : (nI i).toInt = (i : Int) := nI_c (by omega)
    refine WS.iload_n hx dX7_leadingTo_4 rfl 0 rfl ?_
    refine WS.bipush (v := 16) hx dX7_leadingTo_5 (by decide) ?_
    refine WS.icmp_ge (tgt := 31) hx dX7_leadingTo_7 (by decide) (fun c7 => ?_) (fun c7 => ?_)
    · skip
      show WS layC V 4 X σ 31 [(3, .int (nI i)), (2, .int (orW (fun j => (stp (Lc σ) t 16 0 j).isSome) nI i)), (0, rf V 1), (1, .int (nI t))] []
      refine WS.iload_n hx dX7_leadingTo_31 rfl 1 rfl ?_
      exact WS.iret hx he dX7_leadingTo_32 (Ro.i (by rw [show i = 16 by (try simp only [i_le, i_lt, i_eq, tI_0, tI_1, tI_16] at c7); (try simp only [i_le, i_lt, i_eq, tI_0, tI_1, tI_16]); omega]))
    · skip
      show WS layC V 4 X σ 10 [(3, .int (nI i)), (2, .int (orW (fun j => (stp (Lc σ) t 16 0 j).isSome) nI i)), (0, rf V 1), (1, .int (nI t))] []
      refine WS.aload_n hx dX7_leadingTo_10 rfl 2 rfl ?_
      refine WS.iload_n hx dX7_leadingTo_11 rfl 0 rfl ?_
      refine WS.iload_n hx dX7_leadingTo_12 rfl 3 rfl ?_
      refine WS.callVi (st := []) [.int (nI i), .int (nI t)] hx (c_X7_stepsBetween V d σ n hQ i t (by (try simp only [i_le, i_lt, i_eq, tI_0, tI_1, tI_16] at c7); (try simp only [i_le, i_lt, i_eq, tI_0, tI_1, tI_16]); omega) ht) okX7_stepsBetween lm7_79 rfl rfl rfl rfl (Nat.le_of_ble_eq_true rfl) dX7_leadingTo_13 (fun v1 σ2 h3 => ?_)
      obtain ⟨rfl, rfl⟩ := h3
      show WS layC V 4 X σ 16 [(3, .int (nI i)), (2, .int (orW (fun j => (stp (Lc σ) t 16 0 j).isSome) nI i)), (0, rf V 1), (1, .int (nI t))] [.int (oN (stp (Lc σ) t 16 0 i))]
      refine WS.if_lt (tgt := 25) hx dX7_leadingTo_16 (by decide) (fun c16 => ?_) (fun c16 => ?_)
      · skip
        show WS layC V 4 X σ 25 [(3, .int (nI i)), (2, .int (orW (fun j => (stp (Lc σ) t 16 0 j).isSome) nI i)), (0, rf V 1), (1, .int (nI t))] []
        have hw : orW (fun j => (stp (Lc σ) t 16 0 j).isSome) nI (i + 1) = orW (fun j => (stp (Lc σ) t 16 0 j).isSome) nI i := if_neg ((oN_neg (by decide)).mp (by simpa only [i_lt, tI_0] using c16))
        refine WS.iinc (v := nI (i + 1)) (lo' := [(3, .int (nI (i + 1))), (2, .int (orW (fun j => (stp (Lc σ) t 16 0 j).isSome) nI i)), (0, rf V 1), (1, .int (nI t))]) hx dX7_leadingTo_25 0 rfl (nI_1 i) (by decide) rfl ?_
        refine WS.goto (tgt := 4) hx dX7_leadingTo_28 (by decide) ?_
        have h9 := ih (16 - (i + 1)) (by (try simp only [i_le, i_lt, i_eq, tI_0, tI_1, tI_16] at c7); (try simp only [i_le, i_lt, i_eq, tI_0, tI_1, tI_16] at c16); (try simp only [i_le, i_lt, i_eq, tI_0, tI_1, tI_16]); omega) (i + 1) rfl (by (try simp only [i_le, i_lt, i_eq, tI_0, tI_1, tI_16] at c7); (try simp only [i_le, i_lt, i_eq, tI_0, tI_1, tI_16] at c16); (try simp only [i_le, i_lt, i_eq, tI_0, tI_1, tI_16]); omega)
        rw [hw] at h9
        first | exact WS.los [0, 1, 2, 3] rfl h9 | exact h9
      · skip
        show WS layC V 4 X σ 19 [(3, .int (nI i)), (2, .int (orW (fun j => (stp (Lc σ) t 16 0 j).isSome) nI i)), (0, rf V 1), (1, .int (nI t))] []
        have hw : orW (fun j => (stp (Lc σ) t 16 0 j).isSome) nI (i + 1) = orW (fun j => (stp (Lc σ) t 16 0 j).isSome) nI i ||| ((1 : Int32) <<< (nI i &&& 31)) := if_pos (by have h8 := mt (oN_neg (L := Lc σ) (to := t) (f := 16) (s := 0) (t := i) (by decide)).mpr (by simpa only [i_lt, tI_0] using c16); exact Decidable.not_not.mp h8)
        refine WS.iload_n hx dX7_leadingTo_19 rfl 1 rfl ?_
        refine WS.iconst (v := 1) hx dX7_leadingTo_20 (by decide) ?_
        refine WS.iload_n hx dX7_leadingTo_21 rfl 0 rfl ?_
        refine WS.ishl hx dX7_leadingTo_22 ?_
        refine WS.ior hx dX7_leadingTo_23 ?_
        refine WS.istore_n (lo' := [(2, .int ((orW (fun j => (stp (Lc σ) t 16 0 j).isSome) nI i) ||| (1 <<< ((nI i) &&& 31)))), (3, .int (nI i)), (0, rf V 1), (1, .int (nI t))]) hx dX7_leadingTo_24 rfl (by decide) rfl ?_
        refine WS.iinc (v := nI (i + 1)) (lo' := [(3, .int (nI (i + 1))), (2, .int ((orW (fun j => (stp (Lc σ) t 16 0 j).isSome) nI i) ||| (1 <<< ((nI i) &&& 31)))), (0, rf V 1), (1, .int (nI t))]) hx dX7_leadingTo_25 1 rfl (nI_1 i) (by decide) rfl ?_
        refine WS.goto (tgt := 4) hx dX7_leadingTo_28 (by decide) ?_
        have h9 := ih (16 - (i + 1)) (by (try simp only [i_le, i_lt, i_eq, tI_0, tI_1, tI_16] at c7); (try simp only [i_le, i_lt, i_eq, tI_0, tI_1, tI_16] at c16); (try simp only [i_le, i_lt, i_eq, tI_0, tI_1, tI_16]); omega) (i + 1) rfl (by (try simp only [i_le, i_lt, i_eq, tI_0, tI_1, tI_16] at c7); (try simp only [i_le, i_lt, i_eq, tI_0, tI_1, tI_16] at c16); (try simp only [i_le, i_lt, i_eq, tI_0, tI_1, tI_16]); omega)
        rw [hw] at h9
        first | exact WS.los [0, 1, 2, 3] rfl h9 | exact h9
set_option maxHeartbeats 1000000 in
theorem c_X7_leadingTo (V : Vt) (d : Nat) (σ : Sg) (n : Nat) (hQ : QI σ n) (t : Nat) (ht : t < 16) : CT layC V mX7_leadingTo (d + 2) [rf V 1, .int (nI t)] σ (Ro (orW (fun j => (stp (Lc σ) t 16 0 j).isSome) nI 16) σ) := by
  refine CT.of (own := RX7) rfl (by decide) (Nat.le_of_ble_eq_true rfl) (fun X (hx : Ok V RX7 cX7_leadingTo 4 (d + 2) X) (he : En layC V (some .int) (Ro (orW (fun j => (stp (Lc σ) t 16 0 j).isSome) nI 16) σ) X) => ?_)
  change WS layC V 4 X σ 0 [(0, rf V 1), (1, .int (nI t))] []
  refine WS.iconst (v := 0) hx dX7_leadingTo_0 (by decide) ?_
  refine WS.istore_n (lo' := [(2, .int 0), (0, rf V 1), (1, .int (nI t))]) hx dX7_leadingTo_1 rfl (by decide) rfl ?_
  refine WS.iconst (v := 0) hx dX7_leadingTo_2 (by decide) ?_
  refine WS.istore_n (lo' := [(3, .int 0), (2, .int 0), (0, rf V 1), (1, .int (nI t))]) hx dX7_leadingTo_3 rfl (by decide) rfl ?_
  exact lp_X7_leadingTo V d σ n hQ t ht X hx he 0 (by decide)
theorem itr_s (L : Nat → Nat) : ∀ (k t : Nat), itr L (k + 1) t = L (itr L k t)
  | 0, t => rfl
  | k + 1, t => itr_s L k (L t)
def ringC (L : Nat → Nat) (t : Nat) : Int32 := oN (stp L (itr L 16 t) 16 0 (L (itr L 16 t))) + 1
set_option maxHeartbeats 1000000 in
theorem lp_X7_ringOf (V : Vt) (d : Nat) (σ : Sg) (n : Nat) (hQ : QI σ n) (t : Nat) (X : Xt) (hx : Ok V RX7 cX7_ringOf 4 (d + 2) X) (he : En layC V (some .int) (Ro (ringC (Lc σ) t) σ) X) : ∀ i : Nat, i ≤ 16 → itr (Lc σ) i t < 16 → WS layC V 4 X σ 4 [(3, .int (nI i)), (2, .int (nI (itr (Lc σ) i t))), (0, rf V 1), (1, .int (nI t))] [] := by
  intro i
  induction hm : 16 - i using Nat.strongRecOn generalizing i with
  | _ m ih =>
    intro hi hc
    have hiI : (nI i).toInt = (i : Int) := nI_c (by omega)
    obtain ⟨hL1, hL2⟩ := hQ.L hc
    rw [← itr_s (Lc σ)] at hL1 hL2
    refine WS.iload_n hx dX7_ringOf_4 rfl 0 rfl ?_
    refine WS.bipush (v := 16) hx dX7_ringOf_5 (by decide) ?_
    refine WS.icmp_ge (tgt := 22) hx dX7_ringOf_7 (by decide) (fun c7 => ?_) (fun c7 => ?_)
    · skip
      show WS layC V 4 X σ 22 [(3, .int (nI i)), (2, .int (nI (itr (Lc σ) i t))), (0, rf V 1), (1, .int (nI t))] []
      refine WS.aload_n hx dX7_ringOf_22 rfl 2 rfl ?_
      refine WS.aload_n hx dX7_ringOf_23 rfl 2 rfl ?_
      refine WS.iload_n hx dX7_ringOf_24 rfl 1 rfl ?_
      refine WS.callVi (st := [rf V 1]) [.int (nI (itr (Lc σ) i t))] hx (c_X7_leadsFrom V (d + 1) σ (itr (Lc σ) i t) hc) okX7_leadsFrom lm7_76 rfl rfl rfl rfl (Nat.le_of_ble_eq_true rfl) dX7_ringOf_25 (fun v1 σ2 h3 => ?_)
      obtain ⟨rfl, rfl⟩ := h3
      show WS layC V 4 X σ 28 [(3, .int (nI i)), (2, .int (nI (itr (Lc σ) i t))), (0, rf V 1), (1, .int (nI t))] [.int (σ.1 16 (itr (Lc σ) i t)), rf V 1]
      refine WS.as rfl rfl (congrArg (fun z => Value.int z :: _) (show σ.1 16 (itr (Lc σ) i t) = nI (itr (Lc σ) (i + 1) t) from hL1)) ?_
      skip
      refine WS.iload_n hx dX7_ringOf_28 rfl 1 rfl ?_
      refine WS.callVi (st := []) [.int (nI (itr (Lc σ) (i + 1) t)), .int (nI (itr (Lc σ) i t))] hx (c_X7_stepsBetween V d σ n hQ (itr (Lc σ) (i + 1) t) (itr (Lc σ) i t) hL2 hc) okX7_stepsBetween lm7_79 rfl rfl rfl rfl (Nat.le_of_ble_eq_true rfl) dX7_ringOf_29 (fun v4 σ5 h6 => ?_)
      obtain ⟨rfl, rfl⟩ := h6
      show WS layC V 4 X σ 32 [(3, .int (nI i)), (2, .int (nI (itr (Lc σ) i t))), (0, rf V 1), (1, .int (nI t))] [.int (oN (stp (Lc σ) (itr (Lc σ) i t) 16 0 (itr (Lc σ) (i + 1) t)))]
      refine WS.iconst (v := 1) hx dX7_ringOf_32 (by decide) ?_
      refine WS.iadd hx dX7_ringOf_33 ?_
      exact WS.iret hx he dX7_ringOf_34 (Ro.i (by rw [show i = 16 by (try simp only [i_le, i_lt, i_eq, tI_0, tI_1, tI_16] at c7); (try simp only [i_le, i_lt, i_eq, tI_0, tI_1, tI_16]); omega, itr_s (Lc σ) 16 t]; rfl))
    · skip
      show WS layC V 4 X σ 10 [(3, .int (nI i)), (2, .int (nI (itr (Lc σ) i t))), (0, rf V 1), (1, .int (nI t))] []
      refine WS.aload_n hx dX7_ringOf_10 rfl 2 rfl ?_
      refine WS.iload_n hx dX7_ringOf_11 rfl 1 rfl ?_
      refine WS.callVi (st := []) [.int (nI (itr (Lc σ) i t))] hx (c_X7_leadsFrom V (d + 1) σ (itr (Lc σ) i t) hc) okX7_leadsFrom lm7_76 rfl rfl rfl rfl (Nat.le_of_ble_eq_true rfl) dX7_ringOf_12 (fun v7 σ8 h9 => ?_)
      obtain ⟨rfl, rfl⟩ := h9
      show WS layC V 4 X σ 15 [(3, .int (nI i)), (2, .int (nI (itr (Lc σ) i t))), (0, rf V 1), (1, .int (nI t))] [.int (σ.1 16 (itr (Lc σ) i t))]
      refine WS.as rfl rfl (congrArg (fun z => Value.int z :: _) (show σ.1 16 (itr (Lc σ) i t) = nI (itr (Lc σ) (i + 1) t) from hL1)) ?_
      skip
      refine WS.istore_n (lo' := [(2, .int (nI (itr (Lc σ) (i + 1) t))), (3, .int (nI i)), (0, rf V 1), (1, .int (nI t))]) hx dX7_ringOf_15 rfl (by decide) rfl ?_
      refine WS.iinc (v := nI (i + 1)) (lo' := [(3, .int (nI (i + 1))), (2, .int (nI (itr (Lc σ) (i + 1) t))), (0, rf V 1), (1, .int (nI t))]) hx dX7_ringOf_16 1 rfl (nI_1 i) (by decide) rfl ?_
      refine WS.goto (tgt := 4) hx dX7_ringOf_19 (by decide) ?_
      exact WS.los [0, 1, 2, 3] rfl (ih (16 - (i + 1)) (by (try simp only [i_le, i_lt, i_eq, tI_0, tI_1, tI_16] at c7); (try simp only [i_le, i_lt, i_eq, tI_0, tI_1, tI_16]); omega) (i + 1) rfl (by (try simp only [i_le, i_lt, i_eq, tI_0, tI_1, tI_16] at c7); (try simp only [i_le, i_lt, i_eq, tI_0, tI_1, tI_16]); omega) hL2)
set_option maxHeartbeats 1000000 in
theorem c_X7_ringOf (V : Vt) (d : Nat) (σ : Sg) (n : Nat) (hQ : QI σ n) (t : Nat) (ht : t < 16) : CT layC V mX7_ringOf (d + 2) [rf V 1, .int (nI t)] σ (Ro (ringC (Lc σ) t) σ) := by
  refine CT.of (own := RX7) rfl (by decide) (Nat.le_of_ble_eq_true rfl) (fun X (hx : Ok V RX7 cX7_ringOf 4 (d + 2) X) (he : En layC V (some .int) (Ro (ringC (Lc σ) t) σ) X) => ?_)
  change WS layC V 4 X σ 0 [(0, rf V 1), (1, .int (nI t))] []
  refine WS.iload_n hx dX7_ringOf_0 rfl 1 rfl ?_
  refine WS.istore_n (lo' := [(2, .int (nI t)), (0, rf V 1), (1, .int (nI t))]) hx dX7_ringOf_1 rfl (by decide) rfl ?_
  refine WS.iconst (v := 0) hx dX7_ringOf_2 (by decide) ?_
  refine WS.istore_n (lo' := [(3, .int 0), (2, .int (nI t)), (0, rf V 1), (1, .int (nI t))]) hx dX7_ringOf_3 rfl (by decide) rfl ?_
  exact lp_X7_ringOf V d σ n hQ t X hx he 0 (by decide) ht
set_option maxHeartbeats 1000000 in
theorem lp_X7_aheadOfRing (V : Vt) (d : Nat) (σ : Sg) (n : Nat) (hQ : QI σ n) (t : Nat) (r : Nat) (X : Xt) (hx : Ok V RX7 cX7_aheadOfRing 4 (d + 2) X) (he : En layC V (some .int) (Ro (nI r) σ) X) : ∀ (k s a : Nat), s + k = 16 → a < 16 → ahd (Lc σ) k s a = r → WS layC V 4 X σ 4 [(3, .int (nI s)), (2, .int (nI a)), (0, rf V 1), (1, .int (nI t))] [] := by
  intro k
  induction k with
  | zero =>
    intro s a hsk hc hr
    have hsI : (nI s).toInt = (s : Int) := nI_c (by omega)
    refine WS.iload_n hx dX7_aheadOfRing_4 rfl 0 rfl ?_
    refine WS.bipush (v := 16) hx dX7_aheadOfRing_5 (by decide) ?_
    refine WS.icmp_ge (tgt := 37) hx dX7_aheadOfRing_7 (by decide) (fun c9 => ?_) (fun c9 => by exfalso; rw [i_le, hsI, tI_16] at c9; omega)
    refine WS.bipush (v := 16) hx dX7_aheadOfRing_37 (by decide) ?_
    exact WS.iret hx he dX7_aheadOfRing_39 (Ro.i (by rw [← hr]; rfl))
  | succ k ih =>
    intro s a hsk hc hr
    have hsI : (nI s).toInt = (s : Int) := nI_c (by omega)
    obtain ⟨hL1, hL2⟩ := hQ.L hc
    unfold ahd at hr
    refine WS.iload_n hx dX7_aheadOfRing_4 rfl 0 rfl ?_
    refine WS.bipush (v := 16) hx dX7_aheadOfRing_5 (by decide) ?_
    refine WS.icmp_ge (tgt := 37) hx dX7_aheadOfRing_7 (by decide) (fun c7 => by exfalso; (try simp only [i_le, i_lt, i_eq, tI_0, tI_1, tI_16] at c7); (try simp only [i_le, i_lt, i_eq, tI_0, tI_1, tI_16]); omega) (fun c7 => ?_)
    refine WS.aload_n hx dX7_aheadOfRing_10 rfl 2 rfl ?_
    refine WS.aload_n hx dX7_aheadOfRing_11 rfl 2 rfl ?_
    refine WS.iload_n hx dX7_aheadOfRing_12 rfl 1 rfl ?_
    refine WS.callVi (st := [rf V 1]) [.int (nI a)] hx (c_X7_leadsFrom V (d + 1) σ a hc) okX7_leadsFrom lm7_76 rfl rfl rfl rfl (Nat.le_of_ble_eq_true rfl) dX7_aheadOfRing_13 (fun v1 σ2 h3 => ?_)
    obtain ⟨rfl, rfl⟩ := h3
    show WS layC V 4 X σ 16 [(3, .int (nI s)), (2, .int (nI a)), (0, rf V 1), (1, .int (nI t))] [.int (σ.1 16 a), rf V 1]
    refine WS.as rfl rfl (congrArg (fun z => Value.int z :: _) (show σ.1 16 a = nI (Lc σ a) from hL1)) ?_
    skip
    refine WS.iload_n hx dX7_aheadOfRing_16 rfl 1 rfl ?_
    refine WS.callVi (st := []) [.int (nI (Lc σ a)), .int (nI a)] hx (c_X7_stepsBetween V d σ n hQ (Lc σ a) a hL2 hc) okX7_stepsBetween lm7_79 rfl rfl rfl rfl (Nat.le_of_ble_eq_true rfl) dX7_aheadOfRing_17 (fun v4 σ5 h6 => ?_)
    obtain ⟨rfl, rfl⟩ := h6
    show WS layC V 4 X σ 20 [(3, .int (nI s)), (2, .int (nI a)), (0, rf V 1), (1, .int (nI t))] [.int (oN (stp (Lc σ) a 16 0 (Lc σ a)))]
    refine WS.if_lt (tgt := 25) hx dX7_aheadOfRing_20 (by decide) (fun c20 => ?_) (fun c20 => ?_)
    · skip
      show WS layC V 4 X σ 25 [(3, .int (nI s)), (2, .int (nI a)), (0, rf V 1), (1, .int (nI t))] []
      have h8 := (oN_neg (L := Lc σ) (to := a) (f := 16) (s := 0) (t := Lc σ a) (by decide)).mp (by simpa only [i_lt, tI_0] using c20)
      rw [if_neg h8] at hr
      refine WS.aload_n hx dX7_aheadOfRing_25 rfl 2 rfl ?_
      refine WS.iload_n hx dX7_aheadOfRing_26 rfl 1 rfl ?_
      refine WS.callVi (st := []) [.int (nI a)] hx (c_X7_leadsFrom V (d + 1) σ a hc) okX7_leadsFrom lm7_76 rfl rfl rfl rfl (Nat.le_of_ble_eq_true rfl) dX7_aheadOfRing_27 (fun v7 σ8 h9 => ?_)
      obtain ⟨rfl, rfl⟩ := h9
      show WS layC V 4 X σ 30 [(3, .int (nI s)), (2, .int (nI a)), (0, rf V 1), (1, .int (nI t))] [.int (σ.1 16 a)]
      refine WS.as rfl rfl (congrArg (fun z => Value.int z :: _) (show σ.1 16 a = nI (Lc σ a) from hL1)) ?_
      skip
      refine WS.istore_n (lo' := [(2, .int (nI (Lc σ a))), (3, .int (nI s)), (0, rf V 1), (1, .int (nI t))]) hx dX7_aheadOfRing_30 rfl (by decide) rfl ?_
      refine WS.iinc (v := nI (s + 1)) (lo' := [(3, .int (nI (s + 1))), (2, .int (nI (Lc σ a))), (0, rf V 1), (1, .int (nI t))]) hx dX7_aheadOfRing_31 1 rfl (nI_1 s) (by decide) rfl ?_
      refine WS.goto (tgt := 4) hx dX7_aheadOfRing_34 (by decide) ?_
      exact WS.los [0, 1, 2, 3] rfl (ih (s + 1) (Lc σ a) (by omega) hL2 hr)
    · skip
      show WS layC V 4 X σ 23 [(3, .int (nI s)), (2, .int (nI a)), (0, rf V 1), (1, .int (nI t))] []
      have h8 := mt (oN_neg (L := Lc σ) (to := a) (f := 16) (s := 0) (t := Lc σ a) (by decide)).mpr (by simpa only [i_lt, tI_0] using c20)
      rw [if_pos (by exact Decidable.not_not.mp h8)] at hr
      refine WS.iload_n hx dX7_aheadOfRing_23 rfl 0 rfl ?_
      exact WS.iret hx he dX7_aheadOfRing_24 (Ro.i (by rw [hr]))
set_option maxHeartbeats 1000000 in
theorem c_X7_aheadOfRing (V : Vt) (d : Nat) (σ : Sg) (n : Nat) (hQ : QI σ n) (t : Nat) (ht : t < 16) : CT layC V mX7_aheadOfRing (d + 2) [rf V 1, .int (nI t)] σ (Ro (nI (ahd (Lc σ) 16 0 t)) σ) := by
  refine CT.of (own := RX7) rfl (by decide) (Nat.le_of_ble_eq_true rfl) (fun X (hx : Ok V RX7 cX7_aheadOfRing 4 (d + 2) X) (he : En layC V (some .int) (Ro (nI (ahd (Lc σ) 16 0 t)) σ) X) => ?_)
  change WS layC V 4 X σ 0 [(0, rf V 1), (1, .int (nI t))] []
  refine WS.iload_n hx dX7_aheadOfRing_0 rfl 1 rfl ?_
  refine WS.istore_n (lo' := [(2, .int (nI t)), (0, rf V 1), (1, .int (nI t))]) hx dX7_aheadOfRing_1 rfl (by decide) rfl ?_
  refine WS.iconst (v := 0) hx dX7_aheadOfRing_2 (by decide) ?_
  refine WS.istore_n (lo' := [(3, .int 0), (2, .int (nI t)), (0, rf V 1), (1, .int (nI t))]) hx dX7_aheadOfRing_3 rfl (by decide) rfl ?_
  exact lp_X7_aheadOfRing V d σ n hQ t _ X hx he 16 0 t rfl ht rfl

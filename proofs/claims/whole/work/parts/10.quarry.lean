/-- sums and differences of the machine that stay in its range -/
theorem i_add {a b : Int32} (h1 : -2147483648 ≤ a.toInt + b.toInt) (h2 : a.toInt + b.toInt ≤ 2147483647) : (a + b).toInt = a.toInt + b.toInt := by
  rw [Int32.toInt_add, Int.bmod_eq_of_le (by omega) (by omega)]
theorem i_sub {a b : Int32} (h1 : -2147483648 ≤ a.toInt - b.toInt) (h2 : a.toInt - b.toInt ≤ 2147483647) : (a - b).toInt = a.toInt - b.toInt := by
  rw [Int32.toInt_sub, Int.bmod_eq_of_le (by omega) (by omega)]
theorem i_mul {a b : Int32} (h1 : -2147483648 ≤ a.toInt * b.toInt) (h2 : a.toInt * b.toInt ≤ 2147483647) : (a * b).toInt = a.toInt * b.toInt := by
  rw [Int32.toInt_mul, Int.bmod_eq_of_le (by omega) (by omega)]
theorem nn_int {x : Int32} (h : 0 ≤ x.toInt) : (nn x : Int) = x.toInt := by
  have := i_nI h
  have e : nn x = x.toInt.toNat := by rw [this]; exact nI_clamp (by have := (i_rng x).2; omega) |>.trans (by rw [← this])
  omega
theorem nI_nn {x : Int32} (h : 0 ≤ x.toInt) : nI (nn x) = x := by
  have := nn_int h
  have h2 := (i_rng x).2
  rw [i_eq, nI_r _ (by omega)]
  exact this
theorem nn_nI {k : Nat} (h : k < 2 ^ 31) : nn (nI k) = k := nI_clamp h
/-- between 0 and m -/
def rg (x : Int32) (m : Nat) : Prop := 0 ≤ x.toInt ∧ x.toInt ≤ m
theorem rg.i {x : Int32} {m : Nat} (h : rg x m) : x = nI (nn x) := (nI_nn h.1).symm
theorem rg.le {x : Int32} {m : Nat} (h : rg x m) : nn x ≤ m := by have := nn_int h.1; have := h.2; omega
theorem rg_nI {k m : Nat} (h : k ≤ m) (hm : m < 2 ^ 31) : rg (nI k) m := by
  unfold rg
  rw [nI_r k (by omega)]
  omega
/-- the quarry is as it must be: n blocks, all numbers in their ranges -/
def QI (σ : Sg) (n : Nat) : Prop := n ≤ 10 ∧ σ.1 1 8 = nI n ∧ (∀ j, j < 10 → rg (σ.1 11 j) 9) ∧ (∀ j, j < 10 → rg (σ.1 12 j) 15) ∧ (∀ j, j < 10 → rg (σ.1 13 j) 9) ∧ (∀ j, j < 10 → rg (σ.1 14 j) 1) ∧ (∀ j, j < 10 → rg (σ.1 15 j) 1) ∧ (∀ j, j < 16 → rg (σ.1 16 j) 15) ∧ (∀ j, j < 16 → rg (σ.1 17 j) 9) ∧ rg (σ.1 18 0) 99
theorem QI.s {σ : Sg} {n : Nat} (h : QI σ n) : σ.1 1 8 = nI n := h.2.1
theorem QI.n {σ : Sg} {n : Nat} (h : QI σ n) : n ≤ 10 := h.1
theorem nI_c {k : Nat} (h : k ≤ 2147483647) : (nI k).toInt = (k : Int) := nI_r k (by omega)
def hasC (n : Nat) (b q : Int32) : Prop := 0 ≤ q.toInt ∧ q.toInt ≤ 7 ∧ 0 ≤ b.toInt ∧ (q.toInt ≤ 4 → b.toInt < n) ∧ (q.toInt = 5 ∨ q.toInt = 6 → b.toInt < 16) ∧ (q.toInt = 7 → b.toInt = 0)
def numId (q : Int32) : Nat := if 0 ≤ q.toInt ∧ q.toInt ≤ 6 then 11 + nn q else 18
def isSoC (q v : Int32) : Prop := 0 ≤ q.toInt ∧ q.toInt ≤ 7 ∧ 0 ≤ v.toInt ∧ v.toInt ≤ (zt_f 0 (nn q)).toInt

set_option maxHeartbeats 1000000 in
theorem c_X7_size (V : Vt) (d : Nat) (σ : Sg) (n : Nat) (hQ : QI σ n) : CT layC V mX7_size (d) [rf V 1] σ (Ro (nI n) σ) := by
  refine CT.of (own := RX7) rfl (by decide) (Nat.le_of_ble_eq_true rfl) (fun X (hx : Ok V RX7 cX7_size 1 (d) X) (he : En layC V (some .int) (Ro (nI n) σ) X) => ?_)
  change WS layC V 1 X σ 0 [(0, rf V 1)] []
  refine WS.aload_n hx dX7_size_0 rfl 0 rfl ?_
  refine WS.getI hx okX7 lf7_42 rfl rfl dX7_size_1 ?_
  exact WS.iret hx he dX7_size_4 (Ro.i hQ.s.symm)
set_option maxHeartbeats 1000000 in
theorem c_X7_isFull (V : Vt) (d : Nat) (σ : Sg) (n : Nat) (hQ : QI σ n) : CT layC V mX7_isFull (d) [rf V 1] σ (Rb (n = 10) σ) := by
  refine CT.of (own := RX7) rfl (by decide) (Nat.le_of_ble_eq_true rfl) (fun X (hx : Ok V RX7 cX7_isFull 1 (d) X) (he : En layC V (some .boolean) (Rb (n = 10) σ) X) => ?_)
  change WS layC V 1 X σ 0 [(0, rf V 1)] []
  obtain ⟨hn, hs, q1, q2, q3, q4, q5, q6, q7, q8⟩ := hQ
  have hnI : (nI n).toInt = (n : Int) := nI_c (by omega)
  refine WS.aload_n hx dX7_isFull_0 rfl 0 rfl ?_
  refine WS.getI hx okX7 lf7_42 rfl rfl dX7_isFull_1 ?_
  refine WS.as rfl rfl (congrArg (fun z => Value.int z :: _) (show σ.1 1 8 = nI n from hs)) ?_
  skip
  refine WS.bipush (v := 10) hx dX7_isFull_4 (by decide) ?_
  refine WS.icmp_lt (tgt := 13) hx dX7_isFull_6 (by decide) (fun c6 => ?_) (fun c6 => ?_)
  · skip
    show WS layC V 1 X σ 13 [(0, rf V 1)] []
    refine WS.iconst (v := 0) hx dX7_isFull_13 (by decide) ?_
    exact WS.zret hx he dX7_isFull_14 (Or.inl rfl) (Rb.f (by (try simp only [i_le, i_lt, i_eq, tI_0, tI_1, tI_10] at c6); (try simp only [i_le, i_lt, i_eq, tI_0, tI_1, tI_10]); omega))
  · skip
    show WS layC V 1 X σ 9 [(0, rf V 1)] []
    refine WS.iconst (v := 1) hx dX7_isFull_9 (by decide) ?_
    refine WS.goto (tgt := 14) hx dX7_isFull_10 (by decide) ?_
    exact WS.zret hx he dX7_isFull_14 (Or.inr rfl) (Rb.t (by (try simp only [i_le, i_lt, i_eq, tI_0, tI_1, tI_10] at c6); (try simp only [i_le, i_lt, i_eq, tI_0, tI_1, tI_10]); omega))
set_option maxHeartbeats 1000000 in
theorem c_X7_hasBlock (V : Vt) (d : Nat) (σ : Sg) (n : Nat) (hQ : QI σ n) (b : Int32) : CT layC V mX7_hasBlock (d + 1) [rf V 1, .int b] σ (Rb (0 ≤ b.toInt ∧ b.toInt < n) σ) := by
  refine CT.of (own := RX7) rfl (by decide) (Nat.le_of_ble_eq_true rfl) (fun X (hx : Ok V RX7 cX7_hasBlock 2 (d + 1) X) (he : En layC V (some .boolean) (Rb (0 ≤ b.toInt ∧ b.toInt < n) σ) X) => ?_)
  change WS layC V 2 X σ 0 [(0, rf V 1), (1, .int b)] []
  obtain ⟨hn, hs, q1, q2, q3, q4, q5, q6, q7, q8⟩ := hQ
  have hnI : (nI n).toInt = (n : Int) := nI_c (by omega)
  have e1 : (nI n - 1).toInt = (n : Int) - 1 := by rw [i_sub (by rw [hnI, tI_1]; omega) (by rw [hnI, tI_1]; omega), hnI, tI_1]
  refine WS.iload_n hx dX7_hasBlock_0 rfl 1 rfl ?_
  refine WS.iconst (v := 0) hx dX7_hasBlock_1 (by decide) ?_
  refine WS.aload_n hx dX7_hasBlock_2 rfl 0 rfl ?_
  refine WS.getI hx okX7 lf7_42 rfl rfl dX7_hasBlock_3 ?_
  refine WS.as rfl rfl (congrArg (fun z => Value.int z :: _) (show σ.1 1 8 = nI n from hs)) ?_
  skip
  refine WS.iconst (v := 1) hx dX7_hasBlock_6 (by decide) ?_
  refine WS.isub hx dX7_hasBlock_7 ?_
  refine WS.callNi (st := []) [.int b, .int 0, .int ((nI n) - 1)] hx (c_X10_within V d σ b 0 ((nI n) - 1)) okX10_within (by decide) rfl rfl rfl (Nat.le_of_ble_eq_true rfl) dX7_hasBlock_8 (fun v1 σ2 h3 => ?_)
  rcases h3 with ⟨rfl, rfl, hb8⟩ | ⟨rfl, rfl, hb8⟩
  · skip
    show WS layC V 2 X σ 11 [(0, rf V 1), (1, .int b)] [.int 1]
    exact WS.zret hx he dX7_hasBlock_11 (Or.inr rfl) (Rb.t (by (try simp only [i_le, i_lt, i_eq, tI_0, tI_1] at hb8); (try simp only [i_le, i_lt, i_eq, tI_0, tI_1]); omega))
  · skip
    show WS layC V 2 X σ 11 [(0, rf V 1), (1, .int b)] [.int 0]
    exact WS.zret hx he dX7_hasBlock_11 (Or.inl rfl) (Rb.f (by (try simp only [i_le, i_lt, i_eq, tI_0, tI_1] at hb8); (try simp only [i_le, i_lt, i_eq, tI_0, tI_1]); omega))
set_option maxHeartbeats 1000000 in
theorem c_X7_has (V : Vt) (d : Nat) (σ : Sg) (n : Nat) (hQ : QI σ n) (b q : Int32) : CT layC V mX7_has (d) [rf V 1, .int b, .int q] σ (Rb (hasC n b q) σ) := by
  refine CT.of (own := RX7) rfl (by decide) (Nat.le_of_ble_eq_true rfl) (fun X (hx : Ok V RX7 cX7_has 3 (d) X) (he : En layC V (some .boolean) (Rb (hasC n b q) σ) X) => ?_)
  change WS layC V 3 X σ 0 [(0, rf V 1), (1, .int b), (2, .int q)] []
  obtain ⟨hn, hs, q1, q2, q3, q4, q5, q6, q7, q8⟩ := hQ
  have hnI : (nI n).toInt = (n : Int) := nI_c (by omega)
  refine WS.iload_n hx dX7_has_0 rfl 2 rfl ?_
  refine WS.if_lt (tgt := 14) hx dX7_has_1 (by decide) (fun c1 => ?_) (fun c1 => ?_)
  · skip
    show WS layC V 3 X σ 14 [(0, rf V 1), (1, .int b), (2, .int q)] []
    refine WS.iconst (v := 0) hx dX7_has_14 (by decide) ?_
    exact WS.zret hx he dX7_has_15 (Or.inl rfl) (Rb.f (by unfold hasC; (try simp only [i_le, i_lt, i_eq, tI_0, tI_1, tI_4, tI_7, tI_16] at c1); (try simp only [i_le, i_lt, i_eq, tI_0, tI_1, tI_4, tI_7, tI_16]); omega))
  · skip
    show WS layC V 3 X σ 4 [(0, rf V 1), (1, .int b), (2, .int q)] []
    refine WS.iload_n hx dX7_has_4 rfl 2 rfl ?_
    refine WS.bipush (v := 7) hx dX7_has_5 (by decide) ?_
    refine WS.icmp_gt (tgt := 14) hx dX7_has_7 (by decide) (fun c7 => ?_) (fun c7 => ?_)
    · skip
      show WS layC V 3 X σ 14 [(0, rf V 1), (1, .int b), (2, .int q)] []
      refine WS.iconst (v := 0) hx dX7_has_14 (by decide) ?_
      exact WS.zret hx he dX7_has_15 (Or.inl rfl) (Rb.f (by unfold hasC; (try simp only [i_le, i_lt, i_eq, tI_0, tI_1, tI_4, tI_7, tI_16] at c1); (try simp only [i_le, i_lt, i_eq, tI_0, tI_1, tI_4, tI_7, tI_16] at c7); (try simp only [i_le, i_lt, i_eq, tI_0, tI_1, tI_4, tI_7, tI_16]); omega))
    · skip
      show WS layC V 3 X σ 10 [(0, rf V 1), (1, .int b), (2, .int q)] []
      refine WS.iload_n hx dX7_has_10 rfl 1 rfl ?_
      refine WS.if_ge (tgt := 16) hx dX7_has_11 (by decide) (fun c11 => ?_) (fun c11 => ?_)
      · skip
        show WS layC V 3 X σ 16 [(0, rf V 1), (1, .int b), (2, .int q)] []
        refine WS.iload_n hx dX7_has_16 rfl 2 rfl ?_
        refine WS.iconst (v := 4) hx dX7_has_17 (by decide) ?_
        refine WS.icmp_gt (tgt := 35) hx dX7_has_18 (by decide) (fun c18 => ?_) (fun c18 => ?_)
        · skip
          show WS layC V 3 X σ 35 [(0, rf V 1), (1, .int b), (2, .int q)] []
          refine WS.iload_n hx dX7_has_35 rfl 2 rfl ?_
          refine WS.bipush (v := 7) hx dX7_has_36 (by decide) ?_
          refine WS.icmp_ne (tgt := 53) hx dX7_has_38 (by decide) (fun c38 => ?_) (fun c38 => ?_)
          · skip
            show WS layC V 3 X σ 53 [(0, rf V 1), (1, .int b), (2, .int q)] []
            refine WS.iload_n hx dX7_has_53 rfl 1 rfl ?_
            refine WS.bipush (v := 16) hx dX7_has_54 (by decide) ?_
            refine WS.icmp_ge (tgt := 63) hx dX7_has_56 (by decide) (fun c56 => ?_) (fun c56 => ?_)
            · skip
              show WS layC V 3 X σ 63 [(0, rf V 1), (1, .int b), (2, .int q)] []
              refine WS.iconst (v := 0) hx dX7_has_63 (by decide) ?_
              exact WS.zret hx he dX7_has_64 (Or.inl rfl) (Rb.f (by unfold hasC; (try simp only [i_le, i_lt, i_eq, tI_0, tI_1, tI_4, tI_7, tI_16] at c1); (try simp only [i_le, i_lt, i_eq, tI_0, tI_1, tI_4, tI_7, tI_16] at c7); (try simp only [i_le, i_lt, i_eq, tI_0, tI_1, tI_4, tI_7, tI_16] at c11); (try simp only [i_le, i_lt, i_eq, tI_0, tI_1, tI_4, tI_7, tI_16] at c18); (try simp only [i_le, i_lt, i_eq, tI_0, tI_1, tI_4, tI_7, tI_16] at c38); (try simp only [i_le, i_lt, i_eq, tI_0, tI_1, tI_4, tI_7, tI_16] at c56); (try simp only [i_le, i_lt, i_eq, tI_0, tI_1, tI_4, tI_7, tI_16]); omega))
            · skip
              show WS layC V 3 X σ 59 [(0, rf V 1), (1, .int b), (2, .int q)] []
              refine WS.iconst (v := 1) hx dX7_has_59 (by decide) ?_
              refine WS.goto (tgt := 64) hx dX7_has_60 (by decide) ?_
              exact WS.zret hx he dX7_has_64 (Or.inr rfl) (Rb.t (by unfold hasC; (try simp only [i_le, i_lt, i_eq, tI_0, tI_1, tI_4, tI_7, tI_16] at c1); (try simp only [i_le, i_lt, i_eq, tI_0, tI_1, tI_4, tI_7, tI_16] at c7); (try simp only [i_le, i_lt, i_eq, tI_0, tI_1, tI_4, tI_7, tI_16] at c11); (try simp only [i_le, i_lt, i_eq, tI_0, tI_1, tI_4, tI_7, tI_16] at c18); (try simp only [i_le, i_lt, i_eq, tI_0, tI_1, tI_4, tI_7, tI_16] at c38); (try simp only [i_le, i_lt, i_eq, tI_0, tI_1, tI_4, tI_7, tI_16] at c56); (try simp only [i_le, i_lt, i_eq, tI_0, tI_1, tI_4, tI_7, tI_16]); omega))
          · skip
            show WS layC V 3 X σ 41 [(0, rf V 1), (1, .int b), (2, .int q)] []
            refine WS.iload_n hx dX7_has_41 rfl 1 rfl ?_
            refine WS.if_ne (tgt := 49) hx dX7_has_42 (by decide) (fun c42 => ?_) (fun c42 => ?_)
            · skip
              show WS layC V 3 X σ 49 [(0, rf V 1), (1, .int b), (2, .int q)] []
              refine WS.iconst (v := 0) hx dX7_has_49 (by decide) ?_
              refine WS.goto (tgt := 64) hx dX7_has_50 (by decide) ?_
              exact WS.zret hx he dX7_has_64 (Or.inl rfl) (Rb.f (by unfold hasC; (try simp only [i_le, i_lt, i_eq, tI_0, tI_1, tI_4, tI_7, tI_16] at c1); (try simp only [i_le, i_lt, i_eq, tI_0, tI_1, tI_4, tI_7, tI_16] at c7); (try simp only [i_le, i_lt, i_eq, tI_0, tI_1, tI_4, tI_7, tI_16] at c11); (try simp only [i_le, i_lt, i_eq, tI_0, tI_1, tI_4, tI_7, tI_16] at c18); (try simp only [i_le, i_lt, i_eq, tI_0, tI_1, tI_4, tI_7, tI_16] at c38); (try simp only [i_le, i_lt, i_eq, tI_0, tI_1, tI_4, tI_7, tI_16] at c42); (try simp only [i_le, i_lt, i_eq, tI_0, tI_1, tI_4, tI_7, tI_16]); omega))
            · skip
              show WS layC V 3 X σ 45 [(0, rf V 1), (1, .int b), (2, .int q)] []
              refine WS.iconst (v := 1) hx dX7_has_45 (by decide) ?_
              refine WS.goto (tgt := 64) hx dX7_has_46 (by decide) ?_
              exact WS.zret hx he dX7_has_64 (Or.inr rfl) (Rb.t (by unfold hasC; (try simp only [i_le, i_lt, i_eq, tI_0, tI_1, tI_4, tI_7, tI_16] at c1); (try simp only [i_le, i_lt, i_eq, tI_0, tI_1, tI_4, tI_7, tI_16] at c7); (try simp only [i_le, i_lt, i_eq, tI_0, tI_1, tI_4, tI_7, tI_16] at c11); (try simp only [i_le, i_lt, i_eq, tI_0, tI_1, tI_4, tI_7, tI_16] at c18); (try simp only [i_le, i_lt, i_eq, tI_0, tI_1, tI_4, tI_7, tI_16] at c38); (try simp only [i_le, i_lt, i_eq, tI_0, tI_1, tI_4, tI_7, tI_16] at c42); (try simp only [i_le, i_lt, i_eq, tI_0, tI_1, tI_4, tI_7, tI_16]); omega))
        · skip
          show WS layC V 3 X σ 21 [(0, rf V 1), (1, .int b), (2, .int q)] []
          refine WS.iload_n hx dX7_has_21 rfl 1 rfl ?_
          refine WS.aload_n hx dX7_has_22 rfl 0 rfl ?_
          refine WS.getI hx okX7 lf7_42 rfl rfl dX7_has_23 ?_
          refine WS.as rfl rfl (congrArg (fun z => Value.int z :: _) (show σ.1 1 8 = nI n from hs)) ?_
          skip
          refine WS.icmp_ge (tgt := 33) hx dX7_has_26 (by decide) (fun c26 => ?_) (fun c26 => ?_)
          · skip
            show WS layC V 3 X σ 33 [(0, rf V 1), (1, .int b), (2, .int q)] []
            refine WS.iconst (v := 0) hx dX7_has_33 (by decide) ?_
            exact WS.zret hx he dX7_has_34 (Or.inl rfl) (Rb.f (by unfold hasC; (try simp only [i_le, i_lt, i_eq, tI_0, tI_1, tI_4, tI_7, tI_16] at c1); (try simp only [i_le, i_lt, i_eq, tI_0, tI_1, tI_4, tI_7, tI_16] at c7); (try simp only [i_le, i_lt, i_eq, tI_0, tI_1, tI_4, tI_7, tI_16] at c11); (try simp only [i_le, i_lt, i_eq, tI_0, tI_1, tI_4, tI_7, tI_16] at c18); (try simp only [i_le, i_lt, i_eq, tI_0, tI_1, tI_4, tI_7, tI_16] at c26); (try simp only [i_le, i_lt, i_eq, tI_0, tI_1, tI_4, tI_7, tI_16]); omega))
          · skip
            show WS layC V 3 X σ 29 [(0, rf V 1), (1, .int b), (2, .int q)] []
            refine WS.iconst (v := 1) hx dX7_has_29 (by decide) ?_
            refine WS.goto (tgt := 34) hx dX7_has_30 (by decide) ?_
            exact WS.zret hx he dX7_has_34 (Or.inr rfl) (Rb.t (by unfold hasC; (try simp only [i_le, i_lt, i_eq, tI_0, tI_1, tI_4, tI_7, tI_16] at c1); (try simp only [i_le, i_lt, i_eq, tI_0, tI_1, tI_4, tI_7, tI_16] at c7); (try simp only [i_le, i_lt, i_eq, tI_0, tI_1, tI_4, tI_7, tI_16] at c11); (try simp only [i_le, i_lt, i_eq, tI_0, tI_1, tI_4, tI_7, tI_16] at c18); (try simp only [i_le, i_lt, i_eq, tI_0, tI_1, tI_4, tI_7, tI_16] at c26); (try simp only [i_le, i_lt, i_eq, tI_0, tI_1, tI_4, tI_7, tI_16]); omega))
      · skip
        show WS layC V 3 X σ 14 [(0, rf V 1), (1, .int b), (2, .int q)] []
        refine WS.iconst (v := 0) hx dX7_has_14 (by decide) ?_
        exact WS.zret hx he dX7_has_15 (Or.inl rfl) (Rb.f (by unfold hasC; (try simp only [i_le, i_lt, i_eq, tI_0, tI_1, tI_4, tI_7, tI_16] at c1); (try simp only [i_le, i_lt, i_eq, tI_0, tI_1, tI_4, tI_7, tI_16] at c7); (try simp only [i_le, i_lt, i_eq, tI_0, tI_1, tI_4, tI_7, tI_16] at c11); (try simp only [i_le, i_lt, i_eq, tI_0, tI_1, tI_4, tI_7, tI_16]); omega))
set_option maxHeartbeats 1000000 in
theorem c_X7_centuryNow (V : Vt) (d : Nat) (σ : Sg) (n : Nat) (hQ : QI σ n) : CT layC V mX7_centuryNow (d) [rf V 1] σ (Ro (σ.1 18 0) σ) := by
  refine CT.of (own := RX7) rfl (by decide) (Nat.le_of_ble_eq_true rfl) (fun X (hx : Ok V RX7 cX7_centuryNow 1 (d) X) (he : En layC V (some .int) (Ro (σ.1 18 0) σ) X) => ?_)
  change WS layC V 1 X σ 0 [(0, rf V 1)] []
  refine WS.aload_n hx dX7_centuryNow_0 rfl 0 rfl ?_
  refine WS.getR hx okX7 lf7_33 rfl rfl dX7_centuryNow_1 ?_
  refine WS.iconst (v := 0) hx dX7_centuryNow_4 (by decide) ?_
  refine WS.iald hx rfl (vp_dec (by decide)) dX7_centuryNow_5 ?_
  exact WS.iret hx he dX7_centuryNow_6 (Ro.i rfl)
set_option maxHeartbeats 1000000 in
theorem c_X7_wordAt (V : Vt) (d : Nat) (σ : Sg) (k : Nat) (hk : k < 16) : CT layC V mX7_wordAt (d) [rf V 1, .int (nI k)] σ (Ro (σ.1 17 k) σ) := by
  refine CT.of (own := RX7) rfl (by decide) (Nat.le_of_ble_eq_true rfl) (fun X (hx : Ok V RX7 cX7_wordAt 2 (d) X) (he : En layC V (some .int) (Ro (σ.1 17 k) σ) X) => ?_)
  change WS layC V 2 X σ 0 [(0, rf V 1), (1, .int (nI k))] []
  have e0 : nI k &&& 15 = nI k := by rw [pk_andN (by omega) 4 rfl, Nat.mod_eq_of_lt (by omega)]
  refine WS.aload_n hx dX7_wordAt_0 rfl 0 rfl ?_
  refine WS.getR hx okX7 lf7_30 rfl rfl dX7_wordAt_1 ?_
  refine WS.iload_n hx dX7_wordAt_4 rfl 1 rfl ?_
  refine WS.bipush (v := 15) hx dX7_wordAt_5 (by decide) ?_
  refine WS.iand hx dX7_wordAt_7 ?_
  refine WS.iald hx rfl (by rw [e0]; exact vp_in_nI (by omega) (by decide)) dX7_wordAt_8 ?_
  exact WS.iret hx he dX7_wordAt_9 (Ro.i (by rw [e0, nI_clamp (by omega)]))
set_option maxHeartbeats 1000000 in
theorem c_X7_leadsFrom (V : Vt) (d : Nat) (σ : Sg) (k : Nat) (hk : k < 16) : CT layC V mX7_leadsFrom (d) [rf V 1, .int (nI k)] σ (Ro (σ.1 16 k) σ) := by
  refine CT.of (own := RX7) rfl (by decide) (Nat.le_of_ble_eq_true rfl) (fun X (hx : Ok V RX7 cX7_leadsFrom 2 (d) X) (he : En layC V (some .int) (Ro (σ.1 16 k) σ) X) => ?_)
  change WS layC V 2 X σ 0 [(0, rf V 1), (1, .int (nI k))] []
  have e0 : nI k &&& 15 = nI k := by rw [pk_andN (by omega) 4 rfl, Nat.mod_eq_of_lt (by omega)]
  refine WS.aload_n hx dX7_leadsFrom_0 rfl 0 rfl ?_
  refine WS.getR hx okX7 lf7_27 rfl rfl dX7_leadsFrom_1 ?_
  refine WS.iload_n hx dX7_leadsFrom_4 rfl 1 rfl ?_
  refine WS.bipush (v := 15) hx dX7_leadsFrom_5 (by decide) ?_
  refine WS.iand hx dX7_leadsFrom_7 ?_
  refine WS.iald hx rfl (by rw [e0]; exact vp_in_nI (by omega) (by decide)) dX7_leadsFrom_8 ?_
  exact WS.iret hx he dX7_leadsFrom_9 (Ro.i (by rw [e0, nI_clamp (by omega)]))
set_option maxHeartbeats 1000000 in
theorem c_X7_isOpen (V : Vt) (d : Nat) (σ : Sg) (n : Nat) (hQ : QI σ n) (b : Nat) (hb : b < n) : CT layC V mX7_isOpen (d + 2) [rf V 1, .int (nI b)] σ (Rb (σ.1 14 b = 1) σ) := by
  refine CT.of (own := RX7) rfl (by decide) (Nat.le_of_ble_eq_true rfl) (fun X (hx : Ok V RX7 cX7_isOpen 2 (d + 2) X) (he : En layC V (some .boolean) (Rb (σ.1 14 b = 1) σ) X) => ?_)
  change WS layC V 2 X σ 0 [(0, rf V 1), (1, .int (nI b))] []
  have hQ0 := hQ
  obtain ⟨hn, hs, q1, q2, q3, q4, q5, q6, q7, q8⟩ := hQ
  have hnI : (nI n).toInt = (n : Int) := nI_c (by omega)
  have hbI : (nI b).toInt = (b : Int) := nI_c (by omega)
  refine WS.aload_n hx dX7_isOpen_0 rfl 0 rfl ?_
  refine WS.iload_n hx dX7_isOpen_1 rfl 1 rfl ?_
  refine WS.callVi (st := []) [.int (nI b)] hx (c_X7_hasBlock V d σ n hQ0 (nI b)) okX7_hasBlock lm7_68 rfl rfl rfl rfl (Nat.le_of_ble_eq_true rfl) dX7_isOpen_2 (fun v1 σ2 h3 => ?_)
  rcases h3 with ⟨rfl, rfl, hb2⟩ | ⟨rfl, rfl, hb2⟩
  · skip
    show WS layC V 2 X σ 5 [(0, rf V 1), (1, .int (nI b))] [.int 1]
    refine WS.if_eq (tgt := 22) hx dX7_isOpen_5 (by decide) (fun h => absurd h (by decide)) (fun _ => ?_)
    refine WS.aload_n hx dX7_isOpen_8 rfl 0 rfl ?_
    refine WS.getR hx okX7 lf7_21 rfl rfl dX7_isOpen_9 ?_
    refine WS.iload_n hx dX7_isOpen_12 rfl 1 rfl ?_
    refine WS.iald hx rfl (vp_in_nI (by omega) (by decide)) dX7_isOpen_13 ?_
    refine WS.as rfl rfl (congrArg (fun z => Value.int z :: _) (show σ.1 14 (nn (nI b)) = σ.1 14 b from by rw [nn_nI (by omega)])) ?_
    skip
    refine WS.iconst (v := 1) hx dX7_isOpen_14 (by decide) ?_
    refine WS.icmp_ne (tgt := 22) hx dX7_isOpen_15 (by decide) (fun c15 => ?_) (fun c15 => ?_)
    · skip
      show WS layC V 2 X σ 22 [(0, rf V 1), (1, .int (nI b))] []
      refine WS.iconst (v := 0) hx dX7_isOpen_22 (by decide) ?_
      exact WS.zret hx he dX7_isOpen_23 (Or.inl rfl) (Rb.f (by first | assumption | (exfalso; omega)))
    · skip
      show WS layC V 2 X σ 18 [(0, rf V 1), (1, .int (nI b))] []
      refine WS.iconst (v := 1) hx dX7_isOpen_18 (by decide) ?_
      refine WS.goto (tgt := 23) hx dX7_isOpen_19 (by decide) ?_
      exact WS.zret hx he dX7_isOpen_23 (Or.inr rfl) (Rb.t (by assumption))
  · skip
    show WS layC V 2 X σ 5 [(0, rf V 1), (1, .int (nI b))] [.int 0]
    refine WS.if_eq (tgt := 22) hx dX7_isOpen_5 (by decide) (fun _ => ?_) (fun h => absurd (by decide) h)
    refine WS.iconst (v := 0) hx dX7_isOpen_22 (by decide) ?_
    exact WS.zret hx he dX7_isOpen_23 (Or.inl rfl) (Rb.f (by first | assumption | (exfalso; omega)))
set_option maxHeartbeats 1000000 in
theorem c_X7_wordNow (V : Vt) (d : Nat) (σ : Sg) (n : Nat) (hQ : QI σ n) (b : Nat) (hb : b < n) : CT layC V mX7_wordNow (d + 2) [rf V 1, .int (nI b)] σ (Ro (σ.1 17 (nn (σ.1 12 b))) σ) := by
  refine CT.of (own := RX7) rfl (by decide) (Nat.le_of_ble_eq_true rfl) (fun X (hx : Ok V RX7 cX7_wordNow 2 (d + 2) X) (he : En layC V (some .int) (Ro (σ.1 17 (nn (σ.1 12 b))) σ) X) => ?_)
  change WS layC V 2 X σ 0 [(0, rf V 1), (1, .int (nI b))] []
  have hQ0 := hQ
  obtain ⟨hn, hs, q1, q2, q3, q4, q5, q6, q7, q8⟩ := hQ
  have hnI : (nI n).toInt = (n : Int) := nI_c (by omega)
  have hbI : (nI b).toInt = (b : Int) := nI_c (by omega)
  have ha := q2 b (by omega)
  have hal := ha.le
  refine WS.aload_n hx dX7_wordNow_0 rfl 0 rfl ?_
  refine WS.iload_n hx dX7_wordNow_1 rfl 1 rfl ?_
  refine WS.callVi (st := []) [.int (nI b)] hx (c_X7_hasBlock V d σ n hQ0 (nI b)) okX7_hasBlock lm7_68 rfl rfl rfl rfl (Nat.le_of_ble_eq_true rfl) dX7_wordNow_2 (fun v1 σ2 h3 => ?_)
  rcases h3 with ⟨rfl, rfl, hb2⟩ | ⟨rfl, rfl, hb2⟩
  · skip
    show WS layC V 2 X σ 5 [(0, rf V 1), (1, .int (nI b))] [.int 1]
    refine WS.if_eq (tgt := 21) hx dX7_wordNow_5 (by decide) (fun h => absurd h (by decide)) (fun _ => ?_)
    refine WS.aload_n hx dX7_wordNow_8 rfl 0 rfl ?_
    refine WS.aload_n hx dX7_wordNow_9 rfl 0 rfl ?_
    refine WS.getR hx okX7 lf7_15 rfl rfl dX7_wordNow_10 ?_
    refine WS.iload_n hx dX7_wordNow_13 rfl 1 rfl ?_
    refine WS.iald hx rfl (vp_in_nI (by omega) (by decide)) dX7_wordNow_14 ?_
    refine WS.as rfl rfl (congrArg (fun z => Value.int z :: _) (show σ.1 12 (nn (nI b)) = nI (nn (σ.1 12 b)) from by rw [nn_nI (by omega)]; exact ha.i)) ?_
    skip
    refine WS.callVi (st := []) [.int (nI (nn (σ.1 12 b)))] hx (c_X7_wordAt V (d + 1) σ (nn (σ.1 12 b)) (by omega)) okX7_wordAt lm7_72 rfl rfl rfl rfl (Nat.le_of_ble_eq_true rfl) dX7_wordNow_15 (fun v4 σ5 h6 => ?_)
    obtain ⟨rfl, rfl⟩ := h6
    show WS layC V 2 X σ 18 [(0, rf V 1), (1, .int (nI b))] [.int (σ.1 17 (nn (σ.1 12 b)))]
    refine WS.goto (tgt := 22) hx dX7_wordNow_18 (by decide) ?_
    exact WS.iret hx he dX7_wordNow_22 (Ro.i rfl)
  · skip
    show WS layC V 2 X σ 5 [(0, rf V 1), (1, .int (nI b))] [.int 0]
    refine WS.if_eq (tgt := 21) hx dX7_wordNow_5 (by decide) (fun _ => ?_) (fun h => absurd (by decide) h)
    refine WS.iconst (v := 0) hx dX7_wordNow_21 (by decide) ?_
    exact WS.iret hx he dX7_wordNow_22 (by exfalso; omega)
theorem numId_in {q : Int32} (h : 0 ≤ q.toInt) (h2 : q.toInt ≤ 6) : numId q = 11 + nn q := if_pos ⟨h, h2⟩
theorem numId_7 {q : Int32} (h : ¬ (0 ≤ q.toInt ∧ q.toInt ≤ 6)) : numId q = 18 := if_neg h
theorem hasC_lay {n : Nat} {b q : Int32} (hn : n ≤ 10) (h : hasC n b q) : ∃ len, layC[numId q]? = some (.inr (.inl (0, len))) ∧ vp_in b len := by
  obtain ⟨h1, h2, h3, h4, h5, h6⟩ := h
  by_cases h7 : q.toInt ≤ 6
  · obtain ⟨k, hk, rfl⟩ := i_of (n := 7) h1 (by omega)
    rw [numId_in h1 h7, nn_nI (by omega)]
    rw [nI_c (by omega)] at h4 h5
    have : k = 0 ∨ k = 1 ∨ k = 2 ∨ k = 3 ∨ k = 4 ∨ k = 5 ∨ k = 6 := by omega
    rcases this with rfl | rfl | rfl | rfl | rfl | rfl | rfl <;> exact ⟨_, rfl, vp_in_iff.mpr (by omega)⟩
  · rw [numId_7 (by omega)]
    exact ⟨_, rfl, vp_in_iff.mpr (by omega)⟩
set_option maxHeartbeats 1000000 in
theorem c_X7_numbers (V : Vt) (d : Nat) (σ : Sg) (q : Int32) : CT layC V mX7_numbers (d) [rf V 1, .int q] σ (Rr V (fun k σ' => numId q = k ∧ σ = σ') ) := by
  refine CT.of (own := RX7) rfl (by decide) (Nat.le_of_ble_eq_true rfl) (fun X (hx : Ok V RX7 cX7_numbers 2 (d) X) (he : En layC V (some (.array .int)) (Rr V (fun k σ' => numId q = k ∧ σ = σ') ) X) => ?_)
  change WS layC V 2 X σ 0 [(0, rf V 1), (1, .int q)] []
  refine WS.iload_n hx dX7_numbers_0 rfl 1 rfl ?_
  by_cases s1_0 : q = 0
  · refine WS.tableIn (off := 43) (tgt := 44) hx dX7_numbers_1 (by rw [s1_0]; decide) (by rw [s1_0]; decide) (by rw [s1_0]; decide) (by decide) ?_
    show WS layC V 2 X σ 44 [(0, rf V 1), (1, .int q)] []
    refine WS.aload_n hx dX7_numbers_44 rfl 0 rfl ?_
    refine WS.getR hx okX7 lf7_9 rfl rfl dX7_numbers_45 ?_
    exact WS.aret hx he dX7_numbers_48 ⟨11, rfl, by rw [s1_0]; rfl, rfl⟩
  by_cases s1_1 : q = 1
  · refine WS.tableIn (off := 48) (tgt := 49) hx dX7_numbers_1 (by rw [s1_1]; decide) (by rw [s1_1]; decide) (by rw [s1_1]; decide) (by decide) ?_
    show WS layC V 2 X σ 49 [(0, rf V 1), (1, .int q)] []
    refine WS.aload_n hx dX7_numbers_49 rfl 0 rfl ?_
    refine WS.getR hx okX7 lf7_15 rfl rfl dX7_numbers_50 ?_
    exact WS.aret hx he dX7_numbers_53 ⟨12, rfl, by rw [s1_1]; rfl, rfl⟩
  by_cases s1_2 : q = 2
  · refine WS.tableIn (off := 53) (tgt := 54) hx dX7_numbers_1 (by rw [s1_2]; decide) (by rw [s1_2]; decide) (by rw [s1_2]; decide) (by decide) ?_
    show WS layC V 2 X σ 54 [(0, rf V 1), (1, .int q)] []
    refine WS.aload_n hx dX7_numbers_54 rfl 0 rfl ?_
    refine WS.getR hx okX7 lf7_18 rfl rfl dX7_numbers_55 ?_
    exact WS.aret hx he dX7_numbers_58 ⟨13, rfl, by rw [s1_2]; rfl, rfl⟩
  by_cases s1_3 : q = 3
  · refine WS.tableIn (off := 58) (tgt := 59) hx dX7_numbers_1 (by rw [s1_3]; decide) (by rw [s1_3]; decide) (by rw [s1_3]; decide) (by decide) ?_
    show WS layC V 2 X σ 59 [(0, rf V 1), (1, .int q)] []
    refine WS.aload_n hx dX7_numbers_59 rfl 0 rfl ?_
    refine WS.getR hx okX7 lf7_21 rfl rfl dX7_numbers_60 ?_
    exact WS.aret hx he dX7_numbers_63 ⟨14, rfl, by rw [s1_3]; rfl, rfl⟩
  by_cases s1_4 : q = 4
  · refine WS.tableIn (off := 63) (tgt := 64) hx dX7_numbers_1 (by rw [s1_4]; decide) (by rw [s1_4]; decide) (by rw [s1_4]; decide) (by decide) ?_
    show WS layC V 2 X σ 64 [(0, rf V 1), (1, .int q)] []
    refine WS.aload_n hx dX7_numbers_64 rfl 0 rfl ?_
    refine WS.getR hx okX7 lf7_24 rfl rfl dX7_numbers_65 ?_
    exact WS.aret hx he dX7_numbers_68 ⟨15, rfl, by rw [s1_4]; rfl, rfl⟩
  by_cases s1_5 : q = 5
  · refine WS.tableIn (off := 68) (tgt := 69) hx dX7_numbers_1 (by rw [s1_5]; decide) (by rw [s1_5]; decide) (by rw [s1_5]; decide) (by decide) ?_
    show WS layC V 2 X σ 69 [(0, rf V 1), (1, .int q)] []
    refine WS.aload_n hx dX7_numbers_69 rfl 0 rfl ?_
    refine WS.getR hx okX7 lf7_27 rfl rfl dX7_numbers_70 ?_
    exact WS.aret hx he dX7_numbers_73 ⟨16, rfl, by rw [s1_5]; rfl, rfl⟩
  by_cases s1_6 : q = 6
  · refine WS.tableIn (off := 73) (tgt := 74) hx dX7_numbers_1 (by rw [s1_6]; decide) (by rw [s1_6]; decide) (by rw [s1_6]; decide) (by decide) ?_
    show WS layC V 2 X σ 74 [(0, rf V 1), (1, .int q)] []
    refine WS.aload_n hx dX7_numbers_74 rfl 0 rfl ?_
    refine WS.getR hx okX7 lf7_30 rfl rfl dX7_numbers_75 ?_
    exact WS.aret hx he dX7_numbers_78 ⟨17, rfl, by rw [s1_6]; rfl, rfl⟩
  refine WS.tableOut (tgt := 79) hx dX7_numbers_1 (sw_out q 0 6 (by simp only [i_eq, tI_0, tI_1, tI_2, tI_3, tI_4, tI_5, tI_6] at *; omega)) (by decide) ?_
  show WS layC V 2 X σ 79 [(0, rf V 1), (1, .int q)] []
  refine WS.aload_n hx dX7_numbers_79 rfl 0 rfl ?_
  refine WS.getR hx okX7 lf7_33 rfl rfl dX7_numbers_80 ?_
  exact WS.aret hx he dX7_numbers_83 ⟨18, rfl, numId_7 (by simp only [i_eq, tI_0, tI_1, tI_2, tI_3, tI_4, tI_5, tI_6] at *; omega), rfl⟩
set_option maxHeartbeats 1000000 in
theorem c_X7_told (V : Vt) (d : Nat) (σ : Sg) (n : Nat) (hQ : QI σ n) (b q : Int32) (hh : hasC n b q) : CT layC V mX7_told (d + 1) [rf V 1, .int b, .int q] σ (Ro (σ.1 (numId q) (nn b)) σ) := by
  refine CT.of (own := RX7) rfl (by decide) (Nat.le_of_ble_eq_true rfl) (fun X (hx : Ok V RX7 cX7_told 3 (d + 1) X) (he : En layC V (some .int) (Ro (σ.1 (numId q) (nn b)) σ) X) => ?_)
  change WS layC V 3 X σ 0 [(0, rf V 1), (1, .int b), (2, .int q)] []
  obtain ⟨len, hlen, hin⟩ := hasC_lay hQ.n hh
  refine WS.aload_n hx dX7_told_0 rfl 0 rfl ?_
  refine WS.iload_n hx dX7_told_1 rfl 1 rfl ?_
  refine WS.iload_n hx dX7_told_2 rfl 2 rfl ?_
  refine WS.callVi (st := []) [.int b, .int q] hx (c_X7_has V d σ n hQ b q) okX7_has lm7_57 rfl rfl rfl rfl (Nat.le_of_ble_eq_true rfl) dX7_told_3 (fun v1 σ2 h3 => ?_)
  rcases h3 with ⟨rfl, rfl, hb3⟩ | ⟨rfl, rfl, hb3⟩
  · skip
    show WS layC V 3 X σ 6 [(0, rf V 1), (1, .int b), (2, .int q)] [.int 1]
    refine WS.if_eq (tgt := 19) hx dX7_told_6 (by decide) (fun h => absurd h (by decide)) (fun _ => ?_)
    refine WS.aload_n hx dX7_told_9 rfl 0 rfl ?_
    refine WS.iload_n hx dX7_told_10 rfl 2 rfl ?_
    refine WS.callVr (st := []) [.int q] hx (c_X7_numbers V d σ q) okX7_numbers lm7_61 rfl rfl rfl rfl (Nat.le_of_ble_eq_true rfl) dX7_told_11 (fun v4 σ5 h6 => ?_)
    obtain ⟨rfl, rfl⟩ := h6
    show WS layC V 3 X σ 14 [(0, rf V 1), (1, .int b), (2, .int q)] [rf V (numId q)]
    refine WS.iload_n hx dX7_told_14 rfl 1 rfl ?_
    refine WS.iald hx hlen hin dX7_told_15 ?_
    refine WS.goto (tgt := 20) hx dX7_told_16 (by decide) ?_
    exact WS.iret hx he dX7_told_20 (Ro.i rfl)
  · skip
    show WS layC V 3 X σ 6 [(0, rf V 1), (1, .int b), (2, .int q)] [.int 0]
    refine WS.if_eq (tgt := 19) hx dX7_told_6 (by decide) (fun _ => ?_) (fun h => absurd (by decide) h)
    refine WS.iconst (v := (-1)) hx dX7_told_19 (by decide) ?_
    exact WS.iret hx he dX7_told_20 (absurd hh hb3)
theorem isSo_f (q : Int32) : zt_f 0 (nn q) = zt_f 0 q.toNatClampNeg := rfl
set_option maxHeartbeats 1000000 in
theorem c_X7_isSo (V : Vt) (d : Nat) (σ : Sg) (q v : Int32) : CT layC V mX7_isSo (d + 1) [.int q, .int v] σ (Rb (isSoC q v) σ) := by
  refine CT.of (own := RX7) rfl (by decide) (Nat.le_of_ble_eq_true rfl) (fun X (hx : Ok V RX7 cX7_isSo 2 (d + 1) X) (he : En layC V (some .boolean) (Rb (isSoC q v) σ) X) => ?_)
  change WS layC V 2 X σ 0 [(0, .int q), (1, .int v)] []
  refine WS.iload_n hx dX7_isSo_0 rfl 0 rfl ?_
  refine WS.iconst (v := 0) hx dX7_isSo_1 (by decide) ?_
  refine WS.bipush (v := 7) hx dX7_isSo_2 (by decide) ?_
  refine WS.callNi (st := []) [.int q, .int 0, .int 7] hx (c_X10_within V d σ q 0 7) okX10_within (by decide) rfl rfl rfl (Nat.le_of_ble_eq_true rfl) dX7_isSo_4 (fun v1 σ2 h3 => ?_)
  rcases h3 with ⟨rfl, rfl, hb4⟩ | ⟨rfl, rfl, hb4⟩
  · skip
    show WS layC V 2 X σ 7 [(0, .int q), (1, .int v)] [.int 1]
    refine WS.if_eq (tgt := 27) hx dX7_isSo_7 (by decide) (fun h => absurd h (by decide)) (fun _ => ?_)
    refine WS.iload_n hx dX7_isSo_10 rfl 1 rfl ?_
    refine WS.iconst (v := 0) hx dX7_isSo_11 (by decide) ?_
    refine WS.gets (k := 0) hx rfl ls7_54 dX7_isSo_12 ?_
    refine WS.iload_n hx dX7_isSo_15 rfl 0 rfl ?_
    refine WS.tald (k := 0) hx rfl (show vp_in q 8 from (vp_in_iff.mpr (by (try simp only [i_le, tI_0, tI_7] at hb4); omega))) dX7_isSo_16 ?_
    refine WS.callNi (st := []) [.int v, .int 0, .int (zt_f 0 (nn q))] hx (c_X10_within V d σ v 0 (zt_f 0 (nn q))) okX10_within (by decide) rfl rfl rfl (Nat.le_of_ble_eq_true rfl) dX7_isSo_17 (fun v4 σ5 h6 => ?_)
    rcases h6 with ⟨rfl, rfl, hb17⟩ | ⟨rfl, rfl, hb17⟩
    · skip
      show WS layC V 2 X σ 20 [(0, .int q), (1, .int v)] [.int 1]
      refine WS.if_eq (tgt := 27) hx dX7_isSo_20 (by decide) (fun h => absurd h (by decide)) (fun _ => ?_)
      refine WS.iconst (v := 1) hx dX7_isSo_23 (by decide) ?_
      refine WS.goto (tgt := 28) hx dX7_isSo_24 (by decide) ?_
      exact WS.zret hx he dX7_isSo_28 (Or.inr rfl) (Rb.t (by unfold isSoC; (try simp only [i_le, i_lt, i_eq, tI_0, tI_1, tI_7] at hb4); (try simp only [i_le, i_lt, i_eq, tI_0, tI_1, tI_7] at hb17); (try simp only [i_le, i_lt, i_eq, tI_0, tI_1, tI_7]); omega))
    · skip
      show WS layC V 2 X σ 20 [(0, .int q), (1, .int v)] [.int 0]
      refine WS.if_eq (tgt := 27) hx dX7_isSo_20 (by decide) (fun _ => ?_) (fun h => absurd (by decide) h)
      refine WS.iconst (v := 0) hx dX7_isSo_27 (by decide) ?_
      exact WS.zret hx he dX7_isSo_28 (Or.inl rfl) (Rb.f (by unfold isSoC; (try simp only [i_le, i_lt, i_eq, tI_0, tI_1, tI_7] at hb4); (try simp only [i_le, i_lt, i_eq, tI_0, tI_1, tI_7] at hb17); (try simp only [i_le, i_lt, i_eq, tI_0, tI_1, tI_7]); omega))
  · skip
    show WS layC V 2 X σ 7 [(0, .int q), (1, .int v)] [.int 0]
    refine WS.if_eq (tgt := 27) hx dX7_isSo_7 (by decide) (fun _ => ?_) (fun h => absurd (by decide) h)
    refine WS.iconst (v := 0) hx dX7_isSo_27 (by decide) ?_
    exact WS.zret hx he dX7_isSo_28 (Or.inl rfl) (Rb.f (by unfold isSoC; (try simp only [i_le, i_lt, i_eq, tI_0, tI_1, tI_7] at hb4); (try simp only [i_le, i_lt, i_eq, tI_0, tI_1, tI_7]); omega))
set_option maxHeartbeats 1000000 in
theorem c_X7_become (V : Vt) (d : Nat) (σ : Sg) (n : Nat) (hQ : QI σ n) (b q : Int32) (hh : hasC n b q) (v : Int32) (hv : isSoC q v) : CT layC V mX7_become (d + 2) [rf V 1, .int b, .int q, .int v] σ (Rvo (stI σ (numId q) (nn b) v)) := by
  refine CT.of (own := RX7) rfl (by decide) (Nat.le_of_ble_eq_true rfl) (fun X (hx : Ok V RX7 cX7_become 4 (d + 2) X) (he : En layC V none (Rvo (stI σ (numId q) (nn b) v)) X) => ?_)
  change WS layC V 4 X σ 0 [(0, rf V 1), (1, .int b), (2, .int q), (3, .int v)] []
  obtain ⟨len, hlen, hin⟩ := hasC_lay hQ.n hh
  refine WS.aload_n hx dX7_become_0 rfl 0 rfl ?_
  refine WS.iload_n hx dX7_become_1 rfl 1 rfl ?_
  refine WS.iload_n hx dX7_become_2 rfl 2 rfl ?_
  refine WS.callVi (st := []) [.int b, .int q] hx (c_X7_has V (d + 1) σ n hQ b q) okX7_has lm7_57 rfl rfl rfl rfl (Nat.le_of_ble_eq_true rfl) dX7_become_3 (fun v1 σ2 h3 => ?_)
  rcases h3 with ⟨rfl, rfl, hb3⟩ | ⟨rfl, rfl, hb3⟩
  · skip
    show WS layC V 4 X σ 6 [(0, rf V 1), (1, .int b), (2, .int q), (3, .int v)] [.int 1]
    refine WS.if_eq (tgt := 25) hx dX7_become_6 (by decide) (fun h => absurd h (by decide)) (fun _ => ?_)
    refine WS.iload_n hx dX7_become_9 rfl 2 rfl ?_
    refine WS.iload_n hx dX7_become_10 rfl 3 rfl ?_
    refine WS.callSi (st := []) [.int q, .int v] hx (c_X7_isSo V d σ q v) okX7_isSo lm7_65 rfl rfl (Nat.le_of_ble_eq_true rfl) dX7_become_11 (fun v4 σ5 h6 => ?_)
    rcases h6 with ⟨rfl, rfl, hb11⟩ | ⟨rfl, rfl, hb11⟩
    · skip
      show WS layC V 4 X σ 14 [(0, rf V 1), (1, .int b), (2, .int q), (3, .int v)] [.int 1]
      refine WS.if_eq (tgt := 25) hx dX7_become_14 (by decide) (fun h => absurd h (by decide)) (fun _ => ?_)
      refine WS.aload_n hx dX7_become_17 rfl 0 rfl ?_
      refine WS.iload_n hx dX7_become_18 rfl 2 rfl ?_
      refine WS.callVr (st := []) [.int q] hx (c_X7_numbers V (d + 1) σ q) okX7_numbers lm7_61 rfl rfl rfl rfl (Nat.le_of_ble_eq_true rfl) dX7_become_19 (fun v7 σ8 h9 => ?_)
      obtain ⟨rfl, rfl⟩ := h9
      show WS layC V 4 X σ 22 [(0, rf V 1), (1, .int b), (2, .int q), (3, .int v)] [rf V (numId q)]
      refine WS.iload_n hx dX7_become_22 rfl 1 rfl ?_
      refine WS.iload_n hx dX7_become_23 rfl 3 rfl ?_
      refine WS.iast hx hlen hin dX7_become_24 ?_
      exact WS.vret hx he dX7_become_25 Rvo.i
    · skip
      show WS layC V 4 X σ 14 [(0, rf V 1), (1, .int b), (2, .int q), (3, .int v)] [.int 0]
      refine WS.if_eq (tgt := 25) hx dX7_become_14 (by decide) (fun _ => ?_) (fun h => absurd (by decide) h)
      exact WS.vret hx he dX7_become_25 (by first | exact absurd hh hb3 | exact absurd hv hb11)
  · skip
    show WS layC V 4 X σ 6 [(0, rf V 1), (1, .int b), (2, .int q), (3, .int v)] [.int 0]
    refine WS.if_eq (tgt := 25) hx dX7_become_6 (by decide) (fun _ => ?_) (fun h => absurd (by decide) h)
    exact WS.vret hx he dX7_become_25 (by first | exact absurd hh hb3 | exact absurd hv hb11)

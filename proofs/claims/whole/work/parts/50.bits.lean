theorem b_nI {k i : Nat} (hi : i < 32) : bt (nI k) i = k.testBit i := by
  show (BitVec.ofNat 32 k).getLsbD i = k.testBit i
  rw [BitVec.getLsbD_ofNat, decide_eq_true hi, Bool.true_and]
theorem pk_landN (a b : Nat) : nI a &&& nI b = nI (a &&& b) := by
  apply b_ext
  intro i hi
  rw [b_and, b_nI hi, b_nI hi, b_nI hi, Nat.testBit_and]
theorem bc_om {p q : Nat} (hp : p ≤ 8) (hq : q ≤ 8) : (p + 256 * q + (p + 256 * q) / 256 + (p + 256 * q + (p + 256 * q) / 256) / 65536) % 64 = p + q := by
  have e1 : (p + 256 * q) / 256 = q := by omega
  rw [e1]
  have e2 : (p + 256 * q + q) / 65536 = 0 := by omega
  rw [e2]
  omega
theorem pk_subN {a b : Nat} (h : b ≤ a) (ha : a < 2 ^ 31) : nI a - nI b = nI (a - b) := by
  apply Int32.toInt_inj.mp
  rw [i_sub (by rw [nI_c (by omega), nI_c (by omega)]; omega) (by rw [nI_c (by omega), nI_c (by omega)]; omega), nI_c (by omega), nI_c (by omega), nI_c (by omega)]
  omega
theorem pk_ush {k s : Nat} (hk : k < 2 ^ 31) (hs : s < 32) : ((nI k).toUInt32 >>> ((nI s).toUInt32 &&& Int32.toUInt32 31)).toInt32 = nI (k / 2 ^ s) := by
  apply b_ext
  intro i hi
  rw [b_ushr s hs]
  show (BitVec.ofNat 32 k).getLsbD (s + i) = (BitVec.ofNat 32 (k / 2 ^ s)).getLsbD i
  rw [BitVec.getLsbD_ofNat, BitVec.getLsbD_ofNat, Nat.testBit_div_two_pow, decide_eq_true hi, Bool.true_and, Nat.add_comm i s]
  by_cases h : s + i < 32
  · rw [decide_eq_true h, Bool.true_and]
  · rw [decide_eq_false h, Bool.false_and]
    exact (Nat.testBit_lt_two_pow (Nat.lt_of_lt_of_le (show k < 2 ^ 32 by omega) (Nat.pow_le_pow_right (by decide) (by omega)))).symm
def n1 (k : Nat) : Nat := k - ((k / 2) &&& 1431655765)
def n2 (k : Nat) : Nat := (k &&& 858993459) + ((k / 4) &&& 858993459)
def n3 (k : Nat) : Nat := (k + k / 16) &&& 252645135
def n4 (k : Nat) : Nat := k + k / 256
def n5 (k : Nat) : Nat := k + k / 65536
theorem n1_le (k : Nat) : n1 k ≤ k := Nat.sub_le _ _
theorem n2_le (k : Nat) : n2 k ≤ 858993459 + 858993459 := Nat.add_le_add Nat.and_le_right Nat.and_le_right
theorem land_by {a b m M : Nat} (ha : a < 256) (hm : m < 256) : (a + 256 * b) &&& (m + 256 * M) = (a &&& m) + 256 * (b &&& M) := by
  rw [show a + 256 * b = 2 ^ 8 * b + a by omega, show m + 256 * M = 2 ^ 8 * M + m by omega, show (a &&& m) + 256 * (b &&& M) = 2 ^ 8 * (b &&& M) + (a &&& m) by omega]
  apply Nat.eq_of_testBit_eq
  intro i
  have h9 : a &&& m < 2 ^ 8 := Nat.lt_of_le_of_lt Nat.and_le_left ha
  rw [Nat.testBit_and, Nat.testBit_two_pow_mul_add _ ha, Nat.testBit_two_pow_mul_add _ hm, Nat.testBit_two_pow_mul_add _ h9]
  split
  · rw [Nat.testBit_and]
  · rw [Nat.testBit_and]
theorem dd1 : ∀ a, a < 256 → ∀ c, c < 2 → (a / 2 + 128 * c) &&& 85 = (a / 2) &&& 1431655765 := by decide +kernel
theorem dd2 : ∀ a, a < 256 → ∀ c, c < 4 → (a / 4 + 64 * c) &&& 51 = (a / 4) &&& 858993459 := by decide +kernel
theorem dd2b : ∀ a, a < 256 → a &&& 51 = a &&& 858993459 := by decide +kernel
theorem dd3 : ∀ a, a < 69 → ∀ c, c < 5 → (a + a / 16 + 16 * c) &&& 15 = (a + a / 16) &&& 252645135 := by decide +kernel
theorem de1 : ∀ b, b < 256 → (b / 2) &&& 5592405 = (b / 2) &&& 1431655765 := by decide +kernel
theorem de2 : ∀ b, b < 256 → (b / 4) &&& 3355443 = (b / 4) &&& 858993459 ∧ b &&& 3355443 = b &&& 858993459 := by decide +kernel
theorem de3 : ∀ b, b < 69 → (b + b / 16) &&& 986895 = (b + b / 16) &&& 252645135 := by decide +kernel
theorem n1_2 {a b : Nat} (ha : a < 256) (hb : b < 256) : n1 (a + 256 * b) = n1 a + 256 * n1 b := by
  unfold n1
  have h1 := dd1 a ha (b % 2) (by omega)
  have h2 := de1 b hb
  have h3 := land_by (a := a / 2 + 128 * (b % 2)) (b := b / 2) (m := 85) (M := 5592405) (by omega) (by decide)
  rw [show a / 2 + 128 * (b % 2) + 256 * (b / 2) = (a + 256 * b) / 2 by omega, h1, h2] at h3
  rw [show (1431655765 : Nat) = 85 + 256 * 5592405 from rfl, h3]
  have h4 : (a / 2) &&& 1431655765 ≤ a / 2 := Nat.and_le_left
  have h5 : (b / 2) &&& 1431655765 ≤ b / 2 := Nat.and_le_left
  show a + 256 * b - (((a / 2) &&& 1431655765) + 256 * ((b / 2) &&& 1431655765)) = a - ((a / 2) &&& 1431655765) + 256 * (b - ((b / 2) &&& 1431655765))
  omega
theorem n2_2 {a b : Nat} (ha : a < 256) (hb : b < 256) : n2 (a + 256 * b) = n2 a + 256 * n2 b := by
  unfold n2
  have h1 := dd2 a ha (b % 4) (by omega)
  have h2 := de2 b hb
  have h3 := land_by (a := a / 4 + 64 * (b % 4)) (b := b / 4) (m := 51) (M := 3355443) (by omega) (by decide)
  have h4 := land_by (a := a) (b := b) (m := 51) (M := 3355443) ha (by decide)
  rw [show a / 4 + 64 * (b % 4) + 256 * (b / 4) = (a + 256 * b) / 4 by omega, h1, h2.1] at h3
  rw [dd2b a ha, h2.2] at h4
  have e : (858993459 : Nat) = 51 + 256 * 3355443 := rfl
  have h5 : (a + 256 * b) / 4 &&& 858993459 = ((a / 4) &&& 858993459) + 256 * ((b / 4) &&& 858993459) := h3
  have h6 : (a + 256 * b) &&& 858993459 = (a &&& 858993459) + 256 * (b &&& 858993459) := h4
  rw [h5, h6]
  omega
theorem n3_2 {a b : Nat} (ha : a < 69) (hb : b < 69) (hc : b % 16 < 5) : n3 (a + 256 * b) = n3 a + 256 * n3 b := by
  unfold n3
  have h1 := dd3 a ha (b % 16) hc
  have h2 := de3 b hb
  have h3 := land_by (a := a + a / 16 + 16 * (b % 16)) (b := b + b / 16) (m := 15) (M := 986895) (by omega) (by decide)
  rw [show a + a / 16 + 16 * (b % 16) + 256 * (b + b / 16) = a + 256 * b + (a + 256 * b) / 16 by omega, h1, h2] at h3
  exact h3
def pop (k : Nat) : Nat → Nat
  | 0 => 0
  | i + 1 => pop k i + k / 2 ^ i % 2
theorem by8 : ∀ a, a < 256 → n1 a < 256 ∧ n2 (n1 a) < 69 ∧ n2 (n1 a) % 16 < 5 ∧ n3 (n2 (n1 a)) = pop a 8 ∧ pop a 8 ≤ 8 := by decide +kernel
theorem pop_2 {a b : Nat} (ha : a < 256) : pop (a + 256 * b) 16 = pop a 8 + pop b 8 := by
  simp only [pop, Nat.zero_add, Nat.reducePow, Nat.div_one]
  omega
theorem bc_n {k : Nat} (hk : k < 65536) : bcF (nI k) = nI (pop k 16) := by
  have ha : k % 256 < 256 := Nat.mod_lt _ (by decide)
  have hb : k / 256 < 256 := by omega
  have ek : k % 256 + 256 * (k / 256) = k := by omega
  obtain ⟨a1, a2, a3, a4, a5⟩ := by8 _ ha
  obtain ⟨b1, b2, b3, b4, b5⟩ := by8 _ hb
  have e1 := n1_2 ha hb
  have e2 := n2_2 a1 b1
  have e3 := n3_2 a2 b2 b3
  rw [ek] at e1
  rw [← e1] at e2
  rw [← e2, a4, b4] at e3
  have ep := pop_2 (b := k / 256) ha
  rw [ek] at ep
  have l1 := n1_le k
  have l2 := n2_le (n1 k)
  have f1 : bc1 (nI k) = nI (n1 k) := by
    unfold bc1 ush
    rw [show (1 : Int32) = nI 1 from rfl, pk_ush (by omega) (by decide), show (1431655765 : Int32) = nI 1431655765 from rfl, pk_landN, pk_subN (by show (k / 2 ^ 1) &&& 1431655765 ≤ k; exact Nat.le_trans Nat.and_le_left (Nat.div_le_self _ _)) (by omega)]
    rfl
  have f2 : bc2 (nI (n1 k)) = nI (n2 (n1 k)) := by
    unfold bc2 ush
    rw [show (2 : Int32) = nI 2 from rfl, pk_ush (by omega) (by decide), show (858993459 : Int32) = nI 858993459 from rfl, pk_landN, pk_landN, nI_add]
    rfl
  have f3 : bc3 (nI (n2 (n1 k))) = nI (n3 (n2 (n1 k))) := by
    unfold bc3 ush
    rw [show (4 : Int32) = nI 4 from rfl, pk_ush (by omega) (by decide), show (252645135 : Int32) = nI 252645135 from rfl, nI_add, pk_landN]
    rfl
  unfold bcF
  rw [f1, f2, f3, e3, ep]
  unfold bc4 ush
  rw [show (8 : Int32) = nI 8 from rfl, pk_ush (by omega) (by decide), nI_add]
  unfold bc5 ush
  rw [show (16 : Int32) = nI 16 from rfl, pk_ush (by simp only [Nat.reducePow]; omega) (by decide), nI_add, show (63 : Int32) = nI (2 ^ 6 - 1) from rfl, pk_landN, Nat.and_two_pow_sub_one_eq_mod]
  congr 1
  simp only [Nat.reducePow]
  exact bc_om a5 b5
theorem pop_le (k : Nat) : ∀ i, pop k i ≤ i
  | 0 => Nat.le_refl _
  | i + 1 => by have := pop_le k i; show pop k i + k / 2 ^ i % 2 ≤ i + 1; omega
theorem sar_n {k i : Nat} (hk : k < 2 ^ 31) (hi : i < 32) : (nI k >>> (nI i &&& 31)) &&& 1 = nI (k / 2 ^ i % 2) := by
  rw [show (nI k >>> (nI i &&& 31)) = nI (k / 2 ^ i) from ?_, show (1 : Int32) = nI (2 ^ 1 - 1) from rfl, pk_landN, Nat.and_two_pow_sub_one_eq_mod]
  apply b_ext
  intro j hj
  rw [b_sshr i hi _ hj]
  show (if i + j < 32 then (BitVec.ofNat 32 k).getLsbD (i + j) else (BitVec.ofNat 32 k).getLsbD 31) = (BitVec.ofNat 32 (k / 2 ^ i)).getLsbD j
  rw [BitVec.getLsbD_ofNat, BitVec.getLsbD_ofNat, BitVec.getLsbD_ofNat, Nat.testBit_div_two_pow, decide_eq_true hj, Bool.true_and, Nat.add_comm j i]
  by_cases h : i + j < 32
  · rw [if_pos h, decide_eq_true h, Bool.true_and]
  · rw [if_neg h, Nat.testBit_lt_two_pow hk, Nat.testBit_lt_two_pow (Nat.lt_of_lt_of_le (show k < 2 ^ 32 by omega) (Nat.pow_le_pow_right (by decide) (by omega))), Bool.and_false]
theorem bt_pop {k : Nat} (hk : k < 2 ^ 31) : ∀ i, i ≤ 32 → btM (nI k) i = nI (pop k i)
  | 0, _ => rfl
  | i + 1, h => by
    show btM (nI k) i + ((nI k >>> (nI i &&& 31)) &&& 1) = nI (pop k i + k / 2 ^ i % 2)
    rw [bt_pop hk i (by omega), sar_n hk (by omega), nI_add]
theorem bc_bt {k : Nat} (hk : k < 65536) : bcF (nI k) = btM (nI k) 16 := by rw [bc_n hk, bt_pop (by omega) 16 (by decide)]
theorem bitP_n {k b : Nat} (hk : k < 2 ^ 31) (hb : b < 32) : bitP (nI k) b = decide (k / 2 ^ b % 2 = 1) := by
  unfold bitP
  rw [sar_n hk hb]
  have h9 : k / 2 ^ b % 2 < 2 := Nat.mod_lt _ (by decide)
  by_cases h : k / 2 ^ b % 2 = 1
  · rw [h]; rfl
  · rw [decide_eq_false h, show k / 2 ^ b % 2 = 0 by omega]; rfl
theorem bitP_b {x : Int32} {b : Nat} (hb : b < 32) : bitP x b = bt x b := by
  unfold bitP
  have h9 : (x >>> (nI b &&& 31)) &&& 1 = 1 ↔ bt x b = true := by
    constructor
    · intro h
      have := congrArg (fun z => bt z 0) h
      (try dsimp only at this)
      rw [b_and, b_sshr b hb _ (by decide), if_pos (by omega), b_1 0 (by decide), Nat.add_zero] at this
      simpa using this
    · intro h
      apply b_ext
      intro i hi
      rw [b_and, b_1 i hi]
      by_cases e : i = 0
      · rw [e, b_sshr b hb _ (by decide), if_pos (by omega), Nat.add_zero, h]; rfl
      · rw [decide_eq_false e, Bool.and_false]
  by_cases h : bt x b = true
  · rw [h]; exact decide_eq_true (h9.mpr h)
  · rw [Bool.not_eq_true] at h
    rw [h]; exact decide_eq_false (fun g => by rw [h9.mp g] at h; exact absurd h (by decide))
theorem b_one {b i : Nat} (hb : b < 32) (hi : i < 32) : bt ((1 : Int32) <<< (nI b &&& 31)) i = decide (i = b) := by
  rw [b_shl b hb _ hi]
  by_cases h : b ≤ i
  · rw [decide_eq_true h, Bool.true_and, b_1 (i - b) (by omega)]
    by_cases e : i = b
    · rw [decide_eq_true e, decide_eq_true (by omega)]
    · rw [decide_eq_false e, decide_eq_false (by omega)]
  · rw [decide_eq_false h, Bool.false_and, decide_eq_false (by omega)]
theorem b_orW {p : Nat → Bool} {a : Nat → Nat} (ha : ∀ k, a k < 32) {i : Nat} (hi : i < 32) : ∀ n, (bt (orW p (fun k => nI (a k)) n) i = true ↔ ∃ k, k < n ∧ p k = true ∧ a k = i)
  | 0 => by
    show bt 0 i = true ↔ _
    rw [b_0]
    exact ⟨fun h => absurd h (by decide), fun ⟨k, hk, _⟩ => absurd hk (Nat.not_lt_zero k)⟩
  | n + 1 => by
    show bt (if p n = true then orW p (fun k => nI (a k)) n ||| ((1 : Int32) <<< (nI (a n) &&& 31)) else orW p (fun k => nI (a k)) n) i = true ↔ _
    have ih := b_orW (p := p) ha hi n
    by_cases h : p n = true
    · rw [if_pos h, b_or, b_one (ha n) hi, Bool.or_eq_true, ih]
      constructor
      · rintro (⟨k, h1, h2, h3⟩ | h1)
        · exact ⟨k, by omega, h2, h3⟩
        · exact ⟨n, by omega, h, (of_decide_eq_true h1).symm⟩
      · rintro ⟨k, h1, h2, h3⟩
        by_cases e : k = n
        · subst e; exact Or.inr (decide_eq_true h3.symm)
        · exact Or.inl ⟨k, by omega, h2, h3⟩
    · rw [if_neg h, ih]
      constructor
      · rintro ⟨k, h1, h2, h3⟩
        exact ⟨k, by omega, h2, h3⟩
      · rintro ⟨k, h1, h2, h3⟩
        by_cases e : k = n
        · subst e; exact absurd h2 h
        · exact ⟨k, by omega, h2, h3⟩
theorem orW_ex {p q : Nat → Bool} {a b : Nat → Nat} {n m : Nat} (ha : ∀ k, a k < 32) (hb : ∀ k, b k < 32) (h : ∀ i, i < 32 → ((∃ k, k < n ∧ p k = true ∧ a k = i) ↔ ∃ k, k < m ∧ q k = true ∧ b k = i)) : orW p (fun k => nI (a k)) n = orW q (fun k => nI (b k)) m := by
  apply b_ext
  intro i hi
  have := (b_orW (p := p) ha hi n).trans ((h i hi).trans (b_orW (p := q) hb hi m).symm)
  cases h1 : bt (orW p (fun k => nI (a k)) n) i <;> cases h2 : bt (orW q (fun k => nI (b k)) m) i <;> first | rfl | (rw [h1, h2] at this; simp at this)

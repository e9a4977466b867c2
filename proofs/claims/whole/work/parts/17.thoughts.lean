def bt (x : Int32) (i : Nat) : Bool := x.toBitVec.getLsbD i
theorem b_ext {x y : Int32} (h : ∀ i, i < 32 → bt x i = bt y i) : x = y := Int32.toBitVec_inj.mp (BitVec.eq_of_getLsbD_eq (fun i hi => h i hi))
theorem b_or (x y : Int32) (i : Nat) : bt (x ||| y) i = (bt x i || bt y i) := by unfold bt; rw [Int32.toBitVec_or, BitVec.getLsbD_or]
theorem b_and (x y : Int32) (i : Nat) : bt (x &&& y) i = (bt x i && bt y i) := by unfold bt; rw [Int32.toBitVec_and, BitVec.getLsbD_and]
theorem b_xor (x y : Int32) (i : Nat) : bt (x ^^^ y) i = (bt x i ^^ bt y i) := by unfold bt; rw [Int32.toBitVec_xor, BitVec.getLsbD_xor]
theorem b_big {x : Int32} {i : Nat} (h : 32 ≤ i) : bt x i = false := BitVec.getLsbD_of_ge _ _ h
theorem b_255 (i : Nat) : bt 255 i = decide (i < 8) := by
  rcases Nat.lt_or_ge i 32 with h | h
  · exact (by decide +kernel : ∀ i, i < 32 → bt 255 i = decide (i < 8)) i h
  · rw [b_big h, decide_eq_false (by omega)]
theorem b_65535 (i : Nat) : bt 65535 i = decide (i < 16) := by
  rcases Nat.lt_or_ge i 32 with h | h
  · exact (by decide +kernel : ∀ i, i < 32 → bt 65535 i = decide (i < 16)) i h
  · rw [b_big h, decide_eq_false (by omega)]
theorem b_m1 : ∀ i, i < 32 → bt (-1) i = true := by decide +kernel
theorem b_0 (i : Nat) : bt 0 i = false := BitVec.getLsbD_zero
theorem s_l : ∀ n, n < 32 → ((nI n &&& 31).toBitVec.smod 32).toNat = n := by decide +kernel
theorem s_u : ∀ n, n < 32 → (((nI n).toUInt32 &&& Int32.toUInt32 31).toBitVec % 32).toNat = n := by decide +kernel
theorem b_shl (n : Nat) (hn : n < 32) (x : Int32) {i : Nat} (hi : i < 32) : bt (x <<< (nI n &&& 31)) i = (decide (n ≤ i) && bt x (i - n)) := by
  unfold bt
  rw [Int32.toBitVec_shiftLeft]
  show (x.toBitVec <<< ((nI n &&& 31).toBitVec.smod 32).toNat).getLsbD i = _
  rw [s_l n hn, BitVec.getLsbD_shiftLeft]
  rcases Nat.lt_or_ge i n with h | h
  · simp [h, Nat.not_le.mpr h]
  · simp [hi, h, Nat.not_lt.mpr h]
theorem b_ushr (n : Nat) (hn : n < 32) (x : Int32) (i : Nat) : bt ((x.toUInt32 >>> ((nI n).toUInt32 &&& Int32.toUInt32 31)).toInt32) i = bt x (n + i) := by
  show (x.toUInt32 >>> ((nI n).toUInt32 &&& Int32.toUInt32 31)).toBitVec.getLsbD i = x.toUInt32.toBitVec.getLsbD (n + i)
  rw [UInt32.toBitVec_shiftRight]
  show (x.toUInt32.toBitVec >>> (((nI n).toUInt32 &&& Int32.toUInt32 31).toBitVec % 32).toNat).getLsbD i = _
  rw [s_u n hn, BitVec.getLsbD_ushiftRight]
theorem b_sshr (n : Nat) (hn : n < 32) (x : Int32) {i : Nat} (hi : i < 32) : bt (x >>> (nI n &&& 31)) i = if n + i < 32 then bt x (n + i) else bt x 31 := by
  unfold bt
  rw [Int32.toBitVec_shiftRight]
  show (x.toBitVec.sshiftRight ((nI n &&& 31).toBitVec.smod 32).toNat).getLsbD i = _
  rw [s_l n hn, BitVec.getLsbD_sshiftRight, BitVec.msb_eq_getLsbD_last]
  simp [hi]
/-- small numbers by their bits -/
theorem b_sm {x : Int32} {m n : Nat} (h : rg x m) (hm : m < 2 ^ n) (hn : n ≤ 31) {i : Nat} (hi : n ≤ i) : bt x i = false := by
  have e := h.i
  have hl := h.le
  rw [e]
  show (BitVec.ofNat 32 (nn x)).getLsbD i = false
  rw [BitVec.getLsbD_ofNat]
  have h2 : nn x < 2 ^ i := Nat.lt_of_le_of_lt hl (Nat.lt_of_lt_of_le hm (Nat.pow_le_pow_right (by decide) hi))
  rw [Nat.testBit_lt_two_pow h2, Bool.and_false]
theorem b_eq {x y : Int32} {m n p q : Nat} (hx : rg x m) (hy : rg y p) (hm : m < 2 ^ n) (hp : p < 2 ^ n) (hn : n ≤ 31) (h : ∀ i, i < n → bt x i = bt y i) : x = y := by
  apply b_ext
  intro i hi
  by_cases h1 : i < n
  · exact h i h1
  · rw [b_sm hx hm hn (by omega), b_sm hy hp hn (by omega)]
theorem b_1 : ∀ n, n < 32 → bt 1 n = decide (n = 0) := by decide +kernel
theorem b_15 : ∀ n, n < 32 → bt 15 n = decide (n < 4) := by decide +kernel
def R6 (b a w k o y : Int32) : Prop := rg b 9 ∧ rg a 15 ∧ rg w 9 ∧ rg k 9 ∧ rg o 15 ∧ rg y 99
def keyF (b a w k o y : Int32) : Int32 := ((((b ||| (a <<< ((4 : Int32) &&& 31))) ||| (w <<< ((8 : Int32) &&& 31))) ||| (k <<< ((12 : Int32) &&& 31))) ||| (o <<< ((16 : Int32) &&& 31))) ||| (y <<< ((20 : Int32) &&& 31))
theorem b_key (b a w k o y : Int32) {i : Nat} (hi : i < 32) : bt (keyF b a w k o y) i = (((((bt b i || (decide (4 ≤ i) && bt a (i - 4))) || (decide (8 ≤ i) && bt w (i - 8))) || (decide (12 ≤ i) && bt k (i - 12))) || (decide (16 ≤ i) && bt o (i - 16))) || (decide (20 ≤ i) && bt y (i - 20))) := by
  unfold keyF
  rw [b_or, b_or, b_or, b_or, b_or]
  rw [show (4 : Int32) = nI 4 from rfl, show (8 : Int32) = nI 8 from rfl, show (12 : Int32) = nI 12 from rfl, show (16 : Int32) = nI 16 from rfl, show (20 : Int32) = nI 20 from rfl]
  rw [b_shl 4 (by decide) a hi, b_shl 8 (by decide) w hi, b_shl 12 (by decide) k hi, b_shl 16 (by decide) o hi, b_shl 20 (by decide) y hi]
/-- a field of the key by its bits -/
theorem k_hi {b a w k o y : Int32} (h : R6 b a w k o y) {i : Nat} (h1 : 27 ≤ i) (hi : i < 32) : bt (keyF b a w k o y) i = false := by
  obtain ⟨h0, h2, h3, h4, h5, h6⟩ := h
  rw [b_key _ _ _ _ _ _ hi, b_sm h0 (n := 4) (by decide) (by decide) (by omega), b_sm h2 (n := 4) (by decide) (by decide) (by omega), b_sm h3 (n := 4) (by decide) (by decide) (by omega), b_sm h4 (n := 4) (by decide) (by decide) (by omega), b_sm h5 (n := 4) (by decide) (by decide) (by omega), b_sm h6 (n := 7) (by decide) (by decide) (by omega)]
  simp
theorem k_0 {b a w k o y : Int32} (h : R6 b a w k o y) {i : Nat} (hi : i < 4) : bt (keyF b a w k o y) i = bt b i := by
  rw [b_key _ _ _ _ _ _ (by omega), decide_eq_false (by omega), decide_eq_false (by omega), decide_eq_false (by omega), decide_eq_false (by omega), decide_eq_false (by omega)]
  simp
theorem k_1 {b a w k o y : Int32} (h : R6 b a w k o y) {i : Nat} (hi : i < 4) : bt (keyF b a w k o y) (4 + i) = bt a i := by
  obtain ⟨h0, h2, h3, h4, h5, h6⟩ := h
  rw [b_key _ _ _ _ _ _ (by omega), b_sm h0 (n := 4) (by decide) (by decide) (by omega), decide_eq_true (show 4 ≤ 4 + i by omega), decide_eq_false (by omega), decide_eq_false (by omega), decide_eq_false (by omega), decide_eq_false (by omega), show 4 + i - 4 = i by omega]
  simp
theorem k_2 {b a w k o y : Int32} (h : R6 b a w k o y) {i : Nat} (hi : i < 4) : bt (keyF b a w k o y) (8 + i) = bt w i := by
  obtain ⟨h0, h2, h3, h4, h5, h6⟩ := h
  rw [b_key _ _ _ _ _ _ (by omega), b_sm h0 (n := 4) (by decide) (by decide) (by omega), b_sm h2 (n := 4) (by decide) (by decide) (by omega), decide_eq_true (show 8 ≤ 8 + i by omega), decide_eq_false (show ¬ 12 ≤ 8 + i by omega), decide_eq_false (show ¬ 16 ≤ 8 + i by omega), decide_eq_false (show ¬ 20 ≤ 8 + i by omega), show 8 + i - 8 = i by omega]
  simp
theorem k_3 {b a w k o y : Int32} (h : R6 b a w k o y) {i : Nat} (hi : i < 4) : bt (keyF b a w k o y) (12 + i) = bt k i := by
  obtain ⟨h0, h2, h3, h4, h5, h6⟩ := h
  rw [b_key _ _ _ _ _ _ (by omega), b_sm h0 (n := 4) (by decide) (by decide) (by omega), b_sm h2 (n := 4) (by decide) (by decide) (by omega), b_sm h3 (n := 4) (by decide) (by decide) (by omega), decide_eq_true (show 12 ≤ 12 + i by omega), decide_eq_false (show ¬ 16 ≤ 12 + i by omega), decide_eq_false (show ¬ 20 ≤ 12 + i by omega), show 12 + i - 12 = i by omega]
  simp
theorem k_4 {b a w k o y : Int32} (h : R6 b a w k o y) {i : Nat} (hi : i < 4) : bt (keyF b a w k o y) (16 + i) = bt o i := by
  obtain ⟨h0, h2, h3, h4, h5, h6⟩ := h
  rw [b_key _ _ _ _ _ _ (by omega), b_sm h0 (n := 4) (by decide) (by decide) (by omega), b_sm h2 (n := 4) (by decide) (by decide) (by omega), b_sm h3 (n := 4) (by decide) (by decide) (by omega), b_sm h4 (n := 4) (by decide) (by decide) (by omega), decide_eq_true (show 16 ≤ 16 + i by omega), decide_eq_false (show ¬ 20 ≤ 16 + i by omega), show 16 + i - 16 = i by omega]
  simp
theorem k_5 {b a w k o y : Int32} (h : R6 b a w k o y) {i : Nat} (hi : i < 7) : bt (keyF b a w k o y) (20 + i) = bt y i := by
  obtain ⟨h0, h2, h3, h4, h5, h6⟩ := h
  rw [b_key _ _ _ _ _ _ (by omega), b_sm h0 (n := 4) (by decide) (by decide) (by omega), b_sm h2 (n := 4) (by decide) (by decide) (by omega), b_sm h3 (n := 4) (by decide) (by decide) (by omega), b_sm h4 (n := 4) (by decide) (by decide) (by omega), b_sm h5 (n := 4) (by decide) (by decide) (by omega), decide_eq_true (show 20 ≤ 20 + i by omega), show 20 + i - 20 = i by omega]
  simp
def nm6 (b a w k o y : Int32) (j : Nat) : Int32 := if j = 0 then b else if j = 1 then a else if j = 2 then w else if j = 3 then k else if j = 4 then o else y
def lwF (cs : Nat → Int32) (m : Nat) (b a w k o y : Int32) : Int32 := if m = 0 then 1 + b / 4 else mx 0 (mn 9 (rlC cs (nm6 b a w k o y) m 0 [] true))
theorem rl_congr (cs nm nm' : Nat → Int32) : ∀ (k i : Nat) (s : List Int32) (ct : Bool), (∀ j, i ≤ j → j < i + k → ¬ cs j < -6 → cs j < 0 → nm (nn (-1 - cs j)) = nm' (nn (-1 - cs j))) → rlC cs nm k i s ct = rlC cs nm' k i s ct
  | 0, i, s, ct, h => rfl
  | k + 1, i, s, ct, h => by
    have ih := fun s ct => rl_congr cs nm nm' k (i + 1) s ct (fun j h1 h2 => h j (by omega) (by omega))
    by_cases h1 : cs i < -6
    · cases s with
      | nil => rw [show rlC cs nm (k + 1) i [] ct = 0 from if_pos h1, show rlC cs nm' (k + 1) i [] ct = 0 from if_pos h1]
      | cons x r =>
        rw [rl_op h1, rl_op h1, ih, ih, ih, ih]
        cases r with
        | nil => rfl
        | cons v q =>
          dsimp only
          rw [ih]
    · rw [rl_push h1, rl_push h1, ih]
      by_cases h2 : cs i < 0
      · rw [if_pos h2, if_pos h2, h i (by omega) (by omega) h1 h2]
      · rw [if_neg h2, if_neg h2]
theorem nm_in {c : Int32} (h1 : ¬ c < -6) (h2 : c < 0) : nn (-1 - c) = 0 ∨ nn (-1 - c) = 1 ∨ nn (-1 - c) = 2 ∨ nn (-1 - c) = 3 ∨ nn (-1 - c) = 4 ∨ nn (-1 - c) = 5 := by
  rw [i_lt, tI_m6] at h1
  rw [i_lt, tI_0] at h2
  have e : (-1 - c).toInt = -1 - c.toInt := by rw [i_sub (by rw [tI_m1]; omega) (by rw [tI_m1]; omega), tI_m1]
  have := nn_int (x := -1 - c) (by omega)
  omega
/-- all names that the codes look at lie among the key's bits -/
def kbOk (cs : Nat → Int32) (m : Nat) (kb : Int32) : Prop := ∀ i, i < m → ¬ cs i < -6 → cs i < 0 → ∀ q, q < 32 → bt (zt_f 1 (nn (-1 - cs i))) q = true → bt kb q = true
theorem kb_0 : ∀ q, q < 32 → bt (zt_f 1 0) q = decide (q < 4) := by decide +kernel
theorem kb_1 : ∀ q, q < 32 → bt (zt_f 1 1) q = decide (4 ≤ q ∧ q < 8) := by decide +kernel
theorem kb_2 : ∀ q, q < 32 → bt (zt_f 1 2) q = decide (8 ≤ q ∧ q < 12) := by decide +kernel
theorem kb_3 : ∀ q, q < 32 → bt (zt_f 1 3) q = decide (12 ≤ q ∧ q < 16) := by decide +kernel
theorem kb_4 : ∀ q, q < 32 → bt (zt_f 1 4) q = decide (16 ≤ q ∧ q < 20) := by decide +kernel
theorem kb_5 : ∀ q, q < 32 → bt (zt_f 1 5) q = decide (20 ≤ q ∧ q < 27) := by decide +kernel
theorem b_ke {x y kb : Int32} (h : x &&& kb = y &&& kb) {q : Nat} (hq : bt kb q = true) : bt x q = bt y q := by
  have := congrArg (fun z => bt z q) h
  simpa [b_and, hq] using this
/-- the same key, the same law -/
theorem key_law {cs : Nat → Int32} {m : Nat} {kb b a w k o y b' a' w' k' o' y' : Int32} (hm : ¬ m = 0) (hk : kbOk cs m kb) (h : R6 b a w k o y) (h' : R6 b' a' w' k' o' y') (e : keyF b a w k o y &&& kb = keyF b' a' w' k' o' y' &&& kb) : lwF cs m b a w k o y = lwF cs m b' a' w' k' o' y' := by
  unfold lwF
  rw [if_neg hm, if_neg hm, rl_congr cs (nm6 b a w k o y) (nm6 b' a' w' k' o' y') m 0 [] true]
  intro j _ hj h1 h2
  have hb := hk j (by omega) h1 h2
  rcases nm_in h1 h2 with e0 | e0 | e0 | e0 | e0 | e0 <;> rw [e0] at hb ⊢
  · show b = b'
    exact b_eq h.1 h'.1 (n := 4) (by decide) (by decide) (by decide) (q := 0) (fun i hi => by rw [← k_0 h hi, ← k_0 h' hi]; exact b_ke e (hb i (by omega) (by rw [kb_0 i (by omega)]; simp; omega)))
  · show a = a'
    exact b_eq h.2.1 h'.2.1 (n := 4) (by decide) (by decide) (by decide) (q := 0) (fun i hi => by rw [← k_1 h hi, ← k_1 h' hi]; exact b_ke e (hb _ (by omega) (by rw [kb_1 _ (by omega)]; simp; omega)))
  · show w = w'
    exact b_eq h.2.2.1 h'.2.2.1 (n := 4) (by decide) (by decide) (by decide) (q := 0) (fun i hi => by rw [← k_2 h hi, ← k_2 h' hi]; exact b_ke e (hb _ (by omega) (by rw [kb_2 _ (by omega)]; simp; omega)))
  · show k = k'
    exact b_eq h.2.2.2.1 h'.2.2.2.1 (n := 4) (by decide) (by decide) (by decide) (q := 0) (fun i hi => by rw [← k_3 h hi, ← k_3 h' hi]; exact b_ke e (hb _ (by omega) (by rw [kb_3 _ (by omega)]; simp; omega)))
  · show o = o'
    exact b_eq h.2.2.2.2.1 h'.2.2.2.2.1 (n := 4) (by decide) (by decide) (by decide) (q := 0) (fun i hi => by rw [← k_4 h hi, ← k_4 h' hi]; exact b_ke e (hb _ (by omega) (by rw [kb_4 _ (by omega)]; simp; omega)))
  · show y = y'
    exact b_eq h.2.2.2.2.2 h'.2.2.2.2.2 (n := 7) (by decide) (by decide) (by decide) (q := 0) (fun i hi => by rw [← k_5 h hi, ← k_5 h' hi]; exact b_ke e (hb _ (by omega) (by rw [kb_5 _ (by omega)]; simp; omega)))
def memOk (cs : Nat → Int32) (m : Nat) (kb x : Int32) : Prop := x = -1 ∨ ∃ b a w k o y, R6 b a w k o y ∧ x >>> ((4 : Int32) &&& 31) = keyF b a w k o y &&& kb ∧ x &&& 15 = lwF cs m b a w k o y
theorem mx_09 (x : Int32) : rg (mx 0 (mn 9 x)) 9 := by
  unfold rg mx mn
  split <;> split <;> simp only [i_lt, i_le, tI_0, tI_9] at * <;> omega
theorem lwF_r {cs : Nat → Int32} {m : Nat} {b a w k o y : Int32} (hb : rg b 9) : rg (lwF cs m b a w k o y) 9 := by
  unfold lwF
  split
  · have h1 : (b / 4).toInt = b.toInt / 4 := by
      rw [hb.i, show (4 : Int32) = nI 4 from rfl, pk_div (by have := hb.le; omega) (by decide) (by decide)]
      have := hb.le
      rw [nI_c (by omega), nI_c (by omega)]
      omega
    unfold rg
    obtain ⟨h2, h3⟩ := hb
    rw [i_add (by rw [h1, tI_1]; omega) (by rw [h1, tI_1]; omega), h1, tI_1]
    omega
  · exact mx_09 _
theorem key_nm {b a w k o y kb : Int32} (h : R6 b a w k o y) : ¬ (-1 : Int32) >>> ((4 : Int32) &&& 31) = keyF b a w k o y &&& kb := by
  intro e
  have := congrArg (fun z => bt z 31) e
  simp only [b_and, k_hi h (show 27 ≤ 31 by decide) (by decide), Bool.false_and] at this
  exact absurd this (by decide +kernel)
theorem mem_new {b a w k o y kb v : Int32} (h : R6 b a w k o y) (hv : rg v 9) : (((keyF b a w k o y &&& kb) <<< ((4 : Int32) &&& 31)) ||| v) >>> ((4 : Int32) &&& 31) = keyF b a w k o y &&& kb ∧ (((keyF b a w k o y &&& kb) <<< ((4 : Int32) &&& 31)) ||| v) &&& 15 = v := by
  rw [show (4 : Int32) = nI 4 from rfl]
  constructor
  · apply b_ext
    intro i hi
    rw [b_sshr 4 (by decide) _ hi]
    split
    · rw [b_or, b_shl 4 (by decide) _ (by omega), b_sm hv (n := 4) (by decide) (by decide) (by omega), decide_eq_true (show 4 ≤ 4 + i by omega), show 4 + i - 4 = i by omega]
      simp
    · rw [b_or, b_shl 4 (by decide) _ (by omega), b_sm hv (n := 4) (by decide) (by decide) (by omega), b_and, b_and, k_hi h (show 27 ≤ 31 - 4 by decide) (by decide), k_hi h (show 27 ≤ i by omega) hi]
      simp
  · apply b_ext
    intro i hi
    rw [b_and, b_or, b_shl 4 (by decide) _ hi, b_15 i hi]
    by_cases h4 : i < 4
    · rw [decide_eq_true h4, decide_eq_false (show ¬ 4 ≤ i by omega)]
      simp
    · rw [decide_eq_false h4, b_sm hv (n := 4) (by decide) (by decide) (by omega)]
      simp
theorem ush21 (x : Int32) : vp_in (ush x 21) 2048 := by
  have h := pk_ushr x 21 21 (by decide)
  have h2 : (ush x 21).toBitVec.toNat < 2048 := by
    show ((Int32.toUInt32 x >>> (Int32.toUInt32 21 &&& Int32.toUInt32 31)).toInt32).toBitVec.toNat < 2048
    rw [h]
    have := x.toBitVec.isLt
    omega
  rw [vp_in_iff]
  have e : (ush x 21).toInt = (((ush x 21).toBitVec.toNat : Nat) : Int) := BitVec.toInt_eq_toNat_of_lt (by omega)
  rw [e]
  omega
/-- the law as it must be: m codes in the row c -/
def LI (V : Vt) (σ : Sg) (m c : Nat) : Prop := m ≤ 128 ∧ σ.1 2 2 = nI m ∧ (c = 19 ∧ σ.2.2 2 0 = rf V 19 ∧ σ.2.2 2 1 = rf V 20 ∨ c = 20 ∧ σ.2.2 2 0 = rf V 20 ∧ σ.2.2 2 1 = rf V 19) ∧ wfC (σ.1 c) m 0 0 ∧ kbOk (σ.1 c) m (σ.1 2 4) ∧ (¬ m = 0 → ∀ j, j < 2048 → memOk (σ.1 c) m (σ.1 2 4) (σ.1 23 j))
theorem LI.c {V : Vt} {σ : Sg} {m c : Nat} (h : LI V σ m c) : σ.2.2 2 0 = rf V c ∧ layC[c]? = some (.inr (.inl (0, 128))) ∧ (c = 19 ∨ c = 20) := by
  rcases h.2.2.1 with ⟨rfl, h1, h2⟩ | ⟨rfl, h1, h2⟩
  · exact ⟨h1, rfl, Or.inl rfl⟩
  · exact ⟨h1, rfl, Or.inr rfl⟩
/-- but for what the law works with, nothing has changed -/
def LE (σ σ' : Sg) : Prop := (∀ q, q ≠ 21 → q ≠ 22 → q ≠ 23 → σ'.1 q = σ.1 q) ∧ σ'.2 = σ.2
theorem LE.rf {σ : Sg} : LE σ σ := ⟨fun _ _ _ _ => rfl, rfl⟩
theorem LE.tr {σ τ υ : Sg} (h : LE σ τ) (g : LE τ υ) : LE σ υ := ⟨fun q h1 h2 h3 => (g.1 q h1 h2 h3).trans (h.1 q h1 h2 h3), g.2.trans h.2⟩
theorem LE.st {σ : Sg} {o k : Nat} {v : Int32} (h : o = 21 ∨ o = 22 ∨ o = 23) : LE σ (stI σ o k v) := ⟨fun q h1 h2 h3 => stI_o _ _ _ _ (by omega), rfl⟩
theorem LE.sr {σ : Sg} {f : Nat → Int32} : LE σ (stR σ 22 f) := ⟨fun q h1 h2 h3 => stR_o _ _ _ h2, rfl⟩
theorem LI.le {V : Vt} {σ σ' : Sg} {m c : Nat} (h : LI V σ m c) (e : LE σ σ') (hm : ¬ m = 0 → ∀ j, j < 2048 → memOk (σ.1 c) m (σ.1 2 4) (σ'.1 23 j)) : LI V σ' m c := by
  have hc : σ'.1 c = σ.1 c := by rcases h.c.2.2 with rfl | rfl <;> exact e.1 _ (by decide) (by decide) (by decide)
  have h2 : σ'.1 2 = σ.1 2 := e.1 2 (by decide) (by decide) (by decide)
  unfold LI
  rw [hc, h2, e.2]
  exact ⟨h.1, h.2.1, h.2.2.1, h.2.2.2.1, h.2.2.2.2.1, hm⟩
set_option maxHeartbeats 1000000 in
theorem c_X5_thoughts (V : Vt) (d : Nat) (σ : Sg) (m c : Nat) (hL : LI V σ m c) (b a w k o y : Int32) (hR : R6 b a w k o y) : CT layC V mX5_thoughts (d + 2) [rf V 2, .int b, .int a, .int w, .int k, .int o, .int y] σ (Ri fun v σ' => lwF (σ.1 c) m b a w k o y = v ∧ LE σ σ' ∧ LI V σ' m c) := by
  refine CT.of (own := RX5) rfl (by decide) (Nat.le_of_ble_eq_true rfl) (fun X (hx : Ok V RX5 cX5_thoughts 10 (d + 2) X) (he : En layC V (some .int) (Ri fun v σ' => lwF (σ.1 c) m b a w k o y = v ∧ LE σ σ' ∧ LI V σ' m c) X) => ?_)
  change WS layC V 10 X σ 0 [(0, rf V 2), (1, .int b), (2, .int a), (3, .int w), (4, .int k), (5, .int o), (6, .int y)] []
  obtain ⟨hc, hcl, hcc⟩ := hL.c
  have hmI : (nI m).toInt = (m : Int) := nI_c (by have := hL.1; omega)
  have hm := hL.2.1
  refine WS.aload_n hx dX5_thoughts_0 rfl 0 rfl ?_
  refine WS.getI hx okX5 lf5_60 rfl rfl dX5_thoughts_1 ?_
  refine WS.as rfl rfl (congrArg (fun z => Value.int z :: _) (show σ.1 2 2 = nI m from hm)) ?_
  skip
  refine WS.if_ne (tgt := 13) hx dX5_thoughts_4 (by decide) (fun c4 => ?_) (fun c4 => ?_)
  · skip
    show WS layC V 10 X σ 13 [(0, rf V 2), (1, .int b), (2, .int a), (3, .int w), (4, .int k), (5, .int o), (6, .int y)] []
    have hm0 : ¬ m = 0 := by intro h; rw [h] at c4; exact c4 rfl
    refine WS.iload_n hx dX5_thoughts_13 rfl 1 rfl ?_
    refine WS.iload_n hx dX5_thoughts_14 rfl 2 rfl ?_
    refine WS.iconst (v := 4) hx dX5_thoughts_15 (by decide) ?_
    refine WS.ishl hx dX5_thoughts_16 ?_
    refine WS.ior hx dX5_thoughts_17 ?_
    refine WS.iload_n hx dX5_thoughts_18 rfl 3 rfl ?_
    refine WS.bipush (v := 8) hx dX5_thoughts_19 (by decide) ?_
    refine WS.ishl hx dX5_thoughts_21 ?_
    refine WS.ior hx dX5_thoughts_22 ?_
    refine WS.iload hx dX5_thoughts_23 4 rfl ?_
    refine WS.bipush (v := 12) hx dX5_thoughts_25 (by decide) ?_
    refine WS.ishl hx dX5_thoughts_27 ?_
    refine WS.ior hx dX5_thoughts_28 ?_
    refine WS.iload hx dX5_thoughts_29 5 rfl ?_
    refine WS.bipush (v := 16) hx dX5_thoughts_31 (by decide) ?_
    refine WS.ishl hx dX5_thoughts_33 ?_
    refine WS.ior hx dX5_thoughts_34 ?_
    refine WS.iload hx dX5_thoughts_35 6 rfl ?_
    refine WS.bipush (v := 20) hx dX5_thoughts_37 (by decide) ?_
    refine WS.ishl hx dX5_thoughts_39 ?_
    refine WS.ior hx dX5_thoughts_40 ?_
    refine WS.aload_n hx dX5_thoughts_41 rfl 0 rfl ?_
    refine WS.getI hx okX5 lf5_63 rfl rfl dX5_thoughts_42 ?_
    refine WS.iand hx dX5_thoughts_45 ?_
    refine WS.as rfl rfl (congrArg (fun z => Value.int z :: _) (show (((((b ||| (a <<< (4 &&& 31))) ||| (w <<< (8 &&& 31))) ||| (k <<< (12 &&& 31))) ||| (o <<< (16 &&& 31))) ||| (y <<< (20 &&& 31))) &&& (σ.1 2 4) = keyF b a w k o y &&& σ.1 2 4 from rfl)) ?_
    skip
    refine WS.istore (lo' := [(7, .int (keyF b a w k o y &&& σ.1 2 4)), (0, rf V 2), (1, .int b), (2, .int a), (3, .int w), (4, .int k), (5, .int o), (6, .int y)]) hx dX5_thoughts_46 (by decide) rfl ?_
    refine WS.iload hx dX5_thoughts_48 0 rfl ?_
    refine WS.ldc (v := (-1640531535)) hx lc5_118 dX5_thoughts_50 ?_
    refine WS.imul hx dX5_thoughts_52 ?_
    refine WS.bipush (v := 21) hx dX5_thoughts_53 (by decide) ?_
    refine WS.iushr hx dX5_thoughts_55 ?_
    refine WS.as rfl rfl (congrArg (fun z => Value.int z :: _) (show (Int32.toUInt32 ((keyF b a w k o y &&& σ.1 2 4) * (-1640531535)) >>> (Int32.toUInt32 21 &&& Int32.toUInt32 31)).toInt32 = ush ((keyF b a w k o y &&& σ.1 2 4) * (-1640531535)) 21 from rfl)) ?_
    skip
    refine WS.istore (lo' := [(8, .int (ush ((keyF b a w k o y &&& σ.1 2 4) * (-1640531535)) 21)), (7, .int (keyF b a w k o y &&& σ.1 2 4)), (0, rf V 2), (1, .int b), (2, .int a), (3, .int w), (4, .int k), (5, .int o), (6, .int y)]) hx dX5_thoughts_56 (by decide) rfl ?_
    refine WS.aload_n hx dX5_thoughts_58 rfl 2 rfl ?_
    refine WS.getR hx okX5 lf5_24 rfl rfl dX5_thoughts_59 ?_
    refine WS.iload hx dX5_thoughts_62 0 rfl ?_
    refine WS.iald hx rfl (ush21 _) dX5_thoughts_64 ?_
    refine WS.iconst (v := 4) hx dX5_thoughts_65 (by decide) ?_
    refine WS.ishr hx dX5_thoughts_66 ?_
    refine WS.iload hx dX5_thoughts_67 1 rfl ?_
    refine WS.icmp_ne (tgt := 83) hx dX5_thoughts_69 (by decide) (fun c69 => ?_) (fun c69 => ?_)
    · skip
      show WS layC V 10 X σ 83 [(8, .int (ush ((keyF b a w k o y &&& σ.1 2 4) * (-1640531535)) 21)), (7, .int (keyF b a w k o y &&& σ.1 2 4)), (0, rf V 2), (1, .int b), (2, .int a), (3, .int w), (4, .int k), (5, .int o), (6, .int y)] []
      refine WS.aload_n hx dX5_thoughts_83 rfl 2 rfl ?_
      refine WS.getR hx okX5 lf5_18 rfl rfl dX5_thoughts_84 ?_
      refine WS.iconst (v := 0) hx dX5_thoughts_87 (by decide) ?_
      refine WS.iload_n hx dX5_thoughts_88 rfl 3 rfl ?_
      refine WS.iast hx rfl (vp_dec (by decide)) dX5_thoughts_89 ?_
      refine WS.aload_n hx dX5_thoughts_90 rfl 2 rfl ?_
      refine WS.getR hx okX5 lf5_18 rfl rfl dX5_thoughts_91 ?_
      refine WS.iconst (v := 1) hx dX5_thoughts_94 (by decide) ?_
      refine WS.iload_n hx dX5_thoughts_95 rfl 4 rfl ?_
      refine WS.iast hx rfl (vp_dec (by decide)) dX5_thoughts_96 ?_
      refine WS.aload_n hx dX5_thoughts_97 rfl 2 rfl ?_
      refine WS.getR hx okX5 lf5_18 rfl rfl dX5_thoughts_98 ?_
      refine WS.iconst (v := 2) hx dX5_thoughts_101 (by decide) ?_
      refine WS.iload_n hx dX5_thoughts_102 rfl 5 rfl ?_
      refine WS.iast hx rfl (vp_dec (by decide)) dX5_thoughts_103 ?_
      refine WS.aload_n hx dX5_thoughts_104 rfl 2 rfl ?_
      refine WS.getR hx okX5 lf5_18 rfl rfl dX5_thoughts_105 ?_
      refine WS.iconst (v := 3) hx dX5_thoughts_108 (by decide) ?_
      refine WS.iload hx dX5_thoughts_109 6 rfl ?_
      refine WS.iast hx rfl (vp_dec (by decide)) dX5_thoughts_111 ?_
      refine WS.aload_n hx dX5_thoughts_112 rfl 2 rfl ?_
      refine WS.getR hx okX5 lf5_18 rfl rfl dX5_thoughts_113 ?_
      refine WS.iconst (v := 4) hx dX5_thoughts_116 (by decide) ?_
      refine WS.iload hx dX5_thoughts_117 7 rfl ?_
      refine WS.iast hx rfl (vp_dec (by decide)) dX5_thoughts_119 ?_
      refine WS.aload_n hx dX5_thoughts_120 rfl 2 rfl ?_
      refine WS.getR hx okX5 lf5_18 rfl rfl dX5_thoughts_121 ?_
      refine WS.iconst (v := 5) hx dX5_thoughts_124 (by decide) ?_
      refine WS.iload hx dX5_thoughts_125 8 rfl ?_
      refine WS.iast hx rfl (vp_dec (by decide)) dX5_thoughts_127 ?_
      refine WS.sg (fun τ eτ => ?_)
      refine WS.iconst (v := 0) hx dX5_thoughts_128 (by decide) ?_
      refine WS.bipush (v := 9) hx dX5_thoughts_129 (by decide) ?_
      refine WS.aload_n hx dX5_thoughts_131 rfl 2 rfl ?_
      refine WS.callVi (st := [.int 9, .int 0]) [] hx (c_X5_workedOut V d τ m c hL.1 (by rw [eτ]; exact hm) (by rw [eτ]; exact hc) hcl (by rcases hcc with rfl | rfl <;> decide) (by rw [show τ.1 c = σ.1 c from by rw [eτ]; rcases hcc with rfl | rfl <;> rfl]; exact hL.2.2.2.1)) okX5_workedOut lm5_119 rfl rfl rfl rfl (Nat.le_of_ble_eq_true rfl) dX5_thoughts_132 (fun v1 σ2 h3 => ?_)
      obtain ⟨hv, P, rfl⟩ := h3
      have hτc : τ.1 c = σ.1 c := by rw [eτ]; rcases hcc with rfl | rfl <;> rfl
      have hans : lwF (σ.1 c) m b a w k o y = mx 0 (mn 9 v1) := by
        unfold lwF
        rw [if_neg hm0, ← hv, hτc]
        rw [rl_congr (σ.1 c) (τ.1 21) (nm6 b a w k o y) m 0 [] true (fun j _ _ h1 h2 => by rw [eτ]; rcases nm_in h1 h2 with e | e | e | e | e | e <;> rw [e] <;> rfl)]
      show WS layC V 10 X (stR τ 22 P) 135 [(8, .int (ush ((keyF b a w k o y &&& σ.1 2 4) * (-1640531535)) 21)), (7, .int (keyF b a w k o y &&& σ.1 2 4)), (0, rf V 2), (1, .int b), (2, .int a), (3, .int w), (4, .int k), (5, .int o), (6, .int y)] [.int v1, .int 9, .int 0]
      refine WS.mmin hx lm5_30 (Nat.le_of_ble_eq_true rfl) dX5_thoughts_135 ?_
      refine WS.mmax hx lm5_122 (Nat.le_of_ble_eq_true rfl) dX5_thoughts_138 ?_
      refine WS.topi (fun held eheld => ?_)
      refine WS.istore (lo' := [(9, .int held), (8, .int (ush ((keyF b a w k o y &&& σ.1 2 4) * (-1640531535)) 21)), (7, .int (keyF b a w k o y &&& σ.1 2 4)), (0, rf V 2), (1, .int b), (2, .int a), (3, .int w), (4, .int k), (5, .int o), (6, .int y)]) hx dX5_thoughts_141 (by decide) rfl ?_
      refine WS.aload_n hx dX5_thoughts_143 rfl 3 rfl ?_
      refine WS.getR hx okX5 lf5_24 rfl rfl dX5_thoughts_144 ?_
      refine WS.iload hx dX5_thoughts_147 1 rfl ?_
      refine WS.iload hx dX5_thoughts_149 2 rfl ?_
      refine WS.iconst (v := 4) hx dX5_thoughts_151 (by decide) ?_
      refine WS.ishl hx dX5_thoughts_152 ?_
      refine WS.iload hx dX5_thoughts_153 0 rfl ?_
      refine WS.ior hx dX5_thoughts_155 ?_
      refine WS.iast hx rfl (ush21 _) dX5_thoughts_156 ?_
      refine WS.iload hx dX5_thoughts_157 0 rfl ?_
      exact WS.iret hx he dX5_thoughts_159 (by
        have ST := fun (ρ : Sg) (k : Nat) (v : Int32) => LE.st (σ := ρ) (o := 21) (k := k) (v := v) (Or.inl rfl)
        have hτ : LE σ τ := by rw [eτ]; exact (((((ST _ _ _).tr (ST _ _ _)).tr (ST _ _ _)).tr (ST _ _ _)).tr (ST _ _ _)).tr (ST _ _ _)
        have hLE : LE σ (stI (stR τ 22 P) 23 (nn (ush ((keyF b a w k o y &&& σ.1 2 4) * (-1640531535)) 21)) (((keyF b a w k o y &&& σ.1 2 4) <<< (4 &&& 31)) ||| held)) := (hτ.tr LE.sr).tr (LE.st (Or.inr (Or.inr rfl)))
        have h23 : (stR τ 22 P).1 23 = σ.1 23 := by rw [stR_o _ _ _ (by decide), eτ]; rfl
        have hv9 : rg held 9 := by rw [eheld]; exact mx_09 _
        refine ⟨_, rfl, hans.trans eheld.symm, hLE, hL.le hLE (fun _ j hj => ?_)⟩
        by_cases hj2 : j = (ush ((keyF b a w k o y &&& σ.1 2 4) * (-1640531535)) 21).toNatClampNeg
        · rw [hj2, stI_1]
          exact Or.inr ⟨b, a, w, k, o, y, hR, (mem_new hR hv9).1, (mem_new hR hv9).2.trans (eheld.trans hans.symm)⟩
        · rw [stI_k _ _ _ _ hj2, h23]
          exact hL.2.2.2.2.2 hm0 j hj)
    · skip
      show WS layC V 10 X σ 72 [(8, .int (ush ((keyF b a w k o y &&& σ.1 2 4) * (-1640531535)) 21)), (7, .int (keyF b a w k o y &&& σ.1 2 4)), (0, rf V 2), (1, .int b), (2, .int a), (3, .int w), (4, .int k), (5, .int o), (6, .int y)] []
      have hmem := hL.2.2.2.2.2 hm0 (nn (ush ((keyF b a w k o y &&& σ.1 2 4) * (-1640531535)) 21)) (by have := (vp_in_iff.mp (ush21 ((keyF b a w k o y &&& σ.1 2 4) * (-1640531535)))); have h9 := nn_int this.1; omega)
      have hans : lwF (σ.1 c) m b a w k o y = σ.1 23 (nn (ush ((keyF b a w k o y &&& σ.1 2 4) * (-1640531535)) 21)) &&& 15 := by
        rcases hmem with h0 | ⟨b1, a1, w1, k1, o1, y1, r1, e1, e2⟩
        · rw [h0] at c69; exact absurd c69 (key_nm hR)
        · rw [e2]; exact key_law hm0 hL.2.2.2.2.1 hR r1 (c69.symm.trans e1)
      refine WS.aload_n hx dX5_thoughts_72 rfl 2 rfl ?_
      refine WS.getR hx okX5 lf5_24 rfl rfl dX5_thoughts_73 ?_
      refine WS.iload hx dX5_thoughts_76 0 rfl ?_
      refine WS.iald hx rfl (ush21 _) dX5_thoughts_78 ?_
      refine WS.bipush (v := 15) hx dX5_thoughts_79 (by decide) ?_
      refine WS.iand hx dX5_thoughts_81 ?_
      exact WS.iret hx he dX5_thoughts_82 ⟨_, rfl, hans, LE.rf, hL⟩
  · skip
    show WS layC V 10 X σ 7 [(0, rf V 2), (1, .int b), (2, .int a), (3, .int w), (4, .int k), (5, .int o), (6, .int y)] []
    have hm0 : m = 0 := by (try simp only [i_le, i_lt, i_eq, tI_0, tI_1, tI_2, tI_3, tI_4, tI_5, tI_8, tI_9, tI_12, tI_15, tI_16, tI_20, tI_21] at c4); (try simp only [i_le, i_lt, i_eq, tI_0, tI_1, tI_2, tI_3, tI_4, tI_5, tI_8, tI_9, tI_12, tI_15, tI_16, tI_20, tI_21]); omega
    refine WS.iconst (v := 1) hx dX5_thoughts_7 (by decide) ?_
    refine WS.iload_n hx dX5_thoughts_8 rfl 1 rfl ?_
    refine WS.iconst (v := 4) hx dX5_thoughts_9 (by decide) ?_
    refine WS.idiv hx dX5_thoughts_10 (by decide) ?_
    refine WS.iadd hx dX5_thoughts_11 ?_
    exact WS.iret hx he dX5_thoughts_12 ⟨_, rfl, if_pos hm0, LE.rf, hL⟩

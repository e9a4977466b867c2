/-! WHAT A TEXT BECOMES: the codes that the class's reader writes are expressions -/
theorem exC_add (cs nm : Nat → Int32) : ∀ (a b i : Nat) (s : List Int32), exC cs nm (a + b) i s = (exC cs nm a i s).bind (exC cs nm b (i + a))
  | 0, b, i, s => by
    rw [Nat.zero_add]
    rfl
  | a + 1, b, i, s => by
    rw [show a + 1 + b = (a + b) + 1 by omega]
    show (st1 (cs i) nm s).bind (exC cs nm (a + b) (i + 1)) = ((st1 (cs i) nm s).bind (exC cs nm a (i + 1))).bind (exC cs nm b (i + (a + 1)))
    cases st1 (cs i) nm s with
    | none => rfl
    | some t =>
      show exC cs nm (a + b) (i + 1) t = (exC cs nm a (i + 1) t).bind (exC cs nm b (i + (a + 1)))
      rw [exC_add cs nm a b (i + 1) t, show i + 1 + a = i + (a + 1) by omega]
theorem exC_sh {cs cs' nm : Nat → Int32} : ∀ (k i i' : Nat) (s : List Int32), (∀ j, j < k → cs' (i' + j) = cs (i + j)) → exC cs' nm k i' s = exC cs nm k i s
  | 0, _, _, _, _ => rfl
  | k + 1, i, i', s, h => by
    show (st1 (cs' i') nm s).bind (exC cs' nm k (i' + 1)) = (st1 (cs i) nm s).bind (exC cs nm k (i + 1))
    have h0 : cs' i' = cs i := h 0 (by omega)
    rw [h0]
    congr 1
    funext t
    refine exC_sh k (i + 1) (i' + 1) t (fun j hj => ?_)
    have := h (j + 1) (by omega)
    rw [show i' + 1 + j = i' + (j + 1) by omega, show i + 1 + j = i + (j + 1) by omega]
    exact this
theorem EX.sh {cs cs' : Nat → Int32} {i i' k : Nat} {v : (Nat → Int32) → Int32} (h : EX cs i k v) (e : ∀ j, j < k → cs' (i' + j) = cs (i + j)) : EX cs' i' k v := fun nm s => (exC_sh k i i' s e).trans (h nm s)
theorem EX.one {cs : Nat → Int32} {i : Nat} (h : ¬ cs i < -6) : ∃ v, EX cs i 1 v := by
  refine ⟨fun nm => if cs i < 0 then nm (nn (-1 - cs i)) else cs i, fun nm s => ?_⟩
  show (st1 (cs i) nm s).bind (exC cs nm 0 (i + 1)) = _
  unfold st1
  rw [if_neg h]
  rfl
theorem isB_n {c : Int32} (h : isB c = true) : -c < -6 ∧ ¬ -c = -33 ∧ ¬ -c = -126 ∧ ¬ -c = -63 ∧ ¬ -c = -59 ∧ ¬ c = -1 := by
  have h9 : c = 37 ∨ c = 38 ∨ c = 42 ∨ c = 43 ∨ c = 45 ∨ c = 47 ∨ c = 60 ∨ c = 61 ∨ c = 62 ∨ c = 124 := of_decide_eq_true h
  rcases h9 with h | h | h | h | h | h | h | h | h | h <;> subst h <;> decide
theorem EX.bin {cs : Nat → Int32} {i k1 k2 : Nat} {c : Int32} {v1 v2 : (Nat → Int32) → Int32} (h1 : EX cs i k1 v1) (h2 : EX cs (i + k1) k2 v2) (h3 : cs (i + k1 + k2) = -c) (hB : isB c = true) : ∃ v, EX cs i (k1 + k2 + 1) v := by
  refine ⟨fun nm => joinF c (v1 nm) (v2 nm), fun nm s => ?_⟩
  obtain ⟨e1, e2, e3, -, -⟩ := isB_n hB
  rw [show k1 + k2 + 1 = k1 + (k2 + 1) by omega, exC_add, h1 nm s]
  show exC cs nm (k2 + 1) (i + k1) (v1 nm :: s) = _
  rw [exC_add, h2 nm (v1 nm :: s)]
  show (st1 (cs (i + k1 + k2)) nm (v2 nm :: v1 nm :: s)).bind (exC cs nm 0 (i + k1 + k2 + 1)) = _
  rw [h3]
  unfold st1
  rw [if_pos e1, if_neg e2, if_neg e3, Int32.neg_neg, if_pos hB]
  rfl
theorem EX.un {cs : Nat → Int32} {i k : Nat} {v : (Nat → Int32) → Int32} (h1 : EX cs i k v) (h3 : cs (i + k) = -33 ∨ cs (i + k) = -126) : ∃ v, EX cs i (k + 1) v := by
  rcases h3 with h3 | h3
  · refine ⟨fun nm => if v nm = 0 then 1 else 0, fun nm s => ?_⟩
    rw [exC_add, h1 nm s]
    show (st1 (cs (i + k)) nm (v nm :: s)).bind (exC cs nm 0 (i + k + 1)) = _
    rw [h3]
    rfl
  · refine ⟨fun nm => -v nm, fun nm s => ?_⟩
    rw [exC_add, h1 nm s]
    show (st1 (cs (i + k)) nm (v nm :: s)).bind (exC cs nm 0 (i + k + 1)) = _
    rw [h3]
    rfl
def KBX (kb : Int32) (cs : Nat → Int32) (i k : Nat) : Prop := ∀ j, i ≤ j → j < i + k → ¬ cs j < -6 → cs j < 0 → ∀ q, q < 32 → bt (zt_f 1 (nn (-1 - cs j))) q = true → bt kb q = true
def KLE (a b : Int32) : Prop := ∀ q, q < 32 → bt a q = true → bt b q = true
theorem KLE.rf {a : Int32} : KLE a a := fun _ _ h => h
theorem KLE.tr {a b c : Int32} (h : KLE a b) (g : KLE b c) : KLE a c := fun q hq h1 => g q hq (h q hq h1)
theorem KBX.le {a b : Int32} {cs : Nat → Int32} {i k : Nat} (h : KBX a cs i k) (g : KLE a b) : KBX b cs i k := fun j h1 h2 h3 h4 q hq h5 => g q hq (h j h1 h2 h3 h4 q hq h5)
theorem KBX.sh {a : Int32} {cs cs' : Nat → Int32} {i k : Nat} (h : KBX a cs i k) (e : ∀ j, i ≤ j → j < i + k → cs' j = cs j) : KBX a cs' i k := fun j h1 h2 h3 h4 q hq h5 => by
  rw [e j h1 h2] at h3 h4 h5
  exact h j h1 h2 h3 h4 q hq h5
theorem KBX.app {a : Int32} {cs : Nat → Int32} {i k m : Nat} (h : KBX a cs i k) (g : KBX a cs (i + k) m) : KBX a cs i (k + m) := fun j h1 h2 h3 h4 q hq h5 => by
  rcases Nat.lt_or_ge j (i + k) with h6 | h6
  · exact h j h1 h6 h3 h4 q hq h5
  · exact g j h6 (by omega) h3 h4 q hq h5
theorem KBX.op {a : Int32} {cs : Nat → Int32} {i : Nat} (h : cs i < -6) : KBX a cs i 1 := fun j h1 h2 h3 _ _ _ _ => by
  rw [show j = i by omega] at h3
  exact absurd h h3
/-- between two states of the reader: an expression was written -/
def GB (s0 s' : Ps) : Prop := ∃ k, 1 ≤ k ∧ s'.2.1 = s0.2.1 + k ∧ s0.1 + k ≤ s'.1 ∧ (∀ j, j < s0.2.1 → s'.2.2.1 j = s0.2.2.1 j) ∧ (∃ v, EX s'.2.2.1 s0.2.1 k v) ∧ KLE s0.2.2.2 s'.2.2.2 ∧ KBX s'.2.2.2 s'.2.2.1 s0.2.1 k
def JG (L : Nat) (s0 : Ps) (r : Bool × Ps) : Prop := s0.1 ≤ r.2.1 ∧ r.2.1 ≤ L ∧ (r.1 = true → GB s0 r.2)
def GP (L : Nat) (p : Ps → Bool × Ps) : Prop := ∀ s : Ps, s.1 ≤ L → s.2.1 ≤ s.1 → JG L s (p s)
theorem wr_lt {c : Int32} {s : Ps} (h : s.2.1 < 128) : wr c s = (s.1, s.2.1 + 1, upd s.2.2.1 s.2.1 c, s.2.2.2) := if_pos h
theorem GB.ln {s0 s' : Ps} (h : GB s0 s') (h0 : s0.2.1 ≤ s0.1) : s'.2.1 ≤ s'.1 ∧ s0.1 < s'.1 := by
  obtain ⟨k, a, b, c, -⟩ := h
  omega
theorem GB_bin {L : Nat} {s0 s1 s2 : Ps} {c : Int32} (hL : L ≤ 120) (h1 : GB s0 s1) (h2 : GB (adv s1) s2) (hs : s2.1 ≤ L) (h0 : s0.2.1 ≤ s0.1) (hB : isB c = true) : GB s0 (wr (-c) s2) := by
  obtain ⟨k1, a1, b1, c1, d1, ⟨v1, e1⟩, f1, g1⟩ := h1
  obtain ⟨k2, a2, b2, c2, d2, ⟨v2, e2⟩, f2, g2⟩ := h2
  have b2' : s2.2.1 = s1.2.1 + k2 := b2
  have c2' : s1.1 + 1 + k2 ≤ s2.1 := c2
  have d2' : ∀ j, j < s1.2.1 → s2.2.2.1 j = s1.2.2.1 j := d2
  have e2' : EX s2.2.2.1 s1.2.1 k2 v2 := e2
  have f2' : KLE s1.2.2.2 s2.2.2.2 := f2
  have g2' : KBX s2.2.2.2 s2.2.2.1 s1.2.1 k2 := g2
  rw [wr_lt (by omega)]
  have hlast : upd s2.2.2.1 s2.2.1 (-c) (s0.2.1 + k1 + k2) = -c := by rw [show s0.2.1 + k1 + k2 = s2.2.1 by omega]; exact upd_u
  have hold : ∀ j, j < s2.2.1 → upd s2.2.2.1 s2.2.1 (-c) j = s2.2.2.1 j := fun j hj => upd_n (by omega)
  refine ⟨k1 + k2 + 1, by omega, ?_, ?_, ?_, ?_, f1.tr f2', ?_⟩
  · show s2.2.1 + 1 = _; omega
  · show _ ≤ s2.1; omega
  · intro j hj
    show upd s2.2.2.1 s2.2.1 (-c) j = _
    rw [hold j (by omega), d2' j (by omega), d1 j hj]
  · refine EX.bin (e1.sh fun j hj => ?_) (e2'.sh fun j hj => ?_) hlast hB
    · show upd s2.2.2.1 s2.2.1 (-c) (s0.2.1 + j) = _
      rw [hold _ (by omega), d2' _ (by omega)]
    · show upd s2.2.2.1 s2.2.1 (-c) (s0.2.1 + k1 + j) = _
      rw [hold _ (by omega), show s0.2.1 + k1 + j = s1.2.1 + j by omega]
  · show KBX s2.2.2.2 (upd s2.2.2.1 s2.2.1 (-c)) s0.2.1 (k1 + k2 + 1)
    refine KBX.app (KBX.app ((g1.le f2').sh fun j h3 h4 => ?_) ?_) (KBX.op ?_)
    · rw [hold _ (by omega), d2' _ (by omega)]
    · rw [show s0.2.1 + k1 = s1.2.1 by omega]
      exact g2'.sh fun j h3 h4 => hold _ (by omega)
    · rw [show s0.2.1 + (k1 + k2) = s0.2.1 + k1 + k2 by omega, hlast]
      exact (isB_n hB).1
theorem GB_un {L : Nat} {s s2 : Ps} {c : Int32} (hL : L ≤ 120) (h2 : GB (adv s) s2) (hs : s2.1 ≤ L) (h0 : s.2.1 ≤ s.1) (hc : c = -33 ∨ c = -126) : GB s (wr c s2) := by
  obtain ⟨k2, a2, b2, c2, d2, ⟨v2, e2⟩, f2, g2⟩ := h2
  have b2' : s2.2.1 = s.2.1 + k2 := b2
  have c2' : s.1 + 1 + k2 ≤ s2.1 := c2
  have d2' : ∀ j, j < s.2.1 → s2.2.2.1 j = s.2.2.1 j := d2
  have e2' : EX s2.2.2.1 s.2.1 k2 v2 := e2
  have f2' : KLE s.2.2.2 s2.2.2.2 := f2
  have g2' : KBX s2.2.2.2 s2.2.2.1 s.2.1 k2 := g2
  rw [wr_lt (by omega)]
  have hlast : upd s2.2.2.1 s2.2.1 c (s.2.1 + k2) = c := by rw [show s.2.1 + k2 = s2.2.1 by omega]; exact upd_u
  have hold : ∀ j, j < s2.2.1 → upd s2.2.2.1 s2.2.1 c j = s2.2.2.1 j := fun j hj => upd_n (by omega)
  refine ⟨k2 + 1, by omega, ?_, ?_, ?_, ?_, f2', ?_⟩
  · show s2.2.1 + 1 = _; omega
  · show _ ≤ s2.1; omega
  · intro j hj
    show upd s2.2.2.1 s2.2.1 c j = _
    rw [hold j (by omega), d2' j (by omega)]
  · refine EX.un (v := v2) (e2'.sh fun j hj => hold _ (by omega)) ?_
    rw [show (s2.1, s2.2.1 + 1, upd s2.2.2.1 s2.2.1 c, s2.2.2.2).2.2.1 (s.2.1 + k2) = c from hlast]
    exact hc
  · show KBX s2.2.2.2 (upd s2.2.2.1 s2.2.1 c) s.2.1 (k2 + 1)
    refine KBX.app (g2'.sh fun j h3 h4 => hold _ (by omega)) (KBX.op ?_)
    rw [hlast]
    rcases hc with rfl | rfl <;> decide
theorem GB_par {s s2 : Ps} (h2 : GB (adv s) s2) : GB s (adv s2) := by
  obtain ⟨k2, a2, b2, c2, d2, e2, f2, g2⟩ := h2
  exact ⟨k2, a2, b2, by have : s.1 + 1 + k2 ≤ s2.1 := c2; show _ ≤ s2.1 + 1; omega, d2, e2, f2, g2⟩
theorem lp_g {t : Nat → Int32} {L : Nat} {test : Int32 → Bool} {sub : Ps → Bool × Ps} (hL : L ≤ 120) (hsub : GP L sub) (htest : ∀ c, test c = true → isB c = true) (s0 : Ps) (h0 : s0.2.1 ≤ s0.1) : ∀ (u : Nat) (r : Bool × Ps), JG L s0 r → JG L s0 (lpF t L test sub u r)
  | 0, r, h => h
  | u + 1, r, h => by
    unfold lpF
    by_cases hc : r.1 = true ∧ test (cm t L r.2) = true
    · rw [if_pos hc]
      have hB := htest _ hc.2
      have hlt := cm_lt (isB_n hB).2.2.2.2.2
      have hG := h.2.2 hc.1
      have hlen := hG.ln h0
      have h2 := hsub (adv r.2) (show r.2.1 + 1 ≤ L by omega) (show r.2.2.1 ≤ r.2.1 + 1 by omega)
      have h21 : r.2.1 + 1 ≤ (sub (adv r.2)).2.1 := h2.1
      refine lp_g hL hsub htest s0 h0 u _ ⟨?_, ?_, fun ht => GB_bin hL hG (h2.2.2 ht) h2.2.1 h0 hB⟩
      · show s0.1 ≤ (wr _ _).1
        rw [wr_p]
        omega
      · show (wr _ _).1 ≤ L
        rw [wr_p]
        exact h2.2.1
    · rw [if_neg hc]
      exact h
theorem tP_B {c : Int32} (h : tP c = true) : isB c = true := by
  have h9 : c = 42 ∨ c = 47 ∨ c = 37 := of_decide_eq_true h
  rcases h9 with h | h | h <;> subst h <;> decide
theorem tS_B {c : Int32} (h : tS c = true) : isB c = true := by
  have h9 : c = 43 ∨ c = 45 := of_decide_eq_true h
  rcases h9 with h | h <;> subst h <;> decide
theorem tB_B {c : Int32} (h : tB c = true) : isB c = true := by
  have h9 : c = 60 ∨ c = 61 ∨ c = 62 := of_decide_eq_true h
  rcases h9 with h | h | h <;> subst h <;> decide
theorem tA_B {c : Int32} (h : tA c = true) : isB c = true := by
  have h9 : c = 38 := of_decide_eq_true h
  subst h9; decide
theorem tE_B {c : Int32} (h : tE c = true) : isB c = true := by
  have h9 : c = 124 := of_decide_eq_true h
  subst h9; decide
section LEVELS
variable {t : Nat → Int32} {L : Nat} {o : Ps → Bool × Ps} (hL : L ≤ 120) (ho : GP L o)
theorem pP_g (hL : L ≤ 120) (ho : GP L o) : GP L (pPF t L o) := fun s a b => lp_g hL ho (fun _ => tP_B) s b 120 _ (ho s a b)
theorem pS_g (hL : L ≤ 120) (ho : GP L o) : GP L (pSF t L o) := fun s a b => lp_g hL (pP_g hL ho) (fun _ => tS_B) s b 120 _ (pP_g hL ho s a b)
theorem pB_g (hL : L ≤ 120) (ho : GP L o) : GP L (pBF t L o) := fun s a b => by
  have h := pS_g (t := t) hL ho s a b
  unfold pBF
  by_cases hc : (pSF t L o s).1 = true ∧ tB (cm t L (pSF t L o s).2) = true
  · rw [if_pos hc]
    have hB := tB_B hc.2
    have hlt := cm_lt (isB_n hB).2.2.2.2.2
    have hG := h.2.2 hc.1
    have hlen := hG.ln b
    have h2 := pS_g (t := t) hL ho (adv (pSF t L o s).2) (show (pSF t L o s).2.1 + 1 ≤ L by omega) (show (pSF t L o s).2.2.1 ≤ (pSF t L o s).2.1 + 1 by omega)
    have h21 : (pSF t L o s).2.1 + 1 ≤ (pSF t L o (adv (pSF t L o s).2)).2.1 := h2.1
    have h1 := h.1
    refine ⟨?_, ?_, fun ht => GB_bin hL hG (h2.2.2 ht) h2.2.1 b hB⟩
    · show s.1 ≤ (wr _ _).1
      rw [wr_p]
      omega
    · show (wr _ _).1 ≤ L
      rw [wr_p]
      exact h2.2.1
  · rw [if_neg hc]
    exact h
theorem pA_g (hL : L ≤ 120) (ho : GP L o) : GP L (pAF t L o) := fun s a b => lp_g hL (pB_g hL ho) (fun _ => tA_B) s b 120 _ (pB_g hL ho s a b)
theorem pE_g (hL : L ≤ 120) (ho : GP L o) : GP L (pEF t L o) := fun s a b => lp_g hL (pA_g hL ho) (fun _ => tE_B) s b 120 _ (pA_g hL ho s a b)
end LEVELS
theorem dg_n {c : Int32} (h : isDg c = true) : 48 ≤ c.toInt ∧ c.toInt ≤ 57 ∧ ¬ c = -1 := by
  have h9 : 48 ≤ c.toInt ∧ c.toInt ≤ 57 := of_decide_eq_true h
  exact ⟨h9.1, h9.2, fun e => by rw [e, tI_m1] at h9; omega⟩
theorem nb_f {t : Nat → Int32} {L : Nat} : ∀ (u : Nat) (v : Int32) (s : Ps), s.1 ≤ L → s.1 ≤ (nbF t L u v s).2.1 ∧ (nbF t L u v s).2.1 ≤ L ∧ (nbF t L u v s).2.2 = s.2
  | 0, v, s, h => ⟨Nat.le_refl _, h, rfl⟩
  | u + 1, v, s, h => by
    unfold nbF
    by_cases hd : isDg (cm t L s) = true
    · rw [if_pos hd]
      have hlt := cm_lt (dg_n hd).2.2
      obtain ⟨a, b, c⟩ := nb_f u (v * 10 + cm t L s - 48) (adv s) (show s.1 + 1 ≤ L by omega)
      have a' : s.1 + 1 ≤ (nbF t L u (v * 10 + cm t L s - 48) (adv s)).2.1 := a
      exact ⟨by omega, b, c⟩
    · rw [if_neg hd]
      exact ⟨Nat.le_refl _, h, rfl⟩
theorem nb_v {t : Nat → Int32} {L : Nat} : ∀ (u : Nat) (v : Int32) (s : Ps) (p : Nat), 0 ≤ v.toInt → v.toInt < p → p * 10 ^ u ≤ 10000 → 0 ≤ (nbF t L u v s).1.toInt ∧ (nbF t L u v s).1.toInt < 10000
  | 0, v, s, p, h1, h2, h3 => ⟨h1, by rw [Nat.pow_zero] at h3; show v.toInt < 10000; omega⟩
  | u + 1, v, s, p, h1, h2, h3 => by
    have hp : 1 ≤ 10 ^ u := Nat.one_le_pow _ _ (by decide)
    have h4 : p * 10 * 10 ^ u ≤ 10000 := by rw [Nat.pow_succ, Nat.mul_comm (10 ^ u) 10, ← Nat.mul_assoc] at h3; exact h3
    have h5 : p * 10 ≤ 10000 := Nat.le_trans (Nat.le_mul_of_pos_right _ hp) h4
    unfold nbF
    by_cases hd : isDg (cm t L s) = true
    · rw [if_pos hd]
      obtain ⟨g1, g2, -⟩ := dg_n hd
      have e1 : (v * 10).toInt = v.toInt * 10 := by rw [i_mul (by rw [tI_10]; omega) (by rw [tI_10]; omega), tI_10]
      have e2 : (v * 10 + cm t L s).toInt = v.toInt * 10 + (cm t L s).toInt := by rw [i_add (by rw [e1]; omega) (by rw [e1]; omega), e1]
      have e3 : (v * 10 + cm t L s - 48).toInt = v.toInt * 10 + (cm t L s).toInt - 48 := by rw [i_sub (by rw [e2, tI_48]; omega) (by rw [e2, tI_48]; omega), e2, tI_48]
      exact nb_v u _ (adv s) (p * 10) (by rw [e3]; omega) (by rw [e3]; omega) h4
    · rw [if_neg hd]
      exact ⟨h1, by show v.toInt < 10000; omega⟩
theorem nu_g {t : Nat → Int32} {L : Nat} (hL : L ≤ 120) {s : Ps} (a : s.1 ≤ L) (b : s.2.1 ≤ s.1) (hd : isDg (cm t L s) = true) : JG L s (true, nuF t L s) := by
  have hlt := cm_lt (dg_n hd).2.2
  have h1 : nbF t L 4 0 s = nbF t L 3 (0 * 10 + cm t L s - 48) (adv s) := by
    rw [nbF, if_pos hd]
  obtain ⟨e1, e2, e3⟩ := nb_f (t := t) (L := L) 3 (0 * 10 + cm t L s - 48) (adv s) (show s.1 + 1 ≤ L by omega)
  obtain ⟨v1, v2⟩ := nb_v (t := t) (L := L) 4 0 s 1 (by decide) (by decide) (by decide)
  rw [← h1] at e1 e2 e3
  have e1' : s.1 + 1 ≤ (nbF t L 4 0 s).2.1 := e1
  have e3' : (nbF t L 4 0 s).2.2 = s.2 := e3
  unfold nuF
  generalize nbF t L 4 0 s = r at *
  obtain ⟨v, p, q⟩ := r
  have e3'' : q = s.2 := e3'
  subst e3''
  have e1'' : s.1 + 1 ≤ p := e1'
  have e2' : p ≤ L := e2
  show JG L s (true, wr v (p, s.2))
  rw [wr_lt (s := (p, s.2)) (show s.2.1 < 128 by omega)]
  refine ⟨by show s.1 ≤ p; omega, e2', fun _ => ⟨1, Nat.le_refl _, rfl, e1'', fun j hj => upd_n (show ¬ j = s.2.1 by have : j < s.2.1 := hj; omega), EX.one ?_, KLE.rf, ?_⟩⟩
  · show ¬ upd s.2.2.1 s.2.1 v s.2.1 < -6
    rw [upd_u, i_lt, tI_m6]
    have : 0 ≤ v.toInt := v1
    omega
  · intro j h1 h2 h3 h4
    have h4' : upd s.2.2.1 s.2.1 v j < 0 := h4
    rw [show j = s.2.1 by have h1' : s.2.1 ≤ j := h1; have h2' : j < s.2.1 + 1 := h2; omega, upd_u, i_lt, tI_0] at h4'
    have : 0 ≤ v.toInt := v1
    omega
theorem na_g {L : Nat} (hL : L ≤ 120) {s : Ps} {k : Int32} (hk : 0 ≤ k.toInt ∧ k.toInt ≤ 5) (a : s.1 < L) (b : s.2.1 ≤ s.1) : JG L s (true, naF k s) := by
  have e1 : (-1 - k).toInt = -1 - k.toInt := by rw [i_sub (by rw [tI_m1]; omega) (by rw [tI_m1]; omega), tI_m1]
  have e2 : -1 - (-1 - k) = k := by
    rw [i_eq, i_sub (by rw [tI_m1, e1]; omega) (by rw [tI_m1, e1]; omega), tI_m1, e1]
    omega
  unfold naF
  rw [wr_lt (s := (s.1, s.2.1, s.2.2.1, s.2.2.2 ||| zt_f 1 (nn k))) (show s.2.1 < 128 by omega)]
  refine ⟨Nat.le_succ _, a, fun _ => ⟨1, Nat.le_refl _, rfl, Nat.le_refl _, fun j hj => upd_n (show ¬ j = s.2.1 by have : j < s.2.1 := hj; omega), EX.one ?_, ?_, ?_⟩⟩
  · show ¬ upd s.2.2.1 s.2.1 (-1 - k) s.2.1 < -6
    rw [upd_u, i_lt, tI_m6]
    omega
  · intro q hq h
    show bt (s.2.2.2 ||| zt_f 1 (nn k)) q = true
    rw [b_or, h]
    rfl
  · intro j h1 h2 h3 h4 q hq h5
    have h5' : bt (zt_f 1 (nn (-1 - upd s.2.2.1 s.2.1 (-1 - k) j))) q = true := h5
    rw [show j = s.2.1 by have h1' : s.2.1 ≤ j := h1; have h2' : j < s.2.1 + 1 := h2; omega, upd_u, e2] at h5'
    show bt (s.2.2.2 ||| zt_f 1 (nn k)) q = true
    rw [b_or, h5', Bool.or_true]
theorem sg_g {t : Nat → Int32} {L : Nat} {o : Ps → Bool × Ps} (hL : L ≤ 120) (ho : GP L o) {s : Ps} (a : s.1 ≤ L) (b : s.2.1 ≤ s.1) {c : Int32} (hc : c = 33 ∨ c = 45) (he : cm t L s = c) : JG L s (sgF o c (adv s)) := by
  have hlt : s.1 < L := cm_lt (t := t) (by rw [he]; rcases hc with rfl | rfl <;> decide)
  have h2 := ho (adv s) (show s.1 + 1 ≤ L by omega) (show s.2.1 ≤ s.1 + 1 by omega)
  have h21 : s.1 + 1 ≤ (o (adv s)).2.1 := h2.1
  unfold sgF
  refine ⟨?_, ?_, fun ht => GB_un hL (h2.2.2 ht) h2.2.1 b (by rcases hc with rfl | rfl <;> decide)⟩
  · show s.1 ≤ (wr _ _).1
    rw [wr_p]
    omega
  · show (wr _ _).1 ≤ L
    rw [wr_p]
    exact h2.2.1
theorem br_g {t : Nat → Int32} {L : Nat} {o : Ps → Bool × Ps} (hL : L ≤ 120) (ho : GP L o) {s : Ps} (a : s.1 ≤ L) (b : s.2.1 ≤ s.1) (he : cm t L s = 40) : JG L s (brF t L o (adv s)) := by
  have hlt : s.1 < L := cm_lt (t := t) (by rw [he]; decide)
  have h2 := pE_g (t := t) hL ho (adv s) (show s.1 + 1 ≤ L by omega) (show s.2.1 ≤ s.1 + 1 by omega)
  have h21 : s.1 + 1 ≤ (pEF t L o (adv s)).2.1 := h2.1
  unfold brF
  by_cases hc : (pEF t L o (adv s)).1 = true ∧ cm t L (pEF t L o (adv s)).2 = 41
  · rw [if_pos hc]
    have hlt2 : (pEF t L o (adv s)).2.1 < L := cm_lt (t := t) (by rw [hc.2]; decide)
    exact ⟨by show s.1 ≤ (pEF t L o (adv s)).2.1 + 1; omega, hlt2, fun _ => GB_par (h2.2.2 hc.1)⟩
  · rw [if_neg hc]
    exact ⟨by show s.1 ≤ (pEF t L o (adv s)).2.1; omega, h2.2.1, fun h => Bool.noConfusion h⟩
theorem oF_g {t : Nat → Int32} {L : Nat} (hL : L ≤ 120) : ∀ k : Nat, GP L (oF t L k)
  | 0 => fun s a b => by
    rw [oF]
    by_cases hd : isDg (cm t L s) = true
    · rw [if_pos hd]; exact nu_g hL a b hd
    · rw [if_neg hd]
      by_cases hn : nmF (cm t L s) = -1
      · rw [if_pos hn]; exact ⟨Nat.le_refl _, a, fun h => Bool.noConfusion h⟩
      · rw [if_neg hn]
        exact na_g hL (nmF_r hn) (cm_lt (t := t) (by intro e; rw [e] at hn; exact absurd rfl hn)) b
  | k + 1 => fun s a b => by
    rw [oF_s]
    by_cases hd : isDg (cm t L s) = true
    · rw [if_pos hd]; exact nu_g hL a b hd
    · rw [if_neg hd]
      by_cases hn : nmF (cm t L s) = -1
      · rw [if_pos hn]
        by_cases h40 : cm t L s = 40
        · rw [if_pos h40]; exact br_g hL (oF_g hL k) a b h40
        · rw [if_neg h40]
          by_cases h3 : cm t L s = 33 ∨ cm t L s = 45
          · rw [if_pos h3]; exact sg_g hL (oF_g hL k) a b h3 rfl
          · rw [if_neg h3]; exact ⟨Nat.le_refl _, a, fun h => Bool.noConfusion h⟩
      · rw [if_neg hn]
        exact na_g hL (nmF_r hn) (cm_lt (t := t) (by intro e; rw [e] at hn; exact absurd rfl hn)) b
theorem E0_g {t : Nat → Int32} {L : Nat} (hL : L ≤ 120) : GP L (E0 t L) := pE_g hL (oF_g hL 6)

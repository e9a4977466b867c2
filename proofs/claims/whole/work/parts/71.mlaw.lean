/-! A TEXT BECOMES THE LAW in the model -/
theorem MS.re8 {μ0 τ : Sg} {L op M0 b : Nat} {r : Bool × Ps} (h : MS μ0 τ L op M0 b r) (o k : Nat) (v : Int32) (ho : o = 8 ∨ o = 9) : MS (stI μ0 o k v) (stI τ o k v) L op M0 b r := by
  obtain ⟨h1, h2, h3, h4, h5, h6, h7, h8⟩ := h
  have o0 : (0 : Nat) ≠ o := by rcases ho with rfl | rfl <;> decide
  have o6 : (6 : Nat) ≠ o := by rcases ho with rfl | rfl <;> decide
  have e0 : (stI τ o k v).1 0 = τ.1 0 := stI_o _ _ _ _ o0
  have e6 : (stI τ o k v).1 6 = τ.1 6 := stI_o _ _ _ _ o6
  refine ⟨fun q x y => ?_, h2, fun j a b c d => ?_, ?_, h5, ?_, ?_, ?_⟩
  · by_cases e : q = o
    · subst e
      funext j
      by_cases e2 : j = k
      · subst e2
        rw [stI_1, stI_1]
      · rw [stI_k _ _ _ _ e2, stI_k _ _ _ _ e2]
        exact congrFun (h1 q x y) j
    · rw [stI_o _ _ _ _ e, stI_o _ _ _ _ e]
      exact h1 q x y
  · rw [e0, stI_o _ _ _ _ o0]; exact h3 j a b c d
  · rw [e0]; exact h4
  · rw [e0]; exact h6
  · rw [e0]; exact h7
  · rw [e0, e6, stI_o μ0 _ _ _ o6]; exact h8
theorem MS.re14 {μ0 τ : Sg} {L op M0 b : Nat} {r : Bool × Ps} (h : MS μ0 τ L op M0 b r) (v : Int32) : MS (stI μ0 0 14 v) (stI τ 0 14 v) L op M0 b r := by
  obtain ⟨h1, h2, h3, h4, h5, h6, h7, h8⟩ := h
  refine ⟨fun q x y => ?_, h2, fun j a b c d => ?_, (stI_k _ _ _ _ (by decide)).trans h4, h5, (stI_k _ _ _ _ (by decide)).trans h6, fun h => (stI_k _ _ _ _ (by decide)).trans (h7 h), fun h => ?_⟩
  · rw [stI_o _ _ _ _ x, stI_o _ _ _ _ x]; exact h1 q x y
  · by_cases e : j = 14
    · subst e
      rw [stI_1, stI_1]
    · rw [stI_k _ _ _ _ e, stI_k _ _ _ _ e]; exact h3 j a b c d
  · obtain ⟨a1, a2, a3, a4, a5, a6, a7⟩ := h8 h
    exact ⟨(stI_k _ _ _ _ (by decide)).trans a1, a2, a3, a4, (stI_k _ _ _ _ (by decide)).trans a5, fun j hj => by rw [stI_o _ _ _ _ (by decide), stI_o _ _ _ _ (by decide)]; exact a6 j hj, fun j hj => by rw [stI_o _ _ _ _ (by decide)]; exact a7 j hj⟩
/-- what a reading leaves as it was -/
def LF (σ τ : Sg) : Prop := (∀ q, q ≠ 0 → q ≠ 6 → q ≠ 8 → q ≠ 9 → τ.1 q = σ.1 q) ∧ τ.2 = σ.2 ∧ (∀ j, j ≠ 10 → j ≠ 14 → j ≠ 18 → j ≠ 19 → j ≠ 20 → τ.1 0 j = σ.1 0 j)
theorem LF.ms {σ μ τ : Sg} {L op M0 b : Nat} {r : Bool × Ps} (h : LF σ μ) (g : MS μ τ L op M0 b r) : LF σ τ := ⟨fun q x y z v => (g.1 q x y).trans (h.1 q x y z v), g.2.1.trans h.2.1, fun j a b c d e => (g.2.2.1 j a c d e).trans (h.2.2 j a b c d e)⟩
theorem LF.c {σ τ : Sg} (h : LF σ τ) (o k : Nat) (v : Int32) (ho : o = 8 ∨ o = 9) : LF σ (stI τ o k v) := by
  have o0 : (0 : Nat) ≠ o := by rcases ho with rfl | rfl <;> decide
  refine ⟨fun q x y z v => ?_, h.2.1, fun j a b c d e => ?_⟩
  · rw [stI_o _ _ _ _ (by rcases ho with rfl | rfl <;> assumption)]; exact h.1 q x y z v
  · rw [stI_o _ _ _ _ o0]; exact h.2.2 j a b c d e
theorem LF.f {σ τ : Sg} (h : LF σ τ) (k : Nat) (v : Int32) (ho : k = 10 ∨ k = 14 ∨ k = 18 ∨ k = 19 ∨ k = 20) : LF σ (stI τ 0 k v) := by
  refine ⟨fun q x y z v => ?_, h.2.1, fun j a b c d e => ?_⟩
  · rw [stI_o _ _ _ _ x]; exact h.1 q x y z v
  · rw [stI_k _ _ _ _ (by rcases ho with rfl | rfl | rfl | rfl | rfl <;> assumption)]; exact h.2.2 j a b c d e
/-- at a line's beginning -/
def LSt (σ τ : Sg) (L i M : Nat) (lw : Lw) (s : Ps) : Prop := LF σ τ ∧ MS τ τ L 0 M s.2.1 (true, s) ∧ τ.1 0 14 = nI i ∧ lw.length = i ∧ 2 * i ≤ s.1 ∧ CLs s.2.2.1 0 lw s.2.1 ∧ KBX s.2.2.2 s.2.2.1 0 s.2.1 ∧ CMs (fun j => psi (τ.1 6 j)) (τ.1 8) (τ.1 9) 0 0 lw M ∧ (∀ j, j < M → τ.1 6 j = phi (psi (τ.1 6 j)))
/-- at a line's end: what the lines are -/
def LEx (τ : Sg) (i : Nat) (r : Bool × Ps) : Prop := r.1 = true → ∃ (lw : Lw) (M : Nat), lw.length = i + 1 ∧ CLs r.2.2.2.1 0 lw r.2.2.1 ∧ KBX r.2.2.2.2 r.2.2.2.1 0 r.2.2.1 ∧ CMs (fun j => psi (τ.1 6 j)) (τ.1 8) (τ.1 9) 0 0 lw M ∧ (∀ j, j < M → τ.1 6 j = phi (psi (τ.1 6 j))) ∧ τ.1 0 10 = nI M ∧ M ≤ r.2.1 ∧ r.2.2.1 ≤ r.2.1 + 1 ∧ 2 * i + 1 ≤ r.2.1
theorem line_B {σ τ τ1 τ3 τ5 τ6 : Sg} {L i M : Nat} {lw : Lw} {s : Ps} {r1 : Bool × Ps} (hL : L ≤ 120) (h : LSt σ τ L i M lw s) (h1 : MS τ τ1 L 0 M s.2.1 r1) (hj : JG L s r1) (e3 : τ3 = stI τ1 8 i (nI M)) (e5 : τ5 = stI τ3 9 i (τ3.1 0 10)) (e6 : τ6 = stI τ5 0 14 (nI (i + 1))) : LEx τ6 i (r1.1, wr (-59) r1.2) := by
  intro hr
  have hr' : r1.1 = true := hr
  obtain ⟨hF, hS, h14, hln, h2i, hC, hK, hM, hP⟩ := h
  obtain ⟨m1, m2, m3, m4, m5, m6, m7, m8⟩ := h1
  obtain ⟨a1, a2, a3, a4, a5, a6, a7⟩ := m8 hr'
  obtain ⟨k, g1, g2, g3, g4, ⟨v, g5⟩, g6, g7⟩ := hj.2.2 hr'
  have hp := hj.2.1
  have hk : r1.2.2.1 - s.2.1 = k := by omega
  rw [hk] at a4 a5 a7
  have c6 : τ6.1 6 = τ1.1 6 := by rw [e6, stI_o _ _ _ _ (by decide), e5, stI_o _ _ _ _ (by decide), e3, stI_o _ _ _ _ (by decide)]
  have c8 : ∀ j, j ≠ i → τ6.1 8 j = τ.1 8 j := fun j hj => by rw [e6, stI_o _ _ _ _ (by decide), e5, stI_o _ _ _ _ (by decide), e3, stI_k _ _ _ _ hj, m1 8 (by decide) (by decide)]
  have c8i : τ6.1 8 i = nI M := by rw [e6, stI_o _ _ _ _ (by decide), e5, stI_o _ _ _ _ (by decide), e3, stI_1]
  have c9 : ∀ j, j ≠ i → τ6.1 9 j = τ.1 9 j := fun j hj => by rw [e6, stI_o _ _ _ _ (by decide), e5, stI_k _ _ _ _ hj, e3, stI_o _ _ _ _ (by decide), m1 9 (by decide) (by decide)]
  have c30 : τ3.1 0 10 = nI (M + k) := by rw [e3, stI_o _ _ _ _ (by decide)]; exact a5
  have c9i : τ6.1 9 i = nI (M + k) := by rw [e6, stI_o _ _ _ _ (by decide), e5, stI_1]; exact c30
  have c10 : τ6.1 0 10 = nI (M + k) := by rw [e6, stI_k _ _ _ _ (by decide), e5, stI_o _ _ _ _ (by decide)]; exact c30
  have a4' : M + k ≤ r1.2.1 := a4
  have hold : ∀ j, j < r1.2.2.1 → upd r1.2.2.2.1 r1.2.2.1 (-59) j = r1.2.2.2.1 j := fun j hj => upd_n (by omega)
  show ∃ (lw : Lw) (M : Nat), lw.length = i + 1 ∧ CLs (wr (-59) r1.2).2.2.1 0 lw (wr (-59) r1.2).2.1 ∧ KBX (wr (-59) r1.2).2.2.2 (wr (-59) r1.2).2.2.1 0 (wr (-59) r1.2).2.1 ∧ CMs (fun j => psi (τ6.1 6 j)) (τ6.1 8) (τ6.1 9) 0 0 lw M ∧ (∀ j, j < M → τ6.1 6 j = phi (psi (τ6.1 6 j))) ∧ τ6.1 0 10 = nI M ∧ M ≤ (wr (-59) r1.2).1 ∧ (wr (-59) r1.2).2.1 ≤ (wr (-59) r1.2).1 + 1 ∧ 2 * i + 1 ≤ (wr (-59) r1.2).1
  rw [wr_lt (show r1.2.2.1 < 128 by omega)]
  refine ⟨lw ++ [(none, v)], M + k, by rw [List.length_append, hln]; rfl, ?_, ?_, ?_, ?_, c10, a4', ?_, ?_⟩
  · refine CLs.snoc (e := s.2.1) (hC.sh fun j hj => ?_) ⟨k, g1, g5.sh fun j hj => hold _ (by omega), ?_, by show r1.2.2.1 + 1 = _; omega⟩
    · show upd r1.2.2.2.1 r1.2.2.1 (-59) j = _
      rw [hold j (by omega), g4 j hj]
    · show upd r1.2.2.2.1 r1.2.2.1 (-59) (s.2.1 + k) = _
      rw [← g2]; exact upd_u
  · show KBX r1.2.2.2.2 (upd r1.2.2.2.1 r1.2.2.1 (-59)) 0 (r1.2.2.1 + 1)
    rw [show r1.2.2.1 + 1 = s.2.1 + k + 1 by omega]
    refine KBX.app (KBX.app ((hK.le g6).sh fun j _ hj => ?_) ?_) (KBX.op ?_)
    · rw [hold j (by omega), g4 j (by omega)]
    · rw [Nat.zero_add]
      exact g7.sh fun j _ hj => hold _ (by omega)
    · rw [show 0 + (s.2.1 + k) = r1.2.2.1 by omega, upd_u]
      decide
  · refine CMs.snoc (e := M) (hM.sh (fun q hq => ?_) (fun q hq => ?_)) ⟨?_, k, g1, g5.sh fun j hj => ?_, ?_, rfl⟩
    · show psi (τ6.1 6 q) = psi (τ.1 6 q)
      rw [c6, a6 q hq]
    · exact ⟨c8 q (by omega), c9 q (by omega)⟩
    · rw [hln, Nat.zero_add]; exact c8i
    · show psi (τ6.1 6 (M + j)) = _
      rw [c6]; exact (a7 j hj).2
    · rw [hln, Nat.zero_add]; exact c9i
  · intro j hj
    rw [c6]
    rcases Nat.lt_or_ge j M with q | q
    · rw [a6 j q]; exact hP j q
    · have h9 := a7 (j - M) (by omega)
      rw [show M + (j - M) = j by omega] at h9
      rw [h9.2]; exact h9.1
  · show r1.2.2.1 + 1 ≤ r1.2.1 + 1
    have a3' : r1.2.2.1 ≤ r1.2.1 := a3
    omega
  · show 2 * i + 1 ≤ r1.2.1
    omega
theorem line_A {σ τ τ1 τ3 τ4 τ5 τ6 : Sg} {L i M : Nat} {lw : Lw} {s : Ps} {r1 r2 : Bool × Ps} {v0 : Int32} (hL : L ≤ 120) (h : LSt σ τ L i M lw s) (h1 : MS τ τ1 L 0 M s.2.1 r1) (ok : r1.1 = true) (hlt : r1.2.1 < L) (hj : JG L s r1) (e3 : τ3 = stI (stI τ1 0 18 v0) 8 i (nI (M + (r1.2.2.1 - s.2.1)))) (h4 : MS τ3 τ4 L 0 (M + (r1.2.2.1 - s.2.1)) (wr (-63) (adv r1.2)).2.1 r2) (hj2 : JG L (wr (-63) (adv r1.2)) r2) (e5 : τ5 = stI τ4 9 i (τ4.1 0 10)) (e6 : τ6 = stI τ5 0 14 (nI (i + 1))) : LEx τ6 i (r2.1, wr (-59) r2.2) := by
  intro hr
  have hr' : r2.1 = true := hr
  obtain ⟨hF, hS, h14, hln, h2i, hC, hK, hM, hP⟩ := h
  obtain ⟨m1, m2, m3, m4, m5, m6, m7, m8⟩ := h1
  obtain ⟨a1, a2, a3, a4, a5, a6, a7⟩ := m8 ok
  obtain ⟨k, g1, g2, g3, g4, ⟨v, g5⟩, g6, g7⟩ := hj.2.2 ok
  have hp := hj.2.1
  have hk : r1.2.2.1 - s.2.1 = k := by omega
  rw [hk] at a4 a5 a7 e3 h4
  have hw : wr (-63) (adv r1.2) = (r1.2.1 + 1, r1.2.2.1 + 1, upd r1.2.2.2.1 r1.2.2.1 (-63), r1.2.2.2.2) := wr_lt (s := adv r1.2) (show r1.2.2.1 < 128 by omega)
  rw [hw] at h4 hj2
  obtain ⟨n1, n2, n3, n4, n5, n6, n7, n8⟩ := h4
  obtain ⟨b1, b2, b3, b4, b5, b6, b7⟩ := n8 hr'
  obtain ⟨k2, p1, p2, p3, p4, ⟨v2, p5⟩, p6, p7⟩ := hj2.2.2 hr'
  have p2' : r2.2.2.1 = r1.2.2.1 + 1 + k2 := p2
  have p3' : r1.2.1 + 1 + k2 ≤ r2.2.1 := p3
  have p4' : ∀ j, j < r1.2.2.1 + 1 → r2.2.2.2.1 j = upd r1.2.2.2.1 r1.2.2.1 (-63) j := p4
  have p5' : EX r2.2.2.2.1 (r1.2.2.1 + 1) k2 v2 := p5
  have p6' : KLE r1.2.2.2.2 r2.2.2.2.2 := p6
  have p7' : KBX r2.2.2.2.2 r2.2.2.2.1 (r1.2.2.1 + 1) k2 := p7
  have hp2 := hj2.2.1
  have hk2 : r2.2.2.1 - (r1.2.2.1 + 1) = k2 := by omega
  have b4' : M + k + (r2.2.2.1 - (r1.2.2.1 + 1)) ≤ r2.2.1 := b4
  have b5' : τ4.1 0 10 = nI (M + k + (r2.2.2.1 - (r1.2.2.1 + 1))) := b5
  have b7' : ∀ j, j < r2.2.2.1 - (r1.2.2.1 + 1) → PH (τ4.1 6 (M + k + j)) (r2.2.2.2.1 (r1.2.2.1 + 1 + j)) := b7
  rw [hk2] at b4' b5' b7'
  have d6 : τ3.1 6 = τ1.1 6 := by rw [e3, stI_o _ _ _ _ (by decide), stI_o _ _ _ _ (by decide)]
  have c6 : τ6.1 6 = τ4.1 6 := by rw [e6, stI_o _ _ _ _ (by decide), e5, stI_o _ _ _ _ (by decide)]
  have c8' : τ6.1 8 = τ3.1 8 := by rw [e6, stI_o _ _ _ _ (by decide), e5, stI_o _ _ _ _ (by decide), n1 8 (by decide) (by decide)]
  have c8 : ∀ j, j ≠ i → τ6.1 8 j = τ.1 8 j := fun j hj => by rw [c8', e3, stI_k _ _ _ _ hj, stI_o _ _ _ _ (by decide), m1 8 (by decide) (by decide)]
  have c8i : τ6.1 8 i = nI (M + k) := by rw [c8', e3, stI_1]
  have c9 : ∀ j, j ≠ i → τ6.1 9 j = τ.1 9 j := fun j hj => by rw [e6, stI_o _ _ _ _ (by decide), e5, stI_k _ _ _ _ hj, n1 9 (by decide) (by decide), e3, stI_o _ _ _ _ (by decide), stI_o _ _ _ _ (by decide), m1 9 (by decide) (by decide)]
  have c9i : τ6.1 9 i = nI (M + k + k2) := by rw [e6, stI_o _ _ _ _ (by decide), e5, stI_1]; exact b5'
  have c10 : τ6.1 0 10 = nI (M + k + k2) := by rw [e6, stI_k _ _ _ _ (by decide), e5, stI_o _ _ _ _ (by decide)]; exact b5'
  have l6 : ∀ j, j < M + k → τ6.1 6 j = τ1.1 6 j := fun j hj => by rw [c6, b6 j hj, d6]
  have hold : ∀ j, j < r2.2.2.1 → upd r2.2.2.2.1 r2.2.2.1 (-59) j = r2.2.2.2.1 j := fun j hj => upd_n (by omega)
  have hold1 : ∀ j, j < r1.2.2.1 → upd r2.2.2.2.1 r2.2.2.1 (-59) j = r1.2.2.2.1 j := fun j hj => by rw [hold j (by omega), p4' j (by omega), upd_n (by omega)]
  show ∃ (lw : Lw) (M : Nat), lw.length = i + 1 ∧ CLs (wr (-59) r2.2).2.2.1 0 lw (wr (-59) r2.2).2.1 ∧ KBX (wr (-59) r2.2).2.2.2 (wr (-59) r2.2).2.2.1 0 (wr (-59) r2.2).2.1 ∧ CMs (fun j => psi (τ6.1 6 j)) (τ6.1 8) (τ6.1 9) 0 0 lw M ∧ (∀ j, j < M → τ6.1 6 j = phi (psi (τ6.1 6 j))) ∧ τ6.1 0 10 = nI M ∧ M ≤ (wr (-59) r2.2).1 ∧ (wr (-59) r2.2).2.1 ≤ (wr (-59) r2.2).1 + 1 ∧ 2 * i + 1 ≤ (wr (-59) r2.2).1
  rw [wr_lt (show r2.2.2.1 < 128 by omega)]
  refine ⟨lw ++ [(some v, v2)], M + k + k2, by rw [List.length_append, hln]; rfl, ?_, ?_, ?_, ?_, c10, b4', ?_, ?_⟩
  · refine CLs.snoc (e := s.2.1) (hC.sh fun j hj => ?_) ⟨k, k2, g1, p1, g5.sh fun j hj => hold1 _ (by omega), ?_, p5'.sh fun j hj => ?_, ?_, by show r2.2.2.1 + 1 = _; omega⟩
    · show upd r2.2.2.2.1 r2.2.2.1 (-59) j = _
      rw [hold1 j (by omega), g4 j hj]
    · show upd r2.2.2.2.1 r2.2.2.1 (-59) (s.2.1 + k) = _
      rw [hold _ (by omega), p4' _ (by omega), ← g2]; exact upd_u
    · show upd r2.2.2.2.1 r2.2.2.1 (-59) (s.2.1 + k + 1 + j) = _
      rw [hold _ (by omega), show s.2.1 + k + 1 + j = r1.2.2.1 + 1 + j by omega]
    · show upd r2.2.2.2.1 r2.2.2.1 (-59) (s.2.1 + k + 1 + k2) = _
      rw [show s.2.1 + k + 1 + k2 = r2.2.2.1 by omega]; exact upd_u
  · show KBX r2.2.2.2.2 (upd r2.2.2.2.1 r2.2.2.1 (-59)) 0 (r2.2.2.1 + 1)
    rw [show r2.2.2.1 + 1 = s.2.1 + k + 1 + k2 + 1 by omega]
    refine KBX.app (KBX.app (KBX.app (KBX.app (((hK.le g6).le p6').sh fun j _ hj => ?_) ?_) (KBX.op ?_)) ?_) (KBX.op ?_)
    · rw [hold1 j (by omega), g4 j (by omega)]
    · rw [Nat.zero_add]
      exact (g7.le p6').sh fun j _ hj => hold1 _ (by omega)
    · rw [show 0 + (s.2.1 + k) = r1.2.2.1 by omega, hold _ (by omega), p4' _ (by omega), upd_u]
      decide
    · rw [show 0 + (s.2.1 + k + 1) = r1.2.2.1 + 1 by omega]
      exact p7'.sh fun j _ hj => hold _ (by omega)
    · rw [show 0 + (s.2.1 + k + 1 + k2) = r2.2.2.1 by omega, upd_u]
      decide
  · refine CMs.snoc (e := M) (hM.sh (fun q hq => ?_) (fun q hq => ?_)) ⟨k, k2, g1, p1, g5.sh fun j hj => ?_, ?_, p5'.sh fun j hj => ?_, ?_, rfl⟩
    · show psi (τ6.1 6 q) = psi (τ.1 6 q)
      rw [l6 q (by omega), a6 q hq]
    · exact ⟨c8 q (by omega), c9 q (by omega)⟩
    · show psi (τ6.1 6 (M + j)) = _
      rw [l6 _ (by omega)]; exact (a7 j hj).2
    · rw [hln, Nat.zero_add]; exact c8i
    · show psi (τ6.1 6 (M + k + j)) = _
      rw [c6]; exact (b7' j hj).2
    · rw [hln, Nat.zero_add]; exact c9i
  · intro j hj
    rcases Nat.lt_or_ge j M with q | q
    · rw [l6 j (by omega), a6 j q]; exact hP j q
    · rcases Nat.lt_or_ge j (M + k) with q2 | q2
      · have h9 := a7 (j - M) (by omega)
        rw [show M + (j - M) = j by omega] at h9
        rw [l6 j q2, h9.2]; exact h9.1
      · have h9 := b7' (j - (M + k)) (by omega)
        rw [show M + k + (j - (M + k)) = j by omega] at h9
        rw [c6, h9.2]; exact h9.1
  · show r2.2.2.1 + 1 ≤ r2.2.1 + 1
    have b3' : r2.2.2.1 ≤ r2.2.1 := b3
    omega
  · show 2 * i + 1 ≤ r2.2.1
    omega
theorem ms_A {τ τ1 τ3 : Sg} {L i M n : Nat} {r1 : Bool × Ps} {v : Int32} (hL : L ≤ 120) (h1 : MS τ τ1 L 0 M n r1) (ok : r1.1 = true) (hlt : r1.2.1 < L) (e3 : τ3 = stI (stI τ1 0 18 (nI (r1.2.1 + 1))) 8 i v) : MS τ3 τ3 L 0 (M + (r1.2.2.1 - n)) (wr (-63) (adv r1.2)).2.1 (true, wr (-63) (adv r1.2)) := by
  obtain ⟨m1, m2, m3, m4, m5, m6, m7, m8⟩ := h1
  obtain ⟨a1, a2, a3, a4, a5, a6, a7⟩ := m8 ok
  have hw : wr (-63) (adv r1.2) = (r1.2.1 + 1, r1.2.2.1 + 1, upd r1.2.2.2.1 r1.2.2.1 (-63), r1.2.2.2.2) := wr_lt (s := adv r1.2) (show r1.2.2.1 < 128 by omega)
  have e0 : τ3.1 0 = (stI τ1 0 18 (nI (r1.2.1 + 1))).1 0 := by rw [e3, stI_o _ _ _ _ (by decide)]
  rw [hw]
  refine ⟨fun _ _ _ => rfl, rfl, fun _ _ _ _ _ => rfl, by rw [e0, stI_1], hlt, by rw [e0, stI_k _ _ _ _ (by decide)]; exact m6, fun h => Bool.noConfusion h, fun _ => ⟨by rw [e0, stI_k _ _ _ _ (by decide)]; exact a1, Nat.le_refl _, ?_, ?_, ?_, fun _ _ => rfl, fun j hj => ?_⟩⟩
  · show r1.2.2.1 + 1 ≤ r1.2.1 + 1; omega
  · show M + (r1.2.2.1 - n) + (r1.2.2.1 + 1 - (r1.2.2.1 + 1)) ≤ r1.2.1 + 1; omega
  · show _ = nI (M + (r1.2.2.1 - n) + (r1.2.2.1 + 1 - (r1.2.2.1 + 1)))
    rw [Nat.sub_self, Nat.add_zero, e0, stI_k _ _ _ _ (by decide)]; exact a5
  · have hj' : j < r1.2.2.1 + 1 - (r1.2.2.1 + 1) := hj
    omega
theorem next_l {σ τ6 μ : Sg} {L i M M0 b : Nat} {lw : Lw} {r : Bool × Ps} (hF : LF σ τ6) (h14 : τ6.1 0 14 = nI (i + 1)) (hm : MS μ τ6 L 0 M0 b r) (ok : r.1 = true) (hlt : r.2.1 < L) (h1 : lw.length = i + 1) (h2 : CLs (wr (-59) r.2).2.2.1 0 lw (wr (-59) r.2).2.1) (h3 : KBX (wr (-59) r.2).2.2.2 (wr (-59) r.2).2.2.1 0 (wr (-59) r.2).2.1) (h4 : CMs (fun j => psi (τ6.1 6 j)) (τ6.1 8) (τ6.1 9) 0 0 lw M) (h5 : ∀ j, j < M → τ6.1 6 j = phi (psi (τ6.1 6 j))) (h6 : τ6.1 0 10 = nI M) (h7 : M ≤ (wr (-59) r.2).1) (h8 : (wr (-59) r.2).2.1 ≤ (wr (-59) r.2).1 + 1) (h9 : 2 * i + 1 ≤ (wr (-59) r.2).1) : LSt σ (stI τ6 0 18 (nI (r.2.1 + 1))) L (i + 1) M lw (adv (wr (-59) r.2)) := by
  obtain ⟨m1, m2, m3, m4, m5, m6, m7, m8⟩ := hm
  obtain ⟨a1, a2, a3, a4, a5, a6, a7⟩ := m8 ok
  have c6 : (stI τ6 0 18 (nI (r.2.1 + 1))).1 6 = τ6.1 6 := stI_o _ _ _ _ (by decide)
  have c8 : (stI τ6 0 18 (nI (r.2.1 + 1))).1 8 = τ6.1 8 := stI_o _ _ _ _ (by decide)
  have c9 : (stI τ6 0 18 (nI (r.2.1 + 1))).1 9 = τ6.1 9 := stI_o _ _ _ _ (by decide)
  have hp : (wr (-59) r.2).1 = r.2.1 := wr_p
  refine ⟨hF.f 18 _ (by decide), ⟨fun _ _ _ => rfl, rfl, fun _ _ _ _ _ => rfl, ?_, ?_, (stI_k _ _ _ _ (by decide)).trans m6, fun h => Bool.noConfusion h, fun _ => ⟨(stI_k _ _ _ _ (by decide)).trans a1, Nat.le_refl _, ?_, ?_, ?_, fun _ _ => rfl, fun j hj => ?_⟩⟩, (stI_k _ _ _ _ (by decide)).trans h14, h1, ?_, h2, h3, by rw [c6, c8, c9]; exact h4, by rw [c6]; exact h5⟩
  · show _ = nI ((wr (-59) r.2).1 + 1)
    rw [stI_1, hp]
  · show (wr (-59) r.2).1 + 1 ≤ L
    rw [hp]; exact hlt
  · exact h8
  · show M + ((wr (-59) r.2).2.1 - (wr (-59) r.2).2.1) ≤ (wr (-59) r.2).1 + 1
    omega
  · show _ = nI (M + ((wr (-59) r.2).2.1 - (wr (-59) r.2).2.1))
    rw [Nat.sub_self, Nat.add_zero, stI_k _ _ _ _ (by decide)]; exact h6
  · have hj' : j < (wr (-59) r.2).2.1 - (wr (-59) r.2).2.1 := hj
    omega
  · show 2 * (i + 1) ≤ (wr (-59) r.2).1 + 1
    omega
theorem ln_n {t : Nat → Int32} {L : Nat} {r : Bool × Ps} (h : ¬ (r.1 = true ∧ cm t L r.2 = 59)) : ∀ u, lnL t L u r = r
  | 0 => rfl
  | _ + 1 => if_neg h
theorem ln_s {t : Nat → Int32} {L u : Nat} {r : Bool × Ps} (h : r.1 = true ∧ cm t L r.2 = 59) : lnL t L (u + 1) r = lnL t L u (liF t L (adv r.2)) := if_pos h
theorem cm_wr {t : Nat → Int32} {L : Nat} {s : Ps} {c : Int32} : cm t L (wr c s) = cm t L s := by
  unfold cm
  rw [wr_p]
/-- what the lines of a text are, as the class has them -/
def LWR (s : Ps) (lw : Lw) : Prop := 1 ≤ lw.length ∧ s.2.1 ≤ 121 ∧ CLs s.2.2.1 0 lw s.2.1 ∧ KBX s.2.2.2 s.2.2.1 0 s.2.1
def LF2 (σ σ' : Sg) : Prop := (∀ q, q ≠ 0 → q ≠ 6 → q ≠ 7 → q ≠ 8 → q ≠ 9 → q ≠ 10 → q ≠ 11 → σ'.1 q = σ.1 q) ∧ σ'.2 = σ.2 ∧ (∀ j, j ≠ 8 → j ≠ 10 → j ≠ 14 → j ≠ 17 → j ≠ 18 → j ≠ 19 → j ≠ 20 → σ'.1 0 j = σ.1 0 j) ∧ σ'.1 0 8 = 0
def LPw (σ : Sg) (L : Nat) (R : Bool × Ps) (v : Int32) (σ' : Sg) : Prop := (¬ (R.1 = true ∧ ¬ R.2.1 < L) → v = -100 - nI R.2.1 ∧ ∃ τ, LF σ τ ∧ σ' = stI τ 0 8 0) ∧ ((R.1 = true ∧ ¬ R.2.1 < L) → v = 1 ∧ ∃ (lw : Lw) (T : Nat), LWR R.2 lw ∧ ML σ' (fun j => psi (σ'.1 7 j)) T lw ∧ LF2 σ σ')
/-- copies at the end -/
def K1 (υ τ : Sg) (i : Nat) : Prop := (∀ q, q ≠ 10 → q ≠ 11 → τ.1 q = υ.1 q) ∧ τ.2 = υ.2 ∧ ∀ j, j < i → τ.1 10 j = υ.1 8 j ∧ τ.1 11 j = υ.1 9 j
def K2 (υ τ : Sg) (i : Nat) : Prop := (∀ q, q ≠ 7 → τ.1 q = υ.1 q) ∧ τ.2 = υ.2 ∧ ∀ j, j < i → τ.1 7 j = υ.1 6 j
theorem K1.s {υ τ : Sg} {i : Nat} (h : K1 υ τ i) : K1 υ (stI (stI τ 10 i (υ.1 8 i)) 11 i (υ.1 9 i)) (i + 1) := by
  refine ⟨fun q a b => by rw [stI_o _ _ _ _ b, stI_o _ _ _ _ a]; exact h.1 q a b, h.2.1, fun j hj => ?_⟩
  by_cases e : j = i
  · subst e
    exact ⟨by rw [stI_o _ _ _ _ (by decide), stI_1], by rw [stI_1]⟩
  · exact ⟨by rw [stI_o _ _ _ _ (by decide), stI_k _ _ _ _ e]; exact (h.2.2 j (by omega)).1, by rw [stI_k _ _ _ _ e, stI_o _ _ _ _ (by decide)]; exact (h.2.2 j (by omega)).2⟩
theorem K2.s {υ τ : Sg} {i : Nat} (h : K2 υ τ i) : K2 υ (stI τ 7 i (υ.1 6 i)) (i + 1) := by
  refine ⟨fun q a => by rw [stI_o _ _ _ _ a]; exact h.1 q a, h.2.1, fun j hj => ?_⟩
  by_cases e : j = i
  · subst e
    rw [stI_1]
  · rw [stI_k _ _ _ _ e]; exact h.2.2 j (by omega)
theorem K1.z {υ : Sg} : K1 υ υ 0 := ⟨fun _ _ _ => rfl, rfl, fun j hj => absurd hj (Nat.not_lt_zero j)⟩
theorem K2.z {υ : Sg} : K2 υ υ 0 := ⟨fun _ _ => rfl, rfl, fun j hj => absurd hj (Nat.not_lt_zero j)⟩
set_option maxHeartbeats 1000000 in
theorem l3_X11_law (V : Vt) (d : Nat) (υ : Sg) (M : Nat) (hM : M ≤ 120) (h10 : υ.1 0 10 = nI M) (P : Int32 → Sg → Prop) (X : Xt) (hx : Ok V RX11 cX11_law 4 (d + 43) X) (he : En layM V (some .int) (Ri P) X) (hP : ∀ τ, K2 υ τ M → P 1 τ) : ∀ (i : Nat) (τ : Sg), i ≤ M → K2 υ τ i → WS layM V 4 X τ 194 [(2, .int (nI i)), (0, rf V 0)] [] := by
  have hMI : (nI M).toInt = (M : Int) := nI_c (by omega)
  intro i
  induction hm : M - i using Nat.strongRecOn generalizing i with
  | _ m9 ih =>
    intro τ hi hK
    have hiI : (nI i).toInt = (i : Int) := nI_c (by omega)
    refine WS.iload_n hx dX11_law_194 rfl 0 rfl ?_
    refine WS.aload_n hx dX11_law_195 rfl 1 rfl ?_
    refine WS.getI hx okX11 lf11_162 rfl rfl dX11_law_196 ?_
    refine WS.as rfl rfl (congrArg (fun z => Value.int z :: _) (show τ.1 0 10 = nI M from by rw [hK.1 0 (by decide)]; exact h10)) ?_
    skip
    refine WS.icmp_ge (tgt := 220) hx dX11_law_199 (by decide) (fun c199 => ?_) (fun c199 => ?_)
    · skip
      show WS layM V 4 X τ 220 [(2, .int (nI i)), (0, rf V 0)] []
      refine WS.iconst (v := 1) hx dX11_law_220 (by decide) ?_
      exact WS.iret hx he dX11_law_221 ⟨_, rfl, hP τ ((show i = M by (try simp only [l_int, tL_0, tL_1, tL_2, tL_4, tL_5, tL_6, tL_7, tL_9, tL_10, tL_12, tL_15, tL_30, tL_40, tL_60, tL_99, tL_255, tL_1023, tL_m1, lc_lt, lc_gt, lc_ge, lc_le, lc_eq, l6_le, l6_lt, l6_eq, tI_m133, tI_m226, i_le, i_lt, i_eq, tI_m100, tI_m1, tI_0, tI_1, tI_59, tI_63] at c199); (try simp only [l_int, tL_0, tL_1, tL_2, tL_4, tL_5, tL_6, tL_7, tL_9, tL_10, tL_12, tL_15, tL_30, tL_40, tL_60, tL_99, tL_255, tL_1023, tL_m1, lc_lt, lc_gt, lc_ge, lc_le, lc_eq, l6_le, l6_lt, l6_eq, tI_m133, tI_m226, i_le, i_lt, i_eq, tI_m100, tI_m1, tI_0, tI_1, tI_59, tI_63]); omega) ▸ hK)⟩
    · skip
      show WS layM V 4 X τ 202 [(2, .int (nI i)), (0, rf V 0)] []
      refine WS.aload_n hx dX11_law_202 rfl 1 rfl ?_
      refine WS.getR hx okX11 lf11_28 rfl rfl dX11_law_203 ?_
      refine WS.iload_n hx dX11_law_206 rfl 0 rfl ?_
      refine WS.aload_n hx dX11_law_207 rfl 1 rfl ?_
      refine WS.getR hx okX11 lf11_25 rfl rfl dX11_law_208 ?_
      refine WS.iload_n hx dX11_law_211 rfl 0 rfl ?_
      refine WS.iald hx rfl (vp_in_nI (by (try simp only [l_int, tL_0, tL_1, tL_2, tL_4, tL_5, tL_6, tL_7, tL_9, tL_10, tL_12, tL_15, tL_30, tL_40, tL_60, tL_99, tL_255, tL_1023, tL_m1, lc_lt, lc_gt, lc_ge, lc_le, lc_eq, l6_le, l6_lt, l6_eq, tI_m133, tI_m226, i_le, i_lt, i_eq, tI_m100, tI_m1, tI_0, tI_1, tI_59, tI_63] at c199); (try simp only [l_int, tL_0, tL_1, tL_2, tL_4, tL_5, tL_6, tL_7, tL_9, tL_10, tL_12, tL_15, tL_30, tL_40, tL_60, tL_99, tL_255, tL_1023, tL_m1, lc_lt, lc_gt, lc_ge, lc_le, lc_eq, l6_le, l6_lt, l6_eq, tI_m133, tI_m226, i_le, i_lt, i_eq, tI_m100, tI_m1, tI_0, tI_1, tI_59, tI_63]); omega) (by decide)) dX11_law_212 ?_
      refine WS.as rfl rfl (congrArg (fun z => Value.int z :: _) (show τ.1 6 (nn (nI i)) = υ.1 6 i from by rw [nn_nI (show i < 2 ^ 31 by omega)]; exact congrFun (hK.1 6 (by decide)) i)) ?_
      skip
      refine WS.iast hx rfl (vp_in_nI (by (try simp only [l_int, tL_0, tL_1, tL_2, tL_4, tL_5, tL_6, tL_7, tL_9, tL_10, tL_12, tL_15, tL_30, tL_40, tL_60, tL_99, tL_255, tL_1023, tL_m1, lc_lt, lc_gt, lc_ge, lc_le, lc_eq, l6_le, l6_lt, l6_eq, tI_m133, tI_m226, i_le, i_lt, i_eq, tI_m100, tI_m1, tI_0, tI_1, tI_59, tI_63] at c199); (try simp only [l_int, tL_0, tL_1, tL_2, tL_4, tL_5, tL_6, tL_7, tL_9, tL_10, tL_12, tL_15, tL_30, tL_40, tL_60, tL_99, tL_255, tL_1023, tL_m1, lc_lt, lc_gt, lc_ge, lc_le, lc_eq, l6_le, l6_lt, l6_eq, tI_m133, tI_m226, i_le, i_lt, i_eq, tI_m100, tI_m1, tI_0, tI_1, tI_59, tI_63]); omega) (by decide)) dX11_law_213 ?_
      refine WS.iinc (v := nI (i + 1)) (lo' := [(2, .int (nI (i + 1))), (0, rf V 0)]) hx dX11_law_214 0 rfl (nI_1 i) (by decide) rfl ?_
      refine WS.goto (tgt := 194) hx dX11_law_217 (by decide) ?_
      (try simp only [nn_nI (show i < 2 ^ 31 by omega), nI_clamp (show i < 2 ^ 31 by omega)])
      exact WS.los [0, 1] rfl (ih _ (by (try simp only [l_int, tL_0, tL_1, tL_2, tL_4, tL_5, tL_6, tL_7, tL_9, tL_10, tL_12, tL_15, tL_30, tL_40, tL_60, tL_99, tL_255, tL_1023, tL_m1, lc_lt, lc_gt, lc_ge, lc_le, lc_eq, l6_le, l6_lt, l6_eq, tI_m133, tI_m226, i_le, i_lt, i_eq, tI_m100, tI_m1, tI_0, tI_1, tI_59, tI_63] at c199); (try simp only [l_int, tL_0, tL_1, tL_2, tL_4, tL_5, tL_6, tL_7, tL_9, tL_10, tL_12, tL_15, tL_30, tL_40, tL_60, tL_99, tL_255, tL_1023, tL_m1, lc_lt, lc_gt, lc_ge, lc_le, lc_eq, l6_le, l6_lt, l6_eq, tI_m133, tI_m226, i_le, i_lt, i_eq, tI_m100, tI_m1, tI_0, tI_1, tI_59, tI_63]); omega) (i + 1) rfl _ (by (try simp only [l_int, tL_0, tL_1, tL_2, tL_4, tL_5, tL_6, tL_7, tL_9, tL_10, tL_12, tL_15, tL_30, tL_40, tL_60, tL_99, tL_255, tL_1023, tL_m1, lc_lt, lc_gt, lc_ge, lc_le, lc_eq, l6_le, l6_lt, l6_eq, tI_m133, tI_m226, i_le, i_lt, i_eq, tI_m100, tI_m1, tI_0, tI_1, tI_59, tI_63] at c199); (try simp only [l_int, tL_0, tL_1, tL_2, tL_4, tL_5, tL_6, tL_7, tL_9, tL_10, tL_12, tL_15, tL_30, tL_40, tL_60, tL_99, tL_255, tL_1023, tL_m1, lc_lt, lc_gt, lc_ge, lc_le, lc_eq, l6_le, l6_lt, l6_eq, tI_m133, tI_m226, i_le, i_lt, i_eq, tI_m100, tI_m1, tI_0, tI_1, tI_59, tI_63]); omega) hK.s)
set_option maxHeartbeats 1000000 in
theorem l2_X11_law (V : Vt) (d : Nat) (υ : Sg) (N M : Nat) (hN : N ≤ 120) (hM : M ≤ 120) (h17 : υ.1 0 17 = nI N) (h10 : υ.1 0 10 = nI M) (P : Int32 → Sg → Prop) (X : Xt) (hx : Ok V RX11 cX11_law 4 (d + 43) X) (he : En layM V (some .int) (Ri P) X) (hP : ∀ ρ τ, K1 υ ρ N → K2 ρ τ M → P 1 τ) : ∀ (i : Nat) (τ : Sg), i ≤ N → K1 υ τ i → WS layM V 4 X τ 154 [(2, .int (nI i)), (0, rf V 0)] [] := by
  have hNI : (nI N).toInt = (N : Int) := nI_c (by omega)
  intro i
  induction hm : N - i using Nat.strongRecOn generalizing i with
  | _ m9 ih =>
    intro τ hi hK
    have hiI : (nI i).toInt = (i : Int) := nI_c (by omega)
    refine WS.iload_n hx dX11_law_154 rfl 0 rfl ?_
    refine WS.aload_n hx dX11_law_155 rfl 1 rfl ?_
    refine WS.getI hx okX11 lf11_203 rfl rfl dX11_law_156 ?_
    refine WS.as rfl rfl (congrArg (fun z => Value.int z :: _) (show τ.1 0 17 = nI N from by rw [hK.1 0 (by decide) (by decide)]; exact h17)) ?_
    skip
    refine WS.icmp_ge (tgt := 192) hx dX11_law_159 (by decide) (fun c159 => ?_) (fun c159 => ?_)
    · skip
      show WS layM V 4 X τ 192 [(2, .int (nI i)), (0, rf V 0)] []
      refine WS.iconst (v := 0) hx dX11_law_192 (by decide) ?_
      refine WS.istore_n (lo' := [(2, .int 0), (0, rf V 0)]) hx dX11_law_193 rfl (by decide) rfl ?_
      exact WS.los [0, 1] rfl (l3_X11_law V d τ M hM (by rw [hK.1 0 (by decide) (by decide)]; exact h10) P X hx he (fun ω h => hP τ ω ((show i = N by (try simp only [l_int, tL_0, tL_1, tL_2, tL_4, tL_5, tL_6, tL_7, tL_9, tL_10, tL_12, tL_15, tL_30, tL_40, tL_60, tL_99, tL_255, tL_1023, tL_m1, lc_lt, lc_gt, lc_ge, lc_le, lc_eq, l6_le, l6_lt, l6_eq, tI_m133, tI_m226, i_le, i_lt, i_eq, tI_m100, tI_m1, tI_0, tI_1, tI_59, tI_63] at c159); (try simp only [l_int, tL_0, tL_1, tL_2, tL_4, tL_5, tL_6, tL_7, tL_9, tL_10, tL_12, tL_15, tL_30, tL_40, tL_60, tL_99, tL_255, tL_1023, tL_m1, lc_lt, lc_gt, lc_ge, lc_le, lc_eq, l6_le, l6_lt, l6_eq, tI_m133, tI_m226, i_le, i_lt, i_eq, tI_m100, tI_m1, tI_0, tI_1, tI_59, tI_63]); omega) ▸ hK) h) 0 τ (Nat.zero_le _) K2.z)
    · skip
      show WS layM V 4 X τ 162 [(2, .int (nI i)), (0, rf V 0)] []
      refine WS.aload_n hx dX11_law_162 rfl 1 rfl ?_
      refine WS.getR hx okX11 lf11_37 rfl rfl dX11_law_163 ?_
      refine WS.iload_n hx dX11_law_166 rfl 0 rfl ?_
      refine WS.aload_n hx dX11_law_167 rfl 1 rfl ?_
      refine WS.getR hx okX11 lf11_31 rfl rfl dX11_law_168 ?_
      refine WS.iload_n hx dX11_law_171 rfl 0 rfl ?_
      refine WS.iald hx rfl (vp_in_nI (by (try simp only [l_int, tL_0, tL_1, tL_2, tL_4, tL_5, tL_6, tL_7, tL_9, tL_10, tL_12, tL_15, tL_30, tL_40, tL_60, tL_99, tL_255, tL_1023, tL_m1, lc_lt, lc_gt, lc_ge, lc_le, lc_eq, l6_le, l6_lt, l6_eq, tI_m133, tI_m226, i_le, i_lt, i_eq, tI_m100, tI_m1, tI_0, tI_1, tI_59, tI_63] at c159); (try simp only [l_int, tL_0, tL_1, tL_2, tL_4, tL_5, tL_6, tL_7, tL_9, tL_10, tL_12, tL_15, tL_30, tL_40, tL_60, tL_99, tL_255, tL_1023, tL_m1, lc_lt, lc_gt, lc_ge, lc_le, lc_eq, l6_le, l6_lt, l6_eq, tI_m133, tI_m226, i_le, i_lt, i_eq, tI_m100, tI_m1, tI_0, tI_1, tI_59, tI_63]); omega) (by decide)) dX11_law_172 ?_
      refine WS.as rfl rfl (congrArg (fun z => Value.int z :: _) (show τ.1 8 (nn (nI i)) = υ.1 8 i from by rw [nn_nI (show i < 2 ^ 31 by omega)]; exact congrFun (hK.1 8 (by decide) (by decide)) i)) ?_
      skip
      refine WS.iast hx rfl (vp_in_nI (by (try simp only [l_int, tL_0, tL_1, tL_2, tL_4, tL_5, tL_6, tL_7, tL_9, tL_10, tL_12, tL_15, tL_30, tL_40, tL_60, tL_99, tL_255, tL_1023, tL_m1, lc_lt, lc_gt, lc_ge, lc_le, lc_eq, l6_le, l6_lt, l6_eq, tI_m133, tI_m226, i_le, i_lt, i_eq, tI_m100, tI_m1, tI_0, tI_1, tI_59, tI_63] at c159); (try simp only [l_int, tL_0, tL_1, tL_2, tL_4, tL_5, tL_6, tL_7, tL_9, tL_10, tL_12, tL_15, tL_30, tL_40, tL_60, tL_99, tL_255, tL_1023, tL_m1, lc_lt, lc_gt, lc_ge, lc_le, lc_eq, l6_le, l6_lt, l6_eq, tI_m133, tI_m226, i_le, i_lt, i_eq, tI_m100, tI_m1, tI_0, tI_1, tI_59, tI_63]); omega) (by decide)) dX11_law_173 ?_
      refine WS.aload_n hx dX11_law_174 rfl 1 rfl ?_
      refine WS.getR hx okX11 lf11_40 rfl rfl dX11_law_175 ?_
      refine WS.iload_n hx dX11_law_178 rfl 0 rfl ?_
      refine WS.aload_n hx dX11_law_179 rfl 1 rfl ?_
      refine WS.getR hx okX11 lf11_34 rfl rfl dX11_law_180 ?_
      refine WS.iload_n hx dX11_law_183 rfl 0 rfl ?_
      refine WS.iald hx rfl (vp_in_nI (by (try simp only [l_int, tL_0, tL_1, tL_2, tL_4, tL_5, tL_6, tL_7, tL_9, tL_10, tL_12, tL_15, tL_30, tL_40, tL_60, tL_99, tL_255, tL_1023, tL_m1, lc_lt, lc_gt, lc_ge, lc_le, lc_eq, l6_le, l6_lt, l6_eq, tI_m133, tI_m226, i_le, i_lt, i_eq, tI_m100, tI_m1, tI_0, tI_1, tI_59, tI_63] at c159); (try simp only [l_int, tL_0, tL_1, tL_2, tL_4, tL_5, tL_6, tL_7, tL_9, tL_10, tL_12, tL_15, tL_30, tL_40, tL_60, tL_99, tL_255, tL_1023, tL_m1, lc_lt, lc_gt, lc_ge, lc_le, lc_eq, l6_le, l6_lt, l6_eq, tI_m133, tI_m226, i_le, i_lt, i_eq, tI_m100, tI_m1, tI_0, tI_1, tI_59, tI_63]); omega) (by decide)) dX11_law_184 ?_
      refine WS.as rfl rfl (congrArg (fun z => Value.int z :: _) (show (stI τ 10 (nn (nI i)) (υ.1 8 i)).1 9 (nn (nI i)) = υ.1 9 i from by rw [nn_nI (show i < 2 ^ 31 by omega), stI_o _ _ _ _ (by decide)]; exact congrFun (hK.1 9 (by decide) (by decide)) i)) ?_
      skip
      refine WS.iast hx rfl (vp_in_nI (by (try simp only [l_int, tL_0, tL_1, tL_2, tL_4, tL_5, tL_6, tL_7, tL_9, tL_10, tL_12, tL_15, tL_30, tL_40, tL_60, tL_99, tL_255, tL_1023, tL_m1, lc_lt, lc_gt, lc_ge, lc_le, lc_eq, l6_le, l6_lt, l6_eq, tI_m133, tI_m226, i_le, i_lt, i_eq, tI_m100, tI_m1, tI_0, tI_1, tI_59, tI_63] at c159); (try simp only [l_int, tL_0, tL_1, tL_2, tL_4, tL_5, tL_6, tL_7, tL_9, tL_10, tL_12, tL_15, tL_30, tL_40, tL_60, tL_99, tL_255, tL_1023, tL_m1, lc_lt, lc_gt, lc_ge, lc_le, lc_eq, l6_le, l6_lt, l6_eq, tI_m133, tI_m226, i_le, i_lt, i_eq, tI_m100, tI_m1, tI_0, tI_1, tI_59, tI_63]); omega) (by decide)) dX11_law_185 ?_
      refine WS.iinc (v := nI (i + 1)) (lo' := [(2, .int (nI (i + 1))), (0, rf V 0)]) hx dX11_law_186 0 rfl (nI_1 i) (by decide) rfl ?_
      refine WS.goto (tgt := 154) hx dX11_law_189 (by decide) ?_
      (try simp only [nn_nI (show i < 2 ^ 31 by omega), nI_clamp (show i < 2 ^ 31 by omega)])
      exact WS.los [0, 1] rfl (ih _ (by (try simp only [l_int, tL_0, tL_1, tL_2, tL_4, tL_5, tL_6, tL_7, tL_9, tL_10, tL_12, tL_15, tL_30, tL_40, tL_60, tL_99, tL_255, tL_1023, tL_m1, lc_lt, lc_gt, lc_ge, lc_le, lc_eq, l6_le, l6_lt, l6_eq, tI_m133, tI_m226, i_le, i_lt, i_eq, tI_m100, tI_m1, tI_0, tI_1, tI_59, tI_63] at c159); (try simp only [l_int, tL_0, tL_1, tL_2, tL_4, tL_5, tL_6, tL_7, tL_9, tL_10, tL_12, tL_15, tL_30, tL_40, tL_60, tL_99, tL_255, tL_1023, tL_m1, lc_lt, lc_gt, lc_ge, lc_le, lc_eq, l6_le, l6_lt, l6_eq, tI_m133, tI_m226, i_le, i_lt, i_eq, tI_m100, tI_m1, tI_0, tI_1, tI_59, tI_63]); omega) (i + 1) rfl _ (by (try simp only [l_int, tL_0, tL_1, tL_2, tL_4, tL_5, tL_6, tL_7, tL_9, tL_10, tL_12, tL_15, tL_30, tL_40, tL_60, tL_99, tL_255, tL_1023, tL_m1, lc_lt, lc_gt, lc_ge, lc_le, lc_eq, l6_le, l6_lt, l6_eq, tI_m133, tI_m226, i_le, i_lt, i_eq, tI_m100, tI_m1, tI_0, tI_1, tI_59, tI_63] at c159); (try simp only [l_int, tL_0, tL_1, tL_2, tL_4, tL_5, tL_6, tL_7, tL_9, tL_10, tL_12, tL_15, tL_30, tL_40, tL_60, tL_99, tL_255, tL_1023, tL_m1, lc_lt, lc_gt, lc_ge, lc_le, lc_eq, l6_le, l6_lt, l6_eq, tI_m133, tI_m226, i_le, i_lt, i_eq, tI_m100, tI_m1, tI_0, tI_1, tI_59, tI_63]); omega) hK.s)
theorem law_ml {σ τ υ ρ ω : Sg} {M : Nat} {R : Bool × Ps} {lw : Lw} (hF : LF σ τ) (hW : LWR R.2 lw) (hN : lw.length ≤ 100) (hM : M ≤ 120) (hC : CMs (fun j => psi (τ.1 6 j)) (τ.1 8) (τ.1 9) 0 0 lw M) (hP : ∀ j, j < M → τ.1 6 j = phi (psi (τ.1 6 j))) (hυ : υ = stI (stI τ 0 8 0) 0 17 (nI lw.length)) (h1 : K1 υ ρ lw.length) (h2 : K2 ρ ω M) : ML ω (fun j => psi (ω.1 7 j)) M lw ∧ LF2 σ ω := by
  have c7 : ∀ j, j < M → ω.1 7 j = τ.1 6 j := fun j hj => by rw [h2.2.2 j hj, h1.1 6 (by decide) (by decide), hυ, stI_o _ _ _ _ (by decide), stI_o _ _ _ _ (by decide)]
  have c10 : ∀ j, j < lw.length → ω.1 10 j = τ.1 8 j := fun j hj => by rw [h2.1 10 (by decide), (h1.2.2 j hj).1, hυ, stI_o _ _ _ _ (by decide), stI_o _ _ _ _ (by decide)]
  have c11 : ∀ j, j < lw.length → ω.1 11 j = τ.1 9 j := fun j hj => by rw [h2.1 11 (by decide), (h1.2.2 j hj).2, hυ, stI_o _ _ _ _ (by decide), stI_o _ _ _ _ (by decide)]
  have c0 : ω.1 0 = υ.1 0 := by rw [h2.1 0 (by decide), h1.1 0 (by decide) (by decide)]
  refine ⟨⟨by omega, hM, ?_, fun j hj => ?_, ?_⟩, fun q a b c d e f g => ?_, ?_, fun j a b c d e f g => ?_, ?_⟩
  · rw [c0, hυ, stI_1]
  · show ω.1 7 j = phi (psi (ω.1 7 j))
    rw [c7 j hj]; exact hP j hj
  · refine CMs.ml (e := M) (hC.sh (fun q hq => ?_) (fun q hq => ?_)) (Nat.le_refl _)
    · show psi (ω.1 7 q) = psi (τ.1 6 q)
      rw [c7 q hq]
    · rw [Nat.zero_add] at hq
      exact ⟨c10 q hq, c11 q hq⟩
  · rw [h2.1 q c, h1.1 q f g, hυ, stI_o _ _ _ _ a, stI_o _ _ _ _ a]; exact hF.1 q a b d e
  · rw [h2.2.1, h1.2.1, hυ]; exact hF.2.1
  · rw [c0, hυ, stI_k _ _ _ _ d, stI_k _ _ _ _ a]; exact hF.2.2 j b c e f g
  · rw [c0, hυ, stI_k _ _ _ _ (by decide), stI_1]
theorem not_lt_ge {x : Int32} (h : ¬ x < 0) : 0 ≤ x := by
  rw [i_lt, tI_0] at h
  rw [i_le, tI_0]
  omega
theorem lt_not_ge {x : Int32} (h : x < 0) : ¬ 0 ≤ x := by
  rw [i_lt, tI_0] at h
  rw [i_le, tI_0]
  omega
set_option maxHeartbeats 1000000 in
theorem lf_X11_law (V : Vt) (d : Nat) (σ : Sg) (t : Nat → Int32) (L : Nat) (hL : L ≤ 120) (R : Bool × Ps) (μ0 τ : Sg) (M0 b : Nat) (r : Bool × Ps) (hS : MS μ0 τ L 0 M0 b r) (hr1 : r.1 = R.1) (hr2 : r.2.1 = R.2.1) (hT : ∀ j, j < L → μ0.1 5 j = t j) (h8 : μ0.1 0 8 = nI L) (hF : LF σ μ0) (hG : R.1 = true → (∃ (lw : Lw) (M : Nat), LWR R.2 lw ∧ lw.length ≤ 100 ∧ τ.1 0 14 = nI lw.length ∧ τ.1 0 10 = nI M ∧ M ≤ 120 ∧ CMs (fun j => psi (τ.1 6 j)) (τ.1 8) (τ.1 9) 0 0 lw M ∧ ∀ j, j < M → τ.1 6 j = phi (psi (τ.1 6 j)))) (X : Xt) (hx : Ok V RX11 cX11_law 4 (d + 43) X) (he : En layM V (some .int) (Ri (LPw σ L R)) X) : WS layM V 4 X τ 27 [(1, .int 0), (0, rf V 0)] [] := by
  have hp9 : R.2.1 ≤ L := by rw [← hr2]; exact hS.2.2.2.2.1
  have hpI : (nI R.2.1).toInt = (R.2.1 : Int) := nI_c (by omega)
  have hLI : (nI L).toInt = (L : Int) := nI_c (by omega)
  refine WS.iload_n hx dX11_law_27 rfl 0 rfl ?_
  refine WS.if_eq (tgt := 109) hx dX11_law_28 (by decide) (fun _ => ?_) (fun h => absurd (by decide) h)
  refine WS.aload_n hx dX11_law_109 rfl 1 rfl ?_
  refine WS.getI hx okX11 lf11_152 rfl rfl dX11_law_110 ?_
  refine WS.as rfl rfl (congrArg (fun z => Value.int z :: _) (show τ.1 0 18 = nI R.2.1 from by rw [hS.2.2.2.1, hr2])) ?_
  skip
  refine WS.aload_n hx dX11_law_113 rfl 1 rfl ?_
  refine WS.getI hx okX11 lf11_149 rfl rfl dX11_law_114 ?_
  refine WS.as rfl rfl (congrArg (fun z => Value.int z :: _) (show τ.1 0 8 = nI L from (hS.2.2.1 8 (by decide) (by decide) (by decide) (by decide)).trans h8)) ?_
  skip
  refine WS.icmp_ge (tgt := 124) hx dX11_law_117 (by decide) (fun c117 => ?_) (fun c117 => ?_)
  · skip
    show WS layM V 4 X τ 124 [(1, .int 0), (0, rf V 0)] []
    refine WS.aload_n hx dX11_law_124 rfl 1 rfl ?_
    refine WS.iconst (v := 0) hx dX11_law_125 (by decide) ?_
    refine WS.putI hx okX11 lf11_149 rfl rfl rfl rfl dX11_law_126 ?_
    refine WS.aload_n hx dX11_law_129 rfl 1 rfl ?_
    refine WS.getI hx okX11 lf11_155 rfl rfl dX11_law_130 ?_
    refine WS.if_lt (tgt := 144) hx dX11_law_133 (by decide) (fun c133 => ?_) (fun c133 => ?_)
    · skip
      show WS layM V 4 X (stI τ 0 8 0) 144 [(1, .int 0), (0, rf V 0)] []
      have hok : r.1 = true := hS.lt hL (by rw [stI_k _ _ _ _ (by decide)] at c133; exact lt_not_ge c133)
      have hg : R.1 = true ∧ ¬ R.2.1 < L := ⟨by rw [← hr1]; exact hok, by (try simp only [l_int, tL_0, tL_1, tL_2, tL_4, tL_5, tL_6, tL_7, tL_9, tL_10, tL_12, tL_15, tL_30, tL_40, tL_60, tL_99, tL_255, tL_1023, tL_m1, lc_lt, lc_gt, lc_ge, lc_le, lc_eq, l6_le, l6_lt, l6_eq, tI_m133, tI_m226, i_le, i_lt, i_eq, tI_m100, tI_m1, tI_0, tI_1, tI_59, tI_63] at c117); (try simp only [l_int, tL_0, tL_1, tL_2, tL_4, tL_5, tL_6, tL_7, tL_9, tL_10, tL_12, tL_15, tL_30, tL_40, tL_60, tL_99, tL_255, tL_1023, tL_m1, lc_lt, lc_gt, lc_ge, lc_le, lc_eq, l6_le, l6_lt, l6_eq, tI_m133, tI_m226, i_le, i_lt, i_eq, tI_m100, tI_m1, tI_0, tI_1, tI_59, tI_63] at c133); (try simp only [l_int, tL_0, tL_1, tL_2, tL_4, tL_5, tL_6, tL_7, tL_9, tL_10, tL_12, tL_15, tL_30, tL_40, tL_60, tL_99, tL_255, tL_1023, tL_m1, lc_lt, lc_gt, lc_ge, lc_le, lc_eq, l6_le, l6_lt, l6_eq, tI_m133, tI_m226, i_le, i_lt, i_eq, tI_m100, tI_m1, tI_0, tI_1, tI_59, tI_63]); omega⟩
      obtain ⟨lw, M, hW, hN, h14, h10, hM, hC, hP⟩ := hG hg.1
      refine WS.aload_n hx dX11_law_144 rfl 1 rfl ?_
      refine WS.aload_n hx dX11_law_145 rfl 1 rfl ?_
      refine WS.getI hx okX11 lf11_200 rfl rfl dX11_law_146 ?_
      refine WS.as rfl rfl (congrArg (fun z => Value.int z :: _) (show (stI τ 0 8 0).1 0 14 = nI lw.length from by rw [stI_k _ _ _ _ (by decide)]; exact h14)) ?_
      skip
      refine WS.putI hx okX11 lf11_203 rfl rfl rfl rfl dX11_law_149 ?_
      refine WS.sg (fun υ eυ => ?_)
      refine WS.iconst (v := 0) hx dX11_law_152 (by decide) ?_
      refine WS.istore_n (lo' := [(2, .int 0), (1, .int 0), (0, rf V 0)]) hx dX11_law_153 rfl (by decide) rfl ?_
      exact WS.los [0, 2] rfl (l2_X11_law V d υ lw.length M (by omega) hM (by rw [eυ, stI_1]) (by rw [eυ, stI_k _ _ _ _ (by decide), stI_k _ _ _ _ (by decide)]; exact h10) _ X hx he (fun ρ ω h1 h2 => ⟨fun h => absurd hg h, fun _ => ⟨rfl, lw, M, hW, law_ml (R := R) (hF.ms hS) hW hN hM hC hP eυ h1 h2⟩⟩) 0 υ (Nat.zero_le _) K1.z)
    · skip
      show WS layM V 4 X (stI τ 0 8 0) 136 [(1, .int 0), (0, rf V 0)] []
      refine WS.bipush (v := (-100)) hx dX11_law_136 (by decide) ?_
      refine WS.aload_n hx dX11_law_138 rfl 1 rfl ?_
      refine WS.getI hx okX11 lf11_155 rfl rfl dX11_law_139 ?_
      refine WS.as rfl rfl (congrArg (fun z => Value.int z :: _) (show (stI τ 0 8 0).1 0 19 = nI R.2.1 from by rw [stI_k _ _ _ _ (by decide)]; first | (rw [ms121.2.2.2.2.2.2.1 rfl]; exact congrArg nI hr2) | (rw [hS.2.2.2.2.2.2.1 (hS.ge (by rw [stI_k _ _ _ _ (by decide)] at c133; exact not_lt_ge c133)), hr2]))) ?_
      skip
      refine WS.isub hx dX11_law_142 ?_
      exact WS.iret hx he dX11_law_143 ⟨_, rfl, fun _ => ⟨rfl, _, hF.ms hS, rfl⟩, fun h => by rw [← hr1, hS.ge (by rw [stI_k _ _ _ _ (by decide)] at c133; exact not_lt_ge c133)] at h; exact Bool.noConfusion h.1⟩
  · skip
    show WS layM V 4 X τ 120 [(1, .int 0), (0, rf V 0)] []
    refine WS.aload_n hx dX11_law_120 rfl 1 rfl ?_
    refine WS.callVv (st := []) [] hx (c_X11_wrong V (d + 42) τ t μ0 L 0 M0 b hL hT h8 r hS) okX11_wrong lm11_190 rfl rfl rfl rfl (Nat.le_of_ble_eq_true rfl) dX11_law_121 (fun σ2 h3 => ?_)
    have ms121 := h3
    show WS layM V 4 X σ2 124 [(1, .int 0), (0, rf V 0)] []
    refine WS.aload_n hx dX11_law_124 rfl 1 rfl ?_
    refine WS.iconst (v := 0) hx dX11_law_125 (by decide) ?_
    refine WS.putI hx okX11 lf11_149 rfl rfl rfl rfl dX11_law_126 ?_
    refine WS.aload_n hx dX11_law_129 rfl 1 rfl ?_
    refine WS.getI hx okX11 lf11_155 rfl rfl dX11_law_130 ?_
    refine WS.if_lt (tgt := 144) hx dX11_law_133 (by decide) (fun c133 => by exfalso; rw [stI_k _ _ _ _ (by decide), ms121.2.2.2.2.2.2.1 rfl] at c133; have h9 : r.2.1 ≤ L := hS.2.2.2.2.1; have h8 : (nI r.2.1).toInt = (r.2.1 : Int) := nI_c (by omega); (try simp only [l_int, tL_0, tL_1, tL_2, tL_4, tL_5, tL_6, tL_7, tL_9, tL_10, tL_12, tL_15, tL_30, tL_40, tL_60, tL_99, tL_255, tL_1023, tL_m1, lc_lt, lc_gt, lc_ge, lc_le, lc_eq, l6_le, l6_lt, l6_eq, tI_m133, tI_m226, i_le, i_lt, i_eq, tI_m100, tI_m1, tI_0, tI_1, tI_59, tI_63] at c117); (try simp only [l_int, tL_0, tL_1, tL_2, tL_4, tL_5, tL_6, tL_7, tL_9, tL_10, tL_12, tL_15, tL_30, tL_40, tL_60, tL_99, tL_255, tL_1023, tL_m1, lc_lt, lc_gt, lc_ge, lc_le, lc_eq, l6_le, l6_lt, l6_eq, tI_m133, tI_m226, i_le, i_lt, i_eq, tI_m100, tI_m1, tI_0, tI_1, tI_59, tI_63] at c133); (try simp only [l_int, tL_0, tL_1, tL_2, tL_4, tL_5, tL_6, tL_7, tL_9, tL_10, tL_12, tL_15, tL_30, tL_40, tL_60, tL_99, tL_255, tL_1023, tL_m1, lc_lt, lc_gt, lc_ge, lc_le, lc_eq, l6_le, l6_lt, l6_eq, tI_m133, tI_m226, i_le, i_lt, i_eq, tI_m100, tI_m1, tI_0, tI_1, tI_59, tI_63]); omega) (fun c133 => ?_)
    refine WS.bipush (v := (-100)) hx dX11_law_136 (by decide) ?_
    refine WS.aload_n hx dX11_law_138 rfl 1 rfl ?_
    refine WS.getI hx okX11 lf11_155 rfl rfl dX11_law_139 ?_
    refine WS.as rfl rfl (congrArg (fun z => Value.int z :: _) (show (stI σ2 0 8 0).1 0 19 = nI R.2.1 from by rw [stI_k _ _ _ _ (by decide)]; first | (rw [ms121.2.2.2.2.2.2.1 rfl]; exact congrArg nI hr2) | (rw [hS.2.2.2.2.2.2.1 (hS.ge (by rw [stI_k _ _ _ _ (by decide)] at c133; exact not_lt_ge c133)), hr2]))) ?_
    skip
    refine WS.isub hx dX11_law_142 ?_
    exact WS.iret hx he dX11_law_143 ⟨_, rfl, fun _ => ⟨rfl, _, hF.ms ms121, rfl⟩, fun h => absurd (show R.2.1 < L by (try simp only [l_int, tL_0, tL_1, tL_2, tL_4, tL_5, tL_6, tL_7, tL_9, tL_10, tL_12, tL_15, tL_30, tL_40, tL_60, tL_99, tL_255, tL_1023, tL_m1, lc_lt, lc_gt, lc_ge, lc_le, lc_eq, l6_le, l6_lt, l6_eq, tI_m133, tI_m226, i_le, i_lt, i_eq, tI_m100, tI_m1, tI_0, tI_1, tI_59, tI_63] at c117); (try simp only [l_int, tL_0, tL_1, tL_2, tL_4, tL_5, tL_6, tL_7, tL_9, tL_10, tL_12, tL_15, tL_30, tL_40, tL_60, tL_99, tL_255, tL_1023, tL_m1, lc_lt, lc_gt, lc_ge, lc_le, lc_eq, l6_le, l6_lt, l6_eq, tI_m133, tI_m226, i_le, i_lt, i_eq, tI_m100, tI_m1, tI_0, tI_1, tI_59, tI_63] at c133); (try simp only [l_int, tL_0, tL_1, tL_2, tL_4, tL_5, tL_6, tL_7, tL_9, tL_10, tL_12, tL_15, tL_30, tL_40, tL_60, tL_99, tL_255, tL_1023, tL_m1, lc_lt, lc_gt, lc_ge, lc_le, lc_eq, l6_le, l6_lt, l6_eq, tI_m133, tI_m226, i_le, i_lt, i_eq, tI_m100, tI_m1, tI_0, tI_1, tI_59, tI_63]); omega) h.2⟩
set_option maxHeartbeats 1000000 in
theorem c2_X11_takes (V : Vt) (d : Nat) (σ : Sg) (t : Nat → Int32) (μ0 : Sg) (L op M0 b : Nat) (hL : L ≤ 120) (hT : ∀ j, j < L → μ0.1 5 j = t j) (h8 : μ0.1 0 8 = nI L) (r : Bool × Ps) (hS : MS μ0 σ L op M0 b r) (c : Int32) (h0 : ¬ c = 0) (h1 : ¬ c = -1) : CT layM V mX11_takes (d + 1) [rf V 0, .int c] σ (Ri fun v σ' => (r.1 = true ∧ cm t L r.2 = c ∧ 1 = v ∧ stI σ 0 18 (nI (r.2.1 + 1)) = σ') ∨ (¬ (r.1 = true ∧ cm t L r.2 = c) ∧ 0 = v ∧ σ = σ')) := by
  refine CT.of (own := RX11) rfl (by decide) (Nat.le_of_ble_eq_true rfl) (fun X (hx : Ok V RX11 cX11_takes 2 (d + 1) X) (he : En layM V (some .boolean) (Ri fun v σ' => (r.1 = true ∧ cm t L r.2 = c ∧ 1 = v ∧ stI σ 0 18 (nI (r.2.1 + 1)) = σ') ∨ (¬ (r.1 = true ∧ cm t L r.2 = c) ∧ 0 = v ∧ σ = σ')) X) => ?_)
  change WS layM V 2 X σ 0 [(0, rf V 0), (1, .int c)] []
  refine WS.aload_n hx dX11_takes_0 rfl 0 rfl ?_
  refine WS.getI hx okX11 lf11_155 rfl rfl dX11_takes_1 ?_
  refine WS.if_ge (tgt := 15) hx dX11_takes_4 (by decide) (fun c4 => ?_) (fun c4 => ?_)
  · skip
    show WS layM V 2 X σ 15 [(0, rf V 0), (1, .int c)] []
    have hno : ¬ (r.1 = true ∧ cm t L r.2 = c) := fun h => by rw [hS.ge c4] at h; exact Bool.noConfusion h.1
    refine WS.iconst (v := 0) hx dX11_takes_15 (by decide) ?_
    exact WS.zret hx he dX11_takes_16 (Or.inl rfl) ⟨_, rfl, Or.inr ⟨hno, rfl, rfl⟩⟩
  · skip
    show WS layM V 2 X σ 7 [(0, rf V 0), (1, .int c)] []
    refine WS.aload_n hx dX11_takes_7 rfl 0 rfl ?_
    refine WS.callVi (st := []) [] hx (c_X11_byteAt V d σ t μ0 L op M0 b hL hT h8 r hS) okX11_byteAt lm11_158 rfl rfl rfl rfl (Nat.le_of_ble_eq_true rfl) dX11_takes_8 (fun v1 σ2 h3 => ?_)
    obtain ⟨rfl, rfl⟩ := h3
    show WS layM V 2 X σ 11 [(0, rf V 0), (1, .int c)] [.int (bM t L r.2.1)]
    refine WS.iload_n hx dX11_takes_11 rfl 1 rfl ?_
    refine WS.icmp_eq (tgt := 17) hx dX11_takes_12 (by decide) (fun c12 => ?_) (fun c12 => ?_)
    · skip
      show WS layM V 2 X σ 17 [(0, rf V 0), (1, .int c)] []
      have hok := hS.lt hL c4
      have hcm := (bM_cm (s := r.2) h0 h1).mp c12
      refine WS.aload_n hx dX11_takes_17 rfl 0 rfl ?_
      refine WS.dup hx dX11_takes_18 rfl ?_
      refine WS.getI hx okX11 lf11_152 rfl rfl dX11_takes_19 ?_
      refine WS.as rfl rfl (congrArg (fun z => Value.int z :: _) (show σ.1 0 18 = nI r.2.1 from hS.2.2.2.1)) ?_
      skip
      refine WS.iconst (v := 1) hx dX11_takes_22 (by decide) ?_
      refine WS.iadd hx dX11_takes_23 ?_
      refine WS.as rfl rfl (congrArg (fun z => Value.int z :: _) (show (nI r.2.1) + 1 = nI (r.2.1 + 1) from nI_1 _)) ?_
      skip
      refine WS.putI hx okX11 lf11_152 rfl rfl rfl rfl dX11_takes_24 ?_
      refine WS.iconst (v := 1) hx dX11_takes_27 (by decide) ?_
      exact WS.zret hx he dX11_takes_28 (Or.inr rfl) ⟨_, rfl, Or.inl ⟨hok, hcm, rfl, rfl⟩⟩
    · skip
      show WS layM V 2 X σ 15 [(0, rf V 0), (1, .int c)] []
      have hno : ¬ (r.1 = true ∧ cm t L r.2 = c) := fun h => c12 ((bM_cm (s := r.2) h0 h1).mpr h.2)
      refine WS.iconst (v := 0) hx dX11_takes_15 (by decide) ?_
      exact WS.zret hx he dX11_takes_16 (Or.inl rfl) ⟨_, rfl, Or.inr ⟨hno, rfl, rfl⟩⟩
set_option maxHeartbeats 1000000 in
theorem lp_X11_law (V : Vt) (d : Nat) (σ : Sg) (t : Nat → Int32) (L : Nat) (hL : L ≤ 120) (hT : ∀ j, j < L → σ.1 5 j = t j) (h8 : σ.1 0 8 = nI L) (R : Bool × Ps) (X : Xt) (hx : Ok V RX11 cX11_law 4 (d + 43) X) (he : En layM V (some .int) (Ri (LPw σ L R)) X) : ∀ (u i M : Nat) (lw : Lw) (s : Ps) (τ : Sg), 120 ≤ s.1 + u → LSt σ τ L i M lw s → lnL t L u (liF t L s) = R → WS layM V 4 X τ 27 [(1, .int 1), (0, rf V 0)] [] := by
  intro u
  induction u using Nat.strongRecOn with
  | _ u ih =>
    intro i M lw s τ hu hl hR
    have hF := hl.1
    have hS := hl.2.1
    have h14 := hl.2.2.1
    have h2i := hl.2.2.2.2.1
    have hp : s.1 ≤ L := hS.2.2.2.2.1
    have hl9 : s.2.1 ≤ s.1 := (hS.2.2.2.2.2.2.2 rfl).2.2.1
    have h10 : τ.1 0 10 = nI M := by
      have h9 : τ.1 0 10 = nI (M + (s.2.1 - s.2.1)) := (hS.2.2.2.2.2.2.2 rfl).2.2.2.2.1
      rw [Nat.sub_self, Nat.add_zero] at h9
      exact h9
    have hT1 : ∀ j, j < L → τ.1 5 j = t j := fun j hj => by rw [hF.1 5 (by decide) (by decide) (by decide) (by decide)]; exact hT j hj
    have h81 : τ.1 0 8 = nI L := (hF.2.2 8 (by decide) (by decide) (by decide) (by decide) (by decide)).trans h8
    have hj1 := E0_g (t := t) hL s hp hl9
    refine WS.iload_n hx dX11_law_27 rfl 0 rfl ?_
    refine WS.if_eq (tgt := 109) hx dX11_law_28 (by decide) (fun h => absurd h (by decide)) (fun _ => ?_)
    refine WS.aload_n hx dX11_law_31 rfl 1 rfl ?_
    refine WS.getI hx okX11 lf11_162 rfl rfl dX11_law_32 ?_
    refine WS.as rfl rfl (congrArg (fun z => Value.int z :: _) (show τ.1 0 10 = nI M from h10)) ?_
    skip
    refine WS.istore_n (lo' := [(2, .int (nI M)), (1, .int 1), (0, rf V 0)]) hx dX11_law_35 rfl (by decide) rfl ?_
    refine WS.aload_n hx dX11_law_36 rfl 2 rfl ?_
    refine WS.callVv (st := []) [] hx (c_X11_readsEitherK V d t τ L M s.2.1 hL hT1 h81 s τ hS) okX11_readsEither lm11_193 rfl rfl rfl rfl (Nat.le_of_ble_eq_true rfl) dX11_law_37 (fun σ2 h3 => ?_)
    have ms37 := h3
    have d14 : σ2.1 0 14 = nI i := (ms37.2.2.1 14 (by decide) (by decide) (by decide) (by decide)).trans h14
    show WS layM V 4 X σ2 40 [(2, .int (nI M)), (1, .int 1), (0, rf V 0)] []
    refine WS.aload_n hx dX11_law_40 rfl 2 rfl ?_
    refine WS.bipush (v := 63) hx dX11_law_41 (by decide) ?_
    refine WS.callVi (st := []) [.int 63] hx (c2_X11_takes V (d + 41) σ2 t τ L 0 M s.2.1 hL hT1 h81 (E0 t L s) ms37 63 (by decide) (by decide)) okX11_takes lm11_168 rfl rfl rfl rfl (Nat.le_of_ble_eq_true rfl) dX11_law_43 (fun v4 σ5 h6 => ?_)
    rcases h6 with ⟨ok43, cm43, rfl, rfl⟩ | ⟨no43, rfl, rfl⟩
    · skip
      show WS layM V 4 X (stI σ2 0 18 (nI ((E0 t L s).2.1 + 1))) 46 [(2, .int (nI M)), (1, .int 1), (0, rf V 0)] [.int 1]
      have hlt1 : (E0 t L s).2.1 < L := cm_lt (t := t) (by rw [cm43]; decide)
      refine WS.istore_n (lo' := [(3, .int 1), (2, .int (nI M)), (1, .int 1), (0, rf V 0)]) hx dX11_law_46 rfl (by decide) rfl ?_
      refine WS.aload_n hx dX11_law_47 rfl 3 rfl ?_
      refine WS.getR hx okX11 lf11_31 rfl rfl dX11_law_48 ?_
      refine WS.aload_n hx dX11_law_51 rfl 3 rfl ?_
      refine WS.getI hx okX11 lf11_200 rfl rfl dX11_law_52 ?_
      refine WS.as rfl rfl (congrArg (fun z => Value.int z :: _) (show (stI σ2 0 18 (nI ((E0 t L s).2.1 + 1))).1 0 14 = nI i from by first | exact d14 | (rw [stI_k _ _ _ _ (by decide)]; exact d14))) ?_
      skip
      refine WS.iload_n hx dX11_law_55 rfl 0 rfl ?_
      refine WS.if_eq (tgt := 66) hx dX11_law_56 (by decide) (fun h => absurd h (by decide)) (fun _ => ?_)
      refine WS.aload_n hx dX11_law_59 rfl 3 rfl ?_
      refine WS.getI hx okX11 lf11_162 rfl rfl dX11_law_60 ?_
      refine WS.as rfl rfl (congrArg (fun z => Value.int z :: _) (show (stI σ2 0 18 (nI ((E0 t L s).2.1 + 1))).1 0 10 = nI (M + ((E0 t L s).2.2.1 - s.2.1)) from by rw [stI_k _ _ _ _ (by decide)]; exact (ms37.2.2.2.2.2.2.2 ok43).2.2.2.2.1)) ?_
      skip
      refine WS.goto (tgt := 67) hx dX11_law_63 (by decide) ?_
      refine WS.iast hx rfl (vp_in_nI (by omega) (by decide)) dX11_law_67 ?_
      refine WS.sg (fun τ3 eτ3 => ?_)
      simp only [nn_nI (show i < 2 ^ 31 by omega), nI_clamp (show i < 2 ^ 31 by omega)] at eτ3
      have e14 : τ3.1 0 14 = nI i := by rw [eτ3, stI_o _ _ _ _ (by decide)]; first | exact d14 | (rw [stI_k _ _ _ _ (by decide)]; exact d14)
      have hS3 := ms_A hL ms37 ok43 hlt1 eτ3
      have hF3 : LF σ τ3 := by rw [eτ3]; exact ((hF.ms ms37).f 18 _ (by decide)).c 8 _ _ (Or.inl rfl)
      have hT3 : ∀ j, j < L → τ3.1 5 j = t j := fun j hj => by rw [hF3.1 5 (by decide) (by decide) (by decide) (by decide)]; exact hT j hj
      have h83 : τ3.1 0 8 = nI L := (hF3.2.2 8 (by decide) (by decide) (by decide) (by decide) (by decide)).trans h8
      have hj2 := E0_g (t := t) hL (wr (-63) (adv (E0 t L s).2)) hS3.2.2.2.2.1 (hS3.2.2.2.2.2.2.2 rfl).2.2.1
      refine WS.iload_n hx dX11_law_68 rfl 0 rfl ?_
      refine WS.if_eq (tgt := 76) hx dX11_law_69 (by decide) (fun h => absurd h (by decide)) (fun _ => ?_)
      refine WS.aload_n hx dX11_law_72 rfl 3 rfl ?_
      refine WS.callVv (st := []) [] hx (c_X11_readsEitherK V d t τ3 L (M + ((E0 t L s).2.2.1 - s.2.1)) (wr (-63) (adv (E0 t L s).2)).2.1 hL hT3 h83 (wr (-63) (adv (E0 t L s).2)) τ3 hS3) okX11_readsEither lm11_193 rfl rfl rfl rfl (Nat.le_of_ble_eq_true rfl) dX11_law_73 (fun σ8 h9 => ?_)
      have ms73 := h9
      have f14 : σ8.1 0 14 = nI i := (ms73.2.2.1 14 (by decide) (by decide) (by decide) (by decide)).trans e14
      show WS layM V 4 X σ8 76 [(3, .int 1), (2, .int (nI M)), (1, .int 1), (0, rf V 0)] []
      refine WS.aload_n hx dX11_law_76 rfl 3 rfl ?_
      refine WS.getR hx okX11 lf11_34 rfl rfl dX11_law_77 ?_
      refine WS.aload_n hx dX11_law_80 rfl 3 rfl ?_
      refine WS.getI hx okX11 lf11_200 rfl rfl dX11_law_81 ?_
      refine WS.as rfl rfl (congrArg (fun z => Value.int z :: _) (show σ8.1 0 14 = nI i from by first | exact f14 | exact e14)) ?_
      skip
      refine WS.aload_n hx dX11_law_84 rfl 3 rfl ?_
      refine WS.getI hx okX11 lf11_162 rfl rfl dX11_law_85 ?_
      refine WS.iast hx rfl (vp_in_nI (by omega) (by decide)) dX11_law_88 ?_
      refine WS.sg (fun τ5 eτ5 => ?_)
      simp only [nn_nI (show i < 2 ^ 31 by omega), nI_clamp (show i < 2 ^ 31 by omega)] at eτ5
      have g14 : τ5.1 0 14 = nI i := by rw [eτ5, stI_o _ _ _ _ (by decide)]; first | exact f14 | exact e14
      refine WS.aload_n hx dX11_law_89 rfl 3 rfl ?_
      refine WS.dup hx dX11_law_90 rfl ?_
      refine WS.getI hx okX11 lf11_200 rfl rfl dX11_law_91 ?_
      refine WS.as rfl rfl (congrArg (fun z => Value.int z :: _) (show τ5.1 0 14 = nI i from g14)) ?_
      skip
      refine WS.iconst (v := 1) hx dX11_law_94 (by decide) ?_
      refine WS.iadd hx dX11_law_95 ?_
      refine WS.as rfl rfl (congrArg (fun z => Value.int z :: _) (show (nI i) + 1 = nI (i + 1) from nI_1 _)) ?_
      skip
      refine WS.putI hx okX11 lf11_200 rfl rfl rfl rfl dX11_law_96 ?_
      refine WS.sg (fun τ6 eτ6 => ?_)
      have ms6 : MS (stI (stI τ3 9 i (σ8.1 0 10)) 0 14 (nI (i + 1))) τ6 L 0 (M + ((E0 t L s).2.2.1 - s.2.1)) (wr (-63) (adv (E0 t L s).2)).2.1 (E0 t L (wr (-63) (adv (E0 t L s).2))) := by rw [eτ6, eτ5]; exact (ms73.re8 9 i _ (Or.inr rfl)).re14 _
      have hF6 : LF σ (stI (stI τ3 9 i (σ8.1 0 10)) 0 14 (nI (i + 1))) := (hF3.c 9 _ _ (Or.inr rfl)).f 14 _ (by decide)
      have hlx := line_A hL hl ms37 ok43 hlt1 hj1 eτ3 ms73 hj2 eτ5 eτ6
      have h146 : τ6.1 0 14 = nI (i + 1) := by rw [eτ6, stI_1]
      rw [show liF t L s = ((E0 t L (wr (-63) (adv (E0 t L s).2))).1, wr (-59) (E0 t L (wr (-63) (adv (E0 t L s).2))).2) from if_pos ⟨ok43, cm43⟩] at hR
      have hpl : s.1 < (E0 t L (wr (-63) (adv (E0 t L s).2))).2.1 := by have h9 := hj1.1; have h8 : (wr (-63) (adv (E0 t L s).2)).1 ≤ (E0 t L (wr (-63) (adv (E0 t L s).2))).2.1 := hj2.1; rw [wr_p] at h8; have h7 : (E0 t L s).2.1 + 1 ≤ (E0 t L (wr (-63) (adv (E0 t L s).2))).2.1 := h8; omega
      refine WS.aload_n hx dX11_law_99 rfl 3 rfl ?_
      refine WS.bipush (v := 59) hx dX11_law_100 (by decide) ?_
      refine WS.callVi (st := []) [.int 59] hx (c2_X11_takes V (d + 41) τ6 t (stI (stI τ3 9 i (σ8.1 0 10)) 0 14 (nI (i + 1))) L 0 (M + ((E0 t L s).2.2.1 - s.2.1)) (wr (-63) (adv (E0 t L s).2)).2.1 hL (fun j hj => by rw [hF6.1 5 (by decide) (by decide) (by decide) (by decide)]; exact hT j hj) ((hF6.2.2 8 (by decide) (by decide) (by decide) (by decide) (by decide)).trans h8) (E0 t L (wr (-63) (adv (E0 t L s).2))) ms6 59 (by decide) (by decide)) okX11_takes lm11_168 rfl rfl rfl rfl (Nat.le_of_ble_eq_true rfl) dX11_law_102 (fun v10 σ11 h12 => ?_)
      rcases h12 with ⟨ok102, cm102, rfl, rfl⟩ | ⟨no102, rfl, rfl⟩
      · skip
        show WS layM V 4 X (stI τ6 0 18 (nI ((E0 t L (wr (-63) (adv (E0 t L s).2))).2.1 + 1))) 105 [(3, .int 1), (2, .int (nI M)), (1, .int 1), (0, rf V 0)] [.int 1]
        refine WS.istore_n (lo' := [(1, .int 1), (3, .int 1), (2, .int (nI M)), (0, rf V 0)]) hx dX11_law_105 rfl (by decide) rfl ?_
        refine WS.goto (tgt := 27) hx dX11_law_106 (by decide) ?_
        have hlt2 : (E0 t L (wr (-63) (adv (E0 t L s).2))).2.1 < L := cm_lt (t := t) (by rw [cm102]; decide)
        obtain ⟨lw2, M2, y1, y2, y3, y4, y5, y6, y7, y8, y9⟩ := hlx ok102
        obtain ⟨u2, rfl⟩ : ∃ u2, u = u2 + 1 := ⟨u - 1, by omega⟩
        rw [ln_s (r := ((E0 t L (wr (-63) (adv (E0 t L s).2))).1, wr (-59) (E0 t L (wr (-63) (adv (E0 t L s).2))).2)) ⟨ok102, cm_wr.trans cm102⟩] at hR
        exact WS.los [0, 3] rfl (ih u2 (by omega) (i + 1) M2 lw2 _ _ (by show 120 ≤ (wr (-59) (E0 t L (wr (-63) (adv (E0 t L s).2))).2).1 + 1 + u2; rw [wr_p]; omega) (next_l (hF6.ms ms6) h146 ms6 ok102 hlt2 y1 y2 y3 y4 y5 y6 y7 y8 y9) hR)
      · skip
        show WS layM V 4 X τ6 105 [(3, .int 1), (2, .int (nI M)), (1, .int 1), (0, rf V 0)] [.int 0]
        refine WS.istore_n (lo' := [(1, .int 0), (3, .int 1), (2, .int (nI M)), (0, rf V 0)]) hx dX11_law_105 rfl (by decide) rfl ?_
        refine WS.goto (tgt := 27) hx dX11_law_106 (by decide) ?_
        rw [ln_n (r := ((E0 t L (wr (-63) (adv (E0 t L s).2))).1, wr (-59) (E0 t L (wr (-63) (adv (E0 t L s).2))).2)) (fun h => no102 ⟨h.1, cm_wr.symm.trans h.2⟩)] at hR
        subst hR
        exact WS.los [0, 3] rfl (lf_X11_law V d σ t L hL ((E0 t L (wr (-63) (adv (E0 t L s).2))).1, wr (-59) (E0 t L (wr (-63) (adv (E0 t L s).2))).2) (stI (stI τ3 9 i (σ8.1 0 10)) 0 14 (nI (i + 1))) τ6 _ _ (E0 t L (wr (-63) (adv (E0 t L s).2))) ms6 rfl (show (E0 t L (wr (-63) (adv (E0 t L s).2))).2.1 = (wr (-59) (E0 t L (wr (-63) (adv (E0 t L s).2))).2).1 from wr_p.symm) (fun j hj => by rw [hF6.1 5 (by decide) (by decide) (by decide) (by decide)]; exact hT j hj) ((hF6.2.2 8 (by decide) (by decide) (by decide) (by decide) (by decide)).trans h8) hF6 (fun hg => by
          obtain ⟨lw2, M2, y1, y2, y3, y4, y5, y6, y7, y8, y9⟩ := hlx hg
          have z1 : (wr (-59) (E0 t L (wr (-63) (adv (E0 t L s).2))).2).1 ≤ L := by rw [wr_p]; exact ms6.2.2.2.2.1
          have y8a : (wr (-59) (E0 t L (wr (-63) (adv (E0 t L s).2))).2).2.1 ≤ (wr (-59) (E0 t L (wr (-63) (adv (E0 t L s).2))).2).1 + 1 := y8
          have y7a : M2 ≤ (wr (-59) (E0 t L (wr (-63) (adv (E0 t L s).2))).2).1 := y7
          exact ⟨lw2, M2, ⟨by omega, by show (wr (-59) (E0 t L (wr (-63) (adv (E0 t L s).2))).2).2.1 ≤ 121; omega, y2, y3⟩, by omega, by rw [y1]; exact h146, y6, by omega, y4, y5⟩) X hx he)
    · skip
      show WS layM V 4 X σ2 46 [(2, .int (nI M)), (1, .int 1), (0, rf V 0)] [.int 0]
      refine WS.istore_n (lo' := [(3, .int 0), (2, .int (nI M)), (1, .int 1), (0, rf V 0)]) hx dX11_law_46 rfl (by decide) rfl ?_
      refine WS.aload_n hx dX11_law_47 rfl 3 rfl ?_
      refine WS.getR hx okX11 lf11_31 rfl rfl dX11_law_48 ?_
      refine WS.aload_n hx dX11_law_51 rfl 3 rfl ?_
      refine WS.getI hx okX11 lf11_200 rfl rfl dX11_law_52 ?_
      refine WS.as rfl rfl (congrArg (fun z => Value.int z :: _) (show σ2.1 0 14 = nI i from by first | exact d14 | (rw [stI_k _ _ _ _ (by decide)]; exact d14))) ?_
      skip
      refine WS.iload_n hx dX11_law_55 rfl 0 rfl ?_
      refine WS.if_eq (tgt := 66) hx dX11_law_56 (by decide) (fun _ => ?_) (fun h => absurd (by decide) h)
      refine WS.iload_n hx dX11_law_66 rfl 1 rfl ?_
      refine WS.iast hx rfl (vp_in_nI (by omega) (by decide)) dX11_law_67 ?_
      refine WS.sg (fun τ3 eτ3 => ?_)
      simp only [nn_nI (show i < 2 ^ 31 by omega), nI_clamp (show i < 2 ^ 31 by omega)] at eτ3
      have e14 : τ3.1 0 14 = nI i := by rw [eτ3, stI_o _ _ _ _ (by decide)]; first | exact d14 | (rw [stI_k _ _ _ _ (by decide)]; exact d14)
      refine WS.iload_n hx dX11_law_68 rfl 0 rfl ?_
      refine WS.if_eq (tgt := 76) hx dX11_law_69 (by decide) (fun _ => ?_) (fun h => absurd (by decide) h)
      refine WS.aload_n hx dX11_law_76 rfl 3 rfl ?_
      refine WS.getR hx okX11 lf11_34 rfl rfl dX11_law_77 ?_
      refine WS.aload_n hx dX11_law_80 rfl 3 rfl ?_
      refine WS.getI hx okX11 lf11_200 rfl rfl dX11_law_81 ?_
      refine WS.as rfl rfl (congrArg (fun z => Value.int z :: _) (show τ3.1 0 14 = nI i from by first | exact f14 | exact e14)) ?_
      skip
      refine WS.aload_n hx dX11_law_84 rfl 3 rfl ?_
      refine WS.getI hx okX11 lf11_162 rfl rfl dX11_law_85 ?_
      refine WS.iast hx rfl (vp_in_nI (by omega) (by decide)) dX11_law_88 ?_
      refine WS.sg (fun τ5 eτ5 => ?_)
      simp only [nn_nI (show i < 2 ^ 31 by omega), nI_clamp (show i < 2 ^ 31 by omega)] at eτ5
      have g14 : τ5.1 0 14 = nI i := by rw [eτ5, stI_o _ _ _ _ (by decide)]; first | exact f14 | exact e14
      refine WS.aload_n hx dX11_law_89 rfl 3 rfl ?_
      refine WS.dup hx dX11_law_90 rfl ?_
      refine WS.getI hx okX11 lf11_200 rfl rfl dX11_law_91 ?_
      refine WS.as rfl rfl (congrArg (fun z => Value.int z :: _) (show τ5.1 0 14 = nI i from g14)) ?_
      skip
      refine WS.iconst (v := 1) hx dX11_law_94 (by decide) ?_
      refine WS.iadd hx dX11_law_95 ?_
      refine WS.as rfl rfl (congrArg (fun z => Value.int z :: _) (show (nI i) + 1 = nI (i + 1) from nI_1 _)) ?_
      skip
      refine WS.putI hx okX11 lf11_200 rfl rfl rfl rfl dX11_law_96 ?_
      refine WS.sg (fun τ6 eτ6 => ?_)
      have q3 : MS (stI τ 8 i (nI M)) τ3 L 0 M s.2.1 (E0 t L s) := by rw [eτ3]; exact ms37.re8 8 i _ (Or.inl rfl)
      have q5 : MS (stI (stI τ 8 i (nI M)) 9 i (τ3.1 0 10)) τ5 L 0 M s.2.1 (E0 t L s) := by rw [eτ5]; exact q3.re8 9 i _ (Or.inr rfl)
      have ms6 : MS (stI (stI (stI τ 8 i (nI M)) 9 i (τ3.1 0 10)) 0 14 (nI (i + 1))) τ6 L 0 M s.2.1 (E0 t L s) := by rw [eτ6]; exact q5.re14 _
      have hF6 : LF σ (stI (stI (stI τ 8 i (nI M)) 9 i (τ3.1 0 10)) 0 14 (nI (i + 1))) := ((hF.c 8 _ _ (Or.inl rfl)).c 9 _ _ (Or.inr rfl)).f 14 _ (by decide)
      have hlx := line_B hL hl ms37 hj1 eτ3 eτ5 eτ6
      have h146 : τ6.1 0 14 = nI (i + 1) := by rw [eτ6, stI_1]
      rw [show liF t L s = ((E0 t L s).1, wr (-59) (E0 t L s).2) from if_neg no43] at hR
      refine WS.aload_n hx dX11_law_99 rfl 3 rfl ?_
      refine WS.bipush (v := 59) hx dX11_law_100 (by decide) ?_
      refine WS.callVi (st := []) [.int 59] hx (c2_X11_takes V (d + 41) τ6 t (stI (stI (stI τ 8 i (nI M)) 9 i (τ3.1 0 10)) 0 14 (nI (i + 1))) L 0 M s.2.1 hL (fun j hj => by rw [hF6.1 5 (by decide) (by decide) (by decide) (by decide)]; exact hT j hj) ((hF6.2.2 8 (by decide) (by decide) (by decide) (by decide) (by decide)).trans h8) (E0 t L s) ms6 59 (by decide) (by decide)) okX11_takes lm11_168 rfl rfl rfl rfl (Nat.le_of_ble_eq_true rfl) dX11_law_102 (fun v13 σ14 h15 => ?_)
      rcases h15 with ⟨ok102, cm102, rfl, rfl⟩ | ⟨no102, rfl, rfl⟩
      · skip
        show WS layM V 4 X (stI τ6 0 18 (nI ((E0 t L s).2.1 + 1))) 105 [(3, .int 0), (2, .int (nI M)), (1, .int 1), (0, rf V 0)] [.int 1]
        refine WS.istore_n (lo' := [(1, .int 1), (3, .int 0), (2, .int (nI M)), (0, rf V 0)]) hx dX11_law_105 rfl (by decide) rfl ?_
        refine WS.goto (tgt := 27) hx dX11_law_106 (by decide) ?_
        have hpl := ((hj1.2.2 ok102).ln hl9).2
        have hlt2 : (E0 t L s).2.1 < L := cm_lt (t := t) (by rw [cm102]; decide)
        obtain ⟨lw2, M2, y1, y2, y3, y4, y5, y6, y7, y8, y9⟩ := hlx ok102
        obtain ⟨u2, rfl⟩ : ∃ u2, u = u2 + 1 := ⟨u - 1, by omega⟩
        rw [ln_s (r := ((E0 t L s).1, wr (-59) (E0 t L s).2)) ⟨ok102, cm_wr.trans cm102⟩] at hR
        exact WS.los [0, 3] rfl (ih u2 (by omega) (i + 1) M2 lw2 _ _ (by show 120 ≤ (wr (-59) (E0 t L s).2).1 + 1 + u2; rw [wr_p]; omega) (next_l (hF6.ms ms6) h146 ms6 ok102 hlt2 y1 y2 y3 y4 y5 y6 y7 y8 y9) hR)
      · skip
        show WS layM V 4 X τ6 105 [(3, .int 0), (2, .int (nI M)), (1, .int 1), (0, rf V 0)] [.int 0]
        refine WS.istore_n (lo' := [(1, .int 0), (3, .int 0), (2, .int (nI M)), (0, rf V 0)]) hx dX11_law_105 rfl (by decide) rfl ?_
        refine WS.goto (tgt := 27) hx dX11_law_106 (by decide) ?_
        rw [ln_n (r := ((E0 t L s).1, wr (-59) (E0 t L s).2)) (fun h => no102 ⟨h.1, cm_wr.symm.trans h.2⟩)] at hR
        subst hR
        exact WS.los [0, 3] rfl (lf_X11_law V d σ t L hL ((E0 t L s).1, wr (-59) (E0 t L s).2) (stI (stI (stI τ 8 i (nI M)) 9 i (τ3.1 0 10)) 0 14 (nI (i + 1))) τ6 _ _ (E0 t L s) ms6 rfl (show (E0 t L s).2.1 = (wr (-59) (E0 t L s).2).1 from wr_p.symm) (fun j hj => by rw [hF6.1 5 (by decide) (by decide) (by decide) (by decide)]; exact hT j hj) ((hF6.2.2 8 (by decide) (by decide) (by decide) (by decide) (by decide)).trans h8) hF6 (fun hg => by
          obtain ⟨lw2, M2, y1, y2, y3, y4, y5, y6, y7, y8, y9⟩ := hlx hg
          have z1 : (wr (-59) (E0 t L s).2).1 ≤ L := by rw [wr_p]; exact ms6.2.2.2.2.1
          have y8a : (wr (-59) (E0 t L s).2).2.1 ≤ (wr (-59) (E0 t L s).2).1 + 1 := y8
          have y7a : M2 ≤ (wr (-59) (E0 t L s).2).1 := y7
          exact ⟨lw2, M2, ⟨by omega, by show (wr (-59) (E0 t L s).2).2.1 ≤ 121; omega, y2, y3⟩, by omega, by rw [y1]; exact h146, y6, by omega, y4, y5⟩) X hx he)
set_option maxHeartbeats 1000000 in
theorem c_X11_law (V : Vt) (d : Nat) (σ : Sg) (t : Nat → Int32) (L : Nat) (hL : L ≤ 120) (hT : ∀ j, j < L → σ.1 5 j = t j) (h8 : σ.1 0 8 = nI L) (g : Nat → Int32) : CT layM V mX11_law (d + 43) [rf V 0] σ (Ri (LPw σ L (txF t L g))) := by
  refine CT.of (own := RX11) rfl (by decide) (Nat.le_of_ble_eq_true rfl) (fun X (hx : Ok V RX11 cX11_law 4 (d + 43) X) (he : En layM V (some .int) (Ri (LPw σ L (txF t L g))) X) => ?_)
  change WS layM V 4 X σ 0 [(0, rf V 0)] []
  refine WS.aload_n hx dX11_law_0 rfl 0 rfl ?_
  refine WS.iconst (v := 0) hx dX11_law_1 (by decide) ?_
  refine WS.putI hx okX11 lf11_152 rfl rfl rfl rfl dX11_law_2 ?_
  refine WS.aload_n hx dX11_law_5 rfl 0 rfl ?_
  refine WS.iconst (v := (-1)) hx dX11_law_6 (by decide) ?_
  refine WS.putI hx okX11 lf11_155 rfl rfl rfl rfl dX11_law_7 ?_
  refine WS.aload_n hx dX11_law_10 rfl 0 rfl ?_
  refine WS.iconst (v := 0) hx dX11_law_11 (by decide) ?_
  refine WS.putI hx okX11 lf11_187 rfl rfl rfl rfl dX11_law_12 ?_
  refine WS.aload_n hx dX11_law_15 rfl 0 rfl ?_
  refine WS.iconst (v := 0) hx dX11_law_16 (by decide) ?_
  refine WS.putI hx okX11 lf11_162 rfl rfl rfl rfl dX11_law_17 ?_
  refine WS.aload_n hx dX11_law_20 rfl 0 rfl ?_
  refine WS.iconst (v := 0) hx dX11_law_21 (by decide) ?_
  refine WS.putI hx okX11 lf11_200 rfl rfl rfl rfl dX11_law_22 ?_
  refine WS.iconst (v := 1) hx dX11_law_25 (by decide) ?_
  refine WS.istore_n (lo' := [(1, .int 1), (0, rf V 0)]) hx dX11_law_26 rfl (by decide) rfl ?_
  exact WS.los [0, 1] rfl (lp_X11_law V d σ t L hL hT h8 _ X hx he 120 0 0 [] (0, 0, g, 0) (stI (stI (stI (stI (stI σ 0 18 0) 0 19 (-1)) 0 20 0) 0 10 0) 0 14 0) (by show 120 ≤ 0 + 120; omega) ⟨⟨fun q x y z v => by rw [stI_o _ _ _ _ x, stI_o _ _ _ _ x, stI_o _ _ _ _ x, stI_o _ _ _ _ x, stI_o _ _ _ _ x], rfl, fun j a b c e f => by rw [stI_k _ _ _ _ b, stI_k _ _ _ _ a, stI_k _ _ _ _ f, stI_k _ _ _ _ e, stI_k _ _ _ _ c]⟩, ⟨fun _ _ _ => rfl, rfl, fun _ _ _ _ _ => rfl, rfl, Nat.zero_le _, rfl, fun h => Bool.noConfusion h, fun _ => ⟨rfl, Nat.le_refl _, Nat.le_refl _, Nat.le_refl _, rfl, fun _ _ => rfl, fun j hj => absurd hj (Nat.not_lt_zero j)⟩⟩, rfl, rfl, Nat.zero_le _, rfl, fun j _ h => absurd h (Nat.not_lt_zero j), rfl, fun j hj => absurd hj (Nat.not_lt_zero j)⟩ rfl)

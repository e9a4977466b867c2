theorem img_o {κ : Sg} {n q : Nat} (h : q ≠ 7 ∧ q ≠ 30 ∧ q ≠ 31) : (imgQ κ n).1 q = κ.1 q := by
  unfold imgQ
  rw [stR_o _ _ _ h.2.2, stR_o _ _ _ h.2.2, stR_o _ _ _ h.2.2, stR_o _ _ _ h.2.2, stR_o _ _ _ h.2.1, stI_o _ _ _ _ h.1, stI_o _ _ _ _ h.1, stI_o _ _ _ _ h.1]
theorem img_7 {κ : Sg} {n : Nat} : (imgQ κ n).1 7 7 = 1 ∧ (imgQ κ n).1 7 5 = nI n ∧ (imgQ κ n).1 7 6 = κ.1 18 0 := by
  have e : (imgQ κ n).1 7 = (stI (stI (stI κ 7 7 1) 7 5 (nI n)) 7 6 (κ.1 18 0)).1 7 := by
    unfold imgQ
    rw [stR_o _ _ _ (by decide), stR_o _ _ _ (by decide), stR_o _ _ _ (by decide), stR_o _ _ _ (by decide), stR_o _ _ _ (by decide)]
  rw [e]
  exact ⟨by rw [stI_k _ _ _ _ (by decide), stI_k _ _ _ _ (by decide), stI_1], by rw [stI_k _ _ _ _ (by decide), stI_1], by rw [stI_1]⟩
theorem img_30 {κ : Sg} {n j : Nat} (hj : j < 5) : (imgQ κ n).1 30 j = κ.1 29 j := by
  unfold imgQ
  rw [stR_o _ _ _ (by decide), stR_o _ _ _ (by decide), stR_o _ _ _ (by decide), stR_o _ _ _ (by decide), stR_1]
  unfold va_cpy
  rw [if_pos (by omega), show 0 + (j - 0) = j by omega]
theorem img_31 {κ : Sg} {n j : Nat} (hn : n ≤ 10) (hj : j < n) : (imgQ κ n).1 31 j = κ.1 12 j ∧ (imgQ κ n).1 31 (10 + j) = κ.1 13 j ∧ (imgQ κ n).1 31 (20 + j) = κ.1 14 j ∧ (imgQ κ n).1 31 (30 + j) = κ.1 15 j := by
  unfold imgQ
  rw [stR_1]
  unfold va_cpy
  refine ⟨?_, ?_, ?_, ?_⟩
  · rw [if_neg (by omega), if_neg (by omega), if_neg (by omega), if_pos (by omega), show 0 + (j - 0) = j by omega]
  · rw [if_neg (by omega), if_neg (by omega), if_pos (by omega), show 0 + (10 + j - 10) = j by omega]
  · rw [if_neg (by omega), if_pos (by omega), show 0 + (20 + j - 20) = j by omega]
  · rw [if_pos (by omega), show 0 + (30 + j - 30) = j by omega]
theorem op_image (V VM : Vt) (κ μ : Sg) (h : REL V κ μ) : OPi V VM κ μ mX10_image mX11_image [] := by
  obtain ⟨n, dn, u, z, tl, r, m, c, T, lw, kp, im, hR⟩ := h
  obtain ⟨hM, hC, hB, hS, hT, hL, hD, hTr, hI⟩ := id hR
  have hQ := hM.q
  refine ⟨_, _, c_X10_image V 68 κ n hQ, c_X11_image VM 70 μ n hM.2.1, ?_⟩
  intro v κ' v' μ' h1 h2
  (try dsimp only at h1 h2)
  obtain ⟨e0, e1⟩ := h1
  obtain ⟨f0, f1⟩ := h2
  have hn := hM.n
  have eC : ∀ q, q ≠ 7 ∧ q ≠ 30 ∧ q ≠ 31 → κ'.1 q = κ.1 q := fun q hq => by rw [← e1]; exact img_o hq
  have eC2 : κ'.2 = κ.2 := by rw [← e1]; rfl
  have fM : ∀ q, q ≠ 0 ∧ q ≠ 19 ∧ q ≠ 20 → μ'.1 q = μ.1 q := fun q hq => by rw [f1, stR_o _ _ _ hq.2.2, stR_o _ _ _ hq.2.1, stI_o _ _ _ _ hq.1, stI_o _ _ _ _ hq.1]
  have fM2 : μ'.2 = μ.2 := by rw [f1]; rfl
  have g0 : μ'.1 0 = (stI (stI μ 0 31 1) 0 32 (nI n)).1 0 := by rw [f1, stR_o _ _ _ (by decide), stR_o _ _ _ (by decide)]
  have gM : ∀ j, j ≠ 31 ∧ j ≠ 32 → μ'.1 0 j = μ.1 0 j := fun j hj => by rw [g0, stI_k _ _ _ _ hj.2, stI_k _ _ _ _ hj.1]
  have m19 : ∀ j, j < 83 → μ'.1 19 j = μ.1 1 j := fun j hj => by rw [f1, stR_o _ _ _ (by decide), stR_1]; exact if_pos hj
  have m20 : ∀ j, j < 5 → μ'.1 20 j = μ.1 18 j := fun j hj => by rw [f1, stR_1]; exact if_pos hj
  have k7 := img_7 (κ := κ) (n := n)
  rw [e1] at k7
  have hi : RIm κ' μ' n true n := by
    refine ⟨k7.1, by rw [g0, stI_k _ _ _ _ (by decide), stI_1]; rfl, fun _ => ⟨Nat.le_refl _, k7.2.1, by rw [g0, stI_1], ?_, ?_, fun j hj => ?_, fun j hj => ?_⟩⟩
    · rw [k7.2.2]; exact hQ.2.2.2.2.2.2.2.2.2
    · rw [m19 82 (by decide), k7.2.2]; exact hM.y
    · rw [m20 j hj, ← e1, img_30 hj]; exact hD j hj
    · have h9 := img_31 (κ := κ) hn hj
      rw [e1] at h9
      rw [h9.1, h9.2.1, h9.2.2.1, h9.2.2.2, m19 _ (by omega), m19 _ (by omega), m19 _ (by omega), m19 _ (by omega)]
      exact ⟨⟨hM.a (by omega), hQ.2.2.2.1 j (by omega)⟩, ⟨hM.l (by omega), hQ.2.2.2.2.1 j (by omega)⟩, ⟨hM.o (by omega), hQ.2.2.2.2.2.1 j (by omega)⟩, ⟨hM.d (by omega), hQ.2.2.2.2.2.2.1 j (by omega)⟩⟩
  exact ⟨e0.symm.trans (by rw [img_o (by decide), hD 1 (by decide)]; exact f0), RELp.i (n := n) (dn := dn) (u := u) (z := z) (tl := tl) (r := r) (m := m) (c := c) (T := T) (lw := lw) (kp := true) (im := n) ⟨hM.cg (by rw [eC 1 (by decide)]) (fun q a b => eC q (by omega)) (fM 1 (by decide)) (gM 6 (by decide)), hC.cg (eC 8 (by decide)) (fun q a b => eC q (by omega)) (gM 4 (by decide)) (gM 5 (by decide)) (fun q a b => fM q (by omega)), hB.cg (by rw [eC 9 (by decide)]) (eC 36 (by decide)) (gM 35 (by decide)) (fM 21 (by decide)), hS.cg (fun s hs => eC _ (by omega)) (fun s hs => by rw [eC2]) (fM 23 (by decide)) (fM 24 (by decide)) (by rw [fM2]), hT.cg (by rw [eC 0 (by decide)]) (eC 3 (by decide)) (gM 8 (by decide)) (fM 5 (by decide)), hL.cg (hL.1.cg (by rw [eC 2 (by decide)]) (by rw [eC 2 (by decide)]) (eC 19 (by decide)) (eC 20 (by decide)) (eC 23 (by decide)) (by rw [eC2])) (eC 19 (by decide)) (eC 20 (by decide)) (gM 17 (by decide)) (fM 7 (by decide)) (fM 10 (by decide)) (fM 11 (by decide)), hD.cg (eC 29 (by decide)) (fM 18 (by decide)), hTr.cg (by rw [eC 9 (by decide)]) (eC 37 (by decide)) (gM 38 (by decide)) (fM 22 (by decide)), hi⟩⟩
theorem bck_o {κ : Sg} {n q : Nat} (h : q ≠ 18 ∧ q ≠ 29 ∧ ¬ (12 ≤ q ∧ q ≤ 15)) : (bckQ κ n).1 q = κ.1 q := by
  unfold bckQ
  rw [stR_o _ _ _ (by omega), stR_o _ _ _ (by omega), stR_o _ _ _ (by omega), stR_o _ _ _ (by omega), stR_o _ _ _ (by omega), stI_o _ _ _ _ h.1]
theorem bck_v {κ : Sg} {n : Nat} : (bckQ κ n).1 18 0 = κ.1 7 6 ∧ (∀ j, j < 5 → (bckQ κ n).1 29 j = κ.1 30 j) ∧ (∀ j, (bckQ κ n).1 12 j = if j < n then κ.1 31 j else κ.1 12 j) ∧ (∀ j, (bckQ κ n).1 13 j = if j < n then κ.1 31 (10 + j) else κ.1 13 j) ∧ (∀ j, (bckQ κ n).1 14 j = if j < n then κ.1 31 (20 + j) else κ.1 14 j) ∧ (∀ j, (bckQ κ n).1 15 j = if j < n then κ.1 31 (30 + j) else κ.1 15 j) := by
  unfold bckQ
  refine ⟨?_, fun j hj => ?_, fun j => ?_, fun j => ?_, fun j => ?_, fun j => ?_⟩
  · rw [stR_o _ _ _ (by decide), stR_o _ _ _ (by decide), stR_o _ _ _ (by decide), stR_o _ _ _ (by decide), stR_o _ _ _ (by decide), stI_1]
  · rw [stR_o _ _ _ (by decide), stR_o _ _ _ (by decide), stR_o _ _ _ (by decide), stR_o _ _ _ (by decide), stR_1]
    unfold va_cpy
    rw [if_pos (by omega), show 0 + (j - 0) = j by omega]
  · rw [stR_o _ _ _ (by decide), stR_o _ _ _ (by decide), stR_o _ _ _ (by decide), stR_1]
    unfold va_cpy
    by_cases e : j < n
    · rw [if_pos (by omega), if_pos e, show 0 + (j - 0) = j by omega]
    · rw [if_neg (by omega), if_neg e]
  · rw [stR_o _ _ _ (by decide), stR_o _ _ _ (by decide), stR_1]
    unfold va_cpy
    by_cases e : j < n
    · rw [if_pos (by omega), if_pos e, show 10 + (j - 0) = 10 + j by omega]
    · rw [if_neg (by omega), if_neg e]
  · rw [stR_o _ _ _ (by decide), stR_1]
    unfold va_cpy
    by_cases e : j < n
    · rw [if_pos (by omega), if_pos e, show 20 + (j - 0) = 20 + j by omega]
    · rw [if_neg (by omega), if_neg e]
  · rw [stR_1]
    unfold va_cpy
    by_cases e : j < n
    · rw [if_pos (by omega), if_pos e, show 30 + (j - 0) = 30 + j by omega]
    · rw [if_neg (by omega), if_neg e]
theorem pN_b {q j : Nat} (hq : q < 8) (hj : j < lnN q) : ((10 ≤ pN q j ∧ pN q j < 50) ↔ (1 ≤ q ∧ q ≤ 4)) ∧ (1 ≤ q → q ≤ 4 → pN q j = 10 * q + j ∧ j < 10) := by
  unfold lnN at hj
  unfold pN
  split at hj
  · rw [if_pos (by assumption)]; omega
  · rw [if_neg (by assumption)]
    split at hj
    · rw [if_pos (by assumption)]; omega
    · rw [if_neg (by assumption)]; omega
theorem op_back (V VM : Vt) (κ μ : Sg) (h : REL V κ μ) : OPi V VM κ μ mX10_back mX11_back [] := by
  obtain ⟨n, dn, u, z, tl, r, m, c, T, lw, kp, im, hR⟩ := h
  obtain ⟨hM, hC, hB, hS, hT, hL, hD, hTr, hI⟩ := id hR
  have hQ := hM.q
  refine ⟨_, _, c_X10_back V 66 κ n hQ kp hI.1 im (fun k => ⟨Nat.le_trans (hI.2.2 k).1 hM.n, (hI.2.2 k).2.1, (hI.2.2 k).2.2.2.1⟩), c_X11_back VM 70 μ kp hI.2.1 im (fun k => ⟨Nat.le_trans (hI.2.2 k).1 hM.n, (hI.2.2 k).2.2.1⟩), ?_⟩
  intro v κ' v' μ' h1 h2
  (try dsimp only at h1 h2)
  by_cases c0 : ¬ kp = true
  · rw [if_pos c0] at h1 h2
    exact ⟨h1.1.trans h2.1.symm, hR.mv (by rw [h1.2]; exact SE.rf) (by rw [h1.2]; exact hL.1) (show MO μ μ' from by rw [h2.2]; exact MO.rf)⟩
  rw [if_neg c0] at h1 h2
  have hk : kp = true := Classical.byContradiction c0
  obtain ⟨e0, e1⟩ := h1
  obtain ⟨f0, f1⟩ := h2
  obtain ⟨hin, i1, i2, i3, i4, i5, i6⟩ := hI.2.2 hk
  have hn := hM.n
  obtain ⟨v18, v29, v12, v13, v14, v15⟩ := bck_v (κ := κ) (n := im)
  rw [← e1] at v18 v29 v12 v13 v14 v15
  have eC : ∀ q, q ≠ 18 ∧ q ≠ 29 ∧ ¬ (12 ≤ q ∧ q ≤ 15) → κ'.1 q = κ.1 q := fun q hq => by rw [e1]; exact bck_o hq
  have eC2 : κ'.2 = κ.2 := by rw [e1]; rfl
  have fM : ∀ q, q ≠ 1 ∧ q ≠ 18 → μ'.1 q = μ.1 q := fun q hq => by rw [f1, stR_o _ _ _ hq.2, stI_o _ _ _ _ hq.1, stR_o _ _ _ hq.1]
  have fM2 : μ'.2 = μ.2 := by rw [f1]; rfl
  have gM : ∀ j : Nat, j ≠ 1000 → μ'.1 0 j = μ.1 0 j := fun j _ => by rw [fM 0 (by decide)]
  have m18 : ∀ j, j < 5 → μ'.1 18 j = μ.1 20 j := fun j hj => by rw [f1, stR_1]; exact if_pos hj
  have m1 : ∀ j, μ'.1 1 j = if j = 82 then μ.1 19 82 else bkA μ im j := fun j => by
    rw [f1, stR_o _ _ _ (by decide)]
    by_cases e : j = 82
    · rw [if_pos e, e, stI_1]
    · rw [if_neg e, stI_k _ _ _ _ e, stR_1]
  have hq9 : QI κ' n := by
    refine ⟨hn, by rw [eC 1 (by decide)]; exact hQ.2.1, by rw [eC 11 (by decide)]; exact hQ.2.2.1, fun j hj => ?_, fun j hj => ?_, fun j hj => ?_, fun j hj => ?_, by rw [eC 16 (by decide)]; exact hQ.2.2.2.2.2.2.2.1, by rw [eC 17 (by decide)]; exact hQ.2.2.2.2.2.2.2.2.1, by rw [v18]; exact i3⟩
    · rw [v12 j]; split
      · exact (i6 j (by assumption)).1.2
      · exact hQ.2.2.2.1 j hj
    · rw [v13 j]; split
      · exact (i6 j (by assumption)).2.1.2
      · exact hQ.2.2.2.2.1 j hj
    · rw [v14 j]; split
      · exact (i6 j (by assumption)).2.2.1.2
      · exact hQ.2.2.2.2.2.1 j hj
    · rw [v15 j]; split
      · exact (i6 j (by assumption)).2.2.2.2
      · exact hQ.2.2.2.2.2.2.1 j hj
  have hm : MR κ' μ' n := by
    refine ⟨hq9, (gM 6 (by decide)).trans hM.2.1, fun q j hq hj => ?_⟩
    have p7 := pN_7 hq hj
    obtain ⟨pb, pc⟩ := pN_b hq hj
    rw [m1]
    by_cases q7 : q = 7
    · subst q7
      have hj0 : j = 0 := by have : j < 1 := hj; omega
      subst hj0
      rw [if_pos (p7.mpr rfl), show 11 + 7 = 18 from rfl, v18, i4]
    rw [if_neg (fun e => q7 (p7.mp e))]
    unfold bkA
    by_cases qb : 1 ≤ q ∧ q ≤ 4
    · obtain ⟨pe, hj10⟩ := pc qb.1 qb.2
      have h0 := hM.2.2 q j hq hj
      rw [pe] at h0 ⊢
      rw [show (10 * q + j) % 10 = j by omega]
      have hqq : q = 1 ∨ q = 2 ∨ q = 3 ∨ q = 4 := by omega
      by_cases hji : j < im
      · rw [if_pos ⟨by omega, hji⟩]
        rcases hqq with rfl | rfl | rfl | rfl
        · rw [show 11 + 1 = 12 from rfl, v12 j, if_pos hji]; exact (i6 j hji).1.1
        · rw [show 11 + 2 = 13 from rfl, v13 j, if_pos hji]; exact (i6 j hji).2.1.1
        · rw [show 11 + 3 = 14 from rfl, v14 j, if_pos hji]; exact (i6 j hji).2.2.1.1
        · rw [show 11 + 4 = 15 from rfl, v15 j, if_pos hji]; exact (i6 j hji).2.2.2.1
      · rw [if_neg (fun h => hji h.2)]
        rcases hqq with rfl | rfl | rfl | rfl
        · rw [show 11 + 1 = 12 from rfl, v12 j, if_neg hji]; exact h0
        · rw [show 11 + 2 = 13 from rfl, v13 j, if_neg hji]; exact h0
        · rw [show 11 + 3 = 14 from rfl, v14 j, if_neg hji]; exact h0
        · rw [show 11 + 4 = 15 from rfl, v15 j, if_neg hji]; exact h0
    · rw [if_neg (fun h => qb (pb.mp h.1)), eC (11 + q) (by omega)]
      exact hM.2.2 q j hq hj
  have hd : RLd κ' μ' := fun j hj => by rw [v29 j hj, m18 j hj]; exact i5 j hj
  exact ⟨e0.trans (by rw [← e1, v29 1 (by decide), i5 1 (by decide)]; exact f0.symm), RELp.i (n := n) (dn := dn) (u := u) (z := z) (tl := tl) (r := r) (m := m) (c := c) (T := T) (lw := lw) (kp := kp) (im := im) ⟨hm, hC.cg (eC 8 (by decide)) (fun q a b => eC q (by omega)) (gM 4 (by decide)) (gM 5 (by decide)) (fun q a b => fM q (by omega)), hB.cg (by rw [eC 9 (by decide)]) (eC 36 (by decide)) (gM 35 (by decide)) (fM 21 (by decide)), hS.cg (fun s hs => eC _ (by omega)) (fun s hs => by rw [eC2]) (fM 23 (by decide)) (fM 24 (by decide)) (by rw [fM2]), hT.cg (by rw [eC 0 (by decide)]) (eC 3 (by decide)) (gM 8 (by decide)) (fM 5 (by decide)), hL.cg (hL.1.cg (by rw [eC 2 (by decide)]) (by rw [eC 2 (by decide)]) (eC 19 (by decide)) (eC 20 (by decide)) (eC 23 (by decide)) (by rw [eC2])) (eC 19 (by decide)) (eC 20 (by decide)) (gM 17 (by decide)) (fM 7 (by decide)) (fM 10 (by decide)) (fM 11 (by decide)), hd, hTr.cg (by rw [eC 9 (by decide)]) (eC 37 (by decide)) (gM 38 (by decide)) (fM 22 (by decide)), hI.cg (eC 7 (by decide)) (eC 30 (by decide)) (eC 31 (by decide)) (gM 31 (by decide)) (gM 32 (by decide)) (fM 19 (by decide)) (fM 20 (by decide))⟩⟩
theorem LI.cg2 {V : Vt} {κ κ' : Sg} {m c : Nat} (h : LI V κ m c) (e2 : κ'.1 2 2 = κ.1 2 2) (e4 : κ'.1 2 4 = κ.1 2 4) (ec : κ'.1 c = κ.1 c) (e23 : κ'.1 23 = κ.1 23) (t0 : κ'.2.2 2 0 = κ.2.2 2 0) (t1 : κ'.2.2 2 1 = κ.2.2 2 1) : LI V κ' m c := by
  unfold LI
  rw [e2, e4, e23, t0, t1, ec]
  exact h
theorem LI.d {V : Vt} {κ : Sg} {m c : Nat} (h : LI V κ m c) : ∃ d9, (d9 = 19 ∨ d9 = 20) ∧ d9 ≠ c ∧ κ.2.2 2 1 = rf V d9 := by
  rcases h.2.2.1 with ⟨a, -, b⟩ | ⟨a, -, b⟩
  · exact ⟨20, Or.inr rfl, by omega, b⟩
  · exact ⟨19, Or.inl rfl, by omega, b⟩
theorem lw_same {cs : Nat → Int32} {lw : Lw} {m : Nat} (h : CLs cs 0 lw m) (h1 : 1 ≤ lw.length) : lwF cs m = lwN lw := by
  have hm : ¬ m = 0 := fun e => by
    subst e
    cases lw with
    | nil => exact absurd h1 (by decide)
    | cons l r =>
      obtain ⟨g, g1, g2⟩ := h
      have := g1.lt
      have := g2.le
      omega
  funext b a w k o y
  unfold lwF lwN
  rw [if_neg hm, if_neg (by omega)]
  have h9 := h.rl (nm := nm6 b a w k o y)
  rw [Nat.sub_zero] at h9
  rw [h9]
theorem op_law (V VM : Vt) (κ μ : Sg) (h : REL V κ μ) : OPi V VM κ μ mX10_law mX11_law [] := by
  obtain ⟨n, dn, u, z, tl, r, m, c, T, lw, kp, im, hR⟩ := h
  obtain ⟨hM, hC, hB, hS, hT, hL, hD, hTr, hI⟩ := id hR
  have hQ := hM.q
  obtain ⟨d9, hd9, hdc, hdr⟩ := hL.1.d
  refine ⟨_, _, c_X10_law V 18 κ d9 c hd9 hL.1.c.1 hdr tl hT.1 hT.2.1, c_X11_law VM 27 μ (κ.1 3) tl hT.1 hT.2.2.2 hT.2.2.1 (κ.1 d9), ?_⟩
  intro v κ' v' μ' h1 h2
  (try dsimp only at h1 h2)
  have hgo : ∀ m9 c9 T9 : Nat, ∀ lw9 : Lw, (∀ q, q ≠ 0 ∧ q ≠ 2 ∧ q ≠ 19 ∧ q ≠ 20 ∧ q ≠ 23 → κ'.1 q = κ.1 q) → κ'.1 0 3 = 0 → κ'.2.1 = κ.2.1 → (∀ q, q ≠ 0 ∧ ¬ (6 ≤ q ∧ q ≤ 11) → μ'.1 q = μ.1 q) → μ'.2 = μ.2 → (∀ j, j ≠ 8 ∧ j ≠ 10 ∧ j ≠ 14 ∧ j ≠ 17 ∧ j ≠ 18 ∧ j ≠ 19 ∧ j ≠ 20 → μ'.1 0 j = μ.1 0 j) → μ'.1 0 8 = 0 → RLw V κ' μ' m9 c9 T9 lw9 → REL V κ' μ' := fun m9 c9 T9 lw9 eC e03 eL fM fM2 gM g8 hl9 => RELp.i (n := n) (dn := dn) (u := u) (z := z) (tl := 0) (r := r) (m := m9) (c := c9) (T := T9) (lw := lw9) (kp := kp) (im := im) ⟨hM.cg (by rw [eC 1 (by decide)]) (fun q a b => eC q (by omega)) (fM 1 (by decide)) (gM 6 (by decide)), hC.cg (eC 8 (by decide)) (fun q a b => eC q (by omega)) (gM 4 (by decide)) (gM 5 (by decide)) (fun q a b => fM q (by omega)), hB.cg (by rw [eC 9 (by decide)]) (eC 36 (by decide)) (gM 35 (by decide)) (fM 21 (by decide)), hS.cg (fun s hs => eC _ (by omega)) (fun s hs => by rw [eL]) (fM 23 (by decide)) (fM 24 (by decide)) (by rw [fM2]), ⟨Nat.zero_le _, e03, g8, fun j hj => absurd hj (Nat.not_lt_zero j)⟩, hl9, hD.cg (eC 29 (by decide)) (fM 18 (by decide)), hTr.cg (by rw [eC 9 (by decide)]) (eC 37 (by decide)) (gM 38 (by decide)) (fM 22 (by decide)), hI.cg (eC 7 (by decide)) (eC 30 (by decide)) (eC 31 (by decide)) (gM 31 (by decide)) (gM 32 (by decide)) (fM 19 (by decide)) (fM 20 (by decide))⟩
  have hc9 : c = 19 ∨ c = 20 := hL.1.c.2.2
  have d2 : d9 ≠ 2 := by rcases hd9 with rfl | rfl <;> decide
  have d0 : d9 ≠ 0 := by rcases hd9 with rfl | rfl <;> decide
  have d23 : d9 ≠ 23 := by rcases hd9 with rfl | rfl <;> decide
  have b2 : ∀ q, q ≠ 2 → ((stI (stI (stI (stI (stT κ 2 6 (rf V 3)) 2 7 (nI tl)) 2 8 0) 2 3 0) 2 5 0)).1 q = κ.1 q := fun q hq => by rw [stI_o _ _ _ _ hq, stI_o _ _ _ _ hq, stI_o _ _ _ _ hq, stI_o _ _ _ _ hq]; rfl
  have b2k : ∀ j, j ≠ 3 → j ≠ 5 → j ≠ 7 → j ≠ 8 → ((stI (stI (stI (stI (stT κ 2 6 (rf V 3)) 2 7 (nI tl)) 2 8 0) 2 3 0) 2 5 0)).1 2 j = κ.1 2 j := fun j h3 h5 h7 h8 => by rw [stI_k _ _ _ _ h5, stI_k _ _ _ _ h3, stI_k _ _ _ _ h8, stI_k _ _ _ _ h7]; rfl
  by_cases c0 : ((txF (κ.1 3) tl (κ.1 d9)).1 = true ∧ ¬ (txF (κ.1 3) tl (κ.1 d9)).2.1 < tl)
  · obtain ⟨e0, τ, hp, e1⟩ := h1.2 c0
    obtain ⟨f0, lw9, T9, hw, hml, hf⟩ := h2.2 c0
    obtain ⟨p1, p2, p3, p4, p5, p6, p7, p8, p9⟩ := hp
    have kq : ∀ q, q ≠ 0 ∧ q ≠ 2 ∧ q ≠ 23 → κ'.1 q = τ.1 q := fun q hq => by rw [e1, stI_o _ _ _ _ hq.1]; unfold adpQ; rw [stR_o _ _ _ hq.2.2, stI_o _ _ _ _ hq.2.1, stI_o _ _ _ _ hq.2.1]; rfl
    have k2 : κ'.1 2 2 = τ.1 2 3 ∧ κ'.1 2 4 = τ.1 2 5 := by
      have e2 : κ'.1 2 = (stI (stI τ 2 2 (τ.1 2 3)) 2 4 (τ.1 2 5)).1 2 := by rw [e1, stI_o _ _ _ _ (by decide)]; unfold adpQ; rw [stR_o _ _ _ (by decide)]; rfl
      rw [e2]
      exact ⟨by rw [stI_k _ _ _ _ (by decide), stI_1], by rw [stI_1]⟩
    have k23 : ∀ j, j < 2048 → κ'.1 23 j = -1 := fun j hj => by rw [e1, stI_o _ _ _ _ (by decide)]; unfold adpQ; rw [stR_1]; exact if_pos hj
    have kd : κ'.1 d9 = (txF (κ.1 3) tl (κ.1 d9)).2.2.2.1 := by rw [kq d9 ⟨d0, d2, d23⟩]; exact p6
    have kt : κ'.2.2 2 0 = rf V d9 ∧ κ'.2.2 2 1 = rf V c := by
      have e2 : κ'.2.2 2 = updV (updV (τ.2.2 2) 0 (rf V d9)) 1 (rf V c) := by rw [e1]; rfl
      rw [e2]
      exact ⟨rfl, rfl⟩
    have hwf := hw.2.2.1.wf (by have := hw.2.1; omega)
    rw [Nat.sub_zero] at hwf
    refine ⟨e0.trans f0.symm, hgo (txF (κ.1 3) tl (κ.1 d9)).2.2.1 d9 T9 lw9 (fun q hq => ?_) (by rw [e1, stI_1]) (by rw [e1]; show τ.2.1 = _; rw [p2]; rfl) (fun q hq => hf.1 q hq.1 (by omega) (by omega) (by omega) (by omega) (by omega) (by omega)) hf.2.1 (fun j hj => hf.2.2.1 j hj.1 hj.2.1 hj.2.2.1 hj.2.2.2.1 hj.2.2.2.2.1 hj.2.2.2.2.2.1 hj.2.2.2.2.2.2) hf.2.2.2 ⟨⟨by have := hw.2.1; omega, k2.1.trans p4, ?_, by rw [kd]; exact hwf, ?_, fun _ j hj => Or.inl (k23 j hj)⟩, hml, by rw [kd]; exact lw_same hw.2.2.1 hw.1⟩⟩
    · rw [kq q ⟨hq.1, hq.2.1, hq.2.2.2.2⟩, p1 q hq.2.1 (by rcases hd9 with rfl | rfl; exact hq.2.2.1; exact hq.2.2.2.1), b2 q hq.2.1]
    · rcases hd9 with rfl | rfl <;> rcases hc9 with rfl | rfl
      · exact absurd rfl hdc
      · exact Or.inl ⟨rfl, kt.1, kt.2⟩
      · exact Or.inr ⟨rfl, kt.1, kt.2⟩
      · exact absurd rfl hdc
    · rw [kd, k2.2, p5]
      exact fun i hi h5 h6 q hq h7 => hw.2.2.2 i (Nat.zero_le _) (by omega) h5 h6 q hq h7
  · obtain ⟨e0, τ, hp, e1⟩ := h1.1 c0
    obtain ⟨f0, ρ, hf, f1⟩ := h2.1 c0
    obtain ⟨p1, p2, p3, p4, p5, p6, p7, p8, p9⟩ := hp
    have kq : ∀ q, q ≠ 0 ∧ q ≠ 2 ∧ q ≠ d9 → κ'.1 q = κ.1 q := fun q hq => by rw [e1, stI_o _ _ _ _ hq.1, p1 q hq.2.1 hq.2.2, b2 q hq.2.1]
    have kl : LI V κ' m c := hL.1.cg2 (by rw [e1, stI_o _ _ _ _ (by decide), p7 2 (by decide) (by decide) (by decide), b2k 2 (by decide) (by decide) (by decide) (by decide)]) (by rw [e1, stI_o _ _ _ _ (by decide), p7 4 (by decide) (by decide) (by decide), b2k 4 (by decide) (by decide) (by decide) (by decide)]) (kq c ⟨by omega, by omega, fun e => hdc e.symm⟩) (kq 23 ⟨by decide, by decide, fun e => d23 e.symm⟩) (by rw [e1]; show τ.2.2 2 0 = _; rw [p2]; rfl) (by rw [e1]; show τ.2.2 2 1 = _; rw [p2]; rfl)
    refine ⟨e0.trans f0.symm, hgo m c T lw (fun q hq => ?_) (by rw [e1, stI_1]) (by rw [e1]; show τ.2.1 = _; rw [p2]; rfl) (fun q hq => by rw [f1, stI_o _ _ _ _ hq.1]; exact hf.1 q hq.1 (by omega) (by omega) (by omega)) (by rw [f1]; exact hf.2.1) (fun j hj => by rw [f1, stI_k _ _ _ _ hj.1]; exact hf.2.2 j hj.2.1 hj.2.2.1 hj.2.2.2.2.1 hj.2.2.2.2.2.1 hj.2.2.2.2.2.2) (by rw [f1, stI_1]) ⟨kl, hL.2.1.cg (by rw [f1, stI_k _ _ _ _ (by decide)]; exact hf.2.2 17 (by decide) (by decide) (by decide) (by decide) (by decide)) (by rw [f1, stI_o _ _ _ _ (by decide)]; exact hf.1 7 (by decide) (by decide) (by decide) (by decide)) (by rw [f1, stI_o _ _ _ _ (by decide)]; exact hf.1 10 (by decide) (by decide) (by decide) (by decide)) (by rw [f1, stI_o _ _ _ _ (by decide)]; exact hf.1 11 (by decide) (by decide) (by decide) (by decide)), by rw [kq c ⟨by omega, by omega, fun e => hdc e.symm⟩]; exact hL.2.2⟩⟩
    exact kq q ⟨hq.1, hq.2.1, by rcases hd9 with rfl | rfl; exact hq.2.2.1; exact hq.2.2.2.1⟩

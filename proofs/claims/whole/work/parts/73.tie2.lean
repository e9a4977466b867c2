theorem op_feed (V VM : Vt) (κ μ : Sg) (h : REL V κ μ) (x : Int32) : OPi V VM κ μ mX10_feed mX11_feed [.int x] := by
  obtain ⟨n, dn, u, z, tl, r, m, c, T, lw, kp, im, hR⟩ := h
  obtain ⟨hM, hC, hB, hS, hT, hL, hD, hTr, hI⟩ := id hR
  have hQ := hM.q
  refine ⟨_, _, c_X10_feed V 69 κ tl hT.1 hT.2.1 x, c_X11_feed VM 69 μ tl hT.1 hT.2.2.1 x, ?_⟩
  intro v κ' v' μ' h1 h2
  (try dsimp only at h1 h2)
  by_cases c0 : ¬ (0 ≤ x.toInt ∧ x.toInt ≤ 255)
  · rw [if_pos c0] at h1 h2
    exact ⟨h1.1.trans h2.1.symm, hR.mv (by rw [h1.2]; exact SE.rf) (by rw [h1.2]; exact hL.1) (show MO μ μ' from by rw [h2.2]; exact MO.rf)⟩
  rw [if_neg c0] at h1 h2
  by_cases c1 : tl = 120
  · rw [if_pos c1] at h1 h2
    exact ⟨h1.1.trans h2.1.symm, hR.mv (by rw [h1.2]; exact SE.rf) (by rw [h1.2]; exact hL.1) (show MO μ μ' from by rw [h2.2]; exact MO.rf)⟩
  rw [if_neg c1] at h1 h2
  obtain ⟨e0, e1⟩ := h1
  obtain ⟨f0, f1⟩ := h2
  have eC : ∀ q, q ≠ 0 ∧ q ≠ 3 → κ'.1 q = κ.1 q := fun q hq => by rw [e1, stI_o _ _ _ _ hq.1, stI_o _ _ _ _ hq.2]
  have eC2 : κ'.2 = κ.2 := by rw [e1]; rfl
  have fM : ∀ q, q ≠ 0 ∧ q ≠ 5 → μ'.1 q = μ.1 q := fun q hq => by rw [f1, stI_o _ _ _ _ hq.1, stI_o _ _ _ _ hq.2]
  have fM2 : μ'.2 = μ.2 := by rw [f1]; rfl
  have gM : ∀ j, j ≠ 8 → μ'.1 0 j = μ.1 0 j := fun j hj => by rw [f1, stI_k _ _ _ _ hj, stI_o _ _ _ _ (by decide)]
  have ht : RTp κ' μ' (tl + 1) := by
    refine ⟨by have := hT.1; omega, by rw [e1, stI_1], by rw [f1, stI_1], fun j hj => ?_⟩
    rw [show μ'.1 5 j = (stI μ 5 tl x).1 5 j by rw [f1, stI_o _ _ _ _ (by decide)], show κ'.1 3 j = (stI κ 3 tl x).1 3 j by rw [e1, stI_o _ _ _ _ (by decide)]]
    by_cases e : j = tl
    · subst e; rw [stI_1, stI_1]
    · rw [stI_k _ _ _ _ e, stI_k _ _ _ _ e]; exact hT.2.2.2 j (by omega)
  exact ⟨e0.trans f0.symm, RELp.i (n := n) (dn := dn) (u := u) (z := z) (tl := tl + 1) (r := r) (m := m) (c := c) (T := T) (lw := lw) (kp := kp) (im := im) ⟨hM.cg (by rw [eC 1 (by decide)]) (fun q a b => eC q (by omega)) (fM 1 (by decide)) (gM 6 (by decide)), hC.cg (eC 8 (by decide)) (fun q a b => eC q (by omega)) (gM 4 (by decide)) (gM 5 (by decide)) (fun q a b => fM q (by omega)), hB.cg (by rw [eC 9 (by decide)]) (eC 36 (by decide)) (gM 35 (by decide)) (fM 21 (by decide)), hS.cg (fun s hs => eC _ (by omega)) (fun s hs => by rw [eC2]) (fM 23 (by decide)) (fM 24 (by decide)) (by rw [fM2]), ht, hL.cg (hL.1.cg (by rw [eC 2 (by decide)]) (by rw [eC 2 (by decide)]) (eC 19 (by decide)) (eC 20 (by decide)) (eC 23 (by decide)) (by rw [eC2])) (eC 19 (by decide)) (eC 20 (by decide)) (gM 17 (by decide)) (fM 7 (by decide)) (fM 10 (by decide)) (fM 11 (by decide)), hD.cg (eC 29 (by decide)) (fM 18 (by decide)), hTr.cg (by rw [eC 9 (by decide)]) (eC 37 (by decide)) (gM 38 (by decide)) (fM 22 (by decide)), hI.cg (eC 7 (by decide)) (eC 30 (by decide)) (eC 31 (by decide)) (gM 31 (by decide)) (gM 32 (by decide)) (fM 19 (by decide)) (fM 20 (by decide))⟩⟩
theorem op_block (V VM : Vt) (κ μ : Sg) (h : REL V κ μ) (b : Int32) : OPi V VM κ μ mX10_block mX11_block [.int b] := by
  obtain ⟨n, dn, u, z, tl, r, m, c, T, lw, kp, im, hR⟩ := h
  obtain ⟨hM, hC, hB, hS, hT, hL, hD, hTr, hI⟩ := id hR
  have hQ := hM.q
  refine ⟨_, _, c_X10_block V 68 κ n hQ b, c_X11_block VM 67 μ κ n hM b, ?_⟩
  intro v κ' v' μ' h1 h2
  (try dsimp only at h1 h2)
  by_cases c0 : ¬ (0 ≤ b.toInt ∧ b.toInt ≤ 9)
  · rw [if_pos c0] at h1 h2
    exact ⟨h1.1.trans h2.1.symm, hR.mv (by rw [h1.2]; exact SE.rf) (by rw [h1.2]; exact hL.1) (show MO μ μ' from by rw [h2.2]; exact MO.rf)⟩
  rw [if_neg c0] at h1 h2
  by_cases c1 : n = 10
  · rw [if_pos c1] at h1 h2
    exact ⟨h1.1.trans h2.1.symm, hR.mv (by rw [h1.2]; exact SE.rf) (by rw [h1.2]; exact hL.1) (show MO μ μ' from by rw [h2.2]; exact MO.rf)⟩
  rw [if_neg c1] at h1 h2
  obtain ⟨e0, e1⟩ := h1
  obtain ⟨f0, f1⟩ := h2
  have eC : ∀ q, q ≠ 1 ∧ q ≠ 11 ∧ q ≠ 12 ∧ q ≠ 13 → κ'.1 q = κ.1 q := fun q hq => by rw [e1]; unfold addQ; rw [stI_o _ _ _ _ hq.1, stI_o _ _ _ _ hq.2.2.2, stI_o _ _ _ _ hq.2.2.1, stI_o _ _ _ _ hq.2.1]
  have eC2 : κ'.2 = κ.2 := by rw [e1]; rfl
  have fM : ∀ q, q ≠ 0 ∧ q ≠ 1 → μ'.1 q = μ.1 q := fun q hq => by rw [f1]; unfold aM; rw [stI_o _ _ _ _ hq.1, stI_o _ _ _ _ hq.2, stI_o _ _ _ _ hq.2, stI_o _ _ _ _ hq.2]
  have fM2 : μ'.2 = μ.2 := by rw [f1]; rfl
  have gM : ∀ j, j ≠ 6 → μ'.1 0 j = μ.1 0 j := fun j hj => by rw [f1]; unfold aM; rw [stI_k _ _ _ _ hj, stI_o _ _ _ _ (by decide), stI_o _ _ _ _ (by decide), stI_o _ _ _ _ (by decide)]
  have hm : MR κ' μ' (n + 1) := by rw [e1, f1]; exact MR_add hM (by have := hM.n; omega) ⟨by omega, by omega⟩ ⟨by decide, by decide⟩ ⟨by decide, by decide⟩
  exact ⟨e0.trans f0.symm, RELp.i (n := n + 1) (dn := dn) (u := u) (z := z) (tl := tl) (r := r) (m := m) (c := c) (T := T) (lw := lw) (kp := kp) (im := im) ⟨hm, (hC.cg (eC 8 (by decide)) (fun q a b => eC q (by omega)) (gM 4 (by decide)) (gM 5 (by decide)) (fun q a b => fM q (by omega))).mono (Nat.le_succ _), hB.cg (by rw [eC 9 (by decide)]) (eC 36 (by decide)) (gM 35 (by decide)) (fM 21 (by decide)), hS.cg (fun s hs => eC _ (by omega)) (fun s hs => by rw [eC2]) (fM 23 (by decide)) (fM 24 (by decide)) (by rw [fM2]), hT.cg (by rw [eC 0 (by decide)]) (eC 3 (by decide)) (gM 8 (by decide)) (fM 5 (by decide)), hL.cg (hL.1.cg (by rw [eC 2 (by decide)]) (by rw [eC 2 (by decide)]) (eC 19 (by decide)) (eC 20 (by decide)) (eC 23 (by decide)) (by rw [eC2])) (eC 19 (by decide)) (eC 20 (by decide)) (gM 17 (by decide)) (fM 7 (by decide)) (fM 10 (by decide)) (fM 11 (by decide)), hD.cg (eC 29 (by decide)) (fM 18 (by decide)), hTr.cg (by rw [eC 9 (by decide)]) (eC 37 (by decide)) (gM 38 (by decide)) (fM 22 (by decide)), (hI.cg (eC 7 (by decide)) (eC 30 (by decide)) (eC 31 (by decide)) (gM 31 (by decide)) (gM 32 (by decide)) (fM 19 (by decide)) (fM 20 (by decide))).mono (Nat.le_succ _)⟩⟩
theorem addQ_f {σ : Sg} {n : Nat} {b a l : Int32} {q : Nat} (hq : q ≠ 1 ∧ q ≠ 11 ∧ q ≠ 12 ∧ q ≠ 13) : (addQ σ n b a l).1 q = σ.1 q := by unfold addQ; rw [stI_o _ _ _ _ hq.1, stI_o _ _ _ _ hq.2.2.2, stI_o _ _ _ _ hq.2.2.1, stI_o _ _ _ _ hq.2.1]
theorem blF_fr {s z : Nat} {i : Int32} : ∀ (u c n : Nat) (σ : Sg), (∀ q, q ≠ 1 ∧ q ≠ 11 ∧ q ≠ 12 ∧ q ≠ 13 → (blF s z i u c n σ).2.1 q = σ.1 q) ∧ (blF s z i u c n σ).2.2 = σ.2
  | 0, c, n, σ => ⟨fun _ _ => rfl, rfl⟩
  | u + 1, c, n, σ => by
    by_cases h : camC σ n s z (i + nI (3 * c))
    · rw [blF_t h]
      have ih := blF_fr (s := s) (z := z) (i := i) u (c + 1) (n + 1) (addQ σ n (eJ σ s (nn (i + nI (3 * c)))) (eJ σ s (nn (i + nI (3 * c)) + 1)) (eJ σ s (nn (i + nI (3 * c)) + 2)))
      exact ⟨fun q hq => (ih.1 q hq).trans (addQ_f hq), ih.2⟩
    · rw [blF_f h]
      exact ⟨fun _ _ => rfl, rfl⟩
theorem op_blocks (V VM : Vt) (κ μ : Sg) (h : REL V κ μ) (f : Int32) (i : Int32) (x : Int32) : OPi V VM κ μ mX10_blocks mX11_blocks [.int f, .int i, .int x] := by
  obtain ⟨n, dn, u, z, tl, r, m, c, T, lw, kp, im, hR⟩ := h
  obtain ⟨hM, hC, hB, hS, hT, hL, hD, hTr, hI⟩ := id hR
  have hQ := hM.q
  refine ⟨_, _, c_X10_blocks V 67 κ n hQ hR.z60 f i x, c_X11_blocks VM 67 μ κ n hM z hB.1 hS f i x, ?_⟩
  intro v κ' v' μ' h1 h2
  (try dsimp only at h1 h2)
  by_cases c0 : ¬ ((0 ≤ f.toInt ∧ f.toInt ≤ 5) ∧ (1 ≤ x.toInt ∧ x.toInt ≤ 10))
  · rw [if_pos c0] at h1 h2
    exact ⟨h1.1.trans h2.1.symm, hR.mv (by rw [h1.2]; exact SE.rf) (by rw [h1.2]; exact hL.1) (show MO μ μ' from by rw [h2.2]; exact MO.rf)⟩
  rw [if_neg c0] at h1 h2
  by_cases c1 : κ.1 (52 + nn f) 1 = 0
  · rw [if_pos c1] at h1 h2
    exact ⟨h1.1.trans h2.1.symm, hR.mv (by rw [h1.2]; exact SE.rf) (by rw [h1.2]; exact hL.1) (show MO μ μ' from by rw [h2.2]; exact MO.rf)⟩
  rw [if_neg c1] at h1 h2
  by_cases c2 : ¬ (κ.1 (52 + nn f) 1 = 2 ∧ κ.1 (52 + nn f) 3 = 0)
  · rw [if_pos c2] at h1 h2
    exact ⟨h1.1.trans h2.1.symm, hR.mv (by rw [h1.2]; exact SE.rf) (by rw [h1.2]; exact hL.1) (show MO μ μ' from by rw [h2.2]; exact MO.rf)⟩
  rw [if_neg c2] at h1 h2
  obtain ⟨e0, e1⟩ := h1
  obtain ⟨f0, f1, f2⟩ := h2
  have hfr := blF_fr (s := nn f) (z := nn (κ.1 (52 + nn f) 4)) (i := i) (nn x) 0 n κ
  rw [← e1] at hfr f1
  have eC : ∀ q, q ≠ 1 ∧ q ≠ 11 ∧ q ≠ 12 ∧ q ≠ 13 → κ'.1 q = κ.1 q := hfr.1
  have eC2 : κ'.2 = κ.2 := hfr.2
  have fM : ∀ q, q ≠ 0 ∧ q ≠ 1 → μ'.1 q = μ.1 q := fun q hq => f2.1 q hq.1 hq.2
  have fM2 : μ'.2 = μ.2 := f2.2.2
  have gM : ∀ j, j ≠ 6 → μ'.1 0 j = μ.1 0 j := f2.2.1
  exact ⟨e0.trans f0.symm, RELp.i (n := n + (blF (nn f) (nn (κ.1 (52 + nn f) 4)) i (nn x) 0 n κ).1) (dn := dn) (u := u) (z := z) (tl := tl) (r := r) (m := m) (c := c) (T := T) (lw := lw) (kp := kp) (im := im) ⟨f1, (hC.cg (eC 8 (by decide)) (fun q a b => eC q (by omega)) (gM 4 (by decide)) (gM 5 (by decide)) (fun q a b => fM q (by omega))).mono (Nat.le_add_right _ _), hB.cg (by rw [eC 9 (by decide)]) (eC 36 (by decide)) (gM 35 (by decide)) (fM 21 (by decide)), hS.cg (fun s hs => eC _ (by omega)) (fun s hs => by rw [eC2]) (fM 23 (by decide)) (fM 24 (by decide)) (by rw [fM2]), hT.cg (by rw [eC 0 (by decide)]) (eC 3 (by decide)) (gM 8 (by decide)) (fM 5 (by decide)), hL.cg (hL.1.cg (by rw [eC 2 (by decide)]) (by rw [eC 2 (by decide)]) (eC 19 (by decide)) (eC 20 (by decide)) (eC 23 (by decide)) (by rw [eC2])) (eC 19 (by decide)) (eC 20 (by decide)) (gM 17 (by decide)) (fM 7 (by decide)) (fM 10 (by decide)) (fM 11 (by decide)), hD.cg (eC 29 (by decide)) (fM 18 (by decide)), hTr.cg (by rw [eC 9 (by decide)]) (eC 37 (by decide)) (gM 38 (by decide)) (fM 22 (by decide)), (hI.cg (eC 7 (by decide)) (eC 30 (by decide)) (eC 31 (by decide)) (gM 31 (by decide)) (gM 32 (by decide)) (fM 19 (by decide)) (fM 20 (by decide))).mono (Nat.le_add_right _ _)⟩⟩
theorem op_body (V VM : Vt) (κ μ : Sg) (h : REL V κ μ) (k : Int32) : OPi V VM κ μ mX10_body mX11_body [.int k] := by
  obtain ⟨n, dn, u, z, tl, r, m, c, T, lw, kp, im, hR⟩ := h
  obtain ⟨hM, hC, hB, hS, hT, hL, hD, hTr, hI⟩ := id hR
  have hQ := hM.q
  refine ⟨_, _, c_X10_body V 68 κ z hB.2.1 hB.1 k, c_X11_body VM 69 μ z hB.2.2.1 hB.1 k, ?_⟩
  intro v κ' v' μ' h1 h2
  (try dsimp only at h1 h2)
  by_cases c0 : ¬ (0 ≤ k.toInt ∧ k.toInt ≤ 7)
  · rw [if_pos c0] at h1 h2
    exact ⟨h1.1.trans h2.1.symm, hR.mv (by rw [h1.2]; exact SE.rf) (by rw [h1.2]; exact hL.1) (show MO μ μ' from by rw [h2.2]; exact MO.rf)⟩
  rw [if_neg c0] at h1 h2
  by_cases c1 : z = 50
  · rw [if_pos c1] at h1 h2
    exact ⟨h1.1.trans h2.1.symm, hR.mv (by rw [h1.2]; exact SE.rf) (by rw [h1.2]; exact hL.1) (show MO μ μ' from by rw [h2.2]; exact MO.rf)⟩
  rw [if_neg c1] at h1 h2
  obtain ⟨e0, e1⟩ := h1
  obtain ⟨f0, f1⟩ := h2
  have eC : ∀ q, q ≠ 9 ∧ q ≠ 36 → κ'.1 q = κ.1 q := fun q hq => by rw [e1]; unfold bodQ; rw [stI_o _ _ _ _ hq.1, stI_o _ _ _ _ hq.2]
  have eC2 : κ'.2 = κ.2 := by rw [e1]; rfl
  have fM : ∀ q, q ≠ 0 ∧ q ≠ 21 → μ'.1 q = μ.1 q := fun q hq => by rw [f1]; unfold bodM; rw [stI_o _ _ _ _ hq.1, stI_o _ _ _ _ hq.2]
  have fM2 : μ'.2 = μ.2 := by rw [f1]; rfl
  have gM : ∀ j, j ≠ 35 → μ'.1 0 j = μ.1 0 j := fun j hj => by rw [f1]; unfold bodM; rw [stI_k _ _ _ _ hj, stI_o _ _ _ _ (by decide)]
  have e93 : κ'.1 9 3 = κ.1 9 3 := by rw [e1]; unfold bodQ; rw [stI_k _ _ _ _ (by decide), stI_o _ _ _ _ (by decide)]
  have hb : BR κ' μ' (z + 1) := by
    refine ⟨by have := hB.1; omega, by rw [e1]; unfold bodQ; rw [stI_1], by rw [f1]; unfold bodM; rw [stI_1], fun j hj => ?_⟩
    rw [show μ'.1 21 j = (stI μ 21 z k).1 21 j by rw [f1]; unfold bodM; rw [stI_o _ _ _ _ (by decide)], show κ'.1 36 j = (stI κ 36 z k).1 36 j by rw [e1]; unfold bodQ; rw [stI_o _ _ _ _ (by decide)]]
    by_cases e : j = z
    · subst e; rw [stI_1, stI_1]; exact ⟨⟨by omega, by omega⟩, rfl⟩
    · rw [stI_k _ _ _ _ e, stI_k _ _ _ _ e]; exact hB.2.2.2 j (by omega)
  exact ⟨e0.trans f0.symm, RELp.i (n := n) (dn := dn) (u := u) (z := z + 1) (tl := tl) (r := r) (m := m) (c := c) (T := T) (lw := lw) (kp := kp) (im := im) ⟨hM.cg (by rw [eC 1 (by decide)]) (fun q a b => eC q (by omega)) (fM 1 (by decide)) (gM 6 (by decide)), hC.cg (eC 8 (by decide)) (fun q a b => eC q (by omega)) (gM 4 (by decide)) (gM 5 (by decide)) (fun q a b => fM q (by omega)), hb, (hS.cg (fun s hs => eC _ (by omega)) (fun s hs => by rw [eC2]) (fM 23 (by decide)) (fM 24 (by decide)) (by rw [fM2])).mono (Nat.le_succ _), hT.cg (by rw [eC 0 (by decide)]) (eC 3 (by decide)) (gM 8 (by decide)) (fM 5 (by decide)), hL.cg (hL.1.cg (by rw [eC 2 (by decide)]) (by rw [eC 2 (by decide)]) (eC 19 (by decide)) (eC 20 (by decide)) (eC 23 (by decide)) (by rw [eC2])) (eC 19 (by decide)) (eC 20 (by decide)) (gM 17 (by decide)) (fM 7 (by decide)) (fM 10 (by decide)) (fM 11 (by decide)), hD.cg (eC 29 (by decide)) (fM 18 (by decide)), hTr.cg e93 (eC 37 (by decide)) (gM 38 (by decide)) (fM 22 (by decide)), hI.cg (eC 7 (by decide)) (eC 30 (by decide)) (eC 31 (by decide)) (gM 31 (by decide)) (gM 32 (by decide)) (fM 19 (by decide)) (fM 20 (by decide))⟩⟩
theorem acM_n {me K act x : Int32} {s : Tz} : (acM me K act x s).2.2 ≤ s.2 + 20 := by
  have t0 : ∀ s : Tz, (t0M me K x s).2.2 ≤ s.2 + 13 := fun s => by
    unfold t0M
    refine Nat.le_trans blM_n ?_
    have h := saM_n (me := me) (K := K) (k := K) (x := x) (s := rn1 2 s)
    rw [rn1_n] at h
    omega
  unfold acM
  split
  · exact Nat.le_trans thM_n (by omega)
  · split
    · exact Nat.le_trans saM_n (by omega)
    · split
      · exact Nat.le_trans blM_n (by omega)
      · unfold teM
        split
        · exact Nat.le_trans (t0 _) (by rw [rn1_n]; omega)
        · split
          · exact Nat.le_trans (t0 _) (by rw [rn1_n]; omega)
          · exact Nat.le_trans (t0 _) (by omega)
theorem op_act (V VM : Vt) (κ μ : Sg) (h : REL V κ μ) (b : Int32) (act : Int32) (x : Int32) : OPi V VM κ μ mX10_act mX11_act [.int b, .int act, .int x] := by
  obtain ⟨n, dn, u, z, tl, r, m, c, T, lw, kp, im, hR⟩ := h
  obtain ⟨hM, hC, hB, hS, hT, hL, hD, hTr, hI⟩ := id hR
  have hQ := hM.q
  refine ⟨_, _, c_X10_act V 3 κ z hB.2.1 hB.1 (fun j hj => (hB.2.2.2 j hj).1) b act x, c_X11_act VM 62 μ z hB.2.2.1 hB.1 (κ.1 37) b act x, ?_⟩
  intro v κ' v' μ' h1 h2
  (try dsimp only at h1 h2)
  have hgo : ∀ r9 : Nat, (∀ q, q ≠ 9 ∧ q ≠ 37 → κ'.1 q = κ.1 q) → κ'.2 = κ.2 → κ'.1 9 2 = κ.1 9 2 → (∀ q, q ≠ 0 ∧ q ≠ 22 → μ'.1 q = μ.1 q) → μ'.2 = μ.2 → (∀ j, j ≠ 38 ∧ j ≠ 39 ∧ j ≠ 40 → μ'.1 0 j = μ.1 0 j) → RTr κ' μ' r9 → REL V κ' μ' := fun r9 eC eC2 e92 fM fM2 gM hr9 => RELp.i (n := n) (dn := dn) (u := u) (z := z) (tl := tl) (r := r9) (m := m) (c := c) (T := T) (lw := lw) (kp := kp) (im := im) ⟨hM.cg (by rw [eC 1 (by decide)]) (fun q a b => eC q (by omega)) (fM 1 (by decide)) (gM 6 (by decide)), hC.cg (eC 8 (by decide)) (fun q a b => eC q (by omega)) (gM 4 (by decide)) (gM 5 (by decide)) (fun q a b => fM q (by omega)), hB.cg e92 (eC 36 (by decide)) (gM 35 (by decide)) (fM 21 (by decide)), hS.cg (fun s hs => eC _ (by omega)) (fun s hs => by rw [eC2]) (fM 23 (by decide)) (fM 24 (by decide)) (by rw [fM2]), hT.cg (by rw [eC 0 (by decide)]) (eC 3 (by decide)) (gM 8 (by decide)) (fM 5 (by decide)), hL.cg (hL.1.cg (by rw [eC 2 (by decide)]) (by rw [eC 2 (by decide)]) (eC 19 (by decide)) (eC 20 (by decide)) (eC 23 (by decide)) (by rw [eC2])) (eC 19 (by decide)) (eC 20 (by decide)) (gM 17 (by decide)) (fM 7 (by decide)) (fM 10 (by decide)) (fM 11 (by decide)), hD.cg (eC 29 (by decide)) (fM 18 (by decide)), hr9, hI.cg (eC 7 (by decide)) (eC 30 (by decide)) (eC 31 (by decide)) (gM 31 (by decide)) (gM 32 (by decide)) (fM 19 (by decide)) (fM 20 (by decide))⟩
  by_cases c0 : (0 ≤ b.toInt ∧ b.toInt < z ∧ 0 ≤ act.toInt ∧ act.toInt ≤ 3)
  · obtain ⟨p, g1, g2, g3⟩ := h1.2 c0
    obtain ⟨f0, f1⟩ := h2.2 c0
    have hb9 := nn_int c0.1
    have hbz : nn b < z := by have := c0.2.1; omega
    have hk := hB.2.2.2 (nn b) hbz
    rw [act_M hk.1 ⟨c0.2.2.1, c0.2.2.2⟩] at g1
    have g1' : (acM b (κ.1 36 (nn b)) act x (κ.1 37, 0)) = p := Option.some.inj g1
    rw [hk.2] at f0 f1
    subst g1'
    refine ⟨g2.trans f0.symm, hgo (acM b (κ.1 36 (nn b)) act x (κ.1 37, 0)).2.2 (fun q hq => ?_) ?_ ?_ (fun q hq => ?_) ?_ (fun j hj => ?_) ⟨?_, g3.2.2.2.1, f1.2.2.2.1, fun j h5 h6 => ?_⟩⟩
    · rw [g3.1 q hq.1 hq.2, stI_o _ _ _ _ hq.1, stI_o _ _ _ _ hq.1]
    · rw [g3.2.1]; rfl
    · rw [g3.2.2.2.2 2 (by decide), stI_k _ _ _ _ (by decide), stI_k _ _ _ _ (by decide)]
    · rw [f1.1 q hq.1 hq.2, stI_o _ _ _ _ hq.1, stI_o _ _ _ _ hq.1, stI_o _ _ _ _ hq.1]
    · rw [f1.2.1]; rfl
    · rw [f1.2.2.2.2 j hj.1, stI_k _ _ _ _ hj.2.2, stI_k _ _ _ _ hj.2.1, stI_k _ _ _ _ hj.1]
    · have := acM_n (me := b) (K := κ.1 36 (nn b)) (act := act) (x := x) (s := (κ.1 37, 0))
      have h7 : (acM b (κ.1 36 (nn b)) act x (κ.1 37, 0)).2.2 ≤ 0 + 20 := this
      omega
    · rw [g3.2.2.1, f1.2.2.1 j h5 h6]
  · obtain ⟨e0, e1⟩ := h1.1 c0
    obtain ⟨f0, f1, f2, f3, f4⟩ := h2.1 c0
    refine ⟨e0.trans f0.symm, hgo 0 (fun q hq => ?_) ?_ ?_ (fun q hq => f1 q hq.1) f2 (fun j hj => f4 j hj.1 hj.2.1 hj.2.2) ⟨by decide, ?_, f3, fun j hj => absurd hj (Nat.not_lt_zero j)⟩⟩
    · rw [e1, stI_o _ _ _ _ hq.1]
    · rw [e1]; rfl
    · rw [e1, stI_k _ _ _ _ (by decide)]
    · rw [e1, stI_1]; rfl
theorem SR.set {κ κ' μ μ' : Sg} {z s0 : Nat} (h : SR κ μ z) (hs0 : s0 < 6) (e : ∀ s, s < 6 → s ≠ s0 → κ'.1 (52 + s) = κ.1 (52 + s) ∧ κ'.2.1 (58 + s) = κ.2.1 (58 + s) ∧ μ'.1 23 s = μ.1 23 s ∧ μ'.1 24 s = μ.1 24 s ∧ ∀ i, i < 60 → μ'.2.1 25 (60 * s + i) = μ.2.1 25 (60 * s + i)) (g : rg (κ'.1 (52 + s0) 4) 60 ∧ ((κ'.1 (52 + s0) 1 = 0 ∧ μ'.1 23 s0 = -1) ∨ (κ'.1 (52 + s0) 1 = 1 ∧ μ'.1 23 s0 = κ'.1 (52 + s0) 2 ∧ 0 ≤ (κ'.1 (52 + s0) 2).toInt ∧ (κ'.1 (52 + s0) 2).toInt < z) ∨ (κ'.1 (52 + s0) 1 = 2 ∧ rg (κ'.1 (52 + s0) 3) 4 ∧ μ'.1 23 s0 = nI (50 + nn (κ'.1 (52 + s0) 3)) ∧ μ'.1 24 s0 = κ'.1 (52 + s0) 4 ∧ (∀ i, i < 60 → μ'.2.1 25 (60 * s0 + i) = κ'.2.1 (58 + s0) i) ∧ (κ'.1 (52 + s0) 3 = 0 → ∀ i, i < 60 → -128 ≤ (κ'.2.1 (58 + s0) i).toInt ∧ (κ'.2.1 (58 + s0) i).toInt ≤ 127)))) : SR κ' μ' z := by
  intro s hs
  by_cases hc : s = s0
  · subst hc; exact g
  · obtain ⟨e1, e2, e3, e4, e5⟩ := e s hs hc
    obtain ⟨g0, g1⟩ := h s hs
    rw [e1, e2, e3, e4]
    refine ⟨g0, g1.imp_right (fun g => g.imp_right (fun g => ⟨g.1, g.2.1, g.2.2.1, g.2.2.2.1, fun i hi => (e5 i hi).trans (g.2.2.2.2.1 i hi), g.2.2.2.2.2⟩))⟩
theorem op_keep (V VM : Vt) (κ μ : Sg) (h : REL V κ μ) (f : Int32) (x : Int32) : OPi V VM κ μ mX10_keep mX11_keep [.int f, .int x] := by
  obtain ⟨n, dn, u, z, tl, r, m, c, T, lw, kp, im, hR⟩ := h
  obtain ⟨hM, hC, hB, hS, hT, hL, hD, hTr, hI⟩ := id hR
  have hQ := hM.q
  refine ⟨_, _, c_X10_keep V 68 κ z hB.2.1 hB.1 f x, c_X11_keep VM 68 μ z hB.2.2.1 hB.1 f x, ?_⟩
  intro v κ' v' μ' h1 h2
  (try dsimp only at h1 h2)
  by_cases c0 : ¬ ((0 ≤ f.toInt ∧ f.toInt ≤ 5) ∧ (x.toInt = -1 ∨ (0 ≤ x.toInt ∧ x.toInt < z)))
  · rw [if_pos c0] at h1 h2
    exact ⟨h1.1.trans h2.1.symm, hR.mv (by rw [h1.2]; exact SE.rf) (by rw [h1.2]; exact hL.1) (show MO μ μ' from by rw [h2.2]; exact MO.rf)⟩
  rw [if_neg c0] at h1 h2
  have c0' : (0 ≤ f.toInt ∧ f.toInt ≤ 5) ∧ (x.toInt = -1 ∨ (0 ≤ x.toInt ∧ x.toInt < z)) := Classical.byContradiction c0
  have hf9 := sh_nn c0'.1
  obtain ⟨f0, f1⟩ := h2
  have fM : ∀ q, q ≠ 23 ∧ q ≠ 24 → μ'.1 q = μ.1 q := fun q hq => by rw [f1, stI_o _ _ _ _ hq.2, stI_o _ _ _ _ hq.1]
  have fM2 : μ'.2 = μ.2 := by rw [f1]; rfl
  have gM : ∀ j : Nat, True → μ'.1 0 j = μ.1 0 j := fun j _ => by rw [fM 0 (by decide)]
  have m23 : μ'.1 23 (nn f) = x := by rw [f1, stI_o _ _ _ _ (by decide), stI_1]
  have mo : ∀ s, s ≠ nn f → μ'.1 23 s = μ.1 23 s ∧ μ'.1 24 s = μ.1 24 s := fun s hs => ⟨by rw [f1, stI_o _ _ _ _ (by decide), stI_k _ _ _ _ hs], by rw [f1, stI_k _ _ _ _ hs, stI_o _ _ _ _ (by decide)]⟩
  by_cases c1 : x.toInt = -1
  · rw [if_pos c1] at h1
    obtain ⟨e0, e1⟩ := h1
    have eC : ∀ q, q ≠ 52 + nn f → κ'.1 q = κ.1 q := fun q hq => by rw [e1, stI_o _ _ _ _ hq]
    have eC2 : κ'.2 = κ.2 := by rw [e1]; rfl
    have hs : SR κ' μ' z := hS.set hf9 (fun s hs hc => ⟨eC _ (by omega), by rw [eC2], (mo s hc).1, (mo s hc).2, fun i hi => by rw [fM2]⟩) ⟨by rw [e1, stI_k _ _ _ _ (by decide)]; exact (hS (nn f) hf9).1, Or.inl ⟨by rw [e1, stI_1], by rw [m23]; exact i_eq.mpr (by rw [c1]; decide)⟩⟩
    exact ⟨e0.trans f0.symm, RELp.i (n := n) (dn := dn) (u := u) (z := z) (tl := tl) (r := r) (m := m) (c := c) (T := T) (lw := lw) (kp := kp) (im := im) ⟨hM.cg (by rw [eC 1 (by first | decide | omega)]) (fun q a b => eC q (by omega)) (fM 1 (by first | decide | omega)) (gM 6 (by first | decide | omega)), hC.cg (eC 8 (by first | decide | omega)) (fun q a b => eC q (by omega)) (gM 4 (by first | decide | omega)) (gM 5 (by first | decide | omega)) (fun q a b => fM q (by omega)), hB.cg (by rw [eC 9 (by first | decide | omega)]) (eC 36 (by first | decide | omega)) (gM 35 (by first | decide | omega)) (fM 21 (by first | decide | omega)), hs, hT.cg (by rw [eC 0 (by first | decide | omega)]) (eC 3 (by first | decide | omega)) (gM 8 (by first | decide | omega)) (fM 5 (by first | decide | omega)), hL.cg (hL.1.cg (by rw [eC 2 (by first | decide | omega)]) (by rw [eC 2 (by first | decide | omega)]) (eC 19 (by first | decide | omega)) (eC 20 (by first | decide | omega)) (eC 23 (by first | decide | omega)) (by rw [eC2])) (eC 19 (by first | decide | omega)) (eC 20 (by first | decide | omega)) (gM 17 (by first | decide | omega)) (fM 7 (by first | decide | omega)) (fM 10 (by first | decide | omega)) (fM 11 (by first | decide | omega)), hD.cg (eC 29 (by first | decide | omega)) (fM 18 (by first | decide | omega)), hTr.cg (by rw [eC 9 (by first | decide | omega)]) (eC 37 (by first | decide | omega)) (gM 38 (by first | decide | omega)) (fM 22 (by first | decide | omega)), hI.cg (eC 7 (by first | decide | omega)) (eC 30 (by first | decide | omega)) (eC 31 (by first | decide | omega)) (gM 31 (by first | decide | omega)) (gM 32 (by first | decide | omega)) (fM 19 (by first | decide | omega)) (fM 20 (by first | decide | omega))⟩⟩
  rw [if_neg c1] at h1
  obtain ⟨e0, e1⟩ := h1
  have eC : ∀ q, q ≠ 52 + nn f → κ'.1 q = κ.1 q := fun q hq => by rw [e1, stI_o _ _ _ _ hq, stI_o _ _ _ _ hq]
  have eC2 : κ'.2 = κ.2 := by rw [e1]; rfl
  have hs : SR κ' μ' z := hS.set hf9 (fun s hs hc => ⟨eC _ (by omega), by rw [eC2], (mo s hc).1, (mo s hc).2, fun i hi => by rw [fM2]⟩) ⟨by rw [e1, stI_k _ _ _ _ (by decide), stI_k _ _ _ _ (by decide)]; exact (hS (nn f) hf9).1, Or.inr (Or.inl ⟨by rw [e1, stI_k _ _ _ _ (by decide), stI_1], by rw [m23, e1, stI_1], by rw [e1, stI_1]; omega, by rw [e1, stI_1]; omega⟩)⟩
  exact ⟨e0.trans f0.symm, RELp.i (n := n) (dn := dn) (u := u) (z := z) (tl := tl) (r := r) (m := m) (c := c) (T := T) (lw := lw) (kp := kp) (im := im) ⟨hM.cg (by rw [eC 1 (by first | decide | omega)]) (fun q a b => eC q (by omega)) (fM 1 (by first | decide | omega)) (gM 6 (by first | decide | omega)), hC.cg (eC 8 (by first | decide | omega)) (fun q a b => eC q (by omega)) (gM 4 (by first | decide | omega)) (gM 5 (by first | decide | omega)) (fun q a b => fM q (by omega)), hB.cg (by rw [eC 9 (by first | decide | omega)]) (eC 36 (by first | decide | omega)) (gM 35 (by first | decide | omega)) (fM 21 (by first | decide | omega)), hs, hT.cg (by rw [eC 0 (by first | decide | omega)]) (eC 3 (by first | decide | omega)) (gM 8 (by first | decide | omega)) (fM 5 (by first | decide | omega)), hL.cg (hL.1.cg (by rw [eC 2 (by first | decide | omega)]) (by rw [eC 2 (by first | decide | omega)]) (eC 19 (by first | decide | omega)) (eC 20 (by first | decide | omega)) (eC 23 (by first | decide | omega)) (by rw [eC2])) (eC 19 (by first | decide | omega)) (eC 20 (by first | decide | omega)) (gM 17 (by first | decide | omega)) (fM 7 (by first | decide | omega)) (fM 10 (by first | decide | omega)) (fM 11 (by first | decide | omega)), hD.cg (eC 29 (by first | decide | omega)) (fM 18 (by first | decide | omega)), hTr.cg (by rw [eC 9 (by first | decide | omega)]) (eC 37 (by first | decide | omega)) (gM 38 (by first | decide | omega)) (fM 22 (by first | decide | omega)), hI.cg (eC 7 (by first | decide | omega)) (eC 30 (by first | decide | omega)) (eC 31 (by first | decide | omega)) (gM 31 (by first | decide | omega)) (gM 32 (by first | decide | omega)) (fM 19 (by first | decide | omega)) (fM 20 (by first | decide | omega))⟩⟩
theorem op_row (V VM : Vt) (κ μ : Sg) (h : REL V κ μ) (f : Int32) (q : Int32) (x : Int32) : OPi V VM κ μ mX10_row mX11_row [.int f, .int q, .int x] := by
  obtain ⟨n, dn, u, z, tl, r, m, c, T, lw, kp, im, hR⟩ := h
  obtain ⟨hM, hC, hB, hS, hT, hL, hD, hTr, hI⟩ := id hR
  have hQ := hM.q
  refine ⟨_, _, c_X10_row V 67 κ f q x, c_X11_row VM 68 μ f q x, ?_⟩
  intro v κ' v' μ' h1 h2
  (try dsimp only at h1 h2)
  by_cases c0 : ¬ ((0 ≤ f.toInt ∧ f.toInt ≤ 5) ∧ (0 ≤ q.toInt ∧ q.toInt ≤ 4) ∧ x.toInt ≤ 60)
  · rw [if_pos c0] at h1 h2
    exact ⟨h1.1.trans h2.1.symm, hR.mv (by rw [h1.2]; exact SE.rf) (by rw [h1.2]; exact hL.1) (show MO μ μ' from by rw [h2.2]; exact MO.rf)⟩
  rw [if_neg c0] at h1 h2
  by_cases c1 : x.toInt < 0
  · rw [if_pos c1] at h1 h2
    exact ⟨h1.1.trans h2.1.symm, hR.mv (by rw [h1.2]; exact SE.rf) (by rw [h1.2]; exact hL.1) (show MO μ μ' from by rw [h2.2]; exact MO.rf)⟩
  rw [if_neg c1] at h1 h2
  have c0' : (0 ≤ f.toInt ∧ f.toInt ≤ 5) ∧ (0 ≤ q.toInt ∧ q.toInt ≤ 4) ∧ x.toInt ≤ 60 := Classical.byContradiction c0
  have hf9 := sh_nn c0'.1
  have hq9 := nn_int c0'.2.1.1
  have hx9 := nn_int (show 0 ≤ x.toInt by omega)
  obtain ⟨e0, e1⟩ := h1
  obtain ⟨f0, f1⟩ := h2
  have eC : ∀ a, a ≠ 52 + nn f → κ'.1 a = κ.1 a := fun a ha => by rw [e1]; unfold rowQ; show (stI (stI (stI κ (52 + nn f) 1 2) (52 + nn f) 3 q) (52 + nn f) 4 (nI (nn x))).1 a = _; rw [stI_o _ _ _ _ ha, stI_o _ _ _ _ ha, stI_o _ _ _ _ ha]
  have eL : ∀ s, s ≠ nn f → κ'.2.1 (58 + s) = κ.2.1 (58 + s) := fun s hs => by rw [e1]; unfold rowQ stRL; show va_up κ.2.1 (58 + nn f) _ (58 + s) = _; unfold va_up; rw [if_neg (by omega)]
  have eLf : κ'.2.1 (58 + nn f) = fillF 60 0 (κ.2.1 (58 + nn f)) := by rw [e1]; unfold rowQ stRL; show va_up _ (58 + nn f) _ (58 + nn f) = _; unfold va_up; rw [if_pos rfl]
  have eT : κ'.2.2 = κ.2.2 := by rw [e1]; rfl
  have k : ∀ j, κ'.1 (52 + nn f) j = (stI (stI (stI κ (52 + nn f) 1 2) (52 + nn f) 3 q) (52 + nn f) 4 (nI (nn x))).1 (52 + nn f) j := fun j => by rw [e1]; rfl
  have k1 : κ'.1 (52 + nn f) 1 = 2 := by rw [k, stI_k _ _ _ _ (by decide), stI_k _ _ _ _ (by decide), stI_1]
  have k3 : κ'.1 (52 + nn f) 3 = q := by rw [k, stI_k _ _ _ _ (by decide), stI_1]
  have k4 : κ'.1 (52 + nn f) 4 = nI (nn x) := by rw [k, stI_1]
  have fM : ∀ a, a ≠ 23 ∧ a ≠ 24 → μ'.1 a = μ.1 a := fun a ha => by rw [f1]; unfold rowM; show (stI (stI μ 23 (nn f) (50 + q)) 24 (nn f) x).1 a = _; rw [stI_o _ _ _ _ ha.2, stI_o _ _ _ _ ha.1]
  have gM : ∀ j : Nat, True → μ'.1 0 j = μ.1 0 j := fun j _ => by rw [fM 0 (by decide)]
  have m23 : μ'.1 23 (nn f) = 50 + q := by rw [f1]; unfold rowM; show (stI (stI μ 23 (nn f) (50 + q)) 24 (nn f) x).1 23 (nn f) = _; rw [stI_o _ _ _ _ (by decide), stI_1]
  have m24 : μ'.1 24 (nn f) = x := by rw [f1]; unfold rowM; show (stI (stI μ 23 (nn f) (50 + q)) 24 (nn f) x).1 24 (nn f) = _; rw [stI_1]
  have mo : ∀ s, s ≠ nn f → μ'.1 23 s = μ.1 23 s ∧ μ'.1 24 s = μ.1 24 s := fun s hs => ⟨by rw [f1]; unfold rowM; show (stI (stI μ 23 (nn f) (50 + q)) 24 (nn f) x).1 23 s = _; rw [stI_o _ _ _ _ (by decide), stI_k _ _ _ _ hs], by rw [f1]; unfold rowM; show (stI (stI μ 23 (nn f) (50 + q)) 24 (nn f) x).1 24 s = _; rw [stI_k _ _ _ _ hs, stI_o _ _ _ _ (by decide)]⟩
  have mL : μ'.2.1 25 = clF (μ.2.1 25) (nn f) 60 := by rw [f1]; rfl
  have hs : SR κ' μ' z := by
    refine hS.set hf9 (fun s hs hc => ⟨eC _ (by omega), eL s hc, (mo s hc).1, (mo s hc).2, fun i hi => ?_⟩) ⟨?_, Or.inr (Or.inr ⟨k1, by rw [k3]; exact ⟨c0'.2.1.1, c0'.2.1.2⟩, ?_, ?_, fun i hi => ?_, fun _ i hi => ?_⟩)⟩
    · rw [mL]; unfold clF; rw [if_neg (by omega)]
    · rw [k4]; exact ⟨by rw [nI_c (by omega)]; omega, by rw [nI_c (by omega)]; omega⟩
    · rw [m23, k3, ← nI_add, nI_nn c0'.2.1.1]; rfl
    · rw [m24, k4, nI_nn (by omega)]
    · rw [mL, eLf]; unfold clF fillF; rw [if_pos (by omega), if_pos hi]
    · rw [eLf]; unfold fillF; rw [if_pos hi]; exact ⟨by decide, by decide⟩
  exact ⟨e0.trans f0.symm, RELp.i (n := n) (dn := dn) (u := u) (z := z) (tl := tl) (r := r) (m := m) (c := c) (T := T) (lw := lw) (kp := kp) (im := im) ⟨hM.cg (by rw [eC 1 (by first | decide | omega)]) (fun q a b => eC q (by omega)) (fM 1 (by first | decide | omega)) (gM 6 (by first | decide | omega)), hC.cg (eC 8 (by first | decide | omega)) (fun q a b => eC q (by omega)) (gM 4 (by first | decide | omega)) (gM 5 (by first | decide | omega)) (fun q a b => fM q (by omega)), hB.cg (by rw [eC 9 (by first | decide | omega)]) (eC 36 (by first | decide | omega)) (gM 35 (by first | decide | omega)) (fM 21 (by first | decide | omega)), hs, hT.cg (by rw [eC 0 (by first | decide | omega)]) (eC 3 (by first | decide | omega)) (gM 8 (by first | decide | omega)) (fM 5 (by first | decide | omega)), hL.cg (hL.1.cg (by rw [eC 2 (by omega)]) (by rw [eC 2 (by omega)]) (eC 19 (by omega)) (eC 20 (by omega)) (eC 23 (by omega)) (by rw [eT])) (eC 19 (by omega)) (eC 20 (by omega)) (gM 17 trivial) (fM 7 (by first | decide | omega)) (fM 10 (by first | decide | omega)) (fM 11 (by first | decide | omega)), hD.cg (eC 29 (by first | decide | omega)) (fM 18 (by first | decide | omega)), hTr.cg (by rw [eC 9 (by first | decide | omega)]) (eC 37 (by first | decide | omega)) (gM 38 (by first | decide | omega)) (fM 22 (by first | decide | omega)), hI.cg (eC 7 (by first | decide | omega)) (eC 30 (by first | decide | omega)) (eC 31 (by first | decide | omega)) (gM 31 (by first | decide | omega)) (gM 32 (by first | decide | omega)) (fM 19 (by first | decide | omega)) (fM 20 (by first | decide | omega))⟩⟩
theorem cut_b {x : Int64} : -128 ≤ (cutV 0 x).toInt ∧ (cutV 0 x).toInt ≤ 127 := by
  unfold cutV
  rw [if_pos rfl, Int32.toInt_toInt64, Int8.toInt_toInt32]
  have h1 := Int8.le_toInt (Int64.toInt32 x).toInt8
  have h2 := Int8.toInt_lt (Int64.toInt32 x).toInt8
  omega
theorem op_put (V VM : Vt) (κ μ : Sg) (h : REL V κ μ) (f : Int32) (i : Int32) (x : Int64) : OPi V VM κ μ mX10_put mX11_put [.int f, .int i, .long x] := by
  obtain ⟨n, dn, u, z, tl, r, m, c, T, lw, kp, im, hR⟩ := h
  obtain ⟨hM, hC, hB, hS, hT, hL, hD, hTr, hI⟩ := id hR
  have hQ := hM.q
  refine ⟨_, _, c_X10_put V 67 κ hR.z60 f i x, c_X11_put VM 67 μ κ z hB.1 hS f i x, ?_⟩
  intro v κ' v' μ' h1 h2
  (try dsimp only at h1 h2)
  by_cases c0 : ¬ (0 ≤ f.toInt ∧ f.toInt ≤ 5)
  · rw [if_pos c0] at h1 h2
    exact ⟨h1.1.trans h2.1.symm, hR.mv (by rw [h1.2]; exact SE.rf) (by rw [h1.2]; exact hL.1) (show MO μ μ' from by rw [h2.2]; exact MO.rf)⟩
  rw [if_neg c0] at h1 h2
  by_cases c1 : κ.1 (52 + nn f) 1 = 0
  · rw [if_pos c1] at h1 h2
    exact ⟨h1.1.trans h2.1.symm, hR.mv (by rw [h1.2]; exact SE.rf) (by rw [h1.2]; exact hL.1) (show MO μ μ' from by rw [h2.2]; exact MO.rf)⟩
  rw [if_neg c1] at h1 h2
  by_cases c2 : ¬ κ.1 (52 + nn f) 1 = 2
  · rw [if_pos c2] at h1 h2
    exact ⟨h1.1.trans h2.1.symm, hR.mv (by rw [h1.2]; exact SE.rf) (by rw [h1.2]; exact hL.1) (show MO μ μ' from by rw [h2.2]; exact MO.rf)⟩
  rw [if_neg c2] at h1 h2
  by_cases c3 : ¬ (0 ≤ i.toInt ∧ i.toInt < nn (κ.1 (52 + nn f) 4))
  · rw [if_pos c3] at h1 h2
    exact ⟨h1.1.trans h2.1.symm, hR.mv (by rw [h1.2]; exact SE.rf) (by rw [h1.2]; exact hL.1) (show MO μ μ' from by rw [h2.2]; exact MO.rf)⟩
  rw [if_neg c3] at h1 h2
  have c0' : 0 ≤ f.toInt ∧ f.toInt ≤ 5 := Classical.byContradiction c0
  have c2' : κ.1 (52 + nn f) 1 = 2 := Classical.byContradiction c2
  have c3' : 0 ≤ i.toInt ∧ i.toInt < nn (κ.1 (52 + nn f) 4) := Classical.byContradiction c3
  have hf9 := sh_nn c0'
  have hi9 := nn_int c3'.1
  have hz9 := (hR.z60 (nn f) hf9).le
  obtain ⟨e0, e1⟩ := h1
  obtain ⟨f0, f1⟩ := h2
  have eC : ∀ a : Nat, True → κ'.1 a = κ.1 a := fun a _ => by rw [e1]; rfl
  have eT : κ'.2.2 = κ.2.2 := by rw [e1]; rfl
  have fM : ∀ a : Nat, True → μ'.1 a = μ.1 a := fun a _ => by rw [f1]; rfl
  have gM : ∀ j : Nat, True → μ'.1 0 j = μ.1 0 j := fun j _ => by rw [fM 0 trivial]
  have hs : SR κ' μ' z := by
    have g := hS (nn f) hf9
    have gr := hS.r hf9 c2'
    have gb : κ.1 (52 + nn f) 3 = 0 → ∀ i, i < 60 → -128 ≤ (κ.2.1 (58 + nn f) i).toInt ∧ (κ.2.1 (58 + nn f) i).toInt ≤ 127 := by
      rcases g.2 with g | g | g
      · rw [g.1] at c2'; exact absurd c2' (by decide)
      · rw [g.1] at c2'; exact absurd c2' (by decide)
      · exact g.2.2.2.2.2
    refine hS.set hf9 (fun s hs hc => ⟨eC _ trivial, by rw [e1]; exact stL_o _ _ _ _ (by omega), by rw [fM 23 trivial], by rw [fM 24 trivial], fun j hj => by rw [f1]; exact stL_k _ _ _ _ (by omega)⟩) ?_
    rw [eC (52 + nn f) trivial, fM 23 trivial, fM 24 trivial]
    refine ⟨g.1, Or.inr (Or.inr ⟨c2', gr.2.1, gr.2.2.1, gr.2.2.2.1, fun j hj => ?_, fun h0 j hj => ?_⟩)⟩
    · rw [e1, f1]
      by_cases e : j = nn i
      · subst e; rw [stL_1, stL_1]
      · rw [stL_k _ _ _ _ (by omega), stL_k _ _ _ _ e]; exact gr.2.2.2.2 j hj
    · rw [e1]
      by_cases e : j = nn i
      · subst e; rw [stL_1, h0]; exact cut_b
      · rw [stL_k _ _ _ _ e]; exact gb h0 j hj
  exact ⟨e0.trans f0.symm, RELp.i (n := n) (dn := dn) (u := u) (z := z) (tl := tl) (r := r) (m := m) (c := c) (T := T) (lw := lw) (kp := kp) (im := im) ⟨hM.cg (by rw [eC 1 trivial]) (fun q a b => eC q trivial) (fM 1 trivial) (gM 6 trivial), hC.cg (eC 8 trivial) (fun q a b => eC q trivial) (gM 4 trivial) (gM 5 trivial) (fun q a b => fM q trivial), hB.cg (by rw [eC 9 trivial]) (eC 36 trivial) (gM 35 trivial) (fM 21 trivial), hs, hT.cg (by rw [eC 0 trivial]) (eC 3 trivial) (gM 8 trivial) (fM 5 trivial), hL.cg (hL.1.cg (by rw [eC 2 trivial]) (by rw [eC 2 trivial]) (eC 19 trivial) (eC 20 trivial) (eC 23 trivial) (by rw [eT])) (eC 19 trivial) (eC 20 trivial) (gM 17 trivial) (fM 7 trivial) (fM 10 trivial) (fM 11 trivial), hD.cg (eC 29 trivial) (fM 18 trivial), hTr.cg (by rw [eC 9 trivial]) (eC 37 trivial) (gM 38 trivial) (fM 22 trivial), hI.cg (eC 7 trivial) (eC 30 trivial) (eC 31 trivial) (gM 31 trivial) (gM 32 trivial) (fM 19 trivial) (fM 20 trivial)⟩⟩
theorem op_shift (V VM : Vt) (κ μ : Sg) (h : REL V κ μ) (f : Int32) (i : Int32) (g : Int32) (j : Int32) (x : Int32) : OPi V VM κ μ mX10_shift mX11_shift [.int f, .int i, .int g, .int j, .int x] := by
  obtain ⟨n, dn, u, z, tl, r, m, c, T, lw, kp, im, hR⟩ := h
  obtain ⟨hM, hC, hB, hS, hT, hL, hD, hTr, hI⟩ := id hR
  have hQ := hM.q
  refine ⟨_, _, c_X10_shift V 68 κ hR.z60 f i g j x, c_X11_shift VM 68 μ κ z hB.1 hS f i g j x, ?_⟩
  intro v κ' v' μ' h1 h2
  (try dsimp only at h1 h2)
  by_cases c0 : ¬ ((0 ≤ f.toInt ∧ f.toInt ≤ 5) ∧ (0 ≤ g.toInt ∧ g.toInt ≤ 5))
  · rw [if_pos c0] at h1 h2
    exact ⟨h1.1.trans h2.1.symm, hR.mv (by rw [h1.2]; exact SE.rf) (by rw [h1.2]; exact hL.1) (show MO μ μ' from by rw [h2.2]; exact MO.rf)⟩
  rw [if_neg c0] at h1 h2
  by_cases c1 : (κ.1 (52 + nn f) 1 = 0 ∨ κ.1 (52 + nn g) 1 = 0)
  · rw [if_pos c1] at h1 h2
    exact ⟨h1.1.trans h2.1.symm, hR.mv (by rw [h1.2]; exact SE.rf) (by rw [h1.2]; exact hL.1) (show MO μ μ' from by rw [h2.2]; exact MO.rf)⟩
  rw [if_neg c1] at h1 h2
  by_cases c2 : ¬ (κ.1 (52 + nn f) 1 = 2 ∧ κ.1 (52 + nn g) 1 = 2 ∧ κ.1 (52 + nn f) 3 = κ.1 (52 + nn g) 3)
  · rw [if_pos c2] at h1 h2
    exact ⟨h1.1.trans h2.1.symm, hR.mv (by rw [h1.2]; exact SE.rf) (by rw [h1.2]; exact hL.1) (show MO μ μ' from by rw [h2.2]; exact MO.rf)⟩
  rw [if_neg c2] at h1 h2
  have c0' : (0 ≤ f.toInt ∧ f.toInt ≤ 5) ∧ (0 ≤ g.toInt ∧ g.toInt ≤ 5) := Classical.byContradiction c0
  have c2' : κ.1 (52 + nn f) 1 = 2 ∧ κ.1 (52 + nn g) 1 = 2 ∧ κ.1 (52 + nn f) 3 = κ.1 (52 + nn g) 3 := Classical.byContradiction c2
  have hf9 := sh_nn c0'.1
  have hg9 := sh_nn c0'.2
  by_cases c3 : (plc (nn (κ.1 (52 + nn f) 4)) i x ∧ plc (nn (κ.1 (52 + nn g) 4)) j x)
  · rw [if_neg (fun h => h c3)] at h1 h2
    obtain ⟨p1, p2⟩ := id c3
    unfold plc at p1 p2
    have hi9 := nn_int p1.1
    have hj9 := nn_int p2.1
    have hx9 := nn_int p1.2.1
    have zf := (hR.z60 (nn f) hf9).le
    have zg := (hR.z60 (nn g) hg9).le
    have gf := hS.r hf9 c2'.1
    have gg := hS.r hg9 c2'.2.1
    have gb : ∀ s, s < 6 → κ.1 (52 + s) 1 = 2 → κ.1 (52 + s) 3 = 0 → ∀ i, i < 60 → -128 ≤ (κ.2.1 (58 + s) i).toInt ∧ (κ.2.1 (58 + s) i).toInt ≤ 127 := fun s hs h9 => by
      obtain ⟨-, q | q | q⟩ := hS s hs
      · rw [q.1] at h9; exact absurd h9 (by decide)
      · rw [q.1] at h9; exact absurd h9 (by decide)
      · exact q.2.2.2.2.2
    obtain ⟨e0, e1⟩ := h1
    obtain ⟨f0, f1⟩ := h2
    have eC : ∀ a : Nat, True → κ'.1 a = κ.1 a := fun a _ => by rw [e1]; rfl
    have eT : κ'.2.2 = κ.2.2 := by rw [e1]; rfl
    have fM : ∀ a : Nat, True → μ'.1 a = μ.1 a := fun a _ => by rw [f1]; rfl
    have gM : ∀ j : Nat, True → μ'.1 0 j = μ.1 0 j := fun j _ => by rw [fM 0 trivial]
    have eL : ∀ s, s ≠ nn g → κ'.2.1 (58 + s) = κ.2.1 (58 + s) := fun s hs => by rw [e1]; unfold stRL; show va_up κ.2.1 (58 + nn g) _ (58 + s) = _; unfold va_up; rw [if_neg (by omega)]
    have eLg : κ'.2.1 (58 + nn g) = va_cpy (κ.2.1 (58 + nn f)) (κ.2.1 (58 + nn g)) (nn i) (nn j) (nn x) := by rw [e1]; unfold stRL; show va_up _ (58 + nn g) _ (58 + nn g) = _; unfold va_up; rw [if_pos rfl]
    have mL : μ'.2.1 25 = shF (μ.2.1 25) (60 * nn f + nn i) (60 * nn g + nn j) (nn x) := by rw [f1]; rfl
    have hs : SR κ' μ' z := by
      refine hS.set hg9 (fun s hs hc => ⟨eC _ trivial, eL s hc, by rw [fM 23 trivial], by rw [fM 24 trivial], fun p hp => by rw [mL]; unfold shF; rw [if_neg (by omega)]⟩) ?_
      rw [eC (52 + nn g) trivial, fM 23 trivial, fM 24 trivial]
      refine ⟨(hS (nn g) hg9).1, Or.inr (Or.inr ⟨c2'.2.1, gg.2.1, gg.2.2.1, gg.2.2.2.1, fun p hp => ?_, fun h0 p hp => ?_⟩)⟩
      · rw [mL, eLg]
        unfold shF va_cpy
        by_cases e : nn j ≤ p ∧ p < nn j + nn x
        · rw [if_pos (by omega), if_pos e, show 60 * nn f + nn i + (60 * nn g + p - (60 * nn g + nn j)) = 60 * nn f + (nn i + (p - nn j)) by omega]
          exact gf.2.2.2.2 _ (by omega)
        · rw [if_neg (by omega), if_neg e]
          exact gg.2.2.2.2 p hp
      · rw [eLg]
        unfold va_cpy
        by_cases e : nn j ≤ p ∧ p < nn j + nn x
        · rw [if_pos e]; exact gb (nn f) hf9 c2'.1 (c2'.2.2.trans h0) _ (by omega)
        · rw [if_neg e]; exact gb (nn g) hg9 c2'.2.1 h0 p hp
    exact ⟨e0.trans f0.symm, RELp.i (n := n) (dn := dn) (u := u) (z := z) (tl := tl) (r := r) (m := m) (c := c) (T := T) (lw := lw) (kp := kp) (im := im) ⟨hM.cg (by rw [eC 1 trivial]) (fun q a b => eC q trivial) (fM 1 trivial) (gM 6 trivial), hC.cg (eC 8 trivial) (fun q a b => eC q trivial) (gM 4 trivial) (gM 5 trivial) (fun q a b => fM q trivial), hB.cg (by rw [eC 9 trivial]) (eC 36 trivial) (gM 35 trivial) (fM 21 trivial), hs, hT.cg (by rw [eC 0 trivial]) (eC 3 trivial) (gM 8 trivial) (fM 5 trivial), hL.cg (hL.1.cg (by rw [eC 2 trivial]) (by rw [eC 2 trivial]) (eC 19 trivial) (eC 20 trivial) (eC 23 trivial) (by rw [eT])) (eC 19 trivial) (eC 20 trivial) (gM 17 trivial) (fM 7 trivial) (fM 10 trivial) (fM 11 trivial), hD.cg (eC 29 trivial) (fM 18 trivial), hTr.cg (by rw [eC 9 trivial]) (eC 37 trivial) (gM 38 trivial) (fM 22 trivial), hI.cg (eC 7 trivial) (eC 30 trivial) (eC 31 trivial) (gM 31 trivial) (gM 32 trivial) (fM 19 trivial) (fM 20 trivial)⟩⟩
  · rw [if_pos c3] at h1 h2
    exact ⟨h1.1.trans h2.1.symm, hR.mv (by rw [h1.2]; exact SE.rf) (by rw [h1.2]; exact hL.1) (show MO μ μ' from by rw [h2.2]; exact MO.rf)⟩

theorem shq_v {f : Nat → Int32} {p : Nat} (hp : p < 39) : shq f p = f (p + 1) := by
  unfold shq va_cpy
  rw [if_pos (by omega), show 1 + (p - 0) = p + 1 by omega]
theorem shk_v {f : Nat → Int32} {p : Nat} (hp : p < 39) : shk f 40 p = f (p + 1) := if_pos (by omega)
/-- what one more change kept makes -/
theorem CR_rem {κ μ τ : Sg} {n dn u e : Nat} {b q v x : Int32} (ht : hasC n b q) (hv : isSoC q v) (hx : isSoC q x) (he : e < 40) (κ0 μ0 : Sg) (hp : ∀ p, p < e → hasC n (κ0.1 32 p) (κ0.1 33 p) ∧ isSoC (κ0.1 33 p) (κ0.1 34 p) ∧ isSoC (κ0.1 33 p) (κ0.1 35 p) ∧ μ0.1 2 p = nI (pm (κ0.1 32 p) (κ0.1 33 p)) ∧ μ0.1 3 p = κ0.1 34 p ∧ μ0.1 4 p = κ0.1 35 p) (κ' μ' : Sg) (c8 : κ'.1 8 = (remQ κ0 e b q v x).1 8) (c : ∀ a, 32 ≤ a → a ≤ 35 → κ'.1 a = (remQ κ0 e b q v x).1 a) (d5 : μ'.1 0 5 = nI (e + 1)) (d4 : μ'.1 0 4 = nI (e + 1)) (d2 : μ'.1 2 = (stI μ0 2 e (nI (pm b q))).1 2) (d3 : μ'.1 3 = (stI μ0 3 e v).1 3) (d6 : μ'.1 4 = (stI μ0 4 e x).1 4) : CR κ' μ' n (e + 1) 0 := by
  refine ⟨by omega, ?_, ?_, d5, d4, fun p hlt => ?_⟩
  · rw [c8]; unfold remQ; rw [stI_k _ _ _ _ (by decide), stI_1]
  · rw [c8]; unfold remQ; rw [stI_1]; rfl
  · have k32 : κ'.1 32 p = (stI κ0 32 e b).1 32 p := by rw [c 32 (by decide) (by decide)]; unfold remQ; rw [stI_o _ _ _ _ (by decide), stI_o _ _ _ _ (by decide), stI_o _ _ _ _ (by decide), stI_o _ _ _ _ (by decide), stI_o _ _ _ _ (by decide)]
    have k33 : κ'.1 33 p = (stI κ0 33 e q).1 33 p := by
      rw [c 33 (by decide) (by decide)]; unfold remQ; rw [stI_o _ _ _ _ (by decide), stI_o _ _ _ _ (by decide), stI_o _ _ _ _ (by decide), stI_o _ _ _ _ (by decide)]
      by_cases e9 : p = e
      · subst e9; rw [stI_1, stI_1]
      · rw [stI_k _ _ _ _ e9, stI_k _ _ _ _ e9, stI_o _ _ _ _ (by decide)]
    have k34 : κ'.1 34 p = (stI κ0 34 e v).1 34 p := by
      rw [c 34 (by decide) (by decide)]; unfold remQ; rw [stI_o _ _ _ _ (by decide), stI_o _ _ _ _ (by decide), stI_o _ _ _ _ (by decide)]
      by_cases e9 : p = e
      · subst e9; rw [stI_1, stI_1]
      · rw [stI_k _ _ _ _ e9, stI_k _ _ _ _ e9, stI_o _ _ _ _ (by decide), stI_o _ _ _ _ (by decide)]
    have k35 : κ'.1 35 p = (stI κ0 35 e x).1 35 p := by
      rw [c 35 (by decide) (by decide)]; unfold remQ; rw [stI_o _ _ _ _ (by decide), stI_o _ _ _ _ (by decide)]
      by_cases e9 : p = e
      · subst e9; rw [stI_1, stI_1]
      · rw [stI_k _ _ _ _ e9, stI_k _ _ _ _ e9, stI_o _ _ _ _ (by decide), stI_o _ _ _ _ (by decide), stI_o _ _ _ _ (by decide)]
    rw [k32, k33, k34, k35, d2, d3, d6]
    by_cases e9 : p = e
    · subst e9
      rw [stI_1, stI_1, stI_1, stI_1, stI_1, stI_1, stI_1]
      exact ⟨ht, hv, hx, rfl, rfl, rfl⟩
    · rw [stI_k _ _ _ _ e9, stI_k _ _ _ _ e9, stI_k _ _ _ _ e9, stI_k _ _ _ _ e9, stI_k _ _ _ _ e9, stI_k _ _ _ _ e9, stI_k _ _ _ _ e9]
      exact hp p (by omega)
theorem remQ_o {κ : Sg} {e : Nat} {b q v x : Int32} {a : Nat} (h : a ≠ 8 ∧ ¬ (32 ≤ a ∧ a ≤ 35)) : (remQ κ e b q v x).1 a = κ.1 a := by
  unfold remQ
  rw [stI_o _ _ _ _ h.1, stI_o _ _ _ _ h.1, stI_o _ _ _ _ (by omega), stI_o _ _ _ _ (by omega), stI_o _ _ _ _ (by omega), stI_o _ _ _ _ (by omega)]
theorem fgtQ_o {κ : Sg} {a : Nat} (h : a ≠ 8 ∧ ¬ (32 ≤ a ∧ a ≤ 35)) : (fgtQ κ).1 a = κ.1 a := by
  unfold fgtQ
  rw [stR_o _ _ _ (by omega), stR_o _ _ _ (by omega), stR_o _ _ _ (by omega), stR_o _ _ _ (by omega), stI_o _ _ _ _ h.1]
theorem bcT_o {μ : Sg} {e w : Nat} {v x : Int32} {a : Nat} (h : a ≠ 0 ∧ a ≠ 1 ∧ a ≠ 2 ∧ a ≠ 3 ∧ a ≠ 4) : (bcT μ e w v x).1 a = μ.1 a := by
  unfold bcT
  rw [stI_o _ _ _ _ h.2.1, stI_o _ _ _ _ h.1, stI_o _ _ _ _ h.1, stI_o _ _ _ _ h.2.2.2.2, stI_o _ _ _ _ h.2.2.2.1, stI_o _ _ _ _ h.2.2.1]
theorem bcT_0 {μ : Sg} {e w : Nat} {v x : Int32} {j : Nat} (h : j ≠ 4 ∧ j ≠ 5) : (bcT μ e w v x).1 0 j = μ.1 0 j := by
  unfold bcT
  rw [stI_o _ _ _ _ (by decide), stI_k _ _ _ _ h.1, stI_k _ _ _ _ h.2, stI_o _ _ _ _ (by decide), stI_o _ _ _ _ (by decide), stI_o _ _ _ _ (by decide)]
theorem bcT_s {μ : Sg} {e w : Nat} {v x : Int32} : (bcT μ e w v x).1 0 5 = nI (e + 1) ∧ (bcT μ e w v x).1 0 4 = nI (e + 1) ∧ (bcT μ e w v x).1 2 = (stI μ 2 e (nI w)).1 2 ∧ (bcT μ e w v x).1 3 = (stI μ 3 e v).1 3 ∧ (bcT μ e w v x).1 4 = (stI μ 4 e x).1 4 := by
  unfold bcT
  refine ⟨by rw [stI_o _ _ _ _ (by decide), stI_k _ _ _ _ (by decide), stI_1], by rw [stI_o _ _ _ _ (by decide), stI_1], by rw [stI_o _ _ _ _ (by decide), stI_o _ _ _ _ (by decide), stI_o _ _ _ _ (by decide), stI_o _ _ _ _ (by decide), stI_o _ _ _ _ (by decide)], ?_, ?_⟩
  · rw [stI_o _ _ _ _ (by decide), stI_o _ _ _ _ (by decide), stI_o _ _ _ _ (by decide), stI_o _ _ _ _ (by decide)]
    funext j
    by_cases e9 : j = e
    · subst e9; rw [stI_1, stI_1]
    · rw [stI_k _ _ _ _ e9, stI_k _ _ _ _ e9, stI_o _ _ _ _ (by decide)]
  · rw [stI_o _ _ _ _ (by decide), stI_o _ _ _ _ (by decide), stI_o _ _ _ _ (by decide)]
    funext j
    by_cases e9 : j = e
    · subst e9; rw [stI_1, stI_1]
    · rw [stI_k _ _ _ _ e9, stI_k _ _ _ _ e9, stI_o _ _ _ _ (by decide), stI_o _ _ _ _ (by decide)]
theorem stI_1f {μ μ' : Sg} (h : μ'.1 1 = μ.1 1) (k : Nat) (v : Int32) : (stI μ' 1 k v).1 1 = (stI μ 1 k v).1 1 := by
  funext j
  by_cases e : j = k
  · subst e; rw [stI_1, stI_1]
  · rw [stI_k _ _ _ _ e, stI_k _ _ _ _ e, h]
theorem isSo_now {κ : Sg} {n : Nat} {b q : Int32} (h : QI κ n) (hc : hasC n b q) : isSoC q (κ.1 (numId q) (nn b)) := by
  obtain ⟨h1, h2, q1, q2, q3, q4, q5, q6, q7, q8⟩ := h
  obtain ⟨a, b1, c⟩ := hasC_N h1 hc
  have e1 := nn_int hc.1
  rw [c]
  refine ⟨hc.1, hc.2.1, ?_⟩
  have hk : nn q = 0 ∨ nn q = 1 ∨ nn q = 2 ∨ nn q = 3 ∨ nn q = 4 ∨ nn q = 5 ∨ nn q = 6 ∨ nn q = 7 := by omega
  rcases hk with e | e | e | e | e | e | e | e <;> rw [e] at b1 ⊢
  · exact ⟨(q1 _ b1).1, (q1 _ b1).2⟩
  · exact ⟨(q2 _ b1).1, (q2 _ b1).2⟩
  · exact ⟨(q3 _ b1).1, (q3 _ b1).2⟩
  · exact ⟨(q4 _ b1).1, (q4 _ b1).2⟩
  · exact ⟨(q5 _ b1).1, (q5 _ b1).2⟩
  · exact ⟨(q6 _ b1).1, (q6 _ b1).2⟩
  · exact ⟨(q7 _ b1).1, (q7 _ b1).2⟩
  · have b2 : nn b < 1 := b1
    rw [show nn b = 0 by omega]
    exact ⟨q8.1, q8.2⟩
theorem op_mend (V VM : Vt) (κ μ : Sg) (h : REL V κ μ) (b : Int32) (q : Int32) (x : Int32) : OPi V VM κ μ mX10_mend mX11_mend [.int b, .int q, .int x] := by
  obtain ⟨n, dn, u, z, tl, r, m, c, T, lw, kp, im, hR⟩ := h
  obtain ⟨hM, hC, hB, hS, hT, hL, hD, hTr, hI⟩ := id hR
  have hQ := hM.q
  refine ⟨_, _, c_X10_mend V 67 κ n hQ dn (by have := hC.1; omega) hC.2.1 b q x, c_X11_mend VM 66 μ κ n hM dn (by have := hC.1; omega) hC.2.2.2.1 b q x, ?_⟩
  intro v κ' v' μ' h1 h2
  (try dsimp only at h1 h2)
  have hgo : ∀ dn9 u9 : Nat, (∀ a, a ≠ 8 ∧ ¬ (32 ≤ a ∧ a ≤ 35) ∧ ¬ (11 ≤ a ∧ a ≤ 18) → κ'.1 a = κ.1 a) → κ'.2 = κ.2 → (∀ a, a ≠ 0 ∧ a ≠ 1 ∧ a ≠ 2 ∧ a ≠ 3 ∧ a ≠ 4 → μ'.1 a = μ.1 a) → μ'.2 = μ.2 → (∀ j, j ≠ 4 ∧ j ≠ 5 → μ'.1 0 j = μ.1 0 j) → MR κ' μ' n → CR κ' μ' n dn9 u9 → REL V κ' μ' := fun dn9 u9 eC eC2 fM fM2 gM hm9 hc9 => RELp.i (n := n) (dn := dn9) (u := u9) (z := z) (tl := tl) (r := r) (m := m) (c := c) (T := T) (lw := lw) (kp := kp) (im := im) ⟨hm9, hc9, hB.cg (by rw [eC 9 (by decide)]) (eC 36 (by decide)) (gM 35 (by decide)) (fM 21 (by decide)), hS.cg (fun s hs => eC _ (by omega)) (fun s hs => by rw [eC2]) (fM 23 (by decide)) (fM 24 (by decide)) (by rw [fM2]), hT.cg (by rw [eC 0 (by decide)]) (eC 3 (by decide)) (gM 8 (by decide)) (fM 5 (by decide)), hL.cg (hL.1.cg (by rw [eC 2 (by decide)]) (by rw [eC 2 (by decide)]) (eC 19 (by decide)) (eC 20 (by decide)) (eC 23 (by decide)) (by rw [eC2])) (eC 19 (by decide)) (eC 20 (by decide)) (gM 17 (by decide)) (fM 7 (by decide)) (fM 10 (by decide)) (fM 11 (by decide)), hD.cg (eC 29 (by decide)) (fM 18 (by decide)), hTr.cg (by rw [eC 9 (by decide)]) (eC 37 (by decide)) (gM 38 (by decide)) (fM 22 (by decide)), hI.cg (eC 7 (by decide)) (eC 30 (by decide)) (eC 31 (by decide)) (gM 31 (by decide)) (gM 32 (by decide)) (fM 19 (by decide)) (fM 20 (by decide))⟩
  by_cases c0 : hasC n b q ∧ isSoC q x
  · obtain ⟨e0, ea, eb⟩ := h1.2 c0
    obtain ⟨f0, fa, fb⟩ := h2.2 c0
    by_cases c1 : (κ.1 (numId q) (nn b)) = x
    · exact ⟨e0.trans f0.symm, hR.mv (by rw [ea c1]; exact SE.rf) (by rw [ea c1]; exact hL.1) (by rw [fa c1]; exact MO.rf)⟩
    refine ⟨e0.trans f0.symm, ?_⟩
    have e1 := eb c1
    have fb := fb c1
    obtain ⟨n1, n2, n3⟩ := hasC_N hM.n c0.1
    have hv : isSoC q (κ.1 (numId q) (nn b)) := isSo_now hQ c0.1
    have hdn : dn + u ≤ 40 := hC.1
    have hid : 11 ≤ numId q ∧ numId q ≤ 18 := by rw [n3]; omega
    by_cases c2 : dn < 40
    · have f1 := fb.1 c2
      unfold rembQ at e1
      rw [if_pos c2] at e1
      have hs := bcT_s (μ := μ) (e := dn) (w := pm b q) (v := (κ.1 (numId q) (nn b))) (x := x)
      have hkc : ∀ a, ¬ (11 ≤ a ∧ a ≤ 18) → κ'.1 a = (remQ κ dn b q (κ.1 (numId q) (nn b)) x).1 a := fun a ha => by rw [e1, stI_o _ _ _ _ (by omega)]
      refine hgo (dn + 1) 0 (fun a ha => ?_) (by rw [e1]; rfl) (fun a ha => by rw [f1]; exact bcT_o ha) (by rw [f1]; rfl) (fun j hj => by rw [f1]; exact bcT_0 hj) ?_ ?_
      · rw [hkc a ha.2.2, remQ_o ⟨ha.1, ha.2.1⟩]
      · have hm1 : MR (remQ κ dn b q (κ.1 (numId q) (nn b)) x) μ n := hM.cg (by rw [remQ_o (by decide)]) (fun a ha hb => remQ_o (by omega)) rfl rfl
        have hm2 := MR_bec hm1 c0.1 c0.2
        rw [← e1] at hm2
        exact MR_o hm2 (by rw [f1]; unfold bcT; exact stI_1f (by rw [stI_o _ _ _ _ (by decide), stI_o _ _ _ _ (by decide), stI_o _ _ _ _ (by decide), stI_o _ _ _ _ (by decide), stI_o _ _ _ _ (by decide)]) _ _) (by rw [f1, bcT_0 (by decide), stI_o _ _ _ _ (by decide)])
      · refine CR_rem (τ := μ) (κ := κ) (μ := μ) (dn := dn) (u := u) c0.1 hv c0.2 c2 κ μ (fun p hp => hC.2.2.2.2.2 p (by omega)) κ' μ' (hkc 8 (by decide)) (fun a h5 h6 => hkc a (by omega)) ?_ ?_ ?_ ?_ ?_
        · rw [f1]; exact hs.1
        · rw [f1]; exact hs.2.1
        · rw [f1]; exact hs.2.2.1
        · rw [f1]; exact hs.2.2.2.1
        · rw [f1]; exact hs.2.2.2.2
    · obtain ⟨τ, t1, f1⟩ := fb.2 c2
      have hd40 : dn = 40 := by omega
      have hu0 : u = 0 := by omega
      unfold rembQ at e1
      rw [if_neg c2] at e1
      have hs := bcT_s (μ := stI τ 0 5 39) (e := 39) (w := pm b q) (v := (κ.1 (numId q) (nn b))) (x := x)
      have hkc : ∀ a, ¬ (11 ≤ a ∧ a ≤ 18) → κ'.1 a = (remQ (fgtQ κ) 39 b q (κ.1 (numId q) (nn b)) x).1 a := fun a ha => by rw [e1, stI_o _ _ _ _ (by omega)]
      refine hgo 40 0 (fun a ha => ?_) (by rw [e1]; rfl) (fun a ha => ?_) ?_ (fun j hj => ?_) ?_ ?_
      · rw [hkc a ha.2.2, remQ_o ⟨ha.1, ha.2.1⟩, fgtQ_o ⟨ha.1, ha.2.1⟩]
      · rw [f1, bcT_o ha, stI_o _ _ _ _ ha.1]; exact t1.1 a ha.2.2.1 ha.2.2.2.1 ha.2.2.2.2
      · rw [f1]; exact t1.2.1
      · rw [f1, bcT_0 hj, stI_k _ _ _ _ hj.2, t1.1 0 (by decide) (by decide) (by decide)]
      · have hm1 : MR (remQ (fgtQ κ) 39 b q (κ.1 (numId q) (nn b)) x) μ n := hM.cg (by rw [remQ_o (by decide), fgtQ_o (by decide)]) (fun a ha hb => by rw [remQ_o (by omega), fgtQ_o (by omega)]) rfl rfl
        have hm2 := MR_bec hm1 c0.1 c0.2
        rw [← e1] at hm2
        exact MR_o hm2 (by rw [f1]; unfold bcT; exact stI_1f (by rw [stI_o _ _ _ _ (by decide), stI_o _ _ _ _ (by decide), stI_o _ _ _ _ (by decide), stI_o _ _ _ _ (by decide), stI_o _ _ _ _ (by decide), stI_o _ _ _ _ (by decide), t1.1 1 (by decide) (by decide) (by decide)]) _ _) (by rw [f1, bcT_0 (by decide), stI_k _ _ _ _ (by decide), t1.1 0 (by decide) (by decide) (by decide), stI_o _ _ _ _ (by decide)])
      · refine CR_rem (τ := μ) (κ := κ) (μ := μ) (dn := dn) (u := u) c0.1 hv c0.2 (by decide) (fgtQ κ) (stI τ 0 5 39) (fun p hp => ?_) κ' μ' (hkc 8 (by decide)) (fun a h5 h6 => hkc a (by omega)) ?_ ?_ ?_ ?_ ?_
        · have h9 := hC.2.2.2.2.2 (p + 1) (by omega)
          have k32 : (fgtQ κ).1 32 p = κ.1 32 (p + 1) := by unfold fgtQ; rw [stR_o _ _ _ (by decide), stR_o _ _ _ (by decide), stR_o _ _ _ (by decide), stR_1]; exact shq_v hp
          have k33 : (fgtQ κ).1 33 p = κ.1 33 (p + 1) := by unfold fgtQ; rw [stR_o _ _ _ (by decide), stR_o _ _ _ (by decide), stR_1]; exact shq_v hp
          have k34 : (fgtQ κ).1 34 p = κ.1 34 (p + 1) := by unfold fgtQ; rw [stR_o _ _ _ (by decide), stR_1]; exact shq_v hp
          have k35 : (fgtQ κ).1 35 p = κ.1 35 (p + 1) := by unfold fgtQ; rw [stR_1]; exact shq_v hp
          have m2 : (stI τ 0 5 39).1 2 p = μ.1 2 (p + 1) := by rw [stI_o _ _ _ _ (by decide), t1.2.2.1]; exact shk_v hp
          have m3 : (stI τ 0 5 39).1 3 p = μ.1 3 (p + 1) := by rw [stI_o _ _ _ _ (by decide), t1.2.2.2.1]; exact shk_v hp
          have m4 : (stI τ 0 5 39).1 4 p = μ.1 4 (p + 1) := by rw [stI_o _ _ _ _ (by decide), t1.2.2.2.2]; exact shk_v hp
          rw [k32, k33, k34, k35, m2, m3, m4]
          exact h9
        · rw [f1]; exact hs.1
        · rw [f1]; exact hs.2.1
        · rw [f1]; exact hs.2.2.1
        · rw [f1]; exact hs.2.2.2.1
        · rw [f1]; exact hs.2.2.2.2
  · obtain ⟨e0, e1⟩ := h1.1 c0
    obtain ⟨f0, f1⟩ := h2.1 c0
    exact ⟨e0.trans f0.symm, hR.mv (by rw [e1]; exact SE.rf) (by rw [e1]; exact hL.1) (by rw [f1]; exact MO.rf)⟩
theorem op_undo (V VM : Vt) (κ μ : Sg) (h : REL V κ μ) : OPi V VM κ μ mX10_undo mX11_undo [] := by
  obtain ⟨n, dn, u, z, tl, r, m, c, T, lw, kp, im, hR⟩ := h
  obtain ⟨hM, hC, hB, hS, hT, hL, hD, hTr, hI⟩ := id hR
  have hQ := hM.q
  refine ⟨_, _, c_X10_undo V 66 κ n hQ dn u hC.1 hC.2.1 hC.2.2.1 (fun p hp => ⟨(hC.2.2.2.2.2 p hp).1, (hC.2.2.2.2.2 p hp).2.1, (hC.2.2.2.2.2 p hp).2.2.1⟩), c_X11_undo VM 70 μ κ n hM dn u hC, ?_⟩
  intro v κ' v' μ' h1 h2
  (try dsimp only at h1 h2)
  have hgo : ∀ dn9 u9 : Nat, (∀ a, a ≠ 8 ∧ ¬ (32 ≤ a ∧ a ≤ 35) ∧ ¬ (11 ≤ a ∧ a ≤ 18) → κ'.1 a = κ.1 a) → κ'.2 = κ.2 → (∀ a, a ≠ 0 ∧ a ≠ 1 ∧ a ≠ 2 ∧ a ≠ 3 ∧ a ≠ 4 → μ'.1 a = μ.1 a) → μ'.2 = μ.2 → (∀ j, j ≠ 4 ∧ j ≠ 5 → μ'.1 0 j = μ.1 0 j) → MR κ' μ' n → CR κ' μ' n dn9 u9 → REL V κ' μ' := fun dn9 u9 eC eC2 fM fM2 gM hm9 hc9 => RELp.i (n := n) (dn := dn9) (u := u9) (z := z) (tl := tl) (r := r) (m := m) (c := c) (T := T) (lw := lw) (kp := kp) (im := im) ⟨hm9, hc9, hB.cg (by rw [eC 9 (by decide)]) (eC 36 (by decide)) (gM 35 (by decide)) (fM 21 (by decide)), hS.cg (fun s hs => eC _ (by omega)) (fun s hs => by rw [eC2]) (fM 23 (by decide)) (fM 24 (by decide)) (by rw [fM2]), hT.cg (by rw [eC 0 (by decide)]) (eC 3 (by decide)) (gM 8 (by decide)) (fM 5 (by decide)), hL.cg (hL.1.cg (by rw [eC 2 (by decide)]) (by rw [eC 2 (by decide)]) (eC 19 (by decide)) (eC 20 (by decide)) (eC 23 (by decide)) (by rw [eC2])) (eC 19 (by decide)) (eC 20 (by decide)) (gM 17 (by decide)) (fM 7 (by decide)) (fM 10 (by decide)) (fM 11 (by decide)), hD.cg (eC 29 (by decide)) (fM 18 (by decide)), hTr.cg (by rw [eC 9 (by decide)]) (eC 37 (by decide)) (gM 38 (by decide)) (fM 22 (by decide)), hI.cg (eC 7 (by decide)) (eC 30 (by decide)) (eC 31 (by decide)) (gM 31 (by decide)) (gM 32 (by decide)) (fM 19 (by decide)) (fM 20 (by decide))⟩
  by_cases c0 : dn = 0
  · rw [if_pos c0] at h1 h2
    exact ⟨h1.1.trans h2.1.symm, hR.mv (by rw [h1.2]; exact SE.rf) (by rw [h1.2]; exact hL.1) (show MO μ μ' from by rw [h2.2]; exact MO.rf)⟩
  rw [if_neg c0] at h1 h2
  obtain ⟨e0, e1⟩ := h1
  obtain ⟨f0, f1⟩ := h2
  refine ⟨e0.trans f0.symm, ?_⟩
  have hen := hC.2.2.2.2.2 (dn - 1) (by omega)
  obtain ⟨n1, n2, n3⟩ := hasC_N hM.n hen.1
  unfold undQ at e1
  unfold undM at f1
  have hkc : ∀ a, a ≠ 8 ∧ ¬ (11 ≤ a ∧ a ≤ 18) → κ'.1 a = κ.1 a := fun a ha => by rw [e1, stI_o _ _ _ _ (by omega), stI_o _ _ _ _ ha.1, stI_o _ _ _ _ ha.1]
  have hk8 : κ'.1 8 = (stI (stI κ 8 5 (nI (dn - 1))) 8 6 (nI (u + 1))).1 8 := by rw [e1, stI_o _ _ _ _ (by omega)]
  have hmc : ∀ a, a ≠ 0 ∧ a ≠ 1 → μ'.1 a = μ.1 a := fun a ha => by rw [f1, stI_o _ _ _ _ ha.2, stI_o _ _ _ _ ha.1]
  refine hgo (dn - 1) (u + 1) (fun a ha => hkc a ⟨ha.1, ha.2.2⟩) (by rw [e1]; rfl) (fun a ha => hmc a ⟨ha.1, ha.2.1⟩) (by rw [f1]; rfl) (fun j hj => by rw [f1, stI_o _ _ _ _ (by decide), stI_k _ _ _ _ hj.2]) ?_ ⟨by have := hC.1; omega, ?_, ?_, ?_, ?_, fun p hp => ?_⟩
  · have hm1 : MR (stI (stI κ 8 5 (nI (dn - 1))) 8 6 (nI (u + 1))) (stI μ 0 5 (nI (dn - 1))) n := hM.cg (by rw [stI_o _ _ _ _ (by decide), stI_o _ _ _ _ (by decide)]) (fun a ha hb => by rw [stI_o _ _ _ _ (by omega), stI_o _ _ _ _ (by omega)]) (by rw [stI_o _ _ _ _ (by decide)]) (by rw [stI_k _ _ _ _ (by decide)])
    have hm2 := MR_bec hm1 hen.1 hen.2.1
    rw [← e1, ← f1] at hm2
    exact hm2
  · rw [hk8, stI_k _ _ _ _ (by decide), stI_1]
  · rw [hk8, stI_1]
  · rw [f1, stI_o _ _ _ _ (by decide), stI_1]
  · rw [f1, stI_o _ _ _ _ (by decide), stI_k _ _ _ _ (by decide), hC.2.2.2.2.1, show dn - 1 + (u + 1) = dn + u by omega]
  · rw [hkc 32 (by decide), hkc 33 (by decide), hkc 34 (by decide), hkc 35 (by decide), hmc 2 (by decide), hmc 3 (by decide), hmc 4 (by decide)]
    exact hC.2.2.2.2.2 p (by omega)
theorem op_redo (V VM : Vt) (κ μ : Sg) (h : REL V κ μ) : OPi V VM κ μ mX10_redo mX11_redo [] := by
  obtain ⟨n, dn, u, z, tl, r, m, c, T, lw, kp, im, hR⟩ := h
  obtain ⟨hM, hC, hB, hS, hT, hL, hD, hTr, hI⟩ := id hR
  have hQ := hM.q
  refine ⟨_, _, c_X10_redo V 66 κ n hQ dn u hC.1 hC.2.1 hC.2.2.1 (fun p hp => ⟨(hC.2.2.2.2.2 p hp).1, (hC.2.2.2.2.2 p hp).2.1, (hC.2.2.2.2.2 p hp).2.2.1⟩), c_X11_redo VM 70 μ κ n hM dn u hC, ?_⟩
  intro v κ' v' μ' h1 h2
  (try dsimp only at h1 h2)
  have hgo : ∀ dn9 u9 : Nat, (∀ a, a ≠ 8 ∧ ¬ (32 ≤ a ∧ a ≤ 35) ∧ ¬ (11 ≤ a ∧ a ≤ 18) → κ'.1 a = κ.1 a) → κ'.2 = κ.2 → (∀ a, a ≠ 0 ∧ a ≠ 1 ∧ a ≠ 2 ∧ a ≠ 3 ∧ a ≠ 4 → μ'.1 a = μ.1 a) → μ'.2 = μ.2 → (∀ j, j ≠ 4 ∧ j ≠ 5 → μ'.1 0 j = μ.1 0 j) → MR κ' μ' n → CR κ' μ' n dn9 u9 → REL V κ' μ' := fun dn9 u9 eC eC2 fM fM2 gM hm9 hc9 => RELp.i (n := n) (dn := dn9) (u := u9) (z := z) (tl := tl) (r := r) (m := m) (c := c) (T := T) (lw := lw) (kp := kp) (im := im) ⟨hm9, hc9, hB.cg (by rw [eC 9 (by decide)]) (eC 36 (by decide)) (gM 35 (by decide)) (fM 21 (by decide)), hS.cg (fun s hs => eC _ (by omega)) (fun s hs => by rw [eC2]) (fM 23 (by decide)) (fM 24 (by decide)) (by rw [fM2]), hT.cg (by rw [eC 0 (by decide)]) (eC 3 (by decide)) (gM 8 (by decide)) (fM 5 (by decide)), hL.cg (hL.1.cg (by rw [eC 2 (by decide)]) (by rw [eC 2 (by decide)]) (eC 19 (by decide)) (eC 20 (by decide)) (eC 23 (by decide)) (by rw [eC2])) (eC 19 (by decide)) (eC 20 (by decide)) (gM 17 (by decide)) (fM 7 (by decide)) (fM 10 (by decide)) (fM 11 (by decide)), hD.cg (eC 29 (by decide)) (fM 18 (by decide)), hTr.cg (by rw [eC 9 (by decide)]) (eC 37 (by decide)) (gM 38 (by decide)) (fM 22 (by decide)), hI.cg (eC 7 (by decide)) (eC 30 (by decide)) (eC 31 (by decide)) (gM 31 (by decide)) (gM 32 (by decide)) (fM 19 (by decide)) (fM 20 (by decide))⟩
  by_cases c0 : u = 0
  · rw [if_pos c0] at h1 h2
    exact ⟨h1.1.trans h2.1.symm, hR.mv (by rw [h1.2]; exact SE.rf) (by rw [h1.2]; exact hL.1) (show MO μ μ' from by rw [h2.2]; exact MO.rf)⟩
  rw [if_neg c0] at h1 h2
  obtain ⟨e0, e1⟩ := h1
  obtain ⟨f0, f1⟩ := h2
  refine ⟨e0.trans f0.symm, ?_⟩
  have hen := hC.2.2.2.2.2 dn (by omega)
  obtain ⟨n1, n2, n3⟩ := hasC_N hM.n hen.1
  unfold rdoQ at e1
  unfold rdoM at f1
  have hkc : ∀ a, a ≠ 8 ∧ ¬ (11 ≤ a ∧ a ≤ 18) → κ'.1 a = κ.1 a := fun a ha => by rw [e1, stI_o _ _ _ _ ha.1, stI_o _ _ _ _ ha.1, stI_o _ _ _ _ (by omega)]
  have hmc : ∀ a, a ≠ 0 ∧ a ≠ 1 → μ'.1 a = μ.1 a := fun a ha => by rw [f1, stI_o _ _ _ _ ha.1, stI_o _ _ _ _ ha.2]
  refine hgo (dn + 1) (u - 1) (fun a ha => hkc a ⟨ha.1, ha.2.2⟩) (by rw [e1]; rfl) (fun a ha => hmc a ⟨ha.1, ha.2.1⟩) (by rw [f1]; rfl) (fun j hj => by rw [f1, stI_k _ _ _ _ hj.2, stI_o _ _ _ _ (by decide)]) ?_ ⟨by have := hC.1; omega, ?_, ?_, ?_, ?_, fun p hp => ?_⟩
  · have hm2 := MR_bec hM hen.1 hen.2.2.1
    exact hm2.cg (by rw [e1, stI_o _ _ _ _ (by decide), stI_o _ _ _ _ (by decide)]) (fun a ha hb => by rw [e1, stI_o _ _ _ _ (by omega), stI_o _ _ _ _ (by omega)]) (by rw [f1, stI_o _ _ _ _ (by decide)]) (by rw [f1, stI_k _ _ _ _ (by decide)])
  · rw [e1, stI_k _ _ _ _ (by decide), stI_1]
  · rw [e1, stI_1]
  · rw [f1, stI_1]
  · rw [f1, stI_k _ _ _ _ (by decide), stI_o _ _ _ _ (by decide), hC.2.2.2.2.1, show dn + 1 + (u - 1) = dn + u by omega]
  · rw [hkc 32 (by decide), hkc 33 (by decide), hkc 34 (by decide), hkc 35 (by decide), hmc 2 (by decide), hmc 3 (by decide), hmc 4 (by decide)]
    exact hC.2.2.2.2.2 p (by omega)
theorem pN_1 {q j : Nat} (hq : q < 8) (hj : j < lnN q) : (10 ≤ pN q j ∧ pN q j < 20) ↔ q = 1 := by
  unfold lnN at hj
  unfold pN
  split at hj
  · rw [if_pos (by assumption)]; omega
  · rw [if_neg (by assumption)]
    split at hj
    · rw [if_pos (by assumption)]; omega
    · rw [if_neg (by assumption)]; omega
theorem pN_7 {q j : Nat} (hq : q < 8) (hj : j < lnN q) : pN q j = 82 ↔ q = 7 := by
  unfold lnN at hj
  unfold pN
  split at hj
  · rw [if_pos (by assumption)]; omega
  · rw [if_neg (by assumption)]
    split at hj
    · rw [if_pos (by assumption)]; omega
    · rw [if_neg (by assumption)]; omega
theorem op_century (V VM : Vt) (κ μ : Sg) (h : REL V κ μ) : OPi V VM κ μ mX10_century mX11_century [] := by
  obtain ⟨n, dn, u, z, tl, r, m, c, T, lw, kp, im, hR⟩ := h
  obtain ⟨hM, hC, hB, hS, hT, hL, hD, hTr, hI⟩ := id hR
  have hQ := hM.q
  refine ⟨_, _, c_X10_century V 64 κ n hQ m c hL.1, c_X11_century VM 64 μ κ n hM _ T lw hL.2.1, ?_⟩
  intro v κ' v' μ' h1 h2
  (try dsimp only at h1 h2)
  obtain ⟨e0, e1, hL9⟩ := h1
  obtain ⟨f0, υ, hE, hT9, f1⟩ := h2
  refine ⟨e0.symm.trans f0, ?_⟩
  have hW := hR.w
  have eC : ∀ q, ¬ scr q ∧ q ≠ 12 ∧ q ≠ 18 ∧ q ≠ 29 → κ'.1 q = κ.1 q := fun q hq => e1.1 q hq.1 hq.2.1 hq.2.2.1 hq.2.2.2
  have eD : ∀ q, (q ≤ 4 ∨ (7 ≤ q ∧ q ≤ 20) ∨ q = 27 ∨ (29 ≤ q ∧ q ≤ 37) ∨ 52 ≤ q) ∧ q ≠ 12 ∧ q ≠ 18 ∧ q ≠ 29 → κ'.1 q = κ.1 q := fun q hq => eC q ⟨by have := hq.1; unfold scr; omega, hq.2⟩
  have eC2 : κ'.2 = κ.2 := e1.2.1
  have fM : ∀ q, (1 ≤ q ∧ (q ≤ 11 ∨ 18 ≤ q)) ∧ q ≠ 1 ∧ q ≠ 18 → μ'.1 q = μ.1 q := fun q hq => by
    rw [f1, stI_o _ _ _ _ hq.2.2, stI_o _ _ _ _ hq.2.1, stR_o _ _ _ hq.2.1]
    exact hE.1 q (nmsc (by omega))
  have fM2 : μ'.2 = μ.2 := by rw [f1]; exact hE.2.2
  have gM : ∀ j, j ≠ 25 ∧ j ≠ 26 → μ'.1 0 j = μ.1 0 j := fun j hj => by
    rw [f1, stI_o _ _ _ _ (by decide), stI_o _ _ _ _ (by decide), stR_o _ _ _ (by decide)]
    exact hE.2.1 j hj.1 hj.2 (Nat.zero_le _)
  have hn := hM.n
  have hpl : ∀ j, j < n → ((wdS κ n m c).cn j ((wdS κ n m c).bd j) ((wdS κ n m c).s0 j)).1 < 16 := fun j hj => (cn_r hQ (show nn (κ.1 12 j) < 16 by have := (hQ.2.2.2.1 j (by omega)).le; omega)).1
  have hy : nn (κ.1 18 0) ≤ 99 := hQ.2.2.2.2.2.2.2.2.2.le
  have h12 : ∀ j, κ'.1 12 j = if j < n then nI ((wdS κ n m c).cn j ((wdS κ n m c).bd j) ((wdS κ n m c).s0 j)).1 else κ.1 12 j := fun j => by rw [e1.2.2.1]; rfl
  have h18 : κ'.1 18 0 = nI (min (nn (κ.1 18 0) + 1) 99) := by rw [e1.2.2.2.1]; exact upd_u
  have hq9 : QI κ' n := by
    refine ⟨hn, by rw [eD 1 (by decide)]; exact hQ.2.1, by rw [eD 11 (by decide)]; exact hQ.2.2.1, fun j hj => ?_, by rw [eD 13 (by decide)]; exact hQ.2.2.2.2.1, by rw [eD 14 (by decide)]; exact hQ.2.2.2.2.2.1, by rw [eD 15 (by decide)]; exact hQ.2.2.2.2.2.2.1, by rw [eD 16 (by decide)]; exact hQ.2.2.2.2.2.2.2.1, by rw [eD 17 (by decide)]; exact hQ.2.2.2.2.2.2.2.2.1, ?_⟩
    · rw [h12 j]
      split
      · have := hpl j (by assumption); exact rg_nI (by omega) (by decide)
      · exact hQ.2.2.2.1 j hj
    · rw [h18]; exact rg_nI (by omega) (by decide)
  have hm : MR κ' μ' n := by
    refine ⟨hq9, (gM 6 (by decide)).trans hM.2.1, fun q j hq hj => ?_⟩
    have p1 := pN_1 hq hj
    have p7 := pN_7 hq hj
    have hυ : υ.1 1 = μ.1 1 := hE.1 1 (nmsc (by decide))
    by_cases q7 : q = 7
    · subst q7
      have hj0 : j = 0 := by have : j < 1 := hj; omega
      subst hj0
      rw [f1, stI_o _ _ _ _ (by decide), show pN 7 0 = 82 from rfl, stI_1]
      exact f0.symm.trans h18.symm
    rw [f1, stI_o _ _ _ _ (by decide), stI_k _ _ _ _ (fun e => q7 (p7.mp e)), stR_1]
    unfold cwA
    by_cases q1 : q = 1
    · subst q1
      have hj10 : j < 10 := hj
      rw [show pN 1 j = 10 + j from rfl, show 11 + 1 = 12 from rfl, h12 j]
      by_cases hjn : j < n
      · rw [if_pos (by omega), if_pos hjn, show 10 + j - 10 = j by omega, (hT9.1 j hjn).1, hW]
        rfl
      · rw [if_neg (by omega), if_neg hjn, hυ]
        exact hM.a hj10
    · rw [if_neg (fun h => q1 (p1.mp ⟨h.1, by omega⟩)), hυ, eD (11 + q) (by omega)]
      exact hM.2.2 q j hq hj
  have hd : RLd κ' μ' := by
    intro j hj
    have hυ : υ.1 18 = μ.1 18 := hE.1 18 (nmsc (by decide))
    rw [e1.2.2.2.2, f1]
    by_cases e : j = 0
    · subst e; rw [upd_u, stI_1, hD 0 (by decide)]
    · rw [upd_n e, stI_k _ _ _ _ e, stI_o _ _ _ _ (by decide), stR_o _ _ _ (by decide), hυ]; exact hD j hj
  have hl : RLw V κ' μ' m c T lw := hL.cg hL9 (eD 19 (by decide)) (eD 20 (by decide)) (gM 17 (by decide)) (fM 7 (by decide)) (fM 10 (by decide)) (fM 11 (by decide))
  exact RELp.i (n := n) (dn := dn) (u := u) (z := z) (tl := tl) (r := r) (m := m) (c := c) (T := T) (lw := lw) (kp := kp) (im := im) ⟨hm, hC.cg (eD 8 (by decide)) (fun q a b => eD q (by omega)) (gM 4 (by decide)) (gM 5 (by decide)) (fun q a b => fM q (by omega)), hB.cg (by rw [eD 9 (by decide)]) (eD 36 (by decide)) (gM 35 (by decide)) (fM 21 (by decide)), hS.cg (fun s hs => eD _ (by omega)) (fun s hs => by rw [eC2]) (fM 23 (by decide)) (fM 24 (by decide)) (by rw [fM2]), hT.cg (by rw [eD 0 (by decide)]) (eD 3 (by decide)) (gM 8 (by decide)) (fM 5 (by decide)), hl, hd, hTr.cg (by rw [eD 9 (by decide)]) (eD 37 (by decide)) (gM 38 (by decide)) (fM 22 (by decide)), hI.cg (eD 7 (by decide)) (eD 30 (by decide)) (eD 31 (by decide)) (gM 31 (by decide)) (gM 32 (by decide)) (fM 19 (by decide)) (fM 20 (by decide))⟩
theorem op_open (V VM : Vt) (κ μ : Sg) (h : REL V κ μ) (b : Int32) : OPi V VM κ μ mX10_open mX11_open [.int b] := by
  obtain ⟨n, dn, u, z, tl, r, m, c, T, lw, kp, im, hR⟩ := h
  obtain ⟨hM, hC, hB, hS, hT, hL, hD, hTr, hI⟩ := id hR
  have hQ := hM.q
  refine ⟨_, _, c_X10_open V 66 κ n hQ b, c_X11_open VM 68 μ κ n hM lw b, ?_⟩
  intro v κ' v' μ' h1 h2
  (try dsimp only at h1 h2)
  by_cases c0 : ¬ (0 ≤ b.toInt ∧ b.toInt < n)
  · rw [if_pos c0] at h1 h2
    exact ⟨h1.1.trans h2.1.symm, hR.mv (by rw [h1.2]; exact SE.rf) (by rw [h1.2]; exact hL.1) (show MO μ μ' from by rw [h2.2]; exact MO.rf)⟩
  rw [if_neg c0] at h1 h2
  by_cases c1 : κ.1 14 (nn b) = 1
  · rw [if_pos c1] at h1 h2
    exact ⟨h1.1.trans h2.1.symm, hR.mv (by rw [h1.2]; exact SE.rf) (by rw [h1.2]; exact hL.1) (show MO μ μ' from by rw [h2.2]; exact MO.rf)⟩
  rw [if_neg c1] at h1 h2
  obtain ⟨e0, e1⟩ := h1
  obtain ⟨f0, υ, hE, f1⟩ := h2
  have c0' : 0 ≤ b.toInt ∧ b.toInt < n := Classical.byContradiction c0
  have hb9 := nn_int c0'.1
  have hn := hM.n
  have hbn : nn b < 10 := by omega
  unfold opnQ at e1
  unfold opM at f1
  have eC : ∀ q, q ≠ 14 ∧ q ≠ 29 → κ'.1 q = κ.1 q := fun q hq => by rw [e1, stI_o _ _ _ _ hq.2, stI_o _ _ _ _ hq.2, stI_o _ _ _ _ hq.2, stI_o _ _ _ _ hq.1]
  have eC2 : κ'.2 = κ.2 := by rw [e1]; rfl
  have fM : ∀ q, (1 ≤ q ∧ (q ≤ 11 ∨ 18 ≤ q)) ∧ q ≠ 1 ∧ q ≠ 18 → μ'.1 q = μ.1 q := fun q hq => by
    rw [f1, stI_o _ _ _ _ hq.2.2, stI_o _ _ _ _ hq.2.2, stI_o _ _ _ _ hq.2.2, stI_o _ _ _ _ hq.2.1]
    exact hE.1 q (nmsc (by omega))
  have fM2 : μ'.2 = μ.2 := by rw [f1]; exact hE.2.2
  have gM : ∀ j, j ≠ 25 ∧ j ≠ 26 → μ'.1 0 j = μ.1 0 j := fun j hj => by
    rw [f1, stI_o _ _ _ _ (by decide), stI_o _ _ _ _ (by decide), stI_o _ _ _ _ (by decide), stI_o _ _ _ _ (by decide)]
    exact hE.2.1 j hj.1 hj.2 (Nat.zero_le _)
  have hυ18 : υ.1 18 = μ.1 18 := hE.1 18 (nmsc (by decide))
  have hq9 : QI (stI κ (11 + 3) (nn b) 1) n := ⟨hn, hQ.2.1, hQ.2.2.1, hQ.2.2.2.1, hQ.2.2.2.2.1, rg_up hQ.2.2.2.2.2.1 ⟨by decide, by decide⟩, hQ.2.2.2.2.2.2.1, hQ.2.2.2.2.2.2.2.1, hQ.2.2.2.2.2.2.2.2.1, hQ.2.2.2.2.2.2.2.2.2⟩
  have hm0 : MR (stI κ (11 + 3) (nn b) 1) (stI υ 1 (pN 3 (nn b)) 1) n := MR_up (hM.me hE) (by decide) hbn hq9
  have hm : MR κ' μ' n := hm0.cg (by rw [e1, stI_o _ _ _ _ (by decide), stI_o _ _ _ _ (by decide), stI_o _ _ _ _ (by decide)]) (fun q h5 h6 => by rw [e1, stI_o _ _ _ _ (by omega), stI_o _ _ _ _ (by omega), stI_o _ _ _ _ (by omega)]) (by rw [f1, stI_o _ _ _ _ (by decide), stI_o _ _ _ _ (by decide), stI_o _ _ _ _ (by decide)]; rfl) (by rw [f1, stI_o _ _ _ _ (by decide), stI_o _ _ _ _ (by decide), stI_o _ _ _ _ (by decide), stI_o _ _ _ _ (by decide), stI_o _ _ _ _ (by decide)])
  have hd : RLd κ' μ' := by
    intro j hj
    rw [e1, f1, hυ18]
    by_cases e3 : j = 3
    · subst e3; rw [stI_1, stI_1, hD 3 (by decide)]
    by_cases e2 : j = 2
    · subst e2; rw [stI_k _ _ _ _ e3, stI_1, stI_k _ _ _ _ e3, stI_1, hD 2 (by decide)]
    by_cases e4 : j = 1
    · subst e4; rw [stI_k _ _ _ _ e3, stI_k _ _ _ _ e2, stI_1, stI_k _ _ _ _ e3, stI_k _ _ _ _ e2, stI_1, hD 1 (by decide)]
    rw [stI_k _ _ _ _ e3, stI_k _ _ _ _ e2, stI_k _ _ _ _ e4, stI_k _ _ _ _ e3, stI_k _ _ _ _ e2, stI_k _ _ _ _ e4, stI_o _ _ _ _ (by decide), stI_o _ _ _ _ (by decide), hυ18]
    exact hD j hj
  exact ⟨e0.trans f0.symm, RELp.i (n := n) (dn := dn) (u := u) (z := z) (tl := tl) (r := r) (m := m) (c := c) (T := T) (lw := lw) (kp := kp) (im := im) ⟨hm, hC.cg (eC 8 (by decide)) (fun q a b => eC q (by omega)) (gM 4 (by decide)) (gM 5 (by decide)) (fun q a b => fM q (by omega)), hB.cg (by rw [eC 9 (by decide)]) (eC 36 (by decide)) (gM 35 (by decide)) (fM 21 (by decide)), hS.cg (fun s hs => eC _ (by omega)) (fun s hs => by rw [eC2]) (fM 23 (by decide)) (fM 24 (by decide)) (by rw [fM2]), hT.cg (by rw [eC 0 (by decide)]) (eC 3 (by decide)) (gM 8 (by decide)) (fM 5 (by decide)), hL.cg (hL.1.cg (by rw [eC 2 (by decide)]) (by rw [eC 2 (by decide)]) (eC 19 (by decide)) (eC 20 (by decide)) (eC 23 (by decide)) (by rw [eC2])) (eC 19 (by decide)) (eC 20 (by decide)) (gM 17 (by decide)) (fM 7 (by decide)) (fM 10 (by decide)) (fM 11 (by decide)), hd, hTr.cg (by rw [eC 9 (by decide)]) (eC 37 (by decide)) (gM 38 (by decide)) (fM 22 (by decide)), hI.cg (eC 7 (by decide)) (eC 30 (by decide)) (eC 31 (by decide)) (gM 31 (by decide)) (gM 32 (by decide)) (fM 19 (by decide)) (fM 20 (by decide))⟩⟩
theorem pN_24 {q j : Nat} (hq : q < 8) (hj : j < lnN q) : ((20 ≤ pN q j ∧ pN q j < 30) ↔ q = 2) ∧ ((40 ≤ pN q j ∧ pN q j < 50) ↔ q = 4) := by
  unfold lnN at hj
  unfold pN
  split at hj
  · rw [if_pos (by assumption)]; omega
  · rw [if_neg (by assumption)]
    split at hj
    · rw [if_pos (by assumption)]; omega
    · rw [if_neg (by assumption)]; omega
theorem op_hours (V VM : Vt) (κ μ : Sg) (h : REL V κ μ) (h9 : Int32) : OPi V VM κ μ mX10_hours mX11_hours [.int h9] := by
  obtain ⟨n, dn, u, z, tl, r, m, c, T, lw, kp, im, hR⟩ := h
  obtain ⟨hM, hC, hB, hS, hT, hL, hD, hTr, hI⟩ := id hR
  have hQ := hM.q
  refine ⟨_, _, c_X10_hours V 66 κ n hQ h9, c_X11_hours VM 69 μ κ n hM h9, ?_⟩
  intro v κ' v' μ' h1 h2
  (try dsimp only at h1 h2)
  by_cases c0 : ¬ (1 ≤ h9.toInt ∧ h9.toInt ≤ 99)
  · rw [if_pos c0] at h1 h2
    exact ⟨h1.1.trans h2.1.symm, hR.mv (by rw [h1.2]; exact SE.rf) (by rw [h1.2]; exact hL.1) (show MO μ μ' from by rw [h2.2]; exact MO.rf)⟩
  rw [if_neg c0] at h1 h2
  obtain ⟨e0, e1, e2, e3, e4, e5⟩ := h1
  obtain ⟨f0, f1⟩ := h2
  have eC : ∀ q, q ≠ 13 ∧ q ≠ 15 ∧ q ≠ 29 → κ'.1 q = κ.1 q := fun q hq => e1 q hq.1 hq.2.1 hq.2.2
  have eC2 : κ'.2 = κ.2 := e2
  have fM : ∀ q, q ≠ 1 ∧ q ≠ 18 → μ'.1 q = μ.1 q := fun q hq => by rw [f1, stI_o _ _ _ _ hq.2, stR_o _ _ _ hq.1]
  have fM2 : μ'.2 = μ.2 := by rw [f1]; rfl
  have gM : ∀ j : Nat, True → μ'.1 0 j = μ.1 0 j := fun j _ => by rw [fM 0 (by decide)]
  have hhe : HE κ (stR κ' 29 (κ.1 29)) (nn h9) n := ⟨fun q a b => by
    by_cases e : q = 29
    · subst e; rw [stR_1]
    · rw [stR_o _ _ _ e]; exact e1 q a b e, e2, by rw [stR_o _ _ _ (by decide)]; exact e3, by rw [stR_o _ _ _ (by decide)]; exact e4⟩
  have hq9 : QI κ' n := (hQ.he hhe).cg (by rw [stR_o _ _ _ (by decide)]) (fun q a b => by rw [stR_o _ _ _ (by omega)])
  have hm : MR κ' μ' n := by
    refine ⟨hq9, (gM 6 trivial).trans hM.2.1, fun q j hq hj => ?_⟩
    have p2 := (pN_24 hq hj).1
    have p4 := (pN_24 hq hj).2
    rw [f1, stI_o _ _ _ _ (by decide), stR_1]
    unfold hrM
    by_cases q2 : q = 2
    · subst q2
      rw [if_pos (p2.mpr rfl), show pN 2 j = 20 + j from rfl, show 20 + j - 20 = j by omega, show 11 + 2 = 13 from rfl, e3]
    rw [if_neg (fun h => q2 (p2.mp h))]
    by_cases q4 : q = 4
    · subst q4
      rw [if_pos (p4.mpr rfl), show pN 4 j = 40 + j from rfl, show 40 + j - 40 = j by omega, show 11 + 4 = 15 from rfl, e4]
    rw [if_neg (fun h => q4 (p4.mp h)), eC (11 + q) (by omega)]
    exact hM.2.2 q j hq hj
  have hd : RLd κ' μ' := by
    intro j hj
    rw [e5, f1]
    by_cases e : j = 4
    · subst e; rw [upd_u, stI_1, hD 4 (by decide)]
    · rw [upd_n e, stI_k _ _ _ _ e, stR_o _ _ _ (by decide)]; exact hD j hj
  exact ⟨e0.trans f0.symm, RELp.i (n := n) (dn := dn) (u := u) (z := z) (tl := tl) (r := r) (m := m) (c := c) (T := T) (lw := lw) (kp := kp) (im := im) ⟨hm, hC.cg (eC 8 (by decide)) (fun q a b => eC q (by omega)) (gM 4 trivial) (gM 5 trivial) (fun q a b => fM q (by omega)), hB.cg (by rw [eC 9 (by decide)]) (eC 36 (by decide)) (gM 35 trivial) (fM 21 (by decide)), hS.cg (fun s hs => eC _ (by omega)) (fun s hs => by rw [eC2]) (fM 23 (by decide)) (fM 24 (by decide)) (by rw [fM2]), hT.cg (by rw [eC 0 (by decide)]) (eC 3 (by decide)) (gM 8 trivial) (fM 5 (by decide)), hL.cg (hL.1.cg (by rw [eC 2 (by decide)]) (by rw [eC 2 (by decide)]) (eC 19 (by decide)) (eC 20 (by decide)) (eC 23 (by decide)) (by rw [eC2])) (eC 19 (by decide)) (eC 20 (by decide)) (gM 17 trivial) (fM 7 (by decide)) (fM 10 (by decide)) (fM 11 (by decide)), hd, hTr.cg (by rw [eC 9 (by decide)]) (eC 37 (by decide)) (gM 38 trivial) (fM 22 (by decide)), hI.cg (eC 7 (by decide)) (eC 30 (by decide)) (eC 31 (by decide)) (gM 31 trivial) (gM 32 trivial) (fM 19 (by decide)) (fM 20 (by decide))⟩⟩

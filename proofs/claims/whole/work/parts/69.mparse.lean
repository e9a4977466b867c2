/-! THE MODEL READS A LAW as the class does -/
def psi (c : Int32) : Int32 := if c < -106 then c + 100 else c
def PH (m c : Int32) : Prop := m = phi c ∧ psi m = c
theorem PH_B {c : Int32} (h : isB c = true) : PH (-100 - c) (-c) := by
  have h9 : c = 37 ∨ c = 38 ∨ c = 42 ∨ c = 43 ∨ c = 45 ∨ c = 47 ∨ c = 60 ∨ c = 61 ∨ c = 62 ∨ c = 124 := of_decide_eq_true h
  unfold PH
  rcases h9 with h | h | h | h | h | h | h | h | h | h <;> subst h <;> decide
theorem PH_n {c : Int32} (h : -6 ≤ c.toInt) : PH c c := by
  refine ⟨(phi_n (by rw [i_lt, tI_m6]; omega)).symm, if_neg ?_⟩
  rw [i_lt, show (-106 : Int32).toInt = -106 from by decide]
  omega
def bM (t : Nat → Int32) (L p : Nat) : Int32 := if p < L then t p else 0
theorem bM_lt {t : Nat → Int32} {L : Nat} {s : Ps} (h : s.1 < L) : bM t L s.1 = cm t L s := by
  unfold bM cm
  rw [if_pos h, if_pos h]
theorem bM_cm {t : Nat → Int32} {L : Nat} {s : Ps} {c : Int32} (h0 : ¬ c = 0) (h1 : ¬ c = -1) : bM t L s.1 = c ↔ cm t L s = c := by
  by_cases h : s.1 < L
  · rw [bM_lt h]
  · unfold bM cm
    rw [if_neg h, if_neg h]
    exact ⟨fun e => absurd e.symm h0, fun e => absurd e.symm h1⟩
theorem bM_nm {t : Nat → Int32} {L : Nat} {s : Ps} : nmF (bM t L s.1) = nmF (cm t L s) := by
  by_cases h : s.1 < L
  · rw [bM_lt h]
  · unfold bM cm
    rw [if_neg h, if_neg h]
    rfl
theorem bM_dg {t : Nat → Int32} {L : Nat} {s : Ps} : (48 ≤ (bM t L s.1).toInt ∧ (bM t L s.1).toInt ≤ 57) ↔ isDg (cm t L s) = true := by
  by_cases h : s.1 < L
  · rw [bM_lt h]
    unfold isDg
    rw [decide_eq_true_eq]
  · unfold bM cm
    rw [if_neg h, if_neg h]
    exact ⟨fun e => absurd e.1 (by decide), fun e => absurd e (by decide)⟩
/-- the model's reader is where the class's is; M0: how many codes it had, b: how many the class had -/
def MS (μ0 τ : Sg) (L op M0 b : Nat) (r : Bool × Ps) : Prop := (∀ q, q ≠ 0 → q ≠ 6 → τ.1 q = μ0.1 q) ∧ τ.2 = μ0.2 ∧ (∀ j, j ≠ 10 → j ≠ 18 → j ≠ 19 → j ≠ 20 → τ.1 0 j = μ0.1 0 j) ∧ τ.1 0 18 = nI r.2.1 ∧ r.2.1 ≤ L ∧ τ.1 0 20 = nI op ∧ (r.1 = false → τ.1 0 19 = nI r.2.1) ∧ (r.1 = true → τ.1 0 19 = -1 ∧ b ≤ r.2.2.1 ∧ r.2.2.1 ≤ r.2.1 ∧ M0 + (r.2.2.1 - b) ≤ r.2.1 ∧ τ.1 0 10 = nI (M0 + (r.2.2.1 - b)) ∧ (∀ j, j < M0 → τ.1 6 j = μ0.1 6 j) ∧ (∀ j, j < r.2.2.1 - b → PH (τ.1 6 (M0 + j)) (r.2.2.2.1 (b + j))))
theorem MS.ge {μ0 τ : Sg} {L op M0 b : Nat} {r : Bool × Ps} (h : MS μ0 τ L op M0 b r) (hc : 0 ≤ τ.1 0 19) : r.1 = false := by
  cases hr : r.1 with
  | false => rfl
  | true =>
    rw [(h.2.2.2.2.2.2.2 hr).1] at hc
    exact absurd hc (by decide)
theorem MS.lt {μ0 τ : Sg} {L op M0 b : Nat} {r : Bool × Ps} (h : MS μ0 τ L op M0 b r) (hL : L ≤ 120) (hc : ¬ 0 ≤ τ.1 0 19) : r.1 = true := by
  cases hr : r.1 with
  | true => rfl
  | false =>
    rw [h.2.2.2.2.2.2.1 hr, i_le, tI_0, nI_c (by have := h.2.2.2.2.1; omega)] at hc
    omega
theorem MS.ad {μ0 τ : Sg} {L op M0 b : Nat} {s : Ps} (h : MS μ0 τ L op M0 b (true, s)) (hl : s.1 < L) : MS μ0 (stI τ 0 18 (nI (s.1 + 1))) L op M0 b (true, adv s) := by
  obtain ⟨h1, h2, h3, h4, h5, h6, h7, h8⟩ := h
  obtain ⟨a1, a2, a3, a4, a5, a6, a7⟩ := h8 rfl
  have a2' : b ≤ s.2.1 := a2
  have a3' : s.2.1 ≤ s.1 := a3
  have a4' : M0 + (s.2.1 - b) ≤ s.1 := a4
  refine ⟨fun q x y => (stI_o _ _ _ _ x).trans (h1 q x y), h2, fun j x y z v => (stI_k _ _ _ _ y).trans (h3 j x y z v), stI_1 _ _ _ _, hl, (stI_k _ _ _ _ (by decide)).trans h6, fun h => Bool.noConfusion h, fun _ => ⟨(stI_k _ _ _ _ (by decide)).trans a1, a2, ?_, ?_, (stI_k _ _ _ _ (by decide)).trans a5, fun j hj => ?_, fun j hj => ?_⟩⟩
  · show s.2.1 ≤ s.1 + 1; omega
  · show M0 + (s.2.1 - b) ≤ s.1 + 1; omega
  · rw [stI_o _ _ _ _ (by decide)]; exact a6 j hj
  · rw [stI_o _ _ _ _ (by decide)]; exact a7 j hj
theorem MS.op {μ0 τ : Sg} {L op M0 b : Nat} {r : Bool × Ps} (h : MS μ0 τ L op M0 b r) (o2 : Nat) : MS μ0 (stI τ 0 20 (nI o2)) L o2 M0 b r := by
  obtain ⟨h1, h2, h3, h4, h5, h6, h7, h8⟩ := h
  refine ⟨fun q x y => (stI_o _ _ _ _ x).trans (h1 q x y), h2, fun j x y z v => (stI_k _ _ _ _ v).trans (h3 j x y z v), (stI_k _ _ _ _ (by decide)).trans h4, h5, stI_1 _ _ _ _, fun h => (stI_k _ _ _ _ (by decide)).trans (h7 h), fun h => ?_⟩
  obtain ⟨a1, a2, a3, a4, a5, a6, a7⟩ := h8 h
  exact ⟨(stI_k _ _ _ _ (by decide)).trans a1, a2, a3, a4, (stI_k _ _ _ _ (by decide)).trans a5, fun j hj => by rw [stI_o _ _ _ _ (by decide)]; exact a6 j hj, fun j hj => by rw [stI_o _ _ _ _ (by decide)]; exact a7 j hj⟩
theorem MS.bad {μ0 τ : Sg} {L op M0 b : Nat} {r : Bool × Ps} (h : MS μ0 τ L op M0 b r) : MS μ0 (stI τ 0 19 (nI r.2.1)) L op M0 b (false, r.2) := by
  obtain ⟨h1, h2, h3, h4, h5, h6, h7, h8⟩ := h
  exact ⟨fun q x y => (stI_o _ _ _ _ x).trans (h1 q x y), h2, fun j x y z v => (stI_k _ _ _ _ z).trans (h3 j x y z v), (stI_k _ _ _ _ (by decide)).trans h4, h5, (stI_k _ _ _ _ (by decide)).trans h6, fun _ => stI_1 _ _ _ _, fun h => Bool.noConfusion h⟩
theorem MS.f2 {μ0 τ : Sg} {L op M0 b : Nat} {s s' : Ps} (h : MS μ0 τ L op M0 b (false, s)) (e : s'.1 = s.1) : MS μ0 τ L op M0 b (false, s') := by
  obtain ⟨h1, h2, h3, h4, h5, h6, h7, h8⟩ := h
  exact ⟨h1, h2, h3, by show _ = nI s'.1; rw [e]; exact h4, by show s'.1 ≤ L; rw [e]; exact h5, h6, fun _ => by show _ = nI s'.1; rw [e]; exact h7 rfl, fun h => Bool.noConfusion h⟩
theorem MS.nw {μ0 τ : Sg} {L op M0 b : Nat} {r : Bool × Ps} (h : MS μ0 τ L op M0 b r) (hr : r.1 = false) (c : Int32) : MS μ0 τ L op M0 b (r.1, wr c r.2) := by
  obtain ⟨f, s⟩ := r
  have hf : f = false := hr
  subst hf
  exact h.f2 wr_p
theorem MS.w {μ0 τ : Sg} {L op M0 b : Nat} {r : Bool × Ps} (h : MS μ0 τ L op M0 b r) (hL : L ≤ 120) (hr : r.1 = true) (hw : M0 + (r.2.2.1 - b) < r.2.1 ∧ r.2.2.1 < r.2.1) {m c : Int32} (hp : PH m c) : MS μ0 (stI (stI τ 6 (M0 + (r.2.2.1 - b)) m) 0 10 (nI (M0 + (r.2.2.1 - b) + 1))) L op M0 b (r.1, wr c r.2) := by
  obtain ⟨f, s⟩ := r
  have hf : f = true := hr
  subst hf
  obtain ⟨h1, h2, h3, h4, h5, h6, h7, h8⟩ := h
  obtain ⟨a1, a2, a3, a4, a5, a6, a7⟩ := h8 rfl
  have a2' : b ≤ s.2.1 := a2
  have a3' : s.2.1 ≤ s.1 := a3
  have h5' : s.1 ≤ L := h5
  have hw' : M0 + (s.2.1 - b) < s.1 ∧ s.2.1 < s.1 := hw
  show MS μ0 (stI (stI τ 6 (M0 + (s.2.1 - b)) m) 0 10 (nI (M0 + (s.2.1 - b) + 1))) L op M0 b (true, wr c s)
  have hc : ∀ (q : Nat) (v : Int32) {j : Nat}, (stI (stI τ 6 q m) 0 10 v).1 6 j = (stI τ 6 q m).1 6 j := fun q v j => by rw [stI_o _ _ _ _ (by decide)]
  refine ⟨fun q x y => ?_, h2, fun j x y z v => ?_, ?_, ?_, ?_, fun h => Bool.noConfusion h, fun _ => ⟨?_, ?_, ?_, ?_, ?_, fun j hj => ?_, fun j hj => ?_⟩⟩
  · rw [stI_o _ _ _ _ x, stI_o _ _ _ _ y]; exact h1 q x y
  · rw [stI_k _ _ _ _ x, stI_o _ _ _ _ (by decide)]; exact h3 j x y z v
  · show _ = nI (wr c s).1
    rw [wr_p, stI_k _ _ _ _ (by decide), stI_o _ _ _ _ (by decide)]; exact h4
  · show (wr c s).1 ≤ L
    rw [wr_p]; exact h5
  · rw [stI_k _ _ _ _ (by decide), stI_o _ _ _ _ (by decide)]; exact h6
  · rw [stI_k _ _ _ _ (by decide), stI_o _ _ _ _ (by decide)]; exact a1
  · show b ≤ (wr c s).2.1
    rw [wr_lt (by omega)]
    show b ≤ s.2.1 + 1
    omega
  · show (wr c s).2.1 ≤ (wr c s).1
    rw [wr_lt (by omega)]
    show s.2.1 + 1 ≤ s.1
    omega
  · show M0 + ((wr c s).2.1 - b) ≤ (wr c s).1
    rw [wr_lt (by omega)]
    show M0 + (s.2.1 + 1 - b) ≤ s.1
    omega
  · show _ = nI (M0 + ((wr c s).2.1 - b))
    rw [wr_lt (by omega), stI_1]
    show nI (M0 + (s.2.1 - b) + 1) = nI (M0 + (s.2.1 + 1 - b))
    rw [show M0 + (s.2.1 + 1 - b) = M0 + (s.2.1 - b) + 1 by omega]
  · rw [hc, stI_k _ _ _ _ (by omega)]; exact a6 j hj
  · have hj' : j < (wr c s).2.1 - b := hj
    show PH ((stI (stI τ 6 (M0 + (s.2.1 - b)) m) 0 10 (nI (M0 + (s.2.1 - b) + 1))).1 6 (M0 + j)) ((wr c s).2.2.1 (b + j))
    rw [wr_lt (by omega)] at hj' ⊢
    have hj2 : j < s.2.1 + 1 - b := hj'
    show PH _ (upd s.2.2.1 s.2.1 c (b + j))
    by_cases e : j = s.2.1 - b
    · subst e
      rw [hc, stI_1, show b + (s.2.1 - b) = s.2.1 by omega, upd_u]
      exact hp
    · rw [hc, stI_k _ _ _ _ (by omega), upd_n (by omega)]
      exact a7 j (show j < s.2.1 - b by omega)
theorem MS.rm {μ0 τ : Sg} {L op M0 b : Nat} {r : Bool × Ps} {s' : Ps} (h : MS μ0 τ L op M0 b r) (hr : r.1 = true) (hg : GB (adv r.2) s') : M0 + (s'.2.1 - b) < s'.1 ∧ s'.2.1 < s'.1 := by
  obtain ⟨a1, a2, a3, a4, -⟩ := h.2.2.2.2.2.2.2 hr
  obtain ⟨k, g1, g2, g3, -⟩ := hg
  have g2' : s'.2.1 = r.2.2.1 + k := g2
  have g3' : r.2.1 + 1 + k ≤ s'.1 := g3
  omega
theorem MS.gp {μ0 τ : Sg} {L op M0 b : Nat} {r : Bool × Ps} {F : Ps → Bool × Ps} (h : MS μ0 τ L op M0 b r) (hr : r.1 = true) (hl : r.2.1 < L) (hG : GP L F) : JG L (adv r.2) (F (adv r.2)) := by
  obtain ⟨a1, a2, a3, a4, -⟩ := h.2.2.2.2.2.2.2 hr
  exact hG (adv r.2) hl (show r.2.2.1 ≤ r.2.1 + 1 by omega)
set_option maxHeartbeats 1000000 in
theorem c_X11_byteAt (V : Vt) (d : Nat) (σ : Sg) (t : Nat → Int32) (μ0 : Sg) (L op M0 b : Nat) (hL : L ≤ 120) (hT : ∀ j, j < L → μ0.1 5 j = t j) (h8 : μ0.1 0 8 = nI L) (r : Bool × Ps) (hS : MS μ0 σ L op M0 b r) : CT layM V mX11_byteAt (d) [rf V 0] σ (Ro (bM t L r.2.1) σ) := by
  refine CT.of (own := RX11) rfl (by decide) (Nat.le_of_ble_eq_true rfl) (fun X (hx : Ok V RX11 cX11_byteAt 1 (d) X) (he : En layM V (some .int) (Ro (bM t L r.2.1) σ) X) => ?_)
  change WS layM V 1 X σ 0 [(0, rf V 0)] []
  have hp5 := hS.2.2.2.2.1
  have hpI : (nI r.2.1).toInt = (r.2.1 : Int) := nI_c (by omega)
  have hLI : (nI L).toInt = (L : Int) := nI_c (by omega)
  refine WS.aload_n hx dX11_byteAt_0 rfl 0 rfl ?_
  refine WS.getI hx okX11 lf11_152 rfl rfl dX11_byteAt_1 ?_
  refine WS.as rfl rfl (congrArg (fun z => Value.int z :: _) (show σ.1 0 18 = nI r.2.1 from hS.2.2.2.1)) ?_
  skip
  refine WS.aload_n hx dX11_byteAt_4 rfl 0 rfl ?_
  refine WS.getI hx okX11 lf11_149 rfl rfl dX11_byteAt_5 ?_
  refine WS.as rfl rfl (congrArg (fun z => Value.int z :: _) (show σ.1 0 8 = nI L from (hS.2.2.1 8 (by decide) (by decide) (by decide) (by decide)).trans h8)) ?_
  skip
  refine WS.icmp_ge (tgt := 23) hx dX11_byteAt_8 (by decide) (fun c8 => ?_) (fun c8 => ?_)
  · skip
    show WS layM V 1 X σ 23 [(0, rf V 0)] []
    refine WS.iconst (v := 0) hx dX11_byteAt_23 (by decide) ?_
    exact WS.iret hx he dX11_byteAt_24 (Ro.i (if_neg (by (try simp only [l_int, tL_0, tL_1, tL_2, tL_4, tL_5, tL_6, tL_7, tL_9, tL_10, tL_12, tL_15, tL_30, tL_40, tL_60, tL_99, tL_255, tL_1023, tL_m1, lc_lt, lc_gt, lc_ge, lc_le, lc_eq, l6_le, l6_lt, l6_eq, tI_m133, tI_m226, i_le, i_lt, i_eq, tI_0, tI_1] at c8); (try simp only [l_int, tL_0, tL_1, tL_2, tL_4, tL_5, tL_6, tL_7, tL_9, tL_10, tL_12, tL_15, tL_30, tL_40, tL_60, tL_99, tL_255, tL_1023, tL_m1, lc_lt, lc_gt, lc_ge, lc_le, lc_eq, l6_le, l6_lt, l6_eq, tI_m133, tI_m226, i_le, i_lt, i_eq, tI_0, tI_1]); omega)))
  · skip
    show WS layM V 1 X σ 11 [(0, rf V 0)] []
    refine WS.aload_n hx dX11_byteAt_11 rfl 0 rfl ?_
    refine WS.getR hx okX11 lf11_22 rfl rfl dX11_byteAt_12 ?_
    refine WS.aload_n hx dX11_byteAt_15 rfl 0 rfl ?_
    refine WS.getI hx okX11 lf11_152 rfl rfl dX11_byteAt_16 ?_
    refine WS.as rfl rfl (congrArg (fun z => Value.int z :: _) (show σ.1 0 18 = nI r.2.1 from hS.2.2.2.1)) ?_
    skip
    refine WS.iald hx rfl (vp_in_nI (by (try simp only [l_int, tL_0, tL_1, tL_2, tL_4, tL_5, tL_6, tL_7, tL_9, tL_10, tL_12, tL_15, tL_30, tL_40, tL_60, tL_99, tL_255, tL_1023, tL_m1, lc_lt, lc_gt, lc_ge, lc_le, lc_eq, l6_le, l6_lt, l6_eq, tI_m133, tI_m226, i_le, i_lt, i_eq, tI_0, tI_1] at c8); (try simp only [l_int, tL_0, tL_1, tL_2, tL_4, tL_5, tL_6, tL_7, tL_9, tL_10, tL_12, tL_15, tL_30, tL_40, tL_60, tL_99, tL_255, tL_1023, tL_m1, lc_lt, lc_gt, lc_ge, lc_le, lc_eq, l6_le, l6_lt, l6_eq, tI_m133, tI_m226, i_le, i_lt, i_eq, tI_0, tI_1]); omega) (by decide)) dX11_byteAt_19 ?_
    refine WS.as rfl rfl (congrArg (fun z => Value.int z :: _) (show σ.1 5 (nn (nI r.2.1)) = t r.2.1 from by rw [nn_nI (by omega), hS.1 5 (by decide) (by decide)]; exact hT _ (by (try simp only [l_int, tL_0, tL_1, tL_2, tL_4, tL_5, tL_6, tL_7, tL_9, tL_10, tL_12, tL_15, tL_30, tL_40, tL_60, tL_99, tL_255, tL_1023, tL_m1, lc_lt, lc_gt, lc_ge, lc_le, lc_eq, l6_le, l6_lt, l6_eq, tI_m133, tI_m226, i_le, i_lt, i_eq, tI_0, tI_1] at c8); (try simp only [l_int, tL_0, tL_1, tL_2, tL_4, tL_5, tL_6, tL_7, tL_9, tL_10, tL_12, tL_15, tL_30, tL_40, tL_60, tL_99, tL_255, tL_1023, tL_m1, lc_lt, lc_gt, lc_ge, lc_le, lc_eq, l6_le, l6_lt, l6_eq, tI_m133, tI_m226, i_le, i_lt, i_eq, tI_0, tI_1]); omega))) ?_
    skip
    refine WS.goto (tgt := 24) hx dX11_byteAt_20 (by decide) ?_
    exact WS.iret hx he dX11_byteAt_24 (Ro.i (if_pos (by (try simp only [l_int, tL_0, tL_1, tL_2, tL_4, tL_5, tL_6, tL_7, tL_9, tL_10, tL_12, tL_15, tL_30, tL_40, tL_60, tL_99, tL_255, tL_1023, tL_m1, lc_lt, lc_gt, lc_ge, lc_le, lc_eq, l6_le, l6_lt, l6_eq, tI_m133, tI_m226, i_le, i_lt, i_eq, tI_0, tI_1] at c8); (try simp only [l_int, tL_0, tL_1, tL_2, tL_4, tL_5, tL_6, tL_7, tL_9, tL_10, tL_12, tL_15, tL_30, tL_40, tL_60, tL_99, tL_255, tL_1023, tL_m1, lc_lt, lc_gt, lc_ge, lc_le, lc_eq, l6_le, l6_lt, l6_eq, tI_m133, tI_m226, i_le, i_lt, i_eq, tI_0, tI_1]); omega)))
set_option maxHeartbeats 1000000 in
theorem c_X11_wrong (V : Vt) (d : Nat) (σ : Sg) (t : Nat → Int32) (μ0 : Sg) (L op M0 b : Nat) (hL : L ≤ 120) (hT : ∀ j, j < L → μ0.1 5 j = t j) (h8 : μ0.1 0 8 = nI L) (r : Bool × Ps) (hS : MS μ0 σ L op M0 b r) : CT layM V mX11_wrong (d) [rf V 0] σ (Rv fun σ' => MS μ0 σ' L op M0 b (false, r.2)) := by
  refine CT.of (own := RX11) rfl (by decide) (Nat.le_of_ble_eq_true rfl) (fun X (hx : Ok V RX11 cX11_wrong 1 (d) X) (he : En layM V none (Rv fun σ' => MS μ0 σ' L op M0 b (false, r.2)) X) => ?_)
  change WS layM V 1 X σ 0 [(0, rf V 0)] []
  refine WS.aload_n hx dX11_wrong_0 rfl 0 rfl ?_
  refine WS.aload_n hx dX11_wrong_1 rfl 0 rfl ?_
  refine WS.getI hx okX11 lf11_155 rfl rfl dX11_wrong_2 ?_
  refine WS.if_ge (tgt := 15) hx dX11_wrong_5 (by decide) (fun c5 => ?_) (fun c5 => ?_)
  · skip
    show WS layM V 1 X σ 15 [(0, rf V 0)] [rf V 0]
    refine WS.aload_n hx dX11_wrong_15 rfl 0 rfl ?_
    refine WS.getI hx okX11 lf11_155 rfl rfl dX11_wrong_16 ?_
    refine WS.as rfl rfl (congrArg (fun z => Value.int z :: _) (show σ.1 0 19 = nI r.2.1 from hS.2.2.2.2.2.2.1 (hS.ge c5))) ?_
    skip
    refine WS.putI hx okX11 lf11_155 rfl rfl rfl rfl dX11_wrong_19 ?_
    exact WS.vret hx he dX11_wrong_22 ⟨rfl, hS.bad⟩
  · skip
    show WS layM V 1 X σ 8 [(0, rf V 0)] [rf V 0]
    refine WS.aload_n hx dX11_wrong_8 rfl 0 rfl ?_
    refine WS.getI hx okX11 lf11_152 rfl rfl dX11_wrong_9 ?_
    refine WS.as rfl rfl (congrArg (fun z => Value.int z :: _) (show σ.1 0 18 = nI r.2.1 from hS.2.2.2.1)) ?_
    skip
    refine WS.goto (tgt := 19) hx dX11_wrong_12 (by decide) ?_
    refine WS.putI hx okX11 lf11_155 rfl rfl rfl rfl dX11_wrong_19 ?_
    exact WS.vret hx he dX11_wrong_22 ⟨rfl, hS.bad⟩
theorem MS.t {μ0 τ : Sg} {L op M0 b : Nat} {r : Bool × Ps} (h : MS μ0 τ L op M0 b r) (hr : r.1 = true) : MS μ0 τ L op M0 b (true, r.2) := by
  obtain ⟨f, s⟩ := r
  have hf : f = true := hr
  subst hf
  exact h
set_option maxHeartbeats 1000000 in
theorem c_X11_takes (V : Vt) (d : Nat) (σ : Sg) (t : Nat → Int32) (μ0 : Sg) (L op M0 b : Nat) (hL : L ≤ 120) (hT : ∀ j, j < L → μ0.1 5 j = t j) (h8 : μ0.1 0 8 = nI L) (r : Bool × Ps) (hS : MS μ0 σ L op M0 b r) (c : Int32) (h0 : ¬ c = 0) (h1 : ¬ c = -1) : CT layM V mX11_takes (d + 1) [rf V 0, .int c] σ (Ri fun v σ' => (r.1 = true ∧ cm t L r.2 = c ∧ 1 = v ∧ MS μ0 σ' L op M0 b (true, adv r.2)) ∨ (¬ (r.1 = true ∧ cm t L r.2 = c) ∧ 0 = v ∧ σ = σ')) := by
  refine CT.of (own := RX11) rfl (by decide) (Nat.le_of_ble_eq_true rfl) (fun X (hx : Ok V RX11 cX11_takes 2 (d + 1) X) (he : En layM V (some .boolean) (Ri fun v σ' => (r.1 = true ∧ cm t L r.2 = c ∧ 1 = v ∧ MS μ0 σ' L op M0 b (true, adv r.2)) ∨ (¬ (r.1 = true ∧ cm t L r.2 = c) ∧ 0 = v ∧ σ = σ')) X) => ?_)
  change WS layM V 2 X σ 0 [(0, rf V 0), (1, .int c)] []
  refine WS.aload_n hx dX11_takes_0 rfl 0 rfl ?_
  refine WS.getI hx okX11 lf11_155 rfl rfl dX11_takes_1 ?_
  refine WS.if_ge (tgt := 15) hx dX11_takes_4 (by decide) (fun c4 => ?_) (fun c4 => ?_)
  · skip
    show WS layM V 2 X σ 15 [(0, rf V 0), (1, .int c)] []
    have hno : ¬ (r.1 = true ∧ cm t L r.2 = c) := fun h => by rw [hS.ge c4] at h; exact Bool.noConfusion h.1
    refine WS.iconst (v := 0) hx dX11_takes_15 (by decide) ?_
    exact WS.zret hx he dX11_takes_16 (Or.inl rfl) ⟨_, rfl, Or.inr ⟨hno, rfl, rfl⟩⟩
  · skip
    show WS layM V 2 X σ 7 [(0, rf V 0), (1, .int c)] []
    refine WS.aload_n hx dX11_takes_7 rfl 0 rfl ?_
    refine WS.callVi (st := []) [] hx (c_X11_byteAt V d σ t μ0 L op M0 b hL hT h8 r hS) okX11_byteAt lm11_158 rfl rfl rfl rfl (Nat.le_of_ble_eq_true rfl) dX11_takes_8 (fun v1 σ2 h3 => ?_)
    obtain ⟨rfl, rfl⟩ := h3
    show WS layM V 2 X σ 11 [(0, rf V 0), (1, .int c)] [.int (bM t L r.2.1)]
    refine WS.iload_n hx dX11_takes_11 rfl 1 rfl ?_
    refine WS.icmp_eq (tgt := 17) hx dX11_takes_12 (by decide) (fun c12 => ?_) (fun c12 => ?_)
    · skip
      show WS layM V 2 X σ 17 [(0, rf V 0), (1, .int c)] []
      have hok := hS.lt hL c4
      have hcm := (bM_cm (s := r.2) h0 h1).mp c12
      have hlt : r.2.1 < L := cm_lt (t := t) (by rw [hcm]; exact h1)
      refine WS.aload_n hx dX11_takes_17 rfl 0 rfl ?_
      refine WS.dup hx dX11_takes_18 rfl ?_
      refine WS.getI hx okX11 lf11_152 rfl rfl dX11_takes_19 ?_
      refine WS.as rfl rfl (congrArg (fun z => Value.int z :: _) (show σ.1 0 18 = nI r.2.1 from hS.2.2.2.1)) ?_
      skip
      refine WS.iconst (v := 1) hx dX11_takes_22 (by decide) ?_
      refine WS.iadd hx dX11_takes_23 ?_
      refine WS.as rfl rfl (congrArg (fun z => Value.int z :: _) (show (nI r.2.1) + 1 = nI (r.2.1 + 1) from nI_1 _)) ?_
      skip
      refine WS.putI hx okX11 lf11_152 rfl rfl rfl rfl dX11_takes_24 ?_
      refine WS.iconst (v := 1) hx dX11_takes_27 (by decide) ?_
      exact WS.zret hx he dX11_takes_28 (Or.inr rfl) ⟨_, rfl, Or.inl ⟨hok, hcm, rfl, (hS.t hok).ad hlt⟩⟩
    · skip
      show WS layM V 2 X σ 15 [(0, rf V 0), (1, .int c)] []
      have hno : ¬ (r.1 = true ∧ cm t L r.2 = c) := fun h => c12 ((bM_cm (s := r.2) h0 h1).mpr h.2)
      refine WS.iconst (v := 0) hx dX11_takes_15 (by decide) ?_
      exact WS.zret hx he dX11_takes_16 (Or.inl rfl) ⟨_, rfl, Or.inr ⟨hno, rfl, rfl⟩⟩
set_option maxHeartbeats 1000000 in
theorem c_X11_writes (V : Vt) (d : Nat) (σ : Sg) (t : Nat → Int32) (μ0 : Sg) (L op M0 b : Nat) (hL : L ≤ 120) (hT : ∀ j, j < L → μ0.1 5 j = t j) (h8 : μ0.1 0 8 = nI L) (r : Bool × Ps) (hS : MS μ0 σ L op M0 b r) (hw : r.1 = true → M0 + (r.2.2.1 - b) < r.2.1 ∧ r.2.2.1 < r.2.1) (c m : Int32) (hp : PH m c) : CT layM V mX11_writes (d) [rf V 0, .int m] σ (Rv fun σ' => MS μ0 σ' L op M0 b (r.1, wr c r.2)) := by
  refine CT.of (own := RX11) rfl (by decide) (Nat.le_of_ble_eq_true rfl) (fun X (hx : Ok V RX11 cX11_writes 2 (d) X) (he : En layM V none (Rv fun σ' => MS μ0 σ' L op M0 b (r.1, wr c r.2)) X) => ?_)
  change WS layM V 2 X σ 0 [(0, rf V 0), (1, .int m)] []
  have hp5 := hS.2.2.2.2.1
  refine WS.aload_n hx dX11_writes_0 rfl 0 rfl ?_
  refine WS.getI hx okX11 lf11_155 rfl rfl dX11_writes_1 ?_
  refine WS.if_ge (tgt := 27) hx dX11_writes_4 (by decide) (fun c4 => ?_) (fun c4 => ?_)
  · skip
    show WS layM V 2 X σ 27 [(0, rf V 0), (1, .int m)] []
    exact WS.vret hx he dX11_writes_27 ⟨rfl, hS.nw (hS.ge c4) c⟩
  · skip
    show WS layM V 2 X σ 7 [(0, rf V 0), (1, .int m)] []
    have hok := hS.lt hL c4
    have hw9 := hw hok
    have hm9 := (hS.2.2.2.2.2.2.2 hok).2.2.2.2.1
    refine WS.aload_n hx dX11_writes_7 rfl 0 rfl ?_
    refine WS.getR hx okX11 lf11_25 rfl rfl dX11_writes_8 ?_
    refine WS.aload_n hx dX11_writes_11 rfl 0 rfl ?_
    refine WS.getI hx okX11 lf11_162 rfl rfl dX11_writes_12 ?_
    refine WS.as rfl rfl (congrArg (fun z => Value.int z :: _) (show σ.1 0 10 = nI (M0 + (r.2.2.1 - b)) from hm9)) ?_
    skip
    refine WS.iload_n hx dX11_writes_15 rfl 1 rfl ?_
    refine WS.iast hx rfl (vp_in_nI (by omega) (by decide)) dX11_writes_16 ?_
    refine WS.aload_n hx dX11_writes_17 rfl 0 rfl ?_
    refine WS.dup hx dX11_writes_18 rfl ?_
    refine WS.getI hx okX11 lf11_162 rfl rfl dX11_writes_19 ?_
    refine WS.as rfl rfl (congrArg (fun z => Value.int z :: _) (show (stI σ 6 (nn (nI (M0 + (r.2.2.1 - b)))) m).1 0 10 = nI (M0 + (r.2.2.1 - b)) from by rw [stI_o _ _ _ _ (by decide)]; exact hm9)) ?_
    skip
    refine WS.iconst (v := 1) hx dX11_writes_22 (by decide) ?_
    refine WS.iadd hx dX11_writes_23 ?_
    refine WS.as rfl rfl (congrArg (fun z => Value.int z :: _) (show (nI (M0 + (r.2.2.1 - b))) + 1 = nI (M0 + (r.2.2.1 - b) + 1) from nI_1 _)) ?_
    skip
    refine WS.putI hx okX11 lf11_162 rfl rfl rfl rfl dX11_writes_24 ?_
    exact WS.vret hx he dX11_writes_27 ⟨rfl, by (try simp only [nn_nI (show M0 + (r.2.2.1 - b) < 2 ^ 31 by omega), nI_clamp (show M0 + (r.2.2.1 - b) < 2 ^ 31 by omega)]); exact hS.w hL hok hw9 hp⟩
set_option maxHeartbeats 1000000 in
theorem c_X11_nameOf (V : Vt) (d : Nat) (σ : Sg) (c : Int32) : CT layM V mX11_nameOf (d) [.int c] σ (Ro (nmF c) σ) := by
  refine CT.of (own := RX11) rfl (by decide) (Nat.le_of_ble_eq_true rfl) (fun X (hx : Ok V RX11 cX11_nameOf 1 (d) X) (he : En layM V (some .int) (Ro (nmF c) σ) X) => ?_)
  change WS layM V 1 X σ 0 [(0, .int c)] []
  refine WS.iload_n hx dX11_nameOf_0 rfl 0 rfl ?_
  by_cases s1_97 : c = 97
  · refine WS.lookup (off := 61) (tgt := 62) hx dX11_nameOf_1 (by decide) (by rw [s1_97]; decide) (by decide) ?_
    show WS layM V 1 X σ 62 [(0, .int c)] []
    refine WS.iconst (v := 1) hx dX11_nameOf_62 (by decide) ?_
    exact WS.iret hx he dX11_nameOf_63 (Ro.i (by rw [s1_97]; rfl))
  by_cases s1_98 : c = 98
  · refine WS.lookup (off := 59) (tgt := 60) hx dX11_nameOf_1 (by decide) (by rw [s1_98]; decide) (by decide) ?_
    show WS layM V 1 X σ 60 [(0, .int c)] []
    refine WS.iconst (v := 0) hx dX11_nameOf_60 (by decide) ?_
    exact WS.iret hx he dX11_nameOf_61 (Ro.i (by rw [s1_98]; rfl))
  by_cases s1_110 : c = 110
  · refine WS.lookup (off := 65) (tgt := 66) hx dX11_nameOf_1 (by decide) (by rw [s1_110]; decide) (by decide) ?_
    show WS layM V 1 X σ 66 [(0, .int c)] []
    refine WS.iconst (v := 3) hx dX11_nameOf_66 (by decide) ?_
    exact WS.iret hx he dX11_nameOf_67 (Ro.i (by rw [s1_110]; rfl))
  by_cases s1_111 : c = 111
  · refine WS.lookup (off := 67) (tgt := 68) hx dX11_nameOf_1 (by decide) (by rw [s1_111]; decide) (by decide) ?_
    show WS layM V 1 X σ 68 [(0, .int c)] []
    refine WS.iconst (v := 4) hx dX11_nameOf_68 (by decide) ?_
    exact WS.iret hx he dX11_nameOf_69 (Ro.i (by rw [s1_111]; rfl))
  by_cases s1_119 : c = 119
  · refine WS.lookup (off := 63) (tgt := 64) hx dX11_nameOf_1 (by decide) (by rw [s1_119]; decide) (by decide) ?_
    show WS layM V 1 X σ 64 [(0, .int c)] []
    refine WS.iconst (v := 2) hx dX11_nameOf_64 (by decide) ?_
    exact WS.iret hx he dX11_nameOf_65 (Ro.i (by rw [s1_119]; rfl))
  by_cases s1_121 : c = 121
  · refine WS.lookup (off := 69) (tgt := 70) hx dX11_nameOf_1 (by decide) (by rw [s1_121]; decide) (by decide) ?_
    show WS layM V 1 X σ 70 [(0, .int c)] []
    refine WS.iconst (v := 5) hx dX11_nameOf_70 (by decide) ?_
    exact WS.iret hx he dX11_nameOf_71 (Ro.i (by rw [s1_121]; rfl))
  refine WS.lookup (off := 71) (tgt := 72) hx dX11_nameOf_1 (by decide) (sw_c s1_97 rfl (sw_c s1_98 rfl (sw_c s1_110 rfl (sw_c s1_111 rfl (sw_c s1_119 rfl (sw_c s1_121 rfl rfl)))))) (by decide) ?_
  show WS layM V 1 X σ 72 [(0, .int c)] []
  refine WS.iconst (v := (-1)) hx dX11_nameOf_72 (by decide) ?_
  exact WS.iret hx he dX11_nameOf_73 (Ro.i (by unfold nmF; rw [if_neg s1_97, if_neg s1_98, if_neg s1_110, if_neg s1_111, if_neg s1_119, if_neg s1_121]))
set_option maxHeartbeats 1000000 in
theorem lp_X11_readsProduct (V : Vt) (d : Nat) (t : Nat → Int32) (μ0 : Sg) (L op M0 b : Nat) (hL : L ≤ 120) (hT : ∀ j, j < L → μ0.1 5 j = t j) (h8 : μ0.1 0 8 = nI L) (F : Ps → Bool × Ps) (hF : ∀ (s : Ps) (τ : Sg), MS μ0 τ L op M0 b (true, s) → CT layM V mX11_readsOne (d + 1) [rf V 0] τ (Rv fun σ' => MS μ0 σ' L op M0 b (F s))) (hG : GP L F) (R : Bool × Ps) (X : Xt) (hx : Ok V RX11 cX11_readsProduct 2 (d + 2) X) (he : En layM V none (Rv fun σ' => MS μ0 σ' L op M0 b R) X) : ∀ (u : Nat) (r : Bool × Ps) (τ : Sg), 120 ≤ r.2.1 + u → MS μ0 τ L op M0 b r → lpF t L tP F u r = R → WS layM V 2 X τ 4 [(0, rf V 0)] [] := by
  intro u
  induction u with
  | zero =>
    intro r τ hu hS hR
    refine WS.aload_n hx dX11_readsProduct_4 rfl 0 rfl ?_
    refine WS.getI hx okX11 lf11_155 rfl rfl dX11_readsProduct_5 ?_
    refine WS.if_ge (tgt := 68) hx dX11_readsProduct_8 (by decide) (fun c8 => ?_) (fun c8 => ?_)
    · skip
      show WS layM V 2 X τ 68 [(0, rf V 0)] []
      exact WS.vret hx he dX11_readsProduct_68 ⟨rfl, by rw [← hR]; exact hS⟩
    · skip
      show WS layM V 2 X τ 11 [(0, rf V 0)] []
      refine WS.aload_n hx dX11_readsProduct_11 rfl 0 rfl ?_
      refine WS.callVi (st := []) [] hx (c_X11_byteAt V (d + 1) τ t μ0 L op M0 b hL hT h8 r hS) okX11_byteAt lm11_158 rfl rfl rfl rfl (Nat.le_of_ble_eq_true rfl) dX11_readsProduct_12 (fun v1 σ2 h3 => ?_)
      obtain ⟨rfl, rfl⟩ := h3
      show WS layM V 2 X τ 15 [(0, rf V 0)] [.int (bM t L r.2.1)]
      refine WS.bipush (v := 42) hx dX11_readsProduct_15 (by decide) ?_
      refine WS.icmp_eq (tgt := 38) hx dX11_readsProduct_17 (by decide) (fun c17 => ?_) (fun c17 => ?_)
      · skip
        show WS layM V 2 X τ 38 [(0, rf V 0)] []
        exfalso
        have h8 := (bM_cm (t := t) (L := L) (s := r.2) (by decide) (by decide)).mp c17
        have h9 := cm_lt (t := t) (L := L) (s := r.2) (by rw [h8]; decide)
        omega
      · skip
        show WS layM V 2 X τ 20 [(0, rf V 0)] []
        refine WS.aload_n hx dX11_readsProduct_20 rfl 0 rfl ?_
        refine WS.callVi (st := []) [] hx (c_X11_byteAt V (d + 1) τ t μ0 L op M0 b hL hT h8 r hS) okX11_byteAt lm11_158 rfl rfl rfl rfl (Nat.le_of_ble_eq_true rfl) dX11_readsProduct_21 (fun v4 σ5 h6 => ?_)
        obtain ⟨rfl, rfl⟩ := h6
        show WS layM V 2 X τ 24 [(0, rf V 0)] [.int (bM t L r.2.1)]
        refine WS.bipush (v := 47) hx dX11_readsProduct_24 (by decide) ?_
        refine WS.icmp_eq (tgt := 38) hx dX11_readsProduct_26 (by decide) (fun c26 => ?_) (fun c26 => ?_)
        · skip
          show WS layM V 2 X τ 38 [(0, rf V 0)] []
          exfalso
          have h8 := (bM_cm (t := t) (L := L) (s := r.2) (by decide) (by decide)).mp c26
          have h9 := cm_lt (t := t) (L := L) (s := r.2) (by rw [h8]; decide)
          omega
        · skip
          show WS layM V 2 X τ 29 [(0, rf V 0)] []
          refine WS.aload_n hx dX11_readsProduct_29 rfl 0 rfl ?_
          refine WS.callVi (st := []) [] hx (c_X11_byteAt V (d + 1) τ t μ0 L op M0 b hL hT h8 r hS) okX11_byteAt lm11_158 rfl rfl rfl rfl (Nat.le_of_ble_eq_true rfl) dX11_readsProduct_30 (fun v7 σ8 h9 => ?_)
          obtain ⟨rfl, rfl⟩ := h9
          show WS layM V 2 X τ 33 [(0, rf V 0)] [.int (bM t L r.2.1)]
          refine WS.bipush (v := 37) hx dX11_readsProduct_33 (by decide) ?_
          refine WS.icmp_ne (tgt := 68) hx dX11_readsProduct_35 (by decide) (fun c35 => ?_) (fun c35 => ?_)
          · skip
            show WS layM V 2 X τ 68 [(0, rf V 0)] []
            exact WS.vret hx he dX11_readsProduct_68 ⟨rfl, by rw [← hR]; exact hS⟩
          · skip
            show WS layM V 2 X τ 38 [(0, rf V 0)] []
            exfalso
            have h8 := (bM_cm (t := t) (L := L) (s := r.2) (by decide) (by decide)).mp c35
            have h9 := cm_lt (t := t) (L := L) (s := r.2) (by rw [h8]; decide)
            omega
  | succ u ih =>
    intro r τ hu hS hR
    unfold lpF at hR
    refine WS.aload_n hx dX11_readsProduct_4 rfl 0 rfl ?_
    refine WS.getI hx okX11 lf11_155 rfl rfl dX11_readsProduct_5 ?_
    refine WS.if_ge (tgt := 68) hx dX11_readsProduct_8 (by decide) (fun c8 => ?_) (fun c8 => ?_)
    · skip
      show WS layM V 2 X τ 68 [(0, rf V 0)] []
      rw [if_neg (fun q => by rw [hS.ge c8] at q; exact Bool.noConfusion q.1)] at hR
      exact WS.vret hx he dX11_readsProduct_68 ⟨rfl, by rw [← hR]; exact hS⟩
    · skip
      show WS layM V 2 X τ 11 [(0, rf V 0)] []
      refine WS.aload_n hx dX11_readsProduct_11 rfl 0 rfl ?_
      refine WS.callVi (st := []) [] hx (c_X11_byteAt V (d + 1) τ t μ0 L op M0 b hL hT h8 r hS) okX11_byteAt lm11_158 rfl rfl rfl rfl (Nat.le_of_ble_eq_true rfl) dX11_readsProduct_12 (fun v1 σ2 h3 => ?_)
      obtain ⟨rfl, rfl⟩ := h3
      show WS layM V 2 X τ 15 [(0, rf V 0)] [.int (bM t L r.2.1)]
      refine WS.bipush (v := 42) hx dX11_readsProduct_15 (by decide) ?_
      refine WS.icmp_eq (tgt := 38) hx dX11_readsProduct_17 (by decide) (fun c17 => ?_) (fun c17 => ?_)
      · skip
        show WS layM V 2 X τ 38 [(0, rf V 0)] []
        have hok := hS.lt hL c8
        have hcm := (bM_cm (t := t) (L := L) (s := r.2) (by decide) (by decide)).mp c17
        have htest : tP (cm t L r.2) = true := by rw [hcm]; decide
        rw [if_pos ⟨hok, htest⟩] at hR
        have hlt : r.2.1 < L := cm_lt (t := t) (by rw [hcm]; decide)
        have hj := hS.gp hok hlt hG
        have hj1 : r.2.1 + 1 ≤ (F (adv r.2)).2.1 := hj.1
        refine WS.aload_n hx dX11_readsProduct_38 rfl 0 rfl ?_
        refine WS.callVi (st := []) [] hx (c_X11_byteAt V (d + 1) τ t μ0 L op M0 b hL hT h8 r hS) okX11_byteAt lm11_158 rfl rfl rfl rfl (Nat.le_of_ble_eq_true rfl) dX11_readsProduct_39 (fun v4 σ5 h6 => ?_)
        obtain ⟨rfl, rfl⟩ := h6
        show WS layM V 2 X τ 42 [(0, rf V 0)] [.int (bM t L r.2.1)]
        refine WS.istore_n (lo' := [(1, .int (bM t L r.2.1)), (0, rf V 0)]) hx dX11_readsProduct_42 rfl (by decide) rfl ?_
        refine WS.aload_n hx dX11_readsProduct_43 rfl 1 rfl ?_
        refine WS.dup hx dX11_readsProduct_44 rfl ?_
        refine WS.getI hx okX11 lf11_152 rfl rfl dX11_readsProduct_45 ?_
        refine WS.as rfl rfl (congrArg (fun z => Value.int z :: _) (show τ.1 0 18 = nI r.2.1 from hS.2.2.2.1)) ?_
        skip
        refine WS.iconst (v := 1) hx dX11_readsProduct_48 (by decide) ?_
        refine WS.iadd hx dX11_readsProduct_49 ?_
        refine WS.as rfl rfl (congrArg (fun z => Value.int z :: _) (show (nI r.2.1) + 1 = nI (r.2.1 + 1) from nI_1 _)) ?_
        skip
        refine WS.putI hx okX11 lf11_152 rfl rfl rfl rfl dX11_readsProduct_50 ?_
        refine WS.aload_n hx dX11_readsProduct_53 rfl 1 rfl ?_
        refine WS.callVv (st := []) [] hx (hF (adv r.2) _ ((hS.t hok).ad hlt)) okX11_readsOne lm11_184 rfl rfl rfl rfl (Nat.le_of_ble_eq_true rfl) dX11_readsProduct_54 (fun σ8 h9 => ?_)
        have ms54 := h9
        show WS layM V 2 X σ8 57 [(1, .int (bM t L r.2.1)), (0, rf V 0)] []
        refine WS.aload_n hx dX11_readsProduct_57 rfl 1 rfl ?_
        refine WS.bipush (v := (-100)) hx dX11_readsProduct_58 (by decide) ?_
        refine WS.iload_n hx dX11_readsProduct_60 rfl 0 rfl ?_
        refine WS.isub hx dX11_readsProduct_61 ?_
        refine WS.as rfl rfl (congrArg (fun z => Value.int z :: _) (show (-100) - (bM t L r.2.1) = -100 - cm t L r.2 from by rw [bM_lt hlt])) ?_
        skip
        refine WS.callVv (st := []) [.int (-100 - cm t L r.2)] hx (c_X11_writes V (d + 1) σ8 t μ0 L op M0 b hL hT h8 (F (adv r.2)) ms54 (fun h => hS.rm hok (hj.2.2 h)) (-(cm t L r.2)) (-100 - cm t L r.2) (PH_B (tP_B htest))) okX11_writes lm11_171 rfl rfl rfl rfl (Nat.le_of_ble_eq_true rfl) dX11_readsProduct_62 (fun σ11 h12 => ?_)
        have ms62 := h12
        show WS layM V 2 X σ11 65 [(1, .int (bM t L r.2.1)), (0, rf V 0)] []
        refine WS.goto (tgt := 4) hx dX11_readsProduct_65 (by decide) ?_
        exact WS.los [1] rfl (ih _ _ (by show 120 ≤ (wr (-(cm t L r.2)) (F (adv r.2)).2).1 + u; rw [wr_p]; omega) ms62 hR)
      · skip
        show WS layM V 2 X τ 20 [(0, rf V 0)] []
        refine WS.aload_n hx dX11_readsProduct_20 rfl 0 rfl ?_
        refine WS.callVi (st := []) [] hx (c_X11_byteAt V (d + 1) τ t μ0 L op M0 b hL hT h8 r hS) okX11_byteAt lm11_158 rfl rfl rfl rfl (Nat.le_of_ble_eq_true rfl) dX11_readsProduct_21 (fun v13 σ14 h15 => ?_)
        obtain ⟨rfl, rfl⟩ := h15
        show WS layM V 2 X τ 24 [(0, rf V 0)] [.int (bM t L r.2.1)]
        refine WS.bipush (v := 47) hx dX11_readsProduct_24 (by decide) ?_
        refine WS.icmp_eq (tgt := 38) hx dX11_readsProduct_26 (by decide) (fun c26 => ?_) (fun c26 => ?_)
        · skip
          show WS layM V 2 X τ 38 [(0, rf V 0)] []
          have hok := hS.lt hL c8
          have hcm := (bM_cm (t := t) (L := L) (s := r.2) (by decide) (by decide)).mp c26
          have htest : tP (cm t L r.2) = true := by rw [hcm]; decide
          rw [if_pos ⟨hok, htest⟩] at hR
          have hlt : r.2.1 < L := cm_lt (t := t) (by rw [hcm]; decide)
          have hj := hS.gp hok hlt hG
          have hj1 : r.2.1 + 1 ≤ (F (adv r.2)).2.1 := hj.1
          refine WS.aload_n hx dX11_readsProduct_38 rfl 0 rfl ?_
          refine WS.callVi (st := []) [] hx (c_X11_byteAt V (d + 1) τ t μ0 L op M0 b hL hT h8 r hS) okX11_byteAt lm11_158 rfl rfl rfl rfl (Nat.le_of_ble_eq_true rfl) dX11_readsProduct_39 (fun v16 σ17 h18 => ?_)
          obtain ⟨rfl, rfl⟩ := h18
          show WS layM V 2 X τ 42 [(0, rf V 0)] [.int (bM t L r.2.1)]
          refine WS.istore_n (lo' := [(1, .int (bM t L r.2.1)), (0, rf V 0)]) hx dX11_readsProduct_42 rfl (by decide) rfl ?_
          refine WS.aload_n hx dX11_readsProduct_43 rfl 1 rfl ?_
          refine WS.dup hx dX11_readsProduct_44 rfl ?_
          refine WS.getI hx okX11 lf11_152 rfl rfl dX11_readsProduct_45 ?_
          refine WS.as rfl rfl (congrArg (fun z => Value.int z :: _) (show τ.1 0 18 = nI r.2.1 from hS.2.2.2.1)) ?_
          skip
          refine WS.iconst (v := 1) hx dX11_readsProduct_48 (by decide) ?_
          refine WS.iadd hx dX11_readsProduct_49 ?_
          refine WS.as rfl rfl (congrArg (fun z => Value.int z :: _) (show (nI r.2.1) + 1 = nI (r.2.1 + 1) from nI_1 _)) ?_
          skip
          refine WS.putI hx okX11 lf11_152 rfl rfl rfl rfl dX11_readsProduct_50 ?_
          refine WS.aload_n hx dX11_readsProduct_53 rfl 1 rfl ?_
          refine WS.callVv (st := []) [] hx (hF (adv r.2) _ ((hS.t hok).ad hlt)) okX11_readsOne lm11_184 rfl rfl rfl rfl (Nat.le_of_ble_eq_true rfl) dX11_readsProduct_54 (fun σ20 h21 => ?_)
          have ms54 := h21
          show WS layM V 2 X σ20 57 [(1, .int (bM t L r.2.1)), (0, rf V 0)] []
          refine WS.aload_n hx dX11_readsProduct_57 rfl 1 rfl ?_
          refine WS.bipush (v := (-100)) hx dX11_readsProduct_58 (by decide) ?_
          refine WS.iload_n hx dX11_readsProduct_60 rfl 0 rfl ?_
          refine WS.isub hx dX11_readsProduct_61 ?_
          refine WS.as rfl rfl (congrArg (fun z => Value.int z :: _) (show (-100) - (bM t L r.2.1) = -100 - cm t L r.2 from by rw [bM_lt hlt])) ?_
          skip
          refine WS.callVv (st := []) [.int (-100 - cm t L r.2)] hx (c_X11_writes V (d + 1) σ20 t μ0 L op M0 b hL hT h8 (F (adv r.2)) ms54 (fun h => hS.rm hok (hj.2.2 h)) (-(cm t L r.2)) (-100 - cm t L r.2) (PH_B (tP_B htest))) okX11_writes lm11_171 rfl rfl rfl rfl (Nat.le_of_ble_eq_true rfl) dX11_readsProduct_62 (fun σ23 h24 => ?_)
          have ms62 := h24
          show WS layM V 2 X σ23 65 [(1, .int (bM t L r.2.1)), (0, rf V 0)] []
          refine WS.goto (tgt := 4) hx dX11_readsProduct_65 (by decide) ?_
          exact WS.los [1] rfl (ih _ _ (by show 120 ≤ (wr (-(cm t L r.2)) (F (adv r.2)).2).1 + u; rw [wr_p]; omega) ms62 hR)
        · skip
          show WS layM V 2 X τ 29 [(0, rf V 0)] []
          refine WS.aload_n hx dX11_readsProduct_29 rfl 0 rfl ?_
          refine WS.callVi (st := []) [] hx (c_X11_byteAt V (d + 1) τ t μ0 L op M0 b hL hT h8 r hS) okX11_byteAt lm11_158 rfl rfl rfl rfl (Nat.le_of_ble_eq_true rfl) dX11_readsProduct_30 (fun v25 σ26 h27 => ?_)
          obtain ⟨rfl, rfl⟩ := h27
          show WS layM V 2 X τ 33 [(0, rf V 0)] [.int (bM t L r.2.1)]
          refine WS.bipush (v := 37) hx dX11_readsProduct_33 (by decide) ?_
          refine WS.icmp_ne (tgt := 68) hx dX11_readsProduct_35 (by decide) (fun c35 => ?_) (fun c35 => ?_)
          · skip
            show WS layM V 2 X τ 68 [(0, rf V 0)] []
            rw [if_neg (fun q => by have h9 := q.2; unfold tP at h9; rw [decide_eq_true_eq] at h9; rcases h9 with h9 | h9 | h9 <;> first | exact c17 ((bM_cm (t := t) (L := L) (s := r.2) (by decide) (by decide)).mpr h9) | exact c26 ((bM_cm (t := t) (L := L) (s := r.2) (by decide) (by decide)).mpr h9) | exact c35 ((bM_cm (t := t) (L := L) (s := r.2) (by decide) (by decide)).mpr h9))] at hR
            exact WS.vret hx he dX11_readsProduct_68 ⟨rfl, by rw [← hR]; exact hS⟩
          · skip
            show WS layM V 2 X τ 38 [(0, rf V 0)] []
            have hok := hS.lt hL c8
            have hcm := (bM_cm (t := t) (L := L) (s := r.2) (by decide) (by decide)).mp c35
            have htest : tP (cm t L r.2) = true := by rw [hcm]; decide
            rw [if_pos ⟨hok, htest⟩] at hR
            have hlt : r.2.1 < L := cm_lt (t := t) (by rw [hcm]; decide)
            have hj := hS.gp hok hlt hG
            have hj1 : r.2.1 + 1 ≤ (F (adv r.2)).2.1 := hj.1
            refine WS.aload_n hx dX11_readsProduct_38 rfl 0 rfl ?_
            refine WS.callVi (st := []) [] hx (c_X11_byteAt V (d + 1) τ t μ0 L op M0 b hL hT h8 r hS) okX11_byteAt lm11_158 rfl rfl rfl rfl (Nat.le_of_ble_eq_true rfl) dX11_readsProduct_39 (fun v28 σ29 h30 => ?_)
            obtain ⟨rfl, rfl⟩ := h30
            show WS layM V 2 X τ 42 [(0, rf V 0)] [.int (bM t L r.2.1)]
            refine WS.istore_n (lo' := [(1, .int (bM t L r.2.1)), (0, rf V 0)]) hx dX11_readsProduct_42 rfl (by decide) rfl ?_
            refine WS.aload_n hx dX11_readsProduct_43 rfl 1 rfl ?_
            refine WS.dup hx dX11_readsProduct_44 rfl ?_
            refine WS.getI hx okX11 lf11_152 rfl rfl dX11_readsProduct_45 ?_
            refine WS.as rfl rfl (congrArg (fun z => Value.int z :: _) (show τ.1 0 18 = nI r.2.1 from hS.2.2.2.1)) ?_
            skip
            refine WS.iconst (v := 1) hx dX11_readsProduct_48 (by decide) ?_
            refine WS.iadd hx dX11_readsProduct_49 ?_
            refine WS.as rfl rfl (congrArg (fun z => Value.int z :: _) (show (nI r.2.1) + 1 = nI (r.2.1 + 1) from nI_1 _)) ?_
            skip
            refine WS.putI hx okX11 lf11_152 rfl rfl rfl rfl dX11_readsProduct_50 ?_
            refine WS.aload_n hx dX11_readsProduct_53 rfl 1 rfl ?_
            refine WS.callVv (st := []) [] hx (hF (adv r.2) _ ((hS.t hok).ad hlt)) okX11_readsOne lm11_184 rfl rfl rfl rfl (Nat.le_of_ble_eq_true rfl) dX11_readsProduct_54 (fun σ32 h33 => ?_)
            have ms54 := h33
            show WS layM V 2 X σ32 57 [(1, .int (bM t L r.2.1)), (0, rf V 0)] []
            refine WS.aload_n hx dX11_readsProduct_57 rfl 1 rfl ?_
            refine WS.bipush (v := (-100)) hx dX11_readsProduct_58 (by decide) ?_
            refine WS.iload_n hx dX11_readsProduct_60 rfl 0 rfl ?_
            refine WS.isub hx dX11_readsProduct_61 ?_
            refine WS.as rfl rfl (congrArg (fun z => Value.int z :: _) (show (-100) - (bM t L r.2.1) = -100 - cm t L r.2 from by rw [bM_lt hlt])) ?_
            skip
            refine WS.callVv (st := []) [.int (-100 - cm t L r.2)] hx (c_X11_writes V (d + 1) σ32 t μ0 L op M0 b hL hT h8 (F (adv r.2)) ms54 (fun h => hS.rm hok (hj.2.2 h)) (-(cm t L r.2)) (-100 - cm t L r.2) (PH_B (tP_B htest))) okX11_writes lm11_171 rfl rfl rfl rfl (Nat.le_of_ble_eq_true rfl) dX11_readsProduct_62 (fun σ35 h36 => ?_)
            have ms62 := h36
            show WS layM V 2 X σ35 65 [(1, .int (bM t L r.2.1)), (0, rf V 0)] []
            refine WS.goto (tgt := 4) hx dX11_readsProduct_65 (by decide) ?_
            exact WS.los [1] rfl (ih _ _ (by show 120 ≤ (wr (-(cm t L r.2)) (F (adv r.2)).2).1 + u; rw [wr_p]; omega) ms62 hR)
set_option maxHeartbeats 1000000 in
theorem c_X11_readsProduct (V : Vt) (d : Nat) (σ : Sg) (t : Nat → Int32) (μ0 : Sg) (L op M0 b : Nat) (hL : L ≤ 120) (hT : ∀ j, j < L → μ0.1 5 j = t j) (h8 : μ0.1 0 8 = nI L) (F : Ps → Bool × Ps) (hF : ∀ (s : Ps) (τ : Sg), MS μ0 τ L op M0 b (true, s) → CT layM V mX11_readsOne (d + 1) [rf V 0] τ (Rv fun σ' => MS μ0 σ' L op M0 b (F s))) (hG : GP L F) (s : Ps) (hS : MS μ0 σ L op M0 b (true, s)) : CT layM V mX11_readsProduct (d + 2) [rf V 0] σ (Rv fun σ' => MS μ0 σ' L op M0 b (lpF t L tP F 120 (F s))) := by
  refine CT.of (own := RX11) rfl (by decide) (Nat.le_of_ble_eq_true rfl) (fun X (hx : Ok V RX11 cX11_readsProduct 2 (d + 2) X) (he : En layM V none (Rv fun σ' => MS μ0 σ' L op M0 b (lpF t L tP F 120 (F s))) X) => ?_)
  change WS layM V 2 X σ 0 [(0, rf V 0)] []
  refine WS.aload_n hx dX11_readsProduct_0 rfl 0 rfl ?_
  refine WS.callVv (st := []) [] hx (hF s _ hS) okX11_readsOne lm11_184 rfl rfl rfl rfl (Nat.le_of_ble_eq_true rfl) dX11_readsProduct_1 (fun σ2 h3 => ?_)
  have ms1 := h3
  show WS layM V 2 X σ2 4 [(0, rf V 0)] []
  exact WS.los [0] rfl (lp_X11_readsProduct V d t μ0 L op M0 b hL hT h8 F hF hG _ X hx he 120 (F s) σ2 (by omega) ms1 rfl)
set_option maxHeartbeats 1000000 in
theorem lp_X11_readsSums (V : Vt) (d : Nat) (t : Nat → Int32) (μ0 : Sg) (L op M0 b : Nat) (hL : L ≤ 120) (hT : ∀ j, j < L → μ0.1 5 j = t j) (h8 : μ0.1 0 8 = nI L) (F : Ps → Bool × Ps) (hF : ∀ (s : Ps) (τ : Sg), MS μ0 τ L op M0 b (true, s) → CT layM V mX11_readsProduct (d + 2) [rf V 0] τ (Rv fun σ' => MS μ0 σ' L op M0 b (F s))) (hG : GP L F) (R : Bool × Ps) (X : Xt) (hx : Ok V RX11 cX11_readsSums 2 (d + 3) X) (he : En layM V none (Rv fun σ' => MS μ0 σ' L op M0 b R) X) : ∀ (u : Nat) (r : Bool × Ps) (τ : Sg), 120 ≤ r.2.1 + u → MS μ0 τ L op M0 b r → lpF t L tS F u r = R → WS layM V 2 X τ 4 [(0, rf V 0)] [] := by
  intro u
  induction u with
  | zero =>
    intro r τ hu hS hR
    refine WS.aload_n hx dX11_readsSums_4 rfl 0 rfl ?_
    refine WS.getI hx okX11 lf11_155 rfl rfl dX11_readsSums_5 ?_
    refine WS.if_ge (tgt := 59) hx dX11_readsSums_8 (by decide) (fun c8 => ?_) (fun c8 => ?_)
    · skip
      show WS layM V 2 X τ 59 [(0, rf V 0)] []
      exact WS.vret hx he dX11_readsSums_59 ⟨rfl, by rw [← hR]; exact hS⟩
    · skip
      show WS layM V 2 X τ 11 [(0, rf V 0)] []
      refine WS.aload_n hx dX11_readsSums_11 rfl 0 rfl ?_
      refine WS.callVi (st := []) [] hx (c_X11_byteAt V (d + 2) τ t μ0 L op M0 b hL hT h8 r hS) okX11_byteAt lm11_158 rfl rfl rfl rfl (Nat.le_of_ble_eq_true rfl) dX11_readsSums_12 (fun v1 σ2 h3 => ?_)
      obtain ⟨rfl, rfl⟩ := h3
      show WS layM V 2 X τ 15 [(0, rf V 0)] [.int (bM t L r.2.1)]
      refine WS.bipush (v := 43) hx dX11_readsSums_15 (by decide) ?_
      refine WS.icmp_eq (tgt := 29) hx dX11_readsSums_17 (by decide) (fun c17 => ?_) (fun c17 => ?_)
      · skip
        show WS layM V 2 X τ 29 [(0, rf V 0)] []
        exfalso
        have h8 := (bM_cm (t := t) (L := L) (s := r.2) (by decide) (by decide)).mp c17
        have h9 := cm_lt (t := t) (L := L) (s := r.2) (by rw [h8]; decide)
        omega
      · skip
        show WS layM V 2 X τ 20 [(0, rf V 0)] []
        refine WS.aload_n hx dX11_readsSums_20 rfl 0 rfl ?_
        refine WS.callVi (st := []) [] hx (c_X11_byteAt V (d + 2) τ t μ0 L op M0 b hL hT h8 r hS) okX11_byteAt lm11_158 rfl rfl rfl rfl (Nat.le_of_ble_eq_true rfl) dX11_readsSums_21 (fun v4 σ5 h6 => ?_)
        obtain ⟨rfl, rfl⟩ := h6
        show WS layM V 2 X τ 24 [(0, rf V 0)] [.int (bM t L r.2.1)]
        refine WS.bipush (v := 45) hx dX11_readsSums_24 (by decide) ?_
        refine WS.icmp_ne (tgt := 59) hx dX11_readsSums_26 (by decide) (fun c26 => ?_) (fun c26 => ?_)
        · skip
          show WS layM V 2 X τ 59 [(0, rf V 0)] []
          exact WS.vret hx he dX11_readsSums_59 ⟨rfl, by rw [← hR]; exact hS⟩
        · skip
          show WS layM V 2 X τ 29 [(0, rf V 0)] []
          exfalso
          have h8 := (bM_cm (t := t) (L := L) (s := r.2) (by decide) (by decide)).mp c26
          have h9 := cm_lt (t := t) (L := L) (s := r.2) (by rw [h8]; decide)
          omega
  | succ u ih =>
    intro r τ hu hS hR
    unfold lpF at hR
    refine WS.aload_n hx dX11_readsSums_4 rfl 0 rfl ?_
    refine WS.getI hx okX11 lf11_155 rfl rfl dX11_readsSums_5 ?_
    refine WS.if_ge (tgt := 59) hx dX11_readsSums_8 (by decide) (fun c8 => ?_) (fun c8 => ?_)
    · skip
      show WS layM V 2 X τ 59 [(0, rf V 0)] []
      rw [if_neg (fun q => by rw [hS.ge c8] at q; exact Bool.noConfusion q.1)] at hR
      exact WS.vret hx he dX11_readsSums_59 ⟨rfl, by rw [← hR]; exact hS⟩
    · skip
      show WS layM V 2 X τ 11 [(0, rf V 0)] []
      refine WS.aload_n hx dX11_readsSums_11 rfl 0 rfl ?_
      refine WS.callVi (st := []) [] hx (c_X11_byteAt V (d + 2) τ t μ0 L op M0 b hL hT h8 r hS) okX11_byteAt lm11_158 rfl rfl rfl rfl (Nat.le_of_ble_eq_true rfl) dX11_readsSums_12 (fun v1 σ2 h3 => ?_)
      obtain ⟨rfl, rfl⟩ := h3
      show WS layM V 2 X τ 15 [(0, rf V 0)] [.int (bM t L r.2.1)]
      refine WS.bipush (v := 43) hx dX11_readsSums_15 (by decide) ?_
      refine WS.icmp_eq (tgt := 29) hx dX11_readsSums_17 (by decide) (fun c17 => ?_) (fun c17 => ?_)
      · skip
        show WS layM V 2 X τ 29 [(0, rf V 0)] []
        have hok := hS.lt hL c8
        have hcm := (bM_cm (t := t) (L := L) (s := r.2) (by decide) (by decide)).mp c17
        have htest : tS (cm t L r.2) = true := by rw [hcm]; decide
        rw [if_pos ⟨hok, htest⟩] at hR
        have hlt : r.2.1 < L := cm_lt (t := t) (by rw [hcm]; decide)
        have hj := hS.gp hok hlt hG
        have hj1 : r.2.1 + 1 ≤ (F (adv r.2)).2.1 := hj.1
        refine WS.aload_n hx dX11_readsSums_29 rfl 0 rfl ?_
        refine WS.callVi (st := []) [] hx (c_X11_byteAt V (d + 2) τ t μ0 L op M0 b hL hT h8 r hS) okX11_byteAt lm11_158 rfl rfl rfl rfl (Nat.le_of_ble_eq_true rfl) dX11_readsSums_30 (fun v4 σ5 h6 => ?_)
        obtain ⟨rfl, rfl⟩ := h6
        show WS layM V 2 X τ 33 [(0, rf V 0)] [.int (bM t L r.2.1)]
        refine WS.istore_n (lo' := [(1, .int (bM t L r.2.1)), (0, rf V 0)]) hx dX11_readsSums_33 rfl (by decide) rfl ?_
        refine WS.aload_n hx dX11_readsSums_34 rfl 1 rfl ?_
        refine WS.dup hx dX11_readsSums_35 rfl ?_
        refine WS.getI hx okX11 lf11_152 rfl rfl dX11_readsSums_36 ?_
        refine WS.as rfl rfl (congrArg (fun z => Value.int z :: _) (show τ.1 0 18 = nI r.2.1 from hS.2.2.2.1)) ?_
        skip
        refine WS.iconst (v := 1) hx dX11_readsSums_39 (by decide) ?_
        refine WS.iadd hx dX11_readsSums_40 ?_
        refine WS.as rfl rfl (congrArg (fun z => Value.int z :: _) (show (nI r.2.1) + 1 = nI (r.2.1 + 1) from nI_1 _)) ?_
        skip
        refine WS.putI hx okX11 lf11_152 rfl rfl rfl rfl dX11_readsSums_41 ?_
        refine WS.aload_n hx dX11_readsSums_44 rfl 1 rfl ?_
        refine WS.callVv (st := []) [] hx (hF (adv r.2) _ ((hS.t hok).ad hlt)) okX11_readsProduct lm11_181 rfl rfl rfl rfl (Nat.le_of_ble_eq_true rfl) dX11_readsSums_45 (fun σ8 h9 => ?_)
        have ms45 := h9
        show WS layM V 2 X σ8 48 [(1, .int (bM t L r.2.1)), (0, rf V 0)] []
        refine WS.aload_n hx dX11_readsSums_48 rfl 1 rfl ?_
        refine WS.bipush (v := (-100)) hx dX11_readsSums_49 (by decide) ?_
        refine WS.iload_n hx dX11_readsSums_51 rfl 0 rfl ?_
        refine WS.isub hx dX11_readsSums_52 ?_
        refine WS.as rfl rfl (congrArg (fun z => Value.int z :: _) (show (-100) - (bM t L r.2.1) = -100 - cm t L r.2 from by rw [bM_lt hlt])) ?_
        skip
        refine WS.callVv (st := []) [.int (-100 - cm t L r.2)] hx (c_X11_writes V (d + 2) σ8 t μ0 L op M0 b hL hT h8 (F (adv r.2)) ms45 (fun h => hS.rm hok (hj.2.2 h)) (-(cm t L r.2)) (-100 - cm t L r.2) (PH_B (tS_B htest))) okX11_writes lm11_171 rfl rfl rfl rfl (Nat.le_of_ble_eq_true rfl) dX11_readsSums_53 (fun σ11 h12 => ?_)
        have ms53 := h12
        show WS layM V 2 X σ11 56 [(1, .int (bM t L r.2.1)), (0, rf V 0)] []
        refine WS.goto (tgt := 4) hx dX11_readsSums_56 (by decide) ?_
        exact WS.los [1] rfl (ih _ _ (by show 120 ≤ (wr (-(cm t L r.2)) (F (adv r.2)).2).1 + u; rw [wr_p]; omega) ms53 hR)
      · skip
        show WS layM V 2 X τ 20 [(0, rf V 0)] []
        refine WS.aload_n hx dX11_readsSums_20 rfl 0 rfl ?_
        refine WS.callVi (st := []) [] hx (c_X11_byteAt V (d + 2) τ t μ0 L op M0 b hL hT h8 r hS) okX11_byteAt lm11_158 rfl rfl rfl rfl (Nat.le_of_ble_eq_true rfl) dX11_readsSums_21 (fun v13 σ14 h15 => ?_)
        obtain ⟨rfl, rfl⟩ := h15
        show WS layM V 2 X τ 24 [(0, rf V 0)] [.int (bM t L r.2.1)]
        refine WS.bipush (v := 45) hx dX11_readsSums_24 (by decide) ?_
        refine WS.icmp_ne (tgt := 59) hx dX11_readsSums_26 (by decide) (fun c26 => ?_) (fun c26 => ?_)
        · skip
          show WS layM V 2 X τ 59 [(0, rf V 0)] []
          rw [if_neg (fun q => by have h9 := q.2; unfold tS at h9; rw [decide_eq_true_eq] at h9; rcases h9 with h9 | h9 <;> first | exact c17 ((bM_cm (t := t) (L := L) (s := r.2) (by decide) (by decide)).mpr h9) | exact c26 ((bM_cm (t := t) (L := L) (s := r.2) (by decide) (by decide)).mpr h9))] at hR
          exact WS.vret hx he dX11_readsSums_59 ⟨rfl, by rw [← hR]; exact hS⟩
        · skip
          show WS layM V 2 X τ 29 [(0, rf V 0)] []
          have hok := hS.lt hL c8
          have hcm := (bM_cm (t := t) (L := L) (s := r.2) (by decide) (by decide)).mp c26
          have htest : tS (cm t L r.2) = true := by rw [hcm]; decide
          rw [if_pos ⟨hok, htest⟩] at hR
          have hlt : r.2.1 < L := cm_lt (t := t) (by rw [hcm]; decide)
          have hj := hS.gp hok hlt hG
          have hj1 : r.2.1 + 1 ≤ (F (adv r.2)).2.1 := hj.1
          refine WS.aload_n hx dX11_readsSums_29 rfl 0 rfl ?_
          refine WS.callVi (st := []) [] hx (c_X11_byteAt V (d + 2) τ t μ0 L op M0 b hL hT h8 r hS) okX11_byteAt lm11_158 rfl rfl rfl rfl (Nat.le_of_ble_eq_true rfl) dX11_readsSums_30 (fun v16 σ17 h18 => ?_)
          obtain ⟨rfl, rfl⟩ := h18
          show WS layM V 2 X τ 33 [(0, rf V 0)] [.int (bM t L r.2.1)]
          refine WS.istore_n (lo' := [(1, .int (bM t L r.2.1)), (0, rf V 0)]) hx dX11_readsSums_33 rfl (by decide) rfl ?_
          refine WS.aload_n hx dX11_readsSums_34 rfl 1 rfl ?_
          refine WS.dup hx dX11_readsSums_35 rfl ?_
          refine WS.getI hx okX11 lf11_152 rfl rfl dX11_readsSums_36 ?_
          refine WS.as rfl rfl (congrArg (fun z => Value.int z :: _) (show τ.1 0 18 = nI r.2.1 from hS.2.2.2.1)) ?_
          skip
          refine WS.iconst (v := 1) hx dX11_readsSums_39 (by decide) ?_
          refine WS.iadd hx dX11_readsSums_40 ?_
          refine WS.as rfl rfl (congrArg (fun z => Value.int z :: _) (show (nI r.2.1) + 1 = nI (r.2.1 + 1) from nI_1 _)) ?_
          skip
          refine WS.putI hx okX11 lf11_152 rfl rfl rfl rfl dX11_readsSums_41 ?_
          refine WS.aload_n hx dX11_readsSums_44 rfl 1 rfl ?_
          refine WS.callVv (st := []) [] hx (hF (adv r.2) _ ((hS.t hok).ad hlt)) okX11_readsProduct lm11_181 rfl rfl rfl rfl (Nat.le_of_ble_eq_true rfl) dX11_readsSums_45 (fun σ20 h21 => ?_)
          have ms45 := h21
          show WS layM V 2 X σ20 48 [(1, .int (bM t L r.2.1)), (0, rf V 0)] []
          refine WS.aload_n hx dX11_readsSums_48 rfl 1 rfl ?_
          refine WS.bipush (v := (-100)) hx dX11_readsSums_49 (by decide) ?_
          refine WS.iload_n hx dX11_readsSums_51 rfl 0 rfl ?_
          refine WS.isub hx dX11_readsSums_52 ?_
          refine WS.as rfl rfl (congrArg (fun z => Value.int z :: _) (show (-100) - (bM t L r.2.1) = -100 - cm t L r.2 from by rw [bM_lt hlt])) ?_
          skip
          refine WS.callVv (st := []) [.int (-100 - cm t L r.2)] hx (c_X11_writes V (d + 2) σ20 t μ0 L op M0 b hL hT h8 (F (adv r.2)) ms45 (fun h => hS.rm hok (hj.2.2 h)) (-(cm t L r.2)) (-100 - cm t L r.2) (PH_B (tS_B htest))) okX11_writes lm11_171 rfl rfl rfl rfl (Nat.le_of_ble_eq_true rfl) dX11_readsSums_53 (fun σ23 h24 => ?_)
          have ms53 := h24
          show WS layM V 2 X σ23 56 [(1, .int (bM t L r.2.1)), (0, rf V 0)] []
          refine WS.goto (tgt := 4) hx dX11_readsSums_56 (by decide) ?_
          exact WS.los [1] rfl (ih _ _ (by show 120 ≤ (wr (-(cm t L r.2)) (F (adv r.2)).2).1 + u; rw [wr_p]; omega) ms53 hR)
set_option maxHeartbeats 1000000 in
theorem c_X11_readsSums (V : Vt) (d : Nat) (σ : Sg) (t : Nat → Int32) (μ0 : Sg) (L op M0 b : Nat) (hL : L ≤ 120) (hT : ∀ j, j < L → μ0.1 5 j = t j) (h8 : μ0.1 0 8 = nI L) (F : Ps → Bool × Ps) (hF : ∀ (s : Ps) (τ : Sg), MS μ0 τ L op M0 b (true, s) → CT layM V mX11_readsProduct (d + 2) [rf V 0] τ (Rv fun σ' => MS μ0 σ' L op M0 b (F s))) (hG : GP L F) (s : Ps) (hS : MS μ0 σ L op M0 b (true, s)) : CT layM V mX11_readsSums (d + 3) [rf V 0] σ (Rv fun σ' => MS μ0 σ' L op M0 b (lpF t L tS F 120 (F s))) := by
  refine CT.of (own := RX11) rfl (by decide) (Nat.le_of_ble_eq_true rfl) (fun X (hx : Ok V RX11 cX11_readsSums 2 (d + 3) X) (he : En layM V none (Rv fun σ' => MS μ0 σ' L op M0 b (lpF t L tS F 120 (F s))) X) => ?_)
  change WS layM V 2 X σ 0 [(0, rf V 0)] []
  refine WS.aload_n hx dX11_readsSums_0 rfl 0 rfl ?_
  refine WS.callVv (st := []) [] hx (hF s _ hS) okX11_readsProduct lm11_181 rfl rfl rfl rfl (Nat.le_of_ble_eq_true rfl) dX11_readsSums_1 (fun σ2 h3 => ?_)
  have ms1 := h3
  show WS layM V 2 X σ2 4 [(0, rf V 0)] []
  exact WS.los [0] rfl (lp_X11_readsSums V d t μ0 L op M0 b hL hT h8 F hF hG _ X hx he 120 (F s) σ2 (by omega) ms1 rfl)
set_option maxHeartbeats 1000000 in
theorem c_X11_readsCompared (V : Vt) (d : Nat) (σ : Sg) (t : Nat → Int32) (μ0 : Sg) (L op M0 b : Nat) (hL : L ≤ 120) (hT : ∀ j, j < L → μ0.1 5 j = t j) (h8 : μ0.1 0 8 = nI L) (F : Ps → Bool × Ps) (hF : ∀ (s : Ps) (τ : Sg), MS μ0 τ L op M0 b (true, s) → CT layM V mX11_readsSums (d + 3) [rf V 0] τ (Rv fun σ' => MS μ0 σ' L op M0 b (F s))) (hG : GP L F) (s : Ps) (hS : MS μ0 σ L op M0 b (true, s)) : CT layM V mX11_readsCompared (d + 4) [rf V 0] σ (Rv fun σ' => MS μ0 σ' L op M0 b ((if (F s).1 = true ∧ tB (cm t L (F s).2) = true then ((F (adv (F s).2)).1, wr (-(cm t L (F s).2)) (F (adv (F s).2)).2) else F s))) := by
  refine CT.of (own := RX11) rfl (by decide) (Nat.le_of_ble_eq_true rfl) (fun X (hx : Ok V RX11 cX11_readsCompared 2 (d + 4) X) (he : En layM V none (Rv fun σ' => MS μ0 σ' L op M0 b ((if (F s).1 = true ∧ tB (cm t L (F s).2) = true then ((F (adv (F s).2)).1, wr (-(cm t L (F s).2)) (F (adv (F s).2)).2) else F s))) X) => ?_)
  change WS layM V 2 X σ 0 [(0, rf V 0)] []
  refine WS.aload_n hx dX11_readsCompared_0 rfl 0 rfl ?_
  refine WS.callVv (st := []) [] hx (hF s _ hS) okX11_readsSums lm11_178 rfl rfl rfl rfl (Nat.le_of_ble_eq_true rfl) dX11_readsCompared_1 (fun σ2 h3 => ?_)
  have ms1 := h3
  show WS layM V 2 X σ2 4 [(0, rf V 0)] []
  refine WS.aload_n hx dX11_readsCompared_4 rfl 0 rfl ?_
  refine WS.callVi (st := []) [] hx (c_X11_byteAt V (d + 3) σ2 t μ0 L op M0 b hL hT h8 (F s) ms1) okX11_byteAt lm11_158 rfl rfl rfl rfl (Nat.le_of_ble_eq_true rfl) dX11_readsCompared_5 (fun v4 σ5 h6 => ?_)
  obtain ⟨rfl, rfl⟩ := h6
  show WS layM V 2 X σ2 8 [(0, rf V 0)] [.int (bM t L ((F s).2.1))]
  refine WS.istore_n (lo' := [(1, .int (bM t L ((F s).2.1))), (0, rf V 0)]) hx dX11_readsCompared_8 rfl (by decide) rfl ?_
  refine WS.aload_n hx dX11_readsCompared_9 rfl 1 rfl ?_
  refine WS.getI hx okX11 lf11_155 rfl rfl dX11_readsCompared_10 ?_
  refine WS.if_ge (tgt := 56) hx dX11_readsCompared_13 (by decide) (fun c13 => ?_) (fun c13 => ?_)
  · skip
    show WS layM V 2 X σ2 56 [(1, .int (bM t L ((F s).2.1))), (0, rf V 0)] []
    rw [if_neg (fun q => by rw [ms1.ge c13] at q; exact Bool.noConfusion q.1)] at he
    exact WS.vret hx he dX11_readsCompared_56 ⟨rfl, ms1⟩
  · skip
    show WS layM V 2 X σ2 16 [(1, .int (bM t L ((F s).2.1))), (0, rf V 0)] []
    refine WS.iload_n hx dX11_readsCompared_16 rfl 0 rfl ?_
    refine WS.bipush (v := 60) hx dX11_readsCompared_17 (by decide) ?_
    refine WS.icmp_eq (tgt := 34) hx dX11_readsCompared_19 (by decide) (fun c19 => ?_) (fun c19 => ?_)
    · skip
      show WS layM V 2 X σ2 34 [(1, .int (bM t L ((F s).2.1))), (0, rf V 0)] []
      have hok := ms1.lt hL c13
      have hcm := (bM_cm (t := t) (L := L) (s := (F s).2) (by decide) (by decide)).mp c19
      have htest : tB (cm t L (F s).2) = true := by rw [hcm]; decide
      have hlt : (F s).2.1 < L := cm_lt (t := t) (by rw [hcm]; decide)
      have hj := ms1.gp hok hlt hG
      rw [if_pos ⟨hok, htest⟩] at he
      refine WS.aload_n hx dX11_readsCompared_34 rfl 1 rfl ?_
      refine WS.dup hx dX11_readsCompared_35 rfl ?_
      refine WS.getI hx okX11 lf11_152 rfl rfl dX11_readsCompared_36 ?_
      refine WS.as rfl rfl (congrArg (fun z => Value.int z :: _) (show σ2.1 0 18 = nI (F s).2.1 from ms1.2.2.2.1)) ?_
      skip
      refine WS.iconst (v := 1) hx dX11_readsCompared_39 (by decide) ?_
      refine WS.iadd hx dX11_readsCompared_40 ?_
      refine WS.as rfl rfl (congrArg (fun z => Value.int z :: _) (show (nI (F s).2.1) + 1 = nI ((F s).2.1 + 1) from nI_1 _)) ?_
      skip
      refine WS.putI hx okX11 lf11_152 rfl rfl rfl rfl dX11_readsCompared_41 ?_
      refine WS.aload_n hx dX11_readsCompared_44 rfl 1 rfl ?_
      refine WS.callVv (st := []) [] hx (hF (adv (F s).2) _ ((ms1.t hok).ad hlt)) okX11_readsSums lm11_178 rfl rfl rfl rfl (Nat.le_of_ble_eq_true rfl) dX11_readsCompared_45 (fun σ8 h9 => ?_)
      have ms45 := h9
      show WS layM V 2 X σ8 48 [(1, .int (bM t L ((F s).2.1))), (0, rf V 0)] []
      refine WS.aload_n hx dX11_readsCompared_48 rfl 1 rfl ?_
      refine WS.bipush (v := (-100)) hx dX11_readsCompared_49 (by decide) ?_
      refine WS.iload_n hx dX11_readsCompared_51 rfl 0 rfl ?_
      refine WS.isub hx dX11_readsCompared_52 ?_
      refine WS.as rfl rfl (congrArg (fun z => Value.int z :: _) (show (-100) - (bM t L ((F s).2.1)) = -100 - cm t L (F s).2 from by rw [bM_lt hlt])) ?_
      skip
      refine WS.callVv (st := []) [.int (-100 - cm t L (F s).2)] hx (c_X11_writes V (d + 3) σ8 t μ0 L op M0 b hL hT h8 (F (adv (F s).2)) ms45 (fun h => ms1.rm hok (hj.2.2 h)) (-(cm t L (F s).2)) (-100 - cm t L (F s).2) (PH_B (tB_B htest))) okX11_writes lm11_171 rfl rfl rfl rfl (Nat.le_of_ble_eq_true rfl) dX11_readsCompared_53 (fun σ11 h12 => ?_)
      have ms53 := h12
      show WS layM V 2 X σ11 56 [(1, .int (bM t L ((F s).2.1))), (0, rf V 0)] []
      exact WS.vret hx he dX11_readsCompared_56 ⟨rfl, ms53⟩
    · skip
      show WS layM V 2 X σ2 22 [(1, .int (bM t L ((F s).2.1))), (0, rf V 0)] []
      refine WS.iload_n hx dX11_readsCompared_22 rfl 0 rfl ?_
      refine WS.bipush (v := 61) hx dX11_readsCompared_23 (by decide) ?_
      refine WS.icmp_eq (tgt := 34) hx dX11_readsCompared_25 (by decide) (fun c25 => ?_) (fun c25 => ?_)
      · skip
        show WS layM V 2 X σ2 34 [(1, .int (bM t L ((F s).2.1))), (0, rf V 0)] []
        have hok := ms1.lt hL c13
        have hcm := (bM_cm (t := t) (L := L) (s := (F s).2) (by decide) (by decide)).mp c25
        have htest : tB (cm t L (F s).2) = true := by rw [hcm]; decide
        have hlt : (F s).2.1 < L := cm_lt (t := t) (by rw [hcm]; decide)
        have hj := ms1.gp hok hlt hG
        rw [if_pos ⟨hok, htest⟩] at he
        refine WS.aload_n hx dX11_readsCompared_34 rfl 1 rfl ?_
        refine WS.dup hx dX11_readsCompared_35 rfl ?_
        refine WS.getI hx okX11 lf11_152 rfl rfl dX11_readsCompared_36 ?_
        refine WS.as rfl rfl (congrArg (fun z => Value.int z :: _) (show σ2.1 0 18 = nI (F s).2.1 from ms1.2.2.2.1)) ?_
        skip
        refine WS.iconst (v := 1) hx dX11_readsCompared_39 (by decide) ?_
        refine WS.iadd hx dX11_readsCompared_40 ?_
        refine WS.as rfl rfl (congrArg (fun z => Value.int z :: _) (show (nI (F s).2.1) + 1 = nI ((F s).2.1 + 1) from nI_1 _)) ?_
        skip
        refine WS.putI hx okX11 lf11_152 rfl rfl rfl rfl dX11_readsCompared_41 ?_
        refine WS.aload_n hx dX11_readsCompared_44 rfl 1 rfl ?_
        refine WS.callVv (st := []) [] hx (hF (adv (F s).2) _ ((ms1.t hok).ad hlt)) okX11_readsSums lm11_178 rfl rfl rfl rfl (Nat.le_of_ble_eq_true rfl) dX11_readsCompared_45 (fun σ14 h15 => ?_)
        have ms45 := h15
        show WS layM V 2 X σ14 48 [(1, .int (bM t L ((F s).2.1))), (0, rf V 0)] []
        refine WS.aload_n hx dX11_readsCompared_48 rfl 1 rfl ?_
        refine WS.bipush (v := (-100)) hx dX11_readsCompared_49 (by decide) ?_
        refine WS.iload_n hx dX11_readsCompared_51 rfl 0 rfl ?_
        refine WS.isub hx dX11_readsCompared_52 ?_
        refine WS.as rfl rfl (congrArg (fun z => Value.int z :: _) (show (-100) - (bM t L ((F s).2.1)) = -100 - cm t L (F s).2 from by rw [bM_lt hlt])) ?_
        skip
        refine WS.callVv (st := []) [.int (-100 - cm t L (F s).2)] hx (c_X11_writes V (d + 3) σ14 t μ0 L op M0 b hL hT h8 (F (adv (F s).2)) ms45 (fun h => ms1.rm hok (hj.2.2 h)) (-(cm t L (F s).2)) (-100 - cm t L (F s).2) (PH_B (tB_B htest))) okX11_writes lm11_171 rfl rfl rfl rfl (Nat.le_of_ble_eq_true rfl) dX11_readsCompared_53 (fun σ17 h18 => ?_)
        have ms53 := h18
        show WS layM V 2 X σ17 56 [(1, .int (bM t L ((F s).2.1))), (0, rf V 0)] []
        exact WS.vret hx he dX11_readsCompared_56 ⟨rfl, ms53⟩
      · skip
        show WS layM V 2 X σ2 28 [(1, .int (bM t L ((F s).2.1))), (0, rf V 0)] []
        refine WS.iload_n hx dX11_readsCompared_28 rfl 0 rfl ?_
        refine WS.bipush (v := 62) hx dX11_readsCompared_29 (by decide) ?_
        refine WS.icmp_ne (tgt := 56) hx dX11_readsCompared_31 (by decide) (fun c31 => ?_) (fun c31 => ?_)
        · skip
          show WS layM V 2 X σ2 56 [(1, .int (bM t L ((F s).2.1))), (0, rf V 0)] []
          rw [if_neg (fun q => by have h9 := q.2; unfold tB at h9; rw [decide_eq_true_eq] at h9; rcases h9 with h9 | h9 | h9 <;> first | exact c19 ((bM_cm (t := t) (L := L) (s := (F s).2) (by decide) (by decide)).mpr h9) | exact c25 ((bM_cm (t := t) (L := L) (s := (F s).2) (by decide) (by decide)).mpr h9) | exact c31 ((bM_cm (t := t) (L := L) (s := (F s).2) (by decide) (by decide)).mpr h9))] at he
          exact WS.vret hx he dX11_readsCompared_56 ⟨rfl, ms1⟩
        · skip
          show WS layM V 2 X σ2 34 [(1, .int (bM t L ((F s).2.1))), (0, rf V 0)] []
          have hok := ms1.lt hL c13
          have hcm := (bM_cm (t := t) (L := L) (s := (F s).2) (by decide) (by decide)).mp c31
          have htest : tB (cm t L (F s).2) = true := by rw [hcm]; decide
          have hlt : (F s).2.1 < L := cm_lt (t := t) (by rw [hcm]; decide)
          have hj := ms1.gp hok hlt hG
          rw [if_pos ⟨hok, htest⟩] at he
          refine WS.aload_n hx dX11_readsCompared_34 rfl 1 rfl ?_
          refine WS.dup hx dX11_readsCompared_35 rfl ?_
          refine WS.getI hx okX11 lf11_152 rfl rfl dX11_readsCompared_36 ?_
          refine WS.as rfl rfl (congrArg (fun z => Value.int z :: _) (show σ2.1 0 18 = nI (F s).2.1 from ms1.2.2.2.1)) ?_
          skip
          refine WS.iconst (v := 1) hx dX11_readsCompared_39 (by decide) ?_
          refine WS.iadd hx dX11_readsCompared_40 ?_
          refine WS.as rfl rfl (congrArg (fun z => Value.int z :: _) (show (nI (F s).2.1) + 1 = nI ((F s).2.1 + 1) from nI_1 _)) ?_
          skip
          refine WS.putI hx okX11 lf11_152 rfl rfl rfl rfl dX11_readsCompared_41 ?_
          refine WS.aload_n hx dX11_readsCompared_44 rfl 1 rfl ?_
          refine WS.callVv (st := []) [] hx (hF (adv (F s).2) _ ((ms1.t hok).ad hlt)) okX11_readsSums lm11_178 rfl rfl rfl rfl (Nat.le_of_ble_eq_true rfl) dX11_readsCompared_45 (fun σ20 h21 => ?_)
          have ms45 := h21
          show WS layM V 2 X σ20 48 [(1, .int (bM t L ((F s).2.1))), (0, rf V 0)] []
          refine WS.aload_n hx dX11_readsCompared_48 rfl 1 rfl ?_
          refine WS.bipush (v := (-100)) hx dX11_readsCompared_49 (by decide) ?_
          refine WS.iload_n hx dX11_readsCompared_51 rfl 0 rfl ?_
          refine WS.isub hx dX11_readsCompared_52 ?_
          refine WS.as rfl rfl (congrArg (fun z => Value.int z :: _) (show (-100) - (bM t L ((F s).2.1)) = -100 - cm t L (F s).2 from by rw [bM_lt hlt])) ?_
          skip
          refine WS.callVv (st := []) [.int (-100 - cm t L (F s).2)] hx (c_X11_writes V (d + 3) σ20 t μ0 L op M0 b hL hT h8 (F (adv (F s).2)) ms45 (fun h => ms1.rm hok (hj.2.2 h)) (-(cm t L (F s).2)) (-100 - cm t L (F s).2) (PH_B (tB_B htest))) okX11_writes lm11_171 rfl rfl rfl rfl (Nat.le_of_ble_eq_true rfl) dX11_readsCompared_53 (fun σ23 h24 => ?_)
          have ms53 := h24
          show WS layM V 2 X σ23 56 [(1, .int (bM t L ((F s).2.1))), (0, rf V 0)] []
          exact WS.vret hx he dX11_readsCompared_56 ⟨rfl, ms53⟩
set_option maxHeartbeats 1000000 in
theorem lp_X11_readsBoth (V : Vt) (d : Nat) (t : Nat → Int32) (μ0 : Sg) (L op M0 b : Nat) (hL : L ≤ 120) (hT : ∀ j, j < L → μ0.1 5 j = t j) (h8 : μ0.1 0 8 = nI L) (F : Ps → Bool × Ps) (hF : ∀ (s : Ps) (τ : Sg), MS μ0 τ L op M0 b (true, s) → CT layM V mX11_readsCompared (d + 4) [rf V 0] τ (Rv fun σ' => MS μ0 σ' L op M0 b (F s))) (hG : GP L F) (R : Bool × Ps) (X : Xt) (hx : Ok V RX11 cX11_readsBoth 1 (d + 5) X) (he : En layM V none (Rv fun σ' => MS μ0 σ' L op M0 b R) X) : ∀ (u : Nat) (r : Bool × Ps) (τ : Sg), 120 ≤ r.2.1 + u → MS μ0 τ L op M0 b r → lpF t L tA F u r = R → WS layM V 1 X τ 4 [(0, rf V 0)] [] := by
  intro u
  induction u with
  | zero =>
    intro r τ hu hS hR
    refine WS.aload_n hx dX11_readsBoth_4 rfl 0 rfl ?_
    refine WS.bipush (v := 38) hx dX11_readsBoth_5 (by decide) ?_
    refine WS.callVi (st := []) [.int 38] hx (c_X11_takes V (d + 3) τ t μ0 L op M0 b hL hT h8 r hS 38 (by decide) (by decide)) okX11_takes lm11_168 rfl rfl rfl rfl (Nat.le_of_ble_eq_true rfl) dX11_readsBoth_7 (fun v1 σ2 h3 => ?_)
    rcases h3 with ⟨ok7, cm7, rfl, ms7⟩ | ⟨no7, rfl, rfl⟩
    · skip
      show WS layM V 1 X σ2 10 [(0, rf V 0)] [.int 1]
      exfalso; have h9 := cm_lt (t := t) (L := L) (s := r.2) (by rw [cm7]; decide); omega
    · skip
      show WS layM V 1 X τ 10 [(0, rf V 0)] [.int 0]
      refine WS.if_eq (tgt := 27) hx dX11_readsBoth_10 (by decide) (fun _ => ?_) (fun h => absurd (by decide) h)
      exact WS.vret hx he dX11_readsBoth_27 ⟨rfl, by rw [← hR]; exact hS⟩
  | succ u ih =>
    intro r τ hu hS hR
    unfold lpF at hR
    refine WS.aload_n hx dX11_readsBoth_4 rfl 0 rfl ?_
    refine WS.bipush (v := 38) hx dX11_readsBoth_5 (by decide) ?_
    refine WS.callVi (st := []) [.int 38] hx (c_X11_takes V (d + 3) τ t μ0 L op M0 b hL hT h8 r hS 38 (by decide) (by decide)) okX11_takes lm11_168 rfl rfl rfl rfl (Nat.le_of_ble_eq_true rfl) dX11_readsBoth_7 (fun v1 σ2 h3 => ?_)
    rcases h3 with ⟨ok7, cm7, rfl, ms7⟩ | ⟨no7, rfl, rfl⟩
    · skip
      show WS layM V 1 X σ2 10 [(0, rf V 0)] [.int 1]
      have htest : tA (cm t L r.2) = true := by rw [cm7]; decide
      rw [if_pos ⟨ok7, htest⟩] at hR
      have hlt : r.2.1 < L := cm_lt (t := t) (by rw [cm7]; decide)
      have hj := hS.gp ok7 hlt hG
      have hj1 : r.2.1 + 1 ≤ (F (adv r.2)).2.1 := hj.1
      refine WS.if_eq (tgt := 27) hx dX11_readsBoth_10 (by decide) (fun h => absurd h (by decide)) (fun _ => ?_)
      refine WS.aload_n hx dX11_readsBoth_13 rfl 0 rfl ?_
      refine WS.callVv (st := []) [] hx (hF (adv r.2) _ ms7) okX11_readsCompared lm11_175 rfl rfl rfl rfl (Nat.le_of_ble_eq_true rfl) dX11_readsBoth_14 (fun σ5 h6 => ?_)
      have ms14 := h6
      show WS layM V 1 X σ5 17 [(0, rf V 0)] []
      refine WS.aload_n hx dX11_readsBoth_17 rfl 0 rfl ?_
      refine WS.sipush (v := (-138)) hx dX11_readsBoth_18 (by decide) ?_
      refine WS.callVv (st := []) [.int (-138)] hx (c_X11_writes V (d + 4) σ5 t μ0 L op M0 b hL hT h8 (F (adv r.2)) ms14 (fun h => hS.rm ok7 (hj.2.2 h)) (-38) (-138) ⟨by decide, by decide⟩) okX11_writes lm11_171 rfl rfl rfl rfl (Nat.le_of_ble_eq_true rfl) dX11_readsBoth_21 (fun σ8 h9 => ?_)
      have ms21 := h9
      show WS layM V 1 X σ8 24 [(0, rf V 0)] []
      refine WS.goto (tgt := 4) hx dX11_readsBoth_24 (by decide) ?_
      rw [cm7] at hR
      exact WS.los [0] rfl (ih _ _ (by show 120 ≤ (wr (-38) (F (adv r.2)).2).1 + u; rw [wr_p]; omega) ms21 hR)
    · skip
      show WS layM V 1 X τ 10 [(0, rf V 0)] [.int 0]
      rw [if_neg (fun q => no7 ⟨q.1, by have h9 := q.2; unfold tA at h9; rw [decide_eq_true_eq] at h9; exact h9⟩)] at hR
      refine WS.if_eq (tgt := 27) hx dX11_readsBoth_10 (by decide) (fun _ => ?_) (fun h => absurd (by decide) h)
      exact WS.vret hx he dX11_readsBoth_27 ⟨rfl, by rw [← hR]; exact hS⟩
set_option maxHeartbeats 1000000 in
theorem c_X11_readsBoth (V : Vt) (d : Nat) (σ : Sg) (t : Nat → Int32) (μ0 : Sg) (L op M0 b : Nat) (hL : L ≤ 120) (hT : ∀ j, j < L → μ0.1 5 j = t j) (h8 : μ0.1 0 8 = nI L) (F : Ps → Bool × Ps) (hF : ∀ (s : Ps) (τ : Sg), MS μ0 τ L op M0 b (true, s) → CT layM V mX11_readsCompared (d + 4) [rf V 0] τ (Rv fun σ' => MS μ0 σ' L op M0 b (F s))) (hG : GP L F) (s : Ps) (hS : MS μ0 σ L op M0 b (true, s)) : CT layM V mX11_readsBoth (d + 5) [rf V 0] σ (Rv fun σ' => MS μ0 σ' L op M0 b (lpF t L tA F 120 (F s))) := by
  refine CT.of (own := RX11) rfl (by decide) (Nat.le_of_ble_eq_true rfl) (fun X (hx : Ok V RX11 cX11_readsBoth 1 (d + 5) X) (he : En layM V none (Rv fun σ' => MS μ0 σ' L op M0 b (lpF t L tA F 120 (F s))) X) => ?_)
  change WS layM V 1 X σ 0 [(0, rf V 0)] []
  refine WS.aload_n hx dX11_readsBoth_0 rfl 0 rfl ?_
  refine WS.callVv (st := []) [] hx (hF s _ hS) okX11_readsCompared lm11_175 rfl rfl rfl rfl (Nat.le_of_ble_eq_true rfl) dX11_readsBoth_1 (fun σ2 h3 => ?_)
  have ms1 := h3
  show WS layM V 1 X σ2 4 [(0, rf V 0)] []
  exact WS.los [0] rfl (lp_X11_readsBoth V d t μ0 L op M0 b hL hT h8 F hF hG _ X hx he 120 (F s) σ2 (by omega) ms1 rfl)
set_option maxHeartbeats 1000000 in
theorem lp_X11_readsEither (V : Vt) (d : Nat) (t : Nat → Int32) (μ0 : Sg) (L op M0 b : Nat) (hL : L ≤ 120) (hT : ∀ j, j < L → μ0.1 5 j = t j) (h8 : μ0.1 0 8 = nI L) (F : Ps → Bool × Ps) (hF : ∀ (s : Ps) (τ : Sg), MS μ0 τ L op M0 b (true, s) → CT layM V mX11_readsBoth (d + 5) [rf V 0] τ (Rv fun σ' => MS μ0 σ' L op M0 b (F s))) (hG : GP L F) (R : Bool × Ps) (X : Xt) (hx : Ok V RX11 cX11_readsEither 1 (d + 6) X) (he : En layM V none (Rv fun σ' => MS μ0 σ' L op M0 b R) X) : ∀ (u : Nat) (r : Bool × Ps) (τ : Sg), 120 ≤ r.2.1 + u → MS μ0 τ L op M0 b r → lpF t L tE F u r = R → WS layM V 1 X τ 4 [(0, rf V 0)] [] := by
  intro u
  induction u with
  | zero =>
    intro r τ hu hS hR
    refine WS.aload_n hx dX11_readsEither_4 rfl 0 rfl ?_
    refine WS.bipush (v := 124) hx dX11_readsEither_5 (by decide) ?_
    refine WS.callVi (st := []) [.int 124] hx (c_X11_takes V (d + 4) τ t μ0 L op M0 b hL hT h8 r hS 124 (by decide) (by decide)) okX11_takes lm11_168 rfl rfl rfl rfl (Nat.le_of_ble_eq_true rfl) dX11_readsEither_7 (fun v1 σ2 h3 => ?_)
    rcases h3 with ⟨ok7, cm7, rfl, ms7⟩ | ⟨no7, rfl, rfl⟩
    · skip
      show WS layM V 1 X σ2 10 [(0, rf V 0)] [.int 1]
      exfalso; have h9 := cm_lt (t := t) (L := L) (s := r.2) (by rw [cm7]; decide); omega
    · skip
      show WS layM V 1 X τ 10 [(0, rf V 0)] [.int 0]
      refine WS.if_eq (tgt := 27) hx dX11_readsEither_10 (by decide) (fun _ => ?_) (fun h => absurd (by decide) h)
      exact WS.vret hx he dX11_readsEither_27 ⟨rfl, by rw [← hR]; exact hS⟩
  | succ u ih =>
    intro r τ hu hS hR
    unfold lpF at hR
    refine WS.aload_n hx dX11_readsEither_4 rfl 0 rfl ?_
    refine WS.bipush (v := 124) hx dX11_readsEither_5 (by decide) ?_
    refine WS.callVi (st := []) [.int 124] hx (c_X11_takes V (d + 4) τ t μ0 L op M0 b hL hT h8 r hS 124 (by decide) (by decide)) okX11_takes lm11_168 rfl rfl rfl rfl (Nat.le_of_ble_eq_true rfl) dX11_readsEither_7 (fun v1 σ2 h3 => ?_)
    rcases h3 with ⟨ok7, cm7, rfl, ms7⟩ | ⟨no7, rfl, rfl⟩
    · skip
      show WS layM V 1 X σ2 10 [(0, rf V 0)] [.int 1]
      have htest : tE (cm t L r.2) = true := by rw [cm7]; decide
      rw [if_pos ⟨ok7, htest⟩] at hR
      have hlt : r.2.1 < L := cm_lt (t := t) (by rw [cm7]; decide)
      have hj := hS.gp ok7 hlt hG
      have hj1 : r.2.1 + 1 ≤ (F (adv r.2)).2.1 := hj.1
      refine WS.if_eq (tgt := 27) hx dX11_readsEither_10 (by decide) (fun h => absurd h (by decide)) (fun _ => ?_)
      refine WS.aload_n hx dX11_readsEither_13 rfl 0 rfl ?_
      refine WS.callVv (st := []) [] hx (hF (adv r.2) _ ms7) okX11_readsBoth lm11_165 rfl rfl rfl rfl (Nat.le_of_ble_eq_true rfl) dX11_readsEither_14 (fun σ5 h6 => ?_)
      have ms14 := h6
      show WS layM V 1 X σ5 17 [(0, rf V 0)] []
      refine WS.aload_n hx dX11_readsEither_17 rfl 0 rfl ?_
      refine WS.sipush (v := (-224)) hx dX11_readsEither_18 (by decide) ?_
      refine WS.callVv (st := []) [.int (-224)] hx (c_X11_writes V (d + 5) σ5 t μ0 L op M0 b hL hT h8 (F (adv r.2)) ms14 (fun h => hS.rm ok7 (hj.2.2 h)) (-124) (-224) ⟨by decide, by decide⟩) okX11_writes lm11_171 rfl rfl rfl rfl (Nat.le_of_ble_eq_true rfl) dX11_readsEither_21 (fun σ8 h9 => ?_)
      have ms21 := h9
      show WS layM V 1 X σ8 24 [(0, rf V 0)] []
      refine WS.goto (tgt := 4) hx dX11_readsEither_24 (by decide) ?_
      rw [cm7] at hR
      exact WS.los [0] rfl (ih _ _ (by show 120 ≤ (wr (-124) (F (adv r.2)).2).1 + u; rw [wr_p]; omega) ms21 hR)
    · skip
      show WS layM V 1 X τ 10 [(0, rf V 0)] [.int 0]
      rw [if_neg (fun q => no7 ⟨q.1, by have h9 := q.2; unfold tE at h9; rw [decide_eq_true_eq] at h9; exact h9⟩)] at hR
      refine WS.if_eq (tgt := 27) hx dX11_readsEither_10 (by decide) (fun _ => ?_) (fun h => absurd (by decide) h)
      exact WS.vret hx he dX11_readsEither_27 ⟨rfl, by rw [← hR]; exact hS⟩
set_option maxHeartbeats 1000000 in
theorem c_X11_readsEither (V : Vt) (d : Nat) (σ : Sg) (t : Nat → Int32) (μ0 : Sg) (L op M0 b : Nat) (hL : L ≤ 120) (hT : ∀ j, j < L → μ0.1 5 j = t j) (h8 : μ0.1 0 8 = nI L) (F : Ps → Bool × Ps) (hF : ∀ (s : Ps) (τ : Sg), MS μ0 τ L op M0 b (true, s) → CT layM V mX11_readsBoth (d + 5) [rf V 0] τ (Rv fun σ' => MS μ0 σ' L op M0 b (F s))) (hG : GP L F) (s : Ps) (hS : MS μ0 σ L op M0 b (true, s)) : CT layM V mX11_readsEither (d + 6) [rf V 0] σ (Rv fun σ' => MS μ0 σ' L op M0 b (lpF t L tE F 120 (F s))) := by
  refine CT.of (own := RX11) rfl (by decide) (Nat.le_of_ble_eq_true rfl) (fun X (hx : Ok V RX11 cX11_readsEither 1 (d + 6) X) (he : En layM V none (Rv fun σ' => MS μ0 σ' L op M0 b (lpF t L tE F 120 (F s))) X) => ?_)
  change WS layM V 1 X σ 0 [(0, rf V 0)] []
  refine WS.aload_n hx dX11_readsEither_0 rfl 0 rfl ?_
  refine WS.callVv (st := []) [] hx (hF s _ hS) okX11_readsBoth lm11_165 rfl rfl rfl rfl (Nat.le_of_ble_eq_true rfl) dX11_readsEither_1 (fun σ2 h3 => ?_)
  have ms1 := h3
  show WS layM V 1 X σ2 4 [(0, rf V 0)] []
  exact WS.los [0] rfl (lp_X11_readsEither V d t μ0 L op M0 b hL hT h8 F hF hG _ X hx he 120 (F s) σ2 (by omega) ms1 rfl)

/-! THE TIE between the class's world κ and the model's μ -/
def RTp (κ μ : Sg) (tl : Nat) : Prop := tl ≤ 120 ∧ κ.1 0 3 = nI tl ∧ μ.1 0 8 = nI tl ∧ ∀ j, j < tl → μ.1 5 j = κ.1 3 j
def RLw (V : Vt) (κ μ : Sg) (m c T : Nat) (lw : Lw) : Prop := LI V κ m c ∧ ML μ (fun j => psi (μ.1 7 j)) T lw ∧ lwF (κ.1 c) m = lwN lw
def RLd (κ μ : Sg) : Prop := ∀ j, j < 5 → κ.1 29 j = μ.1 18 j
def RTr (κ μ : Sg) (r : Nat) : Prop := r ≤ 1000 ∧ κ.1 9 3 = nI r ∧ μ.1 0 38 = nI r ∧ ∀ j, j < r → j < 24 → κ.1 37 j = μ.1 22 j
def RIk (κ μ : Sg) (im : Nat) : Prop := κ.1 7 5 = nI im ∧ μ.1 0 32 = nI im ∧ rg (κ.1 7 6) 99 ∧ μ.1 19 82 = κ.1 7 6 ∧ (∀ j, j < 5 → κ.1 30 j = μ.1 20 j) ∧ ∀ j, j < im → (μ.1 19 (10 + j) = κ.1 31 j ∧ rg (κ.1 31 j) 15) ∧ (μ.1 19 (20 + j) = κ.1 31 (10 + j) ∧ rg (κ.1 31 (10 + j)) 9) ∧ (μ.1 19 (30 + j) = κ.1 31 (20 + j) ∧ rg (κ.1 31 (20 + j)) 1) ∧ (μ.1 19 (40 + j) = κ.1 31 (30 + j) ∧ rg (κ.1 31 (30 + j)) 1)
def RIm (κ μ : Sg) (n : Nat) (kp : Bool) (im : Nat) : Prop := κ.1 7 7 = bI kp ∧ μ.1 0 31 = bI kp ∧ (kp = true → im ≤ n ∧ RIk κ μ im)
abbrev Pm : Type := Nat × Nat × Nat × Nat × Nat × Nat × Nat × Nat × Nat × Lw × Bool × Nat
/-- parameters: blocks, done, undone, toads, tape, ran, codes, their cell, the model's codes, lines, image, its blocks -/
def RELp (V : Vt) (κ μ : Sg) (n dn u z tl r m c T : Nat) (lw : Lw) (kp : Bool) (im : Nat) : Prop := MR κ μ n ∧ CR κ μ n dn u ∧ BR κ μ z ∧ SR κ μ z ∧ RTp κ μ tl ∧ RLw V κ μ m c T lw ∧ RLd κ μ ∧ RTr κ μ r ∧ RIm κ μ n kp im
def REL (V : Vt) (κ μ : Sg) : Prop := ∃ (n dn u z tl r m c T : Nat) (lw : Lw) (kp : Bool) (im : Nat), RELp V κ μ n dn u z tl r m c T lw kp im
theorem RELp.i {V : Vt} {κ μ : Sg} {n dn u z tl r m c T : Nat} {lw : Lw} {kp : Bool} {im : Nat} (h : RELp V κ μ n dn u z tl r m c T lw kp im) : REL V κ μ := ⟨n, dn, u, z, tl, r, m, c, T, lw, kp, im, h⟩
/-- each part of the tie looks at some cells alone -/
theorem QI.cg {κ κ' : Sg} {n : Nat} (h : QI κ n) (e1 : κ'.1 1 8 = κ.1 1 8) (e : ∀ q, 11 ≤ q → q ≤ 18 → κ'.1 q = κ.1 q) : QI κ' n := by
  unfold QI
  rw [e1, e 11 (by decide) (by decide), e 12 (by decide) (by decide), e 13 (by decide) (by decide), e 14 (by decide) (by decide), e 15 (by decide) (by decide), e 16 (by decide) (by decide), e 17 (by decide) (by decide), e 18 (by decide) (by decide)]
  exact h
theorem MR.cg {κ κ' μ μ' : Sg} {n : Nat} (h : MR κ μ n) (e1 : κ'.1 1 8 = κ.1 1 8) (e : ∀ q, 11 ≤ q → q ≤ 18 → κ'.1 q = κ.1 q) (f1 : μ'.1 1 = μ.1 1) (f2 : μ'.1 0 6 = μ.1 0 6) : MR κ' μ' n := ⟨h.1.cg e1 e, f2.trans h.2.1, fun q j hq hj => by rw [f1, e (11 + q) (by omega) (by omega)]; exact h.2.2 q j hq hj⟩
theorem CR.cg {κ κ' μ μ' : Sg} {n dn u : Nat} (h : CR κ μ n dn u) (e8 : κ'.1 8 = κ.1 8) (e : ∀ q, 32 ≤ q → q ≤ 35 → κ'.1 q = κ.1 q) (f4 : μ'.1 0 4 = μ.1 0 4) (f5 : μ'.1 0 5 = μ.1 0 5) (f : ∀ q, 2 ≤ q → q ≤ 4 → μ'.1 q = μ.1 q) : CR κ' μ' n dn u := by
  unfold CR
  rw [e8, e 32 (by decide) (by decide), e 33 (by decide) (by decide), e 34 (by decide) (by decide), e 35 (by decide) (by decide), f4, f5, f 2 (by decide) (by decide), f 3 (by decide) (by decide), f 4 (by decide) (by decide)]
  exact h
theorem hasC.mono {n n' : Nat} {b q : Int32} (h : hasC n b q) (hn : n ≤ n') : hasC n' b q := ⟨h.1, h.2.1, h.2.2.1, fun a => by have := h.2.2.2.1 a; omega, h.2.2.2.2.1, h.2.2.2.2.2⟩
theorem CR.mono {κ μ : Sg} {n n' dn u : Nat} (h : CR κ μ n dn u) (hn : n ≤ n') : CR κ μ n' dn u := ⟨h.1, h.2.1, h.2.2.1, h.2.2.2.1, h.2.2.2.2.1, fun p hp => ⟨(h.2.2.2.2.2 p hp).1.mono hn, (h.2.2.2.2.2 p hp).2⟩⟩
theorem BR.cg {κ κ' μ μ' : Sg} {z : Nat} (h : BR κ μ z) (e9 : κ'.1 9 2 = κ.1 9 2) (e : κ'.1 36 = κ.1 36) (f0 : μ'.1 0 35 = μ.1 0 35) (f : μ'.1 21 = μ.1 21) : BR κ' μ' z := by
  unfold BR
  rw [e9, e, f0, f]
  exact h
theorem SR.cg {κ κ' μ μ' : Sg} {z : Nat} (h : SR κ μ z) (e : ∀ s, s < 6 → κ'.1 (52 + s) = κ.1 (52 + s)) (e2 : ∀ s, s < 6 → κ'.2.1 (58 + s) = κ.2.1 (58 + s)) (f23 : μ'.1 23 = μ.1 23) (f24 : μ'.1 24 = μ.1 24) (f25 : μ'.2.1 25 = μ.2.1 25) : SR κ' μ' z := by
  intro s hs
  rw [e s hs, e2 s hs, f23, f24, f25]
  exact h s hs
theorem SR.mono {κ μ : Sg} {z z' : Nat} (h : SR κ μ z) (hz : z ≤ z') : SR κ μ z' := fun s hs => ⟨(h s hs).1, (h s hs).2.imp_right (fun g => g.imp_left (fun g => ⟨g.1, g.2.1, g.2.2.1, by have := g.2.2.2; omega⟩))⟩
theorem RTp.cg {κ κ' μ μ' : Sg} {tl : Nat} (h : RTp κ μ tl) (e0 : κ'.1 0 3 = κ.1 0 3) (e : κ'.1 3 = κ.1 3) (f0 : μ'.1 0 8 = μ.1 0 8) (f : μ'.1 5 = μ.1 5) : RTp κ' μ' tl := by
  unfold RTp
  rw [e0, e, f0, f]
  exact h
theorem LI.cg {V : Vt} {κ κ' : Sg} {m c : Nat} (h : LI V κ m c) (e2 : κ'.1 2 2 = κ.1 2 2) (e4 : κ'.1 2 4 = κ.1 2 4) (e19 : κ'.1 19 = κ.1 19) (e20 : κ'.1 20 = κ.1 20) (e23 : κ'.1 23 = κ.1 23) (et : κ'.2.2 2 = κ.2.2 2) : LI V κ' m c := by
  have ec : κ'.1 c = κ.1 c := by rcases h.c.2.2 with rfl | rfl <;> assumption
  unfold LI
  rw [e2, e4, e23, et, ec]
  exact h
theorem ML.cg {μ μ' : Sg} {T : Nat} {lw : Lw} (h : ML μ (fun j => psi (μ.1 7 j)) T lw) (f0 : μ'.1 0 17 = μ.1 0 17) (f7 : μ'.1 7 = μ.1 7) (f10 : μ'.1 10 = μ.1 10) (f11 : μ'.1 11 = μ.1 11) : ML μ' (fun j => psi (μ'.1 7 j)) T lw := by
  unfold ML
  rw [f0, f7, f10, f11]
  exact h
theorem RLw.cg {V : Vt} {κ κ' μ μ' : Sg} {m c T : Nat} {lw : Lw} (h : RLw V κ μ m c T lw) (hL : LI V κ' m c) (e19 : κ'.1 19 = κ.1 19) (e20 : κ'.1 20 = κ.1 20) (f0 : μ'.1 0 17 = μ.1 0 17) (f7 : μ'.1 7 = μ.1 7) (f10 : μ'.1 10 = μ.1 10) (f11 : μ'.1 11 = μ.1 11) : RLw V κ' μ' m c T lw := by
  have ec : κ'.1 c = κ.1 c := by rcases h.1.c.2.2 with rfl | rfl <;> assumption
  exact ⟨hL, h.2.1.cg f0 f7 f10 f11, by rw [ec]; exact h.2.2⟩
theorem RLd.cg {κ κ' μ μ' : Sg} (h : RLd κ μ) (e : κ'.1 29 = κ.1 29) (f : μ'.1 18 = μ.1 18) : RLd κ' μ' := by
  unfold RLd
  rw [e, f]
  exact h
theorem RTr.cg {κ κ' μ μ' : Sg} {r : Nat} (h : RTr κ μ r) (e9 : κ'.1 9 3 = κ.1 9 3) (e : κ'.1 37 = κ.1 37) (f0 : μ'.1 0 38 = μ.1 0 38) (f : μ'.1 22 = μ.1 22) : RTr κ' μ' r := by
  unfold RTr
  rw [e9, e, f0, f]
  exact h
theorem RIk.cg {κ κ' μ μ' : Sg} {im : Nat} (h : RIk κ μ im) (e7 : κ'.1 7 = κ.1 7) (e30 : κ'.1 30 = κ.1 30) (e31 : κ'.1 31 = κ.1 31) (f32 : μ'.1 0 32 = μ.1 0 32) (f19 : μ'.1 19 = μ.1 19) (f20 : μ'.1 20 = μ.1 20) : RIk κ' μ' im := by
  unfold RIk
  rw [e7, e30, e31, f32, f19, f20]
  exact h
theorem RIm.cg {κ κ' μ μ' : Sg} {n : Nat} {kp : Bool} {im : Nat} (h : RIm κ μ n kp im) (e7 : κ'.1 7 = κ.1 7) (e30 : κ'.1 30 = κ.1 30) (e31 : κ'.1 31 = κ.1 31) (f31 : μ'.1 0 31 = μ.1 0 31) (f32 : μ'.1 0 32 = μ.1 0 32) (f19 : μ'.1 19 = μ.1 19) (f20 : μ'.1 20 = μ.1 20) : RIm κ' μ' n kp im := ⟨by rw [e7]; exact h.1, f31.trans h.2.1, fun k => ⟨(h.2.2 k).1, (h.2.2 k).2.cg e7 e30 e31 f32 f19 f20⟩⟩
theorem RIm.mono {κ μ : Sg} {n n' : Nat} {kp : Bool} {im : Nat} (h : RIm κ μ n kp im) (hn : n ≤ n') : RIm κ μ n' kp im := ⟨h.1, h.2.1, fun k => ⟨Nat.le_trans (h.2.2 k).1 hn, (h.2.2 k).2⟩⟩
/-- scratch cells: nothing of the tie lies there -/
theorem RELp.mv {V : Vt} {κ κ' μ μ' : Sg} {n dn u z tl r m c T : Nat} {lw : Lw} {kp : Bool} {im : Nat} (h : RELp V κ μ n dn u z tl r m c T lw kp im) (hc : SE κ κ') (hL : LI V κ' m c) (hm : MO μ μ') : REL V κ' μ' := by
  obtain ⟨h1, h2, h3, h4, h5, h6, h7, h8, h9⟩ := h
  have e : ∀ q, ¬ scr q → κ'.1 q = κ.1 q := hc.1
  have f : ∀ q, 1 ≤ q → q ≤ 11 ∨ 18 ≤ q → μ'.1 q = μ.1 q := fun q a b => hm.1 q (by unfold msc; omega) (by omega) (by omega)
  have g : ∀ j, j ≠ 25 → j ≠ 26 → j ≠ 29 → μ'.1 0 j = μ.1 0 j := hm.2.1
  have e' : ∀ q, (q ≤ 4 ∨ (7 ≤ q ∧ q ≤ 20) ∨ q = 27 ∨ (29 ≤ q ∧ q ≤ 37) ∨ 52 ≤ q) → κ'.1 q = κ.1 q := fun q a => e q (by unfold scr; omega)
  refine RELp.i (n := n) (dn := dn) (u := u) (z := z) (tl := tl) (r := r) (m := m) (c := c) (T := T) (lw := lw) (kp := kp) (im := im) ⟨?_, ?_, ?_, ?_, ?_, ?_, ?_, ?_, ?_⟩
  · exact h1.cg (by rw [e' 1 (by decide)]) (fun q a b => e' q (by omega)) (f 1 (by decide) (by decide)) (g 6 (by decide) (by decide) (by decide))
  · exact h2.cg (e' 8 (by decide)) (fun q a b => e' q (by omega)) (g 4 (by decide) (by decide) (by decide)) (g 5 (by decide) (by decide) (by decide)) (fun q a b => f q (by omega) (by omega))
  · exact h3.cg (by rw [e' 9 (by decide)]) (e' 36 (by decide)) (g 35 (by decide) (by decide) (by decide)) (f 21 (by decide) (by decide))
  · exact h4.cg (fun s hs => e' _ (by omega)) (fun s hs => by rw [hc.2]) (f 23 (by decide) (by decide)) (f 24 (by decide) (by decide)) (by rw [hm.2.2])
  · exact h5.cg (by rw [e' 0 (by decide)]) (e' 3 (by decide)) (g 8 (by decide) (by decide) (by decide)) (f 5 (by decide) (by decide))
  · exact h6.cg hL (e' 19 (by decide)) (e' 20 (by decide)) (g 17 (by decide) (by decide) (by decide)) (f 7 (by decide) (by decide)) (f 10 (by decide) (by decide)) (f 11 (by decide) (by decide))
  · exact h7.cg (e' 29 (by decide)) (f 18 (by decide) (by decide))
  · exact h8.cg (by rw [e' 9 (by decide)]) (e' 37 (by decide)) (g 38 (by decide) (by decide) (by decide)) (f 22 (by decide) (by decide))
  · exact h9.cg (e' 7 (by decide)) (e' 30 (by decide)) (e' 31 (by decide)) (g 31 (by decide) (by decide) (by decide)) (g 32 (by decide) (by decide) (by decide)) (f 19 (by decide) (by decide)) (f 20 (by decide) (by decide))
theorem RELp.w {V : Vt} {κ μ : Sg} {n dn u z tl r m c T : Nat} {lw : Lw} {kp : Bool} {im : Nat} (h : RELp V κ μ n dn u z tl r m c T lw kp im) : wdS κ n m c = wdM κ n lw := by
  unfold wdS wdM
  rw [h.2.2.2.2.2.1.2.2]
theorem RELp.z60 {V : Vt} {κ μ : Sg} {n dn u z tl r m c T : Nat} {lw : Lw} {kp : Bool} {im : Nat} (h : RELp V κ μ n dn u z tl r m c T lw kp im) : ∀ s, s < 6 → rg (κ.1 (52 + s) 4) 60 := fun s hs => (h.2.2.2.1 s hs).1
/-- a call of the class and of the model: both come to their ends, alike, and the tie holds behind them -/
def OPi (V VM : Vt) (κ μ : Sg) (mC mM : Mi) (As : List Value) : Prop := ∃ (PC PM : Int32 → Sg → Prop), CT layC V mC 70 (rf V 0 :: As) κ (Ri PC) ∧ CT layM VM mM 70 (rf VM 0 :: As) μ (Ri PM) ∧ ∀ v κ' v' μ', PC v κ' → PM v' μ' → v = v' ∧ REL V κ' μ'
def OPl (V VM : Vt) (κ μ : Sg) (mC mM : Mi) (As : List Value) : Prop := ∃ (PC PM : Int64 → Sg → Prop), CT layC V mC 70 (rf V 0 :: As) κ (Rl PC) ∧ CT layM VM mM 70 (rf VM 0 :: As) μ (Rl PM) ∧ ∀ v κ' v' μ', PC v κ' → PM v' μ' → v = v' ∧ REL V κ' μ'
theorem op_of (V VM : Vt) (κ μ : Sg) (h : REL V κ μ) (b : Int32) (q : Int32) : OPi V VM κ μ mX10_of mX11_of [.int b, .int q] := by
  obtain ⟨n, dn, u, z, tl, r, m, c, T, lw, kp, im, hR⟩ := h
  obtain ⟨hM, hC, hB, hS, hT, hL, hD, hTr, hI⟩ := id hR
  have hQ := hM.q
  refine ⟨_, _, c_X10_of V 68 κ n hQ b q, c_X11_of VM 66 μ κ n hM b q, ?_⟩
  intro v κ' v' μ' h1 h2
  (try dsimp only at h1 h2)
  by_cases c0 : hasC n b q
  · exact ⟨(h1.2.2 c0).trans (h2.2.2 c0).symm, hR.mv (by rw [h1.1]; exact SE.rf) (by rw [h1.1]; exact hL.1) (by rw [h2.1]; exact MO.rf)⟩
  · exact ⟨(h1.2.1 c0).trans (h2.2.1 c0).symm, hR.mv (by rw [h1.1]; exact SE.rf) (by rw [h1.1]; exact hL.1) (by rw [h2.1]; exact MO.rf)⟩
theorem op_steps (V VM : Vt) (κ μ : Sg) (h : REL V κ μ) (x : Int32) (y : Int32) : OPi V VM κ μ mX10_steps mX11_steps [.int x, .int y] := by
  obtain ⟨n, dn, u, z, tl, r, m, c, T, lw, kp, im, hR⟩ := h
  obtain ⟨hM, hC, hB, hS, hT, hL, hD, hTr, hI⟩ := id hR
  have hQ := hM.q
  refine ⟨_, _, c_X10_steps V 68 κ n hQ x y, c_X11_steps VM 68 μ κ n hM x y, ?_⟩
  intro v κ' v' μ' h1 h2
  (try dsimp only at h1 h2)
  by_cases c0 : ¬ (0 ≤ x.toInt ∧ x.toInt ≤ 15 ∧ 0 ≤ y.toInt ∧ y.toInt ≤ 15)
  · rw [if_pos c0] at h1 h2
    exact ⟨h1.1.trans h2.1.symm, hR.mv (by rw [h1.2]; exact SE.rf) (by rw [h1.2]; exact hL.1) (show MO μ μ' from by rw [h2.2]; exact MO.rf)⟩
  rw [if_neg c0] at h1 h2
  exact ⟨h1.1.trans h2.1.symm, hR.mv (by rw [h1.2]; exact SE.rf) (by rw [h1.2]; exact hL.1) (show MO μ μ' from by rw [h2.2]; exact MO.rf)⟩
theorem op_net (V VM : Vt) (κ μ : Sg) (h : REL V κ μ) (x : Int32) (q : Int32) : OPi V VM κ μ mX10_net mX11_net [.int x, .int q] := by
  obtain ⟨n, dn, u, z, tl, r, m, c, T, lw, kp, im, hR⟩ := h
  obtain ⟨hM, hC, hB, hS, hT, hL, hD, hTr, hI⟩ := id hR
  have hQ := hM.q
  refine ⟨_, _, c_X10_net V 67 κ n hQ x q, c_X11_net VM 68 μ κ n hM x q, ?_⟩
  intro v κ' v' μ' h1 h2
  (try dsimp only at h1 h2)
  by_cases c0 : ¬ (0 ≤ x.toInt ∧ x.toInt ≤ 15 ∧ 0 ≤ q.toInt ∧ q.toInt ≤ 2)
  · rw [if_pos c0] at h1 h2
    exact ⟨h1.1.trans h2.1.symm, hR.mv (by rw [h1.2]; exact SE.rf) (by rw [h1.2]; exact hL.1) (show MO μ μ' from by rw [h2.2]; exact MO.rf)⟩
  rw [if_neg c0] at h1 h2
  by_cases c1 : q.toInt = 0
  · rw [if_pos c1] at h1 h2
    exact ⟨h1.1.trans h2.1.symm, hR.mv (by rw [h1.2]; exact SE.rf) (by rw [h1.2]; exact hL.1) (show MO μ μ' from by rw [h2.2]; exact MO.rf)⟩
  rw [if_neg c1] at h1 h2
  by_cases c2 : q.toInt = 1
  · rw [if_pos c2] at h1 h2
    exact ⟨h1.1.trans h2.1.symm, hR.mv (by rw [h1.2]; exact SE.rf) (by rw [h1.2]; exact hL.1) (show MO μ μ' from by rw [h2.2]; exact MO.rf)⟩
  rw [if_neg c2] at h1 h2
  exact ⟨h1.1.trans h2.1.symm, hR.mv (by rw [h1.2]; exact SE.rf) (by rw [h1.2]; exact hL.1) (show MO μ μ' from by rw [h2.2]; exact MO.rf)⟩
theorem op_led (V VM : Vt) (κ μ : Sg) (h : REL V κ μ) (x : Int32) : OPi V VM κ μ mX10_led mX11_led [.int x] := by
  obtain ⟨n, dn, u, z, tl, r, m, c, T, lw, kp, im, hR⟩ := h
  obtain ⟨hM, hC, hB, hS, hT, hL, hD, hTr, hI⟩ := id hR
  have hQ := hM.q
  refine ⟨_, _, c_X10_led V 68 κ x, c_X11_led VM 69 μ x, ?_⟩
  intro v κ' v' μ' h1 h2
  (try dsimp only at h1 h2)
  by_cases c0 : ¬ (0 ≤ x.toInt ∧ x.toInt ≤ 4)
  · rw [if_pos c0] at h1 h2
    exact ⟨h1.1.trans h2.1.symm, hR.mv (by rw [h1.2]; exact SE.rf) (by rw [h1.2]; exact hL.1) (show MO μ μ' from by rw [h2.2]; exact MO.rf)⟩
  rw [if_neg c0] at h1 h2
  have hx9 := nn_int (show 0 ≤ x.toInt by omega)
  exact ⟨h1.1.trans ((hD (nn x) (by omega)).trans h2.1.symm), hR.mv (by rw [h1.2]; exact SE.rf) (by rw [h1.2]; exact hL.1) (show MO μ μ' from by rw [h2.2]; exact MO.rf)⟩
theorem op_trace (V VM : Vt) (κ μ : Sg) (h : REL V κ μ) (i : Int32) : OPi V VM κ μ mX10_trace mX11_trace [.int i] := by
  obtain ⟨n, dn, u, z, tl, r, m, c, T, lw, kp, im, hR⟩ := h
  obtain ⟨hM, hC, hB, hS, hT, hL, hD, hTr, hI⟩ := id hR
  have hQ := hM.q
  refine ⟨_, _, c_X10_trace V 68 κ r hTr.2.1 (by have := hTr.1; omega) i, c_X11_trace VM 70 μ r hTr.2.2.1 (by have := hTr.1; omega) i, ?_⟩
  intro v κ' v' μ' h1 h2
  (try dsimp only at h1 h2)
  have hmv : REL V κ' μ' := hR.mv (by rw [← h1.1]; exact SE.rf) (by rw [← h1.1]; exact hL.1) (by rw [← h2.1]; exact MO.rf)
  by_cases c0 : trcC r i
  · have hi9 := nn_int c0.1
    have hi8 := c0.2
    exact ⟨(h1.2.1 c0).trans ((hTr.2.2.2 (nn i) (by omega) (by omega)).trans (h2.2.1 c0).symm), hmv⟩
  · exact ⟨(h1.2.2 c0).trans (h2.2.2 c0).symm, hmv⟩
theorem op_element (V VM : Vt) (κ μ : Sg) (h : REL V κ μ) (f : Int32) (i : Int32) : OPl V VM κ μ mX10_element mX11_element [.int f, .int i] := by
  obtain ⟨n, dn, u, z, tl, r, m, c, T, lw, kp, im, hR⟩ := h
  obtain ⟨hM, hC, hB, hS, hT, hL, hD, hTr, hI⟩ := id hR
  have hQ := hM.q
  refine ⟨_, _, c_X10_element V 67 κ hR.z60 f i, c_X11_element VM 67 μ κ z hB.1 hS f i, ?_⟩
  intro v κ' v' μ' h1 h2
  (try dsimp only at h1 h2)
  by_cases c0 : ¬ (0 ≤ f.toInt ∧ f.toInt ≤ 5)
  · rw [if_pos c0] at h1 h2
    exact ⟨h1.1.trans h2.1.symm, hR.mv (by rw [h1.2]; exact SE.rf) (by rw [h1.2]; exact hL.1) (show MO μ μ' from by rw [h2.2]; exact MO.rf)⟩
  rw [if_neg c0] at h1 h2
  by_cases c1 : κ.1 (52 + nn f) 1 = 0
  · rw [if_pos c1] at h1 h2
    exact ⟨h1.1.trans h2.1.symm, hR.mv (by rw [h1.2]; exact SE.rf) (by rw [h1.2]; exact hL.1) (show MO μ μ' from by rw [h2.2]; exact MO.rf)⟩
  rw [if_neg c1] at h1 h2
  by_cases c2 : ¬ κ.1 (52 + nn f) 1 = 2
  · rw [if_pos c2] at h1 h2
    exact ⟨h1.1.trans h2.1.symm, hR.mv (by rw [h1.2]; exact SE.rf) (by rw [h1.2]; exact hL.1) (show MO μ μ' from by rw [h2.2]; exact MO.rf)⟩
  rw [if_neg c2] at h1 h2
  by_cases c3 : ¬ (0 ≤ i.toInt ∧ i.toInt < nn (κ.1 (52 + nn f) 4))
  · rw [if_pos c3] at h1 h2
    exact ⟨h1.1.trans h2.1.symm, hR.mv (by rw [h1.2]; exact SE.rf) (by rw [h1.2]; exact hL.1) (show MO μ μ' from by rw [h2.2]; exact MO.rf)⟩
  rw [if_neg c3] at h1 h2
  exact ⟨h1.1.trans h2.1.symm, hR.mv (by rw [h1.2]; exact SE.rf) (by rw [h1.2]; exact hL.1) (show MO μ μ' from by rw [h2.2]; exact MO.rf)⟩
theorem SR.T {κ μ : Sg} {z : Nat} (h : SR κ μ z) : ∀ s, s < 6 → κ.1 (52 + s) 1 = 0 ∨ κ.1 (52 + s) 1 = 2 ∨ (κ.1 (52 + s) 1 = 1 ∧ 0 ≤ (κ.1 (52 + s) 2).toInt ∧ (κ.1 (52 + s) 2).toInt < z) := fun s hs => by
  obtain ⟨-, g | g | g⟩ := h s hs
  · exact Or.inl g.1
  · exact Or.inr (Or.inr ⟨g.1, g.2.2⟩)
  · exact Or.inr (Or.inl g.1)
theorem op_taken (V VM : Vt) (κ μ : Sg) (h : REL V κ μ) (f : Int32) (k : Int32) : OPi V VM κ μ mX10_taken mX11_taken [.int f, .int k] := by
  obtain ⟨n, dn, u, z, tl, r, m, c, T, lw, kp, im, hR⟩ := h
  obtain ⟨hM, hC, hB, hS, hT, hL, hD, hTr, hI⟩ := id hR
  have hQ := hM.q
  refine ⟨_, _, c_X10_taken V 67 κ z hB.2.1 hB.1 hS.T f k, c_X11_taken VM 68 μ κ z hB.1 hS hB f k, ?_⟩
  intro v κ' v' μ' h1 h2
  (try dsimp only at h1 h2)
  by_cases c0 : ¬ ((0 ≤ f.toInt ∧ f.toInt ≤ 5) ∧ (0 ≤ k.toInt ∧ k.toInt ≤ 7))
  · rw [if_pos c0] at h1 h2
    exact ⟨h1.1.trans h2.1.symm, hR.mv (by rw [h1.2]; exact SE.rf) (by rw [h1.2]; exact hL.1) (show MO μ μ' from by rw [h2.2]; exact MO.rf)⟩
  rw [if_neg c0] at h1 h2
  by_cases c1 : κ.1 (52 + nn f) 1 = 0
  · rw [if_pos c1] at h1 h2
    exact ⟨h1.1.trans h2.1.symm, hR.mv (by rw [h1.2]; exact SE.rf) (by rw [h1.2]; exact hL.1) (show MO μ μ' from by rw [h2.2]; exact MO.rf)⟩
  rw [if_neg c1] at h1 h2
  by_cases c2 : κ.1 (52 + nn f) 1 = 2
  · rw [if_pos c2] at h1 h2
    exact ⟨h1.1.trans h2.1.symm, hR.mv (by rw [h1.2]; exact SE.rf) (by rw [h1.2]; exact hL.1) (show MO μ μ' from by rw [h2.2]; exact MO.rf)⟩
  rw [if_neg c2] at h1 h2
  by_cases c3 : udF k 8 (κ.1 36 (nn (κ.1 (52 + nn f) 2))) = true
  · rw [if_pos c3] at h1 h2
    exact ⟨h1.1.trans h2.1.symm, hR.mv (by rw [h1.2]; exact SE.rf) (by rw [h1.2]; exact hL.1) (show MO μ μ' from by rw [h2.2]; exact MO.rf)⟩
  rw [if_neg c3] at h1 h2
  exact ⟨h1.1.trans h2.1.symm, hR.mv (by rw [h1.2]; exact SE.rf) (by rw [h1.2]; exact hL.1) (show MO μ μ' from by rw [h2.2]; exact MO.rf)⟩
theorem op_count (V VM : Vt) (κ μ : Sg) (h : REL V κ μ) (q : Int32) : OPi V VM κ μ mX10_count mX11_count [.int q] := by
  obtain ⟨n, dn, u, z, tl, r, m, c, T, lw, kp, im, hR⟩ := h
  obtain ⟨hM, hC, hB, hS, hT, hL, hD, hTr, hI⟩ := id hR
  have hQ := hM.q
  refine ⟨_, _, c_X10_count V 69 κ n hQ q, c_X11_count VM 68 μ κ n lw hM q, ?_⟩
  intro v κ' v' μ' h1 h2
  (try dsimp only at h1 h2)
  refine ⟨?_, hR.mv (by rw [h1.2]; exact SE.rf) (by rw [h1.2]; exact hL.1) h2.2.mo⟩
  rw [h1.1, h2.1]
  unfold cntF
  rw [hT.2.1, hT.2.2.1, hC.2.1, hC.2.2.2.1, hB.2.1, hB.2.2.1, hTr.2.1, hTr.2.2.1]
theorem op_fewest (V VM : Vt) (κ μ : Sg) (h : REL V κ μ) (x : Int32) (q : Int32) : OPi V VM κ μ mX10_fewest mX11_fewest [.int x, .int q] := by
  obtain ⟨n, dn, u, z, tl, r, m, c, T, lw, kp, im, hR⟩ := h
  obtain ⟨hM, hC, hB, hS, hT, hL, hD, hTr, hI⟩ := id hR
  have hQ := hM.q
  refine ⟨_, _, c_X10_fewest V 65 κ n hQ x q, c_X11_fewest VM 69 μ κ n hM lw x q, ?_⟩
  intro v κ' v' μ' h1 h2
  (try dsimp only at h1 h2)
  by_cases c0 : ¬ (0 ≤ x.toInt ∧ x.toInt ≤ 1023 ∧ 0 ≤ q.toInt ∧ q.toInt ≤ 1)
  · rw [if_pos c0] at h1 h2
    exact ⟨h1.1.trans h2.1.symm, hR.mv (by rw [h1.2]; exact SE.rf) (by rw [h1.2]; exact hL.1) h2.2.mo⟩
  rw [if_neg c0] at h1 h2
  by_cases c1 : (fwF κ n x (2 ^ n)).toInt < 0
  · rw [if_pos c1] at h1 h2
    exact ⟨h1.1.trans h2.1.symm, hR.mv (by rw [h1.2]; exact SE.rf) (by rw [h1.2]; exact hL.1) h2.2.mo⟩
  rw [if_neg c1] at h1 h2
  by_cases c2 : q.toInt = 0
  · rw [if_pos c2] at h1 h2
    exact ⟨h1.1.trans h2.1.symm, hR.mv (by rw [h1.2]; exact SE.rf) (by rw [h1.2]; exact hL.1) h2.2.mo⟩
  rw [if_neg c2] at h1 h2
  exact ⟨h1.1.trans h2.1.symm, hR.mv (by rw [h1.2]; exact SE.rf) (by rw [h1.2]; exact hL.1) h2.2.mo⟩
theorem op_chance (V VM : Vt) (κ μ : Sg) (h : REL V κ μ) (x : Int32) (q : Int32) : OPl V VM κ μ mX10_chance mX11_chance [.int x, .int q] := by
  obtain ⟨n, dn, u, z, tl, r, m, c, T, lw, kp, im, hR⟩ := h
  obtain ⟨hM, hC, hB, hS, hT, hL, hD, hTr, hI⟩ := id hR
  have hQ := hM.q
  refine ⟨_, _, c_X10_chance V 65 κ n hQ x q, c_X11_chance VM 69 μ κ n hM lw x q, ?_⟩
  intro v κ' v' μ' h1 h2
  (try dsimp only at h1 h2)
  have hmv : REL V κ' μ' := hR.mv (by rw [h1.1]; exact SE.rf) (by rw [h1.1]; exact hL.1) h2.1.mo
  by_cases c0 : (-1 ≤ x.toInt ∧ x.toInt ≤ 9 ∧ 0 ≤ q.toInt ∧ q.toInt ≤ 1)
  · have g1 := h1.2.2 (fun h => h c0)
    have g2 := h2.2.2 (fun h => h c0)
    by_cases c1 : x.toInt < 0
    · exact ⟨(g1.1 c1).trans (g2.1 c1).symm, hmv⟩
    · exact ⟨(g1.2 c1).trans (g2.2 c1).symm, hmv⟩
  · exact ⟨(h1.2.1 c0).trans (h2.2.1 c0).symm, hmv⟩
theorem op_byTurns (V VM : Vt) (κ μ : Sg) (h : REL V κ μ) (x : Int32) (q : Int32) : OPi V VM κ μ mX10_byTurns mX11_byTurns [.int x, .int q] := by
  obtain ⟨n, dn, u, z, tl, r, m, c, T, lw, kp, im, hR⟩ := h
  obtain ⟨hM, hC, hB, hS, hT, hL, hD, hTr, hI⟩ := id hR
  have hQ := hM.q
  refine ⟨_, _, c_X10_byTurns V 56 κ n hQ x q, c_X11_byTurns VM 64 μ κ n lw hM x q, ?_⟩
  intro v κ' v' μ' h1 h2
  (try dsimp only at h1 h2)
  by_cases c0 : ¬ (1 ≤ x.toInt ∧ x.toInt ≤ 4 ∧ 0 ≤ q.toInt ∧ q.toInt ≤ 1)
  · rw [if_pos c0] at h1 h2
    exact ⟨h1.1.trans h2.1.symm, hR.mv (by rw [h1.2]; exact SE.rf) (by rw [h1.2]; exact hL.1) h2.2.mo⟩
  rw [if_neg c0] at h1 h2
  by_cases c1 : q.toInt = 0
  · rw [if_pos c1] at h1 h2
    exact ⟨h1.1.trans h2.1.symm, hR.mv (by rw [h1.2]; exact SE.rf) (by rw [h1.2]; exact hL.1) h2.2.mo⟩
  rw [if_neg c1] at h1 h2
  exact ⟨h1.1.trans h2.1.symm, hR.mv (by rw [h1.2]; exact SE.rf) (by rw [h1.2]; exact hL.1) h2.2.mo⟩
theorem op_goes (V VM : Vt) (κ μ : Sg) (h : REL V κ μ) (b : Int32) : OPi V VM κ μ mX10_goes mX11_goes [.int b] := by
  obtain ⟨n, dn, u, z, tl, r, m, c, T, lw, kp, im, hR⟩ := h
  obtain ⟨hM, hC, hB, hS, hT, hL, hD, hTr, hI⟩ := id hR
  have hQ := hM.q
  refine ⟨_, _, c_X10_goes V 65 κ n hQ m c hL.1 b, c_X11_goes VM 66 μ κ n hM _ T lw hL.2.1 b, ?_⟩
  intro v κ' v' μ' h1 h2
  (try dsimp only at h1 h2)
  rw [hR.w] at h1
  by_cases c0 : ¬ (0 ≤ b.toInt ∧ b.toInt < n)
  · rw [if_pos c0] at h1 h2
    exact ⟨h1.1.trans h2.1.symm, hR.mv (by rw [h1.2]; exact SE.rf) (by rw [h1.2]; exact hL.1) h2.2.mo⟩
  rw [if_neg c0] at h1 h2
  exact ⟨h1.1.trans h2.1.symm, hR.mv h1.2.1 h1.2.2 h2.2.mo⟩
theorem op_later (V VM : Vt) (κ μ : Sg) (h : REL V κ μ) (a : Int32) (b : Int32) (q : Int32) : OPi V VM κ μ mX10_later mX11_later [.int a, .int b, .int q] := by
  obtain ⟨n, dn, u, z, tl, r, m, c, T, lw, kp, im, hR⟩ := h
  obtain ⟨hM, hC, hB, hS, hT, hL, hD, hTr, hI⟩ := id hR
  have hQ := hM.q
  refine ⟨_, _, c_X10_later V 64 κ n hQ m c hL.1 a b q, c_X11_later VM 63 μ κ n hM _ T lw hL.2.1 a b q, ?_⟩
  intro v κ' v' μ' h1 h2
  (try dsimp only at h1 h2)
  rw [hR.w] at h1
  by_cases c0 : ¬ (0 ≤ a.toInt ∧ a.toInt ≤ 60 ∧ 0 ≤ b.toInt ∧ b.toInt < n ∧ 0 ≤ q.toInt ∧ q.toInt ≤ 1)
  · rw [if_pos c0] at h1 h2
    exact ⟨h1.1.trans h2.1.symm, hR.mv (by rw [h1.2]; exact SE.rf) (by rw [h1.2]; exact hL.1) h2.2.mo⟩
  rw [if_neg c0] at h1 h2
  by_cases c1 : q.toInt = 0
  · rw [if_pos c1] at h1 h2
    exact ⟨h1.1.trans h2.1.symm, hR.mv h1.2.1 h1.2.2 h2.2.mo⟩
  rw [if_neg c1] at h1 h2
  exact ⟨h1.1.trans h2.1.symm, hR.mv h1.2.1 h1.2.2 h2.2.mo⟩
theorem op_when (V VM : Vt) (κ μ : Sg) (h : REL V κ μ) (b : Int32) (x : Int32) : OPi V VM κ μ mX10_when mX11_when [.int b, .int x] := by
  obtain ⟨n, dn, u, z, tl, r, m, c, T, lw, kp, im, hR⟩ := h
  obtain ⟨hM, hC, hB, hS, hT, hL, hD, hTr, hI⟩ := id hR
  have hQ := hM.q
  refine ⟨_, _, c_X10_when V 64 κ n hQ m c hL.1 b x, c_X11_when VM 64 μ κ n hM _ T lw hL.2.1 b x, ?_⟩
  intro v κ' v' μ' h1 h2
  (try dsimp only at h1 h2)
  rw [hR.w] at h1
  by_cases c0 : ¬ (0 ≤ b.toInt ∧ b.toInt < n ∧ 0 ≤ x.toInt ∧ x.toInt ≤ 15)
  · rw [if_pos c0] at h1 h2
    exact ⟨h1.1.trans h2.1.symm, hR.mv (by rw [h1.2]; exact SE.rf) (by rw [h1.2]; exact hL.1) h2.2.mo⟩
  rw [if_neg c0] at h1 h2
  exact ⟨h1.1.trans h2.1.symm, hR.mv h1.2.1 h1.2.2 h2.2.mo⟩
theorem op_meet (V VM : Vt) (κ μ : Sg) (h : REL V κ μ) (x : Int32) : OPi V VM κ μ mX10_meet mX11_meet [.int x] := by
  obtain ⟨n, dn, u, z, tl, r, m, c, T, lw, kp, im, hR⟩ := h
  obtain ⟨hM, hC, hB, hS, hT, hL, hD, hTr, hI⟩ := id hR
  have hQ := hM.q
  refine ⟨_, _, c_X10_meet V 64 κ n hQ m c hL.1 x, c_X11_meet VM 64 μ κ n hM _ T lw hL.2.1 x, ?_⟩
  intro v κ' v' μ' h1 h2
  (try dsimp only at h1 h2)
  rw [hR.w] at h1
  by_cases c0 : ¬ (0 ≤ (x / 10).toInt ∧ (x / 10).toInt < n ∧ 0 ≤ (x - x / 10 * 10).toInt ∧ (x - x / 10 * 10).toInt < n ∧ ¬ (x / 10).toInt = (x - x / 10 * 10).toInt)
  · rw [if_pos c0] at h1 h2
    exact ⟨h1.1.trans h2.1.symm, hR.mv (by rw [h1.2]; exact SE.rf) (by rw [h1.2]; exact hL.1) h2.2.mo⟩
  rw [if_neg c0] at h1 h2
  exact ⟨h1.1.trans h2.1.symm, hR.mv h1.2.1 h1.2.2 h2.2.mo⟩
theorem op_judge (V VM : Vt) (κ μ : Sg) (h : REL V κ μ) (f : Int32) (b : Int32) : OPi V VM κ μ mX10_judge mX11_judge [.int f, .int b] := by
  obtain ⟨n, dn, u, z, tl, r, m, c, T, lw, kp, im, hR⟩ := h
  obtain ⟨hM, hC, hB, hS, hT, hL, hD, hTr, hI⟩ := id hR
  have hQ := hM.q
  refine ⟨_, _, c_X10_judge V 63 κ n hQ m c hL.1 hR.z60 f b, c_X11_judge VM 63 μ κ n hM _ T lw hL.2.1 z hB.1 hS f b, ?_⟩
  intro v κ' v' μ' h1 h2
  (try dsimp only at h1 h2)
  rw [hR.w] at h1
  by_cases c0 : ¬ ((0 ≤ f.toInt ∧ f.toInt ≤ 5) ∧ (0 ≤ b.toInt ∧ b.toInt < n))
  · rw [if_pos c0] at h1 h2
    exact ⟨h1.1.trans h2.1.symm, hR.mv (by rw [h1.2]; exact SE.rf) (by rw [h1.2]; exact hL.1) h2.2.mo⟩
  rw [if_neg c0] at h1 h2
  by_cases c1 : κ.1 (52 + nn f) 1 = 0
  · rw [if_pos c1] at h1 h2
    exact ⟨h1.1.trans h2.1.symm, hR.mv (by rw [h1.2]; exact SE.rf) (by rw [h1.2]; exact hL.1) h2.2.mo⟩
  rw [if_neg c1] at h1 h2
  by_cases c2 : ¬ (κ.1 (52 + nn f) 1 = 2 ∧ κ.1 (52 + nn f) 3 = 0)
  · rw [if_pos c2] at h1 h2
    exact ⟨h1.1.trans h2.1.symm, hR.mv (by rw [h1.2]; exact SE.rf) (by rw [h1.2]; exact hL.1) h2.2.mo⟩
  rw [if_neg c2] at h1 h2
  exact ⟨h1.1.trans h2.1.symm, hR.mv h1.2.1 h1.2.2 h2.2.mo⟩
theorem op_fits (V VM : Vt) (κ μ : Sg) (h : REL V κ μ) (f : Int32) (b : Int32) (q : Int32) : OPi V VM κ μ mX10_fits mX11_fits [.int f, .int b, .int q] := by
  obtain ⟨n, dn, u, z, tl, r, m, c, T, lw, kp, im, hR⟩ := h
  obtain ⟨hM, hC, hB, hS, hT, hL, hD, hTr, hI⟩ := id hR
  have hQ := hM.q
  refine ⟨_, _, c_X10_fits V 63 κ n hQ m c hL.1 hR.z60 f b q, c_X11_fits VM 63 μ κ n hM _ T lw hL.2.1 z hB.1 hS f b q, ?_⟩
  intro v κ' v' μ' h1 h2
  (try dsimp only at h1 h2)
  rw [hR.w] at h1
  by_cases c0 : ¬ (0 ≤ q.toInt ∧ q.toInt ≤ 1)
  · rw [if_pos c0] at h1 h2
    exact ⟨h1.1.trans h2.1.symm, hR.mv (by rw [h1.2]; exact SE.rf) (by rw [h1.2]; exact hL.1) h2.2.mo⟩
  rw [if_neg c0] at h1 h2
  by_cases c1 : ¬ ((0 ≤ f.toInt ∧ f.toInt ≤ 5) ∧ (0 ≤ b.toInt ∧ b.toInt < n))
  · rw [if_pos c1] at h1 h2
    exact ⟨h1.1.trans h2.1.symm, hR.mv (by rw [h1.2]; exact SE.rf) (by rw [h1.2]; exact hL.1) h2.2.mo⟩
  rw [if_neg c1] at h1 h2
  by_cases c2 : κ.1 (52 + nn f) 1 = 0
  · rw [if_pos c2] at h1 h2
    exact ⟨h1.1.trans h2.1.symm, hR.mv (by rw [h1.2]; exact SE.rf) (by rw [h1.2]; exact hL.1) h2.2.mo⟩
  rw [if_neg c2] at h1 h2
  by_cases c3 : ¬ (κ.1 (52 + nn f) 1 = 2 ∧ κ.1 (52 + nn f) 3 = 0)
  · rw [if_pos c3] at h1 h2
    exact ⟨h1.1.trans h2.1.symm, hR.mv (by rw [h1.2]; exact SE.rf) (by rw [h1.2]; exact hL.1) h2.2.mo⟩
  rw [if_neg c3] at h1 h2
  by_cases c4 : q.toInt = 0
  · rw [if_pos c4] at h1 h2
    exact ⟨h1.1.trans h2.1.symm, hR.mv h1.2.1 h1.2.2 h2.2.mo⟩
  rw [if_neg c4] at h1 h2
  exact ⟨h1.1.trans h2.1.symm, hR.mv h1.2.1 h1.2.2 h2.2.mo⟩
theorem op_changed (V VM : Vt) (κ μ : Sg) (h : REL V κ μ) (b : Int32) (x : Int32) (q : Int32) : OPi V VM κ μ mX10_changed mX11_changed [.int b, .int x, .int q] := by
  obtain ⟨n, dn, u, z, tl, r, m, c, T, lw, kp, im, hR⟩ := h
  obtain ⟨hM, hC, hB, hS, hT, hL, hD, hTr, hI⟩ := id hR
  have hQ := hM.q
  refine ⟨_, _, c_X10_changed V 63 κ n hQ m c hL.1 b x q, c_X11_changed VM 64 μ κ n hM _ T lw hL.2.1 b x q, ?_⟩
  intro v κ' v' μ' h1 h2
  (try dsimp only at h1 h2)
  rw [hR.w] at h1
  by_cases c0 : ¬ (0 ≤ b.toInt ∧ b.toInt < n ∧ 1 ≤ x.toInt / 16 ∧ x.toInt / 16 ≤ 40 ∧ 0 ≤ q.toInt ∧ q.toInt ≤ 1)
  · rw [if_pos c0] at h1 h2
    exact ⟨h1.1.trans h2.1.symm, hR.mv (by rw [h1.2]; exact SE.rf) (by rw [h1.2]; exact hL.1) h2.2.mo⟩
  rw [if_neg c0] at h1 h2
  by_cases c1 : (lcF (wdM κ n lw) (nn b) (nn x / 16) (nn x % 16)).toInt < 0
  · rw [if_pos c1] at h1 h2
    exact ⟨h1.1.trans h2.1.symm, hR.mv h1.2.1 h1.2.2 h2.2.mo⟩
  rw [if_neg c1] at h1 h2
  by_cases c2 : q.toInt = 1
  · rw [if_pos c2] at h1 h2
    exact ⟨h1.1.trans h2.1.symm, hR.mv h1.2.1 h1.2.2 h2.2.mo⟩
  rw [if_neg c2] at h1 h2
  by_cases c3 : lcF (wdM κ n lw) (nn b) (nn x / 16) (nn x % 16) = 256
  · rw [if_pos c3] at h1 h2
    exact ⟨h1.1.trans h2.1.symm, hR.mv h1.2.1 h1.2.2 h2.2.mo⟩
  rw [if_neg c3] at h1 h2
  exact ⟨h1.1.trans h2.1.symm, hR.mv h1.2.1 h1.2.2 h2.2.mo⟩
theorem op_drawn (V VM : Vt) (κ μ : Sg) (h : REL V κ μ) (sd : Int32) (x : Int32) (b : Int32) : OPi V VM κ μ mX10_drawn mX11_drawn [.int sd, .int x, .int b] := by
  obtain ⟨n, dn, u, z, tl, r, m, c, T, lw, kp, im, hR⟩ := h
  obtain ⟨hM, hC, hB, hS, hT, hL, hD, hTr, hI⟩ := id hR
  have hQ := hM.q
  refine ⟨_, _, c_X10_drawn V 64 κ n hQ m c hL.1 sd x b, c_X11_drawn VM 64 μ κ n hM _ T lw hL.2.1 sd x b, ?_⟩
  intro v κ' v' μ' h1 h2
  (try dsimp only at h1 h2)
  rw [hR.w] at h1
  by_cases c0 : ¬ ((1 ≤ (x / 10000).toInt ∧ (x / 10000).toInt ≤ 30) ∧ (1 ≤ ((x / 100) - (x / 100) / 100 * 100).toInt ∧ ((x / 100) - (x / 100) / 100 * 100).toInt ≤ 60) ∧ (0 ≤ (x - x / 100 * 100).toInt ∧ (x - x / 100 * 100).toInt ≤ 12))
  · rw [if_pos c0] at h1 h2
    exact ⟨h1.1.trans h2.1.symm, hR.mv (by rw [h1.2]; exact SE.rf) (by rw [h1.2]; exact hL.1) h2.2.mo⟩
  rw [if_neg c0] at h1 h2
  by_cases c1 : ¬ (b.toInt = -1 ∨ (0 ≤ b.toInt ∧ b.toInt < n))
  · rw [if_pos c1] at h1 h2
    exact ⟨h1.1.trans h2.1.symm, hR.mv (by rw [h1.2]; exact SE.rf) (by rw [h1.2]; exact hL.1) h2.2.mo⟩
  rw [if_neg c1] at h1 h2
  by_cases c2 : b.toInt = -1
  · rw [if_pos c2] at h1 h2
    exact ⟨h1.1.trans h2.1.symm, hR.mv h1.2.1 h1.2.2 h2.2.mo⟩
  rw [if_neg c2] at h1 h2
  exact ⟨h1.1.trans h2.1.symm, hR.mv h1.2.1 h1.2.2 h2.2.mo⟩
theorem ftC_m {W : Wd} {f : Nat → Int32} {n : Nat} (hn : n ≤ 10) : ∀ dp b, dp < 4 → b < n → ftC W f n (10 * dp + b) = W.2.2.1 (ftS W b dp).1 := fun dp b hd hb => by
  unfold ftC
  rw [if_pos (by omega), show (10 * dp + b) % 10 = b by omega, show (10 * dp + b) / 10 = dp by omega]
theorem op_openings (V VM : Vt) (κ μ : Sg) (h : REL V κ μ) (k : Int32) (i : Int32) : OPi V VM κ μ mX10_openings mX11_openings [.int k, .int i] := by
  obtain ⟨n, dn, u, z, tl, r, m, c, T, lw, kp, im, hR⟩ := h
  obtain ⟨hM, hC, hB, hS, hT, hL, hD, hTr, hI⟩ := id hR
  have hQ := hM.q
  refine ⟨_, _, c_X10_openings V 61 κ n hQ m c hL.1 k i, c_X11_openings VM 58 μ κ n hM _ T lw hL.2.1 (ftC (wdM κ n lw) (κ.1 24) n) (ftC_m hM.n) (κ.1 25) (κ.1 26) k i, ?_⟩
  intro v κ' v' μ' h1 h2
  (try dsimp only at h1 h2)
  unfold skF at h1
  rw [hR.w] at h1
  by_cases c0 : ¬ (0 ≤ k.toInt ∧ k.toInt ≤ 4 ∧ -1 ≤ i.toInt)
  · rw [if_pos c0] at h1 h2
    exact ⟨h1.1.trans h2.1.symm, hR.mv (by rw [h1.2]; exact SE.rf) (by rw [h1.2]; exact hL.1) h2.2⟩
  rw [if_neg c0] at h1 h2
  by_cases c1 : i.toInt < 0
  · rw [if_pos c1] at h1 h2
    exact ⟨h1.1.trans h2.1.symm, hR.mv h1.2.1 h1.2.2 h2.2⟩
  rw [if_neg c1] at h1 h2
  exact ⟨h1.1.trans h2.1.symm, hR.mv h1.2.1 h1.2.2 h2.2⟩
theorem nI_bits {x : Int32} {k : Nat} (hk : k ≤ 31) (h : ∀ i, k ≤ i → i < 32 → bt x i = false) : ∃ j, j < 2 ^ k ∧ x = nI j := by
  refine ⟨x.toBitVec.toNat, ?_, ?_⟩
  · refine Nat.lt_pow_two_of_testBit _ (fun i hi => ?_)
    rcases Nat.lt_or_ge i 32 with h9 | h9
    · exact h i hi h9
    · exact Nat.testBit_lt_two_pow (Nat.lt_of_lt_of_le x.toBitVec.isLt (Nat.pow_le_pow_right (by decide) h9))
  · apply b_ext
    intro i hi
    show x.toBitVec.getLsbD i = (BitVec.ofNat 32 x.toBitVec.toNat).getLsbD i
    rw [BitVec.ofNat_toNat, BitVec.setWidth_eq]
theorem bc_or {p : Nat → Bool} {a : Nat → Nat} {n : Nat} (ha : ∀ k, k < n → a k < 16) : bcF (orW p (fun k => nI (a k)) n) = btM (orW p (fun k => nI (a k)) n) 16 := by
  have e : orW p (fun k => nI (a k)) n = orW p (fun k => nI (a k % 16)) n := orW_cg n (fun k hk => ⟨rfl, fun _ => by rw [Nat.mod_eq_of_lt (ha k hk)]⟩)
  have hb : ∀ k, a k % 16 < 32 := fun k => by have := Nat.mod_lt (a k) (show 0 < 16 by decide); omega
  obtain ⟨j, hj, hx⟩ := nI_bits (x := orW p (fun k => nI (a k)) n) (k := 16) (by decide) (fun i h1 h2 => by
    rw [e]
    cases h9 : bt (orW p (fun k => nI (a k % 16)) n) i with
    | false => rfl
    | true =>
      obtain ⟨k, -, -, g⟩ := (b_orW (a := fun k => a k % 16) hb h2 n).mp h9
      have := Nat.mod_lt (a k) (show 0 < 16 by decide)
      omega)
  rw [hx]
  exact bc_bt hj
theorem wd_or {p : Nat → Bool} {a : Nat → Nat} {w : Nat → Int32} {n : Nat} (ha : ∀ k, k < n → a k < 16) (hw : ∀ t, t < 16 → rg (w t) 9) : orW (bitP (orW p (fun k => nI (a k)) n)) w 16 = orW p (fun k => w (a k)) n := by
  have e : orW p (fun k => nI (a k)) n = orW p (fun k => nI (a k % 16)) n := orW_cg n (fun k hk => ⟨rfl, fun _ => by rw [Nat.mod_eq_of_lt (ha k hk)]⟩)
  have hb : ∀ k, a k % 16 < 32 := fun k => by have := Nat.mod_lt (a k) (show 0 < 16 by decide); omega
  have hc : ∀ t, nn (w (t % 16)) < 32 := fun t => by have := (hw (t % 16) (Nat.mod_lt _ (by decide))).le; omega
  rw [e, show orW (bitP (orW p (fun k => nI (a k % 16)) n)) w 16 = orW (bitP (orW p (fun k => nI (a k % 16)) n)) (fun t => nI (nn (w (t % 16)))) 16 from orW_cg 16 (fun t ht => ⟨rfl, fun _ => by rw [Nat.mod_eq_of_lt ht]; exact (hw t ht).i⟩), show orW p (fun k => w (a k)) n = orW p (fun k => nI (nn (w (a k % 16)))) n from orW_cg n (fun k hk => ⟨rfl, fun _ => by rw [Nat.mod_eq_of_lt (ha k hk)]; exact (hw _ (ha k hk)).i⟩)]
  refine orW_ex (a := fun t => nn (w (t % 16))) (b := fun k => nn (w (a k % 16))) hc (fun k => by have := hc (a k); exact this) (fun i hi => ?_)
  constructor
  · rintro ⟨t, ht, hp, hi2⟩
    rw [bitP_b (by omega)] at hp
    obtain ⟨k, h1, h2, h3⟩ := (b_orW (a := fun k => a k % 16) hb (by omega) n).mp hp
    refine ⟨k, h1, h2, ?_⟩
    have h3' : a k % 16 = t := h3
    show nn (w (a k % 16)) = i
    rw [h3', ← hi2, Nat.mod_eq_of_lt ht]
  · rintro ⟨k, h1, h2, h3⟩
    have hlt := Nat.mod_lt (a k) (show 0 < 16 by decide)
    refine ⟨a k % 16, hlt, ?_, ?_⟩
    · rw [bitP_b (by omega)]
      exact (b_orW (a := fun k => a k % 16) hb (by omega) n).mpr ⟨k, h1, h2, rfl⟩
    · show nn (w (a k % 16 % 16)) = i
      rw [Nat.mod_mod]
      exact h3
theorem op_wall (V VM : Vt) (κ μ : Sg) (h : REL V κ μ) (a : Int32) (q : Int32) : OPi V VM κ μ mX10_wall mX11_wall [.int a, .int q] := by
  obtain ⟨n, dn, u, z, tl, r, m, c, T, lw, kp, im, hR⟩ := h
  obtain ⟨hM, hC, hB, hS, hT, hL, hD, hTr, hI⟩ := id hR
  have hQ := hM.q
  refine ⟨_, _, c_X10_wall V 63 κ n hQ m c hL.1 a q, c_X11_wall VM 63 μ κ n hM _ T lw hL.2.1 a q, ?_⟩
  intro v κ' v' μ' h1 h2
  (try dsimp only at h1 h2)
  have hq9 := hQ
  have ha : ∀ j, j < n → (rep ((wdM κ n lw).cn j ((wdM κ n lw).bd j)) (nn a) ((wdM κ n lw).s0 j)).1 < 16 := fun j hj => by
    rw [← hR.w]
    have h9 := hQ.2.2.2.1 j (by have := hM.n; omega)
    exact (rep_r hQ (nn a) (show nn (κ.1 12 j) < 16 by have := h9.le; omega) (show nn (κ.1 18 0) ≤ 99 from hQ.2.2.2.2.2.2.2.2.2.le)).1
  rw [hR.w] at h1
  have hp : ∀ (f : Nat → Int32), orW (fun k => !((wdM κ n lw).2.2.2.2.2.2.1 k)) f n = orW (fun j => decide (¬ κ.1 14 j = 1)) f n := fun f => orW_cg n (fun k hk => ⟨(decide_not).symm, fun _ => rfl⟩)
  rw [hp, hp] at h2
  by_cases c0 : ¬ (0 ≤ a.toInt ∧ a.toInt ≤ 60 ∧ 0 ≤ q.toInt ∧ q.toInt ≤ 1)
  · rw [if_pos c0] at h1 h2
    exact ⟨h1.1.trans h2.1.symm, hR.mv (by rw [h1.2]; exact SE.rf) (by rw [h1.2]; exact hL.1) h2.2.mo⟩
  rw [if_neg c0] at h1 h2
  by_cases c1 : q.toInt = 0
  · rw [if_pos c1] at h1 h2
    exact ⟨h1.1.trans ((wd_or ha (fun t ht => hQ.2.2.2.2.2.2.2.2.1 t ht)).trans h2.1.symm), hR.mv h1.2.1 h1.2.2 h2.2.mo⟩
  rw [if_neg c1] at h1 h2
  exact ⟨h1.1.trans ((bc_or ha).trans h2.1.symm), hR.mv h1.2.1 h1.2.2 h2.2.mo⟩

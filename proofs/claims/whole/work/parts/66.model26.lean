/-- acts in the model: what ran, as far as it is kept -/
def BM (σ τ : Sg) (s : Tz) : Prop := (∀ q, q ≠ 0 → q ≠ 22 → τ.1 q = σ.1 q) ∧ τ.2 = σ.2 ∧ (∀ j, j < s.2 → j < 24 → τ.1 22 j = s.1 j) ∧ τ.1 0 38 = nI s.2 ∧ (∀ j, j ≠ 38 → τ.1 0 j = σ.1 0 j)
def thM (me k x : Int32) (s : Tz) : Int32 × Tz := if k = 1 ∨ k = 4 ∨ k = 7 then (x + me + 3, rn1 1 (rn1 20 s)) else if k = 6 then ((x + me) * 2, rn1 1 (rn1 70 s)) else (x + me, rn1 1 s)
def blM (me K k x : Int32) (s : Tz) : Int32 × Tz := if k = 3 ∨ k = 5 then ((x ^^^ me) * 3, rn1 11 (rn1 40 s)) else if k = 4 ∨ k = 7 then ((x ^^^ me) - (thM me K 2 (rn1 11 (rn1 50 s))).1, (thM me K 2 (rn1 11 (rn1 50 s))).2) else (x ^^^ me, rn1 11 s)
def s0M (me K x : Int32) (s : Tz) : Int32 × Tz := ((thM me K x (rn1 10 s)).1 * 2, (thM me K x (rn1 10 s)).2)
def s2M (me K x : Int32) (s : Tz) : Int32 × Tz := (-(s0M me K x (rn1 30 s)).1, (s0M me K x (rn1 30 s)).2)
def saM (me K k x : Int32) (s : Tz) : Int32 × Tz := if k = 3 ∨ k = 5 then s2M me K (x + 1) (rn1 41 s) else if k = 2 then s2M me K x s else if k = 7 then ((s0M me K x (rn1 80 s)).1 + (blM me K K 2 (s0M me K x (rn1 80 s)).2).1, (blM me K K 2 (s0M me K x (rn1 80 s)).2).2) else s0M me K x s
def t0M (me K x : Int32) (s : Tz) : Int32 × Tz := ((saM me K K x (rn1 2 s)).1 - (blM me K K 1 (saM me K K x (rn1 2 s)).2).1, (blM me K K 1 (saM me K K x (rn1 2 s)).2).2)
def teM (me K k x : Int32) (s : Tz) : Int32 × Tz := if k = 5 then ((t0M me K x (rn1 60 s)).1 ^^^ 5, (t0M me K x (rn1 60 s)).2) else if k = 7 then ((t0M me K x (rn1 81 s)).1 - 1, (t0M me K x (rn1 81 s)).2) else t0M me K x s
theorem rn1_n {b : Int32} {s : Tz} : (rn1 b s).2 = s.2 + 1 := rfl
theorem thM_n {me k x : Int32} {s : Tz} : (thM me k x s).2.2 ≤ s.2 + 2 := by
  unfold thM
  split
  · exact Nat.le_refl _
  · split
    · exact Nat.le_refl _
    · exact Nat.le_succ _
theorem blM_n {me K k x : Int32} {s : Tz} : (blM me K k x s).2.2 ≤ s.2 + 4 := by
  unfold blM
  split
  · show s.2 + 1 + 1 ≤ _; omega
  · split
    · exact Nat.le_trans thM_n (by show s.2 + 1 + 1 + 2 ≤ _; omega)
    · show s.2 + 1 ≤ _; omega
theorem s0M_n {me K x : Int32} {s : Tz} : (s0M me K x s).2.2 ≤ s.2 + 3 := Nat.le_trans thM_n (by show s.2 + 1 + 2 ≤ _; omega)
theorem s2M_n {me K x : Int32} {s : Tz} : (s2M me K x s).2.2 ≤ s.2 + 4 := Nat.le_trans s0M_n (by show s.2 + 1 + 3 ≤ _; omega)
theorem saM_n {me K k x : Int32} {s : Tz} : (saM me K k x s).2.2 ≤ s.2 + 8 := by
  unfold saM
  split
  · exact Nat.le_trans s2M_n (by show s.2 + 1 + 4 ≤ _; omega)
  · split
    · exact Nat.le_trans s2M_n (by omega)
    · split
      · refine Nat.le_trans blM_n ?_
        have h := s0M_n (me := me) (K := K) (x := x) (s := rn1 80 s)
        rw [rn1_n] at h
        omega
      · exact Nat.le_trans s0M_n (by omega)
theorem BM.up {σ0 τ : Sg} {s : Tz} (h : BM σ0 τ s) (b : Int32) (h1 : s.2 < 24) : BM σ0 (stI (stI τ 22 s.2 b) 0 38 (nI (s.2 + 1))) (rn1 b s) := by
  refine ⟨fun q a c => ?_, h.2.1, fun j hj hj2 => ?_, stI_1 _ _ _ _, fun j hj => ?_⟩
  · rw [stI_o _ _ _ _ a, stI_o _ _ _ _ c]; exact h.1 q a c
  · rw [stI_o _ _ _ _ (by decide)]
    show (stI τ 22 s.2 b).1 22 j = (if s.2 < 24 then upd s.1 s.2 b else s.1) j
    rw [if_pos h1]
    by_cases e : j = s.2
    · subst e; rw [stI_1, pk_us]
    · rw [stI_k _ _ _ _ e, pk_un e]
      exact h.2.2.1 j (by have : j < s.2 + 1 := hj; omega) hj2
  · rw [stI_k _ _ _ _ hj, stI_o _ _ _ _ (by decide)]; exact h.2.2.2.2 j hj
theorem BM.up2 {σ0 τ : Sg} {s : Tz} (h : BM σ0 τ s) (b : Int32) (h1 : ¬ s.2 < 24) : BM σ0 (stI τ 0 38 (nI (s.2 + 1))) (rn1 b s) := by
  refine ⟨fun q a c => ?_, h.2.1, fun j hj hj2 => ?_, stI_1 _ _ _ _, fun j hj => ?_⟩
  · rw [stI_o _ _ _ _ a]; exact h.1 q a c
  · rw [stI_o _ _ _ _ (by decide)]
    show τ.1 22 j = (if s.2 < 24 then upd s.1 s.2 b else s.1) j
    rw [if_neg h1]
    exact h.2.2.1 j (by omega) hj2
  · rw [stI_k _ _ _ _ hj]; exact h.2.2.2.2 j hj
set_option maxHeartbeats 1000000 in
theorem c_X11_runs (V : Vt) (d : Nat) (σ : Sg) (σ0 : Sg) (s : Tz) (hE : BM σ0 σ s) (hs : s.2 ≤ 1000) (b : Int32) : CT layM V mX11_runs (d) [rf V 0, .int b] σ (Rv fun σ' => BM σ0 σ' (rn1 b s)) := by
  refine CT.of (own := RX11) rfl (by decide) (Nat.le_of_ble_eq_true rfl) (fun X (hx : Ok V RX11 cX11_runs 2 (d) X) (he : En layM V none (Rv fun σ' => BM σ0 σ' (rn1 b s)) X) => ?_)
  change WS layM V 2 X σ 0 [(0, rf V 0), (1, .int b)] []
  have hsI : (nI s.2).toInt = (s.2 : Int) := nI_c (by omega)
  have hr := hE.2.2.2.1
  refine WS.aload_n hx dX11_runs_0 rfl 0 rfl ?_
  refine WS.getI hx okX11 lf11_322 rfl rfl dX11_runs_1 ?_
  refine WS.as rfl rfl (congrArg (fun z => Value.int z :: _) (show σ.1 0 38 = nI s.2 from hr)) ?_
  skip
  refine WS.bipush (v := 24) hx dX11_runs_4 (by decide) ?_
  refine WS.icmp_ge (tgt := 19) hx dX11_runs_6 (by decide) (fun c6 => ?_) (fun c6 => ?_)
  · skip
    show WS layM V 2 X σ 19 [(0, rf V 0), (1, .int b)] []
    refine WS.aload_n hx dX11_runs_19 rfl 0 rfl ?_
    refine WS.dup hx dX11_runs_20 rfl ?_
    refine WS.getI hx okX11 lf11_322 rfl rfl dX11_runs_21 ?_
    refine WS.as rfl rfl (congrArg (fun z => Value.int z :: _) (show σ.1 0 38 = nI s.2 from by first | exact hr | (rw [stI_o _ _ _ _ (by decide)]; exact hr))) ?_
    skip
    refine WS.iconst (v := 1) hx dX11_runs_24 (by decide) ?_
    refine WS.iadd hx dX11_runs_25 ?_
    refine WS.as rfl rfl (congrArg (fun z => Value.int z :: _) (show (nI s.2) + 1 = nI (s.2 + 1) from nI_1 _)) ?_
    skip
    refine WS.putI hx okX11 lf11_322 rfl rfl rfl rfl dX11_runs_26 ?_
    exact WS.vret hx he dX11_runs_29 ⟨rfl, hE.up2 b (by (try simp only [l_int, tL_0, tL_1, tL_2, tL_4, tL_5, tL_6, tL_7, tL_9, tL_10, tL_12, tL_15, tL_30, tL_40, tL_60, tL_99, tL_255, tL_1023, tL_m1, lc_lt, lc_gt, lc_ge, lc_le, lc_eq, l6_le, l6_lt, l6_eq, tI_m133, tI_m226, i_le, i_lt, i_eq, tI_0, tI_1, tI_24] at c6); (try simp only [l_int, tL_0, tL_1, tL_2, tL_4, tL_5, tL_6, tL_7, tL_9, tL_10, tL_12, tL_15, tL_30, tL_40, tL_60, tL_99, tL_255, tL_1023, tL_m1, lc_lt, lc_gt, lc_ge, lc_le, lc_eq, l6_le, l6_lt, l6_eq, tI_m133, tI_m226, i_le, i_lt, i_eq, tI_0, tI_1, tI_24]); omega)⟩
  · skip
    show WS layM V 2 X σ 9 [(0, rf V 0), (1, .int b)] []
    refine WS.aload_n hx dX11_runs_9 rfl 0 rfl ?_
    refine WS.getR hx okX11 lf11_74 rfl rfl dX11_runs_10 ?_
    refine WS.aload_n hx dX11_runs_13 rfl 0 rfl ?_
    refine WS.getI hx okX11 lf11_322 rfl rfl dX11_runs_14 ?_
    refine WS.as rfl rfl (congrArg (fun z => Value.int z :: _) (show σ.1 0 38 = nI s.2 from hr)) ?_
    skip
    refine WS.iload_n hx dX11_runs_17 rfl 1 rfl ?_
    refine WS.iast hx rfl (vp_in_nI (by (try simp only [l_int, tL_0, tL_1, tL_2, tL_4, tL_5, tL_6, tL_7, tL_9, tL_10, tL_12, tL_15, tL_30, tL_40, tL_60, tL_99, tL_255, tL_1023, tL_m1, lc_lt, lc_gt, lc_ge, lc_le, lc_eq, l6_le, l6_lt, l6_eq, tI_m133, tI_m226, i_le, i_lt, i_eq, tI_0, tI_1, tI_24] at c6); (try simp only [l_int, tL_0, tL_1, tL_2, tL_4, tL_5, tL_6, tL_7, tL_9, tL_10, tL_12, tL_15, tL_30, tL_40, tL_60, tL_99, tL_255, tL_1023, tL_m1, lc_lt, lc_gt, lc_ge, lc_le, lc_eq, l6_le, l6_lt, l6_eq, tI_m133, tI_m226, i_le, i_lt, i_eq, tI_0, tI_1, tI_24]); omega) (by decide)) dX11_runs_18 ?_
    refine WS.aload_n hx dX11_runs_19 rfl 0 rfl ?_
    refine WS.dup hx dX11_runs_20 rfl ?_
    refine WS.getI hx okX11 lf11_322 rfl rfl dX11_runs_21 ?_
    refine WS.as rfl rfl (congrArg (fun z => Value.int z :: _) (show (stI σ 22 (nn (nI s.2)) b).1 0 38 = nI s.2 from by first | exact hr | (rw [stI_o _ _ _ _ (by decide)]; exact hr))) ?_
    skip
    refine WS.iconst (v := 1) hx dX11_runs_24 (by decide) ?_
    refine WS.iadd hx dX11_runs_25 ?_
    refine WS.as rfl rfl (congrArg (fun z => Value.int z :: _) (show (nI s.2) + 1 = nI (s.2 + 1) from nI_1 _)) ?_
    skip
    refine WS.putI hx okX11 lf11_322 rfl rfl rfl rfl dX11_runs_26 ?_
    exact WS.vret hx he dX11_runs_29 ⟨rfl, by (try simp only [nn_nI (show s.2 < 2 ^ 31 by omega), nI_clamp (show s.2 < 2 ^ 31 by omega)]); exact hE.up b (by (try simp only [l_int, tL_0, tL_1, tL_2, tL_4, tL_5, tL_6, tL_7, tL_9, tL_10, tL_12, tL_15, tL_30, tL_40, tL_60, tL_99, tL_255, tL_1023, tL_m1, lc_lt, lc_gt, lc_ge, lc_le, lc_eq, l6_le, l6_lt, l6_eq, tI_m133, tI_m226, i_le, i_lt, i_eq, tI_0, tI_1, tI_24] at c6); (try simp only [l_int, tL_0, tL_1, tL_2, tL_4, tL_5, tL_6, tL_7, tL_9, tL_10, tL_12, tL_15, tL_30, tL_40, tL_60, tL_99, tL_255, tL_1023, tL_m1, lc_lt, lc_gt, lc_ge, lc_le, lc_eq, l6_le, l6_lt, l6_eq, tI_m133, tI_m226, i_le, i_lt, i_eq, tI_0, tI_1, tI_24]); omega)⟩
set_option maxHeartbeats 1000000 in
theorem c_X11_thinksAs0 (V : Vt) (d : Nat) (σ : Sg) (σ0 : Sg) (me K : Int32) (hme : σ0.1 0 40 = me) (hK : σ0.1 0 39 = K) (s : Tz) (hE : BM σ0 σ s) (hs : s.2 ≤ 990) (x : Int32) : CT layM V mX11_thinksAs (d + 1) [rf V 0, .int 0, .int x] σ (Ri fun v σ' => ((x + me, rn1 1 s)).1 = v ∧ BM σ0 σ' ((x + me, rn1 1 s)).2) := by
  refine CT.of (own := RX11) rfl (by decide) (Nat.le_of_ble_eq_true rfl) (fun X (hx : Ok V RX11 cX11_thinksAs 3 (d + 1) X) (he : En layM V (some .int) (Ri fun v σ' => ((x + me, rn1 1 s)).1 = v ∧ BM σ0 σ' ((x + me, rn1 1 s)).2) X) => ?_)
  change WS layM V 3 X σ 0 [(0, rf V 0), (1, .int 0), (2, .int x)] []
  refine WS.iload_n hx dX11_thinksAs_0 rfl 1 rfl ?_
  refine WS.iconst (v := 1) hx dX11_thinksAs_1 (by decide) ?_
  refine WS.icmp_eq (tgt := 16) hx dX11_thinksAs_2 (by decide) (fun h => absurd h (by decide)) (fun _ => ?_)
  refine WS.iload_n hx dX11_thinksAs_5 rfl 1 rfl ?_
  refine WS.iconst (v := 4) hx dX11_thinksAs_6 (by decide) ?_
  refine WS.icmp_eq (tgt := 16) hx dX11_thinksAs_7 (by decide) (fun h => absurd h (by decide)) (fun _ => ?_)
  refine WS.iload_n hx dX11_thinksAs_10 rfl 1 rfl ?_
  refine WS.bipush (v := 7) hx dX11_thinksAs_11 (by decide) ?_
  refine WS.icmp_ne (tgt := 31) hx dX11_thinksAs_13 (by decide) (fun _ => ?_) (fun h => absurd h (by decide))
  refine WS.iload_n hx dX11_thinksAs_31 rfl 1 rfl ?_
  refine WS.bipush (v := 6) hx dX11_thinksAs_32 (by decide) ?_
  refine WS.icmp_ne (tgt := 52) hx dX11_thinksAs_34 (by decide) (fun _ => ?_) (fun h => absurd h (by decide))
  refine WS.aload_n hx dX11_thinksAs_52 rfl 0 rfl ?_
  refine WS.iconst (v := 1) hx dX11_thinksAs_53 (by decide) ?_
  refine WS.callVv (st := []) [.int 1] hx (c_X11_runs V d σ σ0 s hE (by omega) 1) okX11_runs lm11_325 rfl rfl rfl rfl (Nat.le_of_ble_eq_true rfl) dX11_thinksAs_54 (fun σ2 h3 => ?_)
  have be54 := h3
  show WS layM V 3 X σ2 57 [(0, rf V 0), (1, .int 0), (2, .int x)] []
  refine WS.iload_n hx dX11_thinksAs_57 rfl 2 rfl ?_
  refine WS.aload_n hx dX11_thinksAs_58 rfl 0 rfl ?_
  refine WS.getI hx okX11 lf11_331 rfl rfl dX11_thinksAs_59 ?_
  refine WS.as rfl rfl (congrArg (fun z => Value.int z :: _) (show σ2.1 0 40 = me from (be54.2.2.2.2 40 (by decide)).trans hme)) ?_
  skip
  refine WS.iadd hx dX11_thinksAs_62 ?_
  exact WS.iret hx he dX11_thinksAs_63 ⟨_, rfl, rfl, be54⟩
set_option maxHeartbeats 1000000 in
theorem c_X11_thinksAs (V : Vt) (d : Nat) (σ : Sg) (σ0 : Sg) (me K : Int32) (hme : σ0.1 0 40 = me) (hK : σ0.1 0 39 = K) (s : Tz) (hE : BM σ0 σ s) (hs : s.2 ≤ 980) (k x : Int32) : CT layM V mX11_thinksAs (d + 2) [rf V 0, .int k, .int x] σ (Ri fun v σ' => (thM me k x s).1 = v ∧ BM σ0 σ' (thM me k x s).2) := by
  refine CT.of (own := RX11) rfl (by decide) (Nat.le_of_ble_eq_true rfl) (fun X (hx : Ok V RX11 cX11_thinksAs 3 (d + 2) X) (he : En layM V (some .int) (Ri fun v σ' => (thM me k x s).1 = v ∧ BM σ0 σ' (thM me k x s).2) X) => ?_)
  change WS layM V 3 X σ 0 [(0, rf V 0), (1, .int k), (2, .int x)] []
  refine WS.iload_n hx dX11_thinksAs_0 rfl 1 rfl ?_
  refine WS.iconst (v := 1) hx dX11_thinksAs_1 (by decide) ?_
  refine WS.icmp_eq (tgt := 16) hx dX11_thinksAs_2 (by decide) (fun c2 => ?_) (fun c2 => ?_)
  · skip
    show WS layM V 3 X σ 16 [(0, rf V 0), (1, .int k), (2, .int x)] []
    refine WS.aload_n hx dX11_thinksAs_16 rfl 0 rfl ?_
    refine WS.bipush (v := 20) hx dX11_thinksAs_17 (by decide) ?_
    refine WS.callVv (st := []) [.int 20] hx (c_X11_runs V (d + 1) σ σ0 s hE (by omega) 20) okX11_runs lm11_325 rfl rfl rfl rfl (Nat.le_of_ble_eq_true rfl) dX11_thinksAs_19 (fun σ2 h3 => ?_)
    have be19 := h3
    show WS layM V 3 X σ2 22 [(0, rf V 0), (1, .int k), (2, .int x)] []
    refine WS.aload_n hx dX11_thinksAs_22 rfl 0 rfl ?_
    refine WS.iconst (v := 0) hx dX11_thinksAs_23 (by decide) ?_
    refine WS.iload_n hx dX11_thinksAs_24 rfl 2 rfl ?_
    refine WS.callVi (st := []) [.int 0, .int x] hx (c_X11_thinksAs0 V d σ2 σ0 me K hme hK (rn1 20 s) be19 (by simp only [rn1_n] at *; omega) x) okX11_thinksAs lm11_328 rfl rfl rfl rfl (Nat.le_of_ble_eq_true rfl) dX11_thinksAs_25 (fun v4 σ5 h6 => ?_)
    obtain ⟨hv25, be25⟩ := h6
    show WS layM V 3 X σ5 28 [(0, rf V 0), (1, .int k), (2, .int x)] [.int v4]
    refine WS.iconst (v := 3) hx dX11_thinksAs_28 (by decide) ?_
    refine WS.iadd hx dX11_thinksAs_29 ?_
    exact WS.iret hx he dX11_thinksAs_30 ⟨_, rfl, by unfold thM; rw [if_pos (by first | exact Or.inl c2 | exact Or.inr (Or.inl c7) | exact Or.inr (Or.inr c13)), ← hv25], by unfold thM; rw [if_pos (by first | exact Or.inl c2 | exact Or.inr (Or.inl c7) | exact Or.inr (Or.inr c13))]; exact be25⟩
  · skip
    show WS layM V 3 X σ 5 [(0, rf V 0), (1, .int k), (2, .int x)] []
    refine WS.iload_n hx dX11_thinksAs_5 rfl 1 rfl ?_
    refine WS.iconst (v := 4) hx dX11_thinksAs_6 (by decide) ?_
    refine WS.icmp_eq (tgt := 16) hx dX11_thinksAs_7 (by decide) (fun c7 => ?_) (fun c7 => ?_)
    · skip
      show WS layM V 3 X σ 16 [(0, rf V 0), (1, .int k), (2, .int x)] []
      refine WS.aload_n hx dX11_thinksAs_16 rfl 0 rfl ?_
      refine WS.bipush (v := 20) hx dX11_thinksAs_17 (by decide) ?_
      refine WS.callVv (st := []) [.int 20] hx (c_X11_runs V (d + 1) σ σ0 s hE (by omega) 20) okX11_runs lm11_325 rfl rfl rfl rfl (Nat.le_of_ble_eq_true rfl) dX11_thinksAs_19 (fun σ8 h9 => ?_)
      have be19 := h9
      show WS layM V 3 X σ8 22 [(0, rf V 0), (1, .int k), (2, .int x)] []
      refine WS.aload_n hx dX11_thinksAs_22 rfl 0 rfl ?_
      refine WS.iconst (v := 0) hx dX11_thinksAs_23 (by decide) ?_
      refine WS.iload_n hx dX11_thinksAs_24 rfl 2 rfl ?_
      refine WS.callVi (st := []) [.int 0, .int x] hx (c_X11_thinksAs0 V d σ8 σ0 me K hme hK (rn1 20 s) be19 (by simp only [rn1_n] at *; omega) x) okX11_thinksAs lm11_328 rfl rfl rfl rfl (Nat.le_of_ble_eq_true rfl) dX11_thinksAs_25 (fun v10 σ11 h12 => ?_)
      obtain ⟨hv25, be25⟩ := h12
      show WS layM V 3 X σ11 28 [(0, rf V 0), (1, .int k), (2, .int x)] [.int v10]
      refine WS.iconst (v := 3) hx dX11_thinksAs_28 (by decide) ?_
      refine WS.iadd hx dX11_thinksAs_29 ?_
      exact WS.iret hx he dX11_thinksAs_30 ⟨_, rfl, by unfold thM; rw [if_pos (by first | exact Or.inl c2 | exact Or.inr (Or.inl c7) | exact Or.inr (Or.inr c13)), ← hv25], by unfold thM; rw [if_pos (by first | exact Or.inl c2 | exact Or.inr (Or.inl c7) | exact Or.inr (Or.inr c13))]; exact be25⟩
    · skip
      show WS layM V 3 X σ 10 [(0, rf V 0), (1, .int k), (2, .int x)] []
      refine WS.iload_n hx dX11_thinksAs_10 rfl 1 rfl ?_
      refine WS.bipush (v := 7) hx dX11_thinksAs_11 (by decide) ?_
      refine WS.icmp_ne (tgt := 31) hx dX11_thinksAs_13 (by decide) (fun c13 => ?_) (fun c13 => ?_)
      · skip
        show WS layM V 3 X σ 31 [(0, rf V 0), (1, .int k), (2, .int x)] []
        refine WS.iload_n hx dX11_thinksAs_31 rfl 1 rfl ?_
        refine WS.bipush (v := 6) hx dX11_thinksAs_32 (by decide) ?_
        refine WS.icmp_ne (tgt := 52) hx dX11_thinksAs_34 (by decide) (fun c34 => ?_) (fun c34 => ?_)
        · skip
          show WS layM V 3 X σ 52 [(0, rf V 0), (1, .int k), (2, .int x)] []
          refine WS.aload_n hx dX11_thinksAs_52 rfl 0 rfl ?_
          refine WS.iconst (v := 1) hx dX11_thinksAs_53 (by decide) ?_
          refine WS.callVv (st := []) [.int 1] hx (c_X11_runs V (d + 1) σ σ0 s hE (by omega) 1) okX11_runs lm11_325 rfl rfl rfl rfl (Nat.le_of_ble_eq_true rfl) dX11_thinksAs_54 (fun σ14 h15 => ?_)
          have be54 := h15
          show WS layM V 3 X σ14 57 [(0, rf V 0), (1, .int k), (2, .int x)] []
          refine WS.iload_n hx dX11_thinksAs_57 rfl 2 rfl ?_
          refine WS.aload_n hx dX11_thinksAs_58 rfl 0 rfl ?_
          refine WS.getI hx okX11 lf11_331 rfl rfl dX11_thinksAs_59 ?_
          refine WS.as rfl rfl (congrArg (fun z => Value.int z :: _) (show σ14.1 0 40 = me from (be54.2.2.2.2 40 (by decide)).trans hme)) ?_
          skip
          refine WS.iadd hx dX11_thinksAs_62 ?_
          exact WS.iret hx he dX11_thinksAs_63 ⟨_, rfl, by unfold thM; rw [if_neg (fun h => h.elim c2 (fun h => h.elim c7 c13)), if_neg c34], by unfold thM; rw [if_neg (fun h => h.elim c2 (fun h => h.elim c7 c13)), if_neg c34]; exact be54⟩
        · skip
          show WS layM V 3 X σ 37 [(0, rf V 0), (1, .int k), (2, .int x)] []
          refine WS.aload_n hx dX11_thinksAs_37 rfl 0 rfl ?_
          refine WS.bipush (v := 70) hx dX11_thinksAs_38 (by decide) ?_
          refine WS.callVv (st := []) [.int 70] hx (c_X11_runs V (d + 1) σ σ0 s hE (by omega) 70) okX11_runs lm11_325 rfl rfl rfl rfl (Nat.le_of_ble_eq_true rfl) dX11_thinksAs_40 (fun σ17 h18 => ?_)
          have be40 := h18
          show WS layM V 3 X σ17 43 [(0, rf V 0), (1, .int k), (2, .int x)] []
          refine WS.aload_n hx dX11_thinksAs_43 rfl 0 rfl ?_
          refine WS.iconst (v := 0) hx dX11_thinksAs_44 (by decide) ?_
          refine WS.iload_n hx dX11_thinksAs_45 rfl 2 rfl ?_
          refine WS.callVi (st := []) [.int 0, .int x] hx (c_X11_thinksAs0 V d σ17 σ0 me K hme hK (rn1 70 s) be40 (by simp only [rn1_n] at *; omega) x) okX11_thinksAs lm11_328 rfl rfl rfl rfl (Nat.le_of_ble_eq_true rfl) dX11_thinksAs_46 (fun v19 σ20 h21 => ?_)
          obtain ⟨hv46, be46⟩ := h21
          show WS layM V 3 X σ20 49 [(0, rf V 0), (1, .int k), (2, .int x)] [.int v19]
          refine WS.iconst (v := 2) hx dX11_thinksAs_49 (by decide) ?_
          refine WS.imul hx dX11_thinksAs_50 ?_
          exact WS.iret hx he dX11_thinksAs_51 ⟨_, rfl, by unfold thM; rw [if_neg (fun h => h.elim c2 (fun h => h.elim c7 c13)), if_pos c34, ← hv46], by unfold thM; rw [if_neg (fun h => h.elim c2 (fun h => h.elim c7 c13)), if_pos c34]; exact be46⟩
      · skip
        show WS layM V 3 X σ 16 [(0, rf V 0), (1, .int k), (2, .int x)] []
        refine WS.aload_n hx dX11_thinksAs_16 rfl 0 rfl ?_
        refine WS.bipush (v := 20) hx dX11_thinksAs_17 (by decide) ?_
        refine WS.callVv (st := []) [.int 20] hx (c_X11_runs V (d + 1) σ σ0 s hE (by omega) 20) okX11_runs lm11_325 rfl rfl rfl rfl (Nat.le_of_ble_eq_true rfl) dX11_thinksAs_19 (fun σ23 h24 => ?_)
        have be19 := h24
        show WS layM V 3 X σ23 22 [(0, rf V 0), (1, .int k), (2, .int x)] []
        refine WS.aload_n hx dX11_thinksAs_22 rfl 0 rfl ?_
        refine WS.iconst (v := 0) hx dX11_thinksAs_23 (by decide) ?_
        refine WS.iload_n hx dX11_thinksAs_24 rfl 2 rfl ?_
        refine WS.callVi (st := []) [.int 0, .int x] hx (c_X11_thinksAs0 V d σ23 σ0 me K hme hK (rn1 20 s) be19 (by simp only [rn1_n] at *; omega) x) okX11_thinksAs lm11_328 rfl rfl rfl rfl (Nat.le_of_ble_eq_true rfl) dX11_thinksAs_25 (fun v25 σ26 h27 => ?_)
        obtain ⟨hv25, be25⟩ := h27
        show WS layM V 3 X σ26 28 [(0, rf V 0), (1, .int k), (2, .int x)] [.int v25]
        refine WS.iconst (v := 3) hx dX11_thinksAs_28 (by decide) ?_
        refine WS.iadd hx dX11_thinksAs_29 ?_
        exact WS.iret hx he dX11_thinksAs_30 ⟨_, rfl, by unfold thM; rw [if_pos (by first | exact Or.inl c2 | exact Or.inr (Or.inl c7) | exact Or.inr (Or.inr c13)), ← hv25], by unfold thM; rw [if_pos (by first | exact Or.inl c2 | exact Or.inr (Or.inl c7) | exact Or.inr (Or.inr c13))]; exact be25⟩
set_option maxHeartbeats 1000000 in
theorem c_X11_blinksAs1 (V : Vt) (d : Nat) (σ : Sg) (σ0 : Sg) (me K : Int32) (hme : σ0.1 0 40 = me) (hK : σ0.1 0 39 = K) (s : Tz) (hE : BM σ0 σ s) (hs : s.2 ≤ 990) (x : Int32) : CT layM V mX11_blinksAs (d + 1) [rf V 0, .int 1, .int x] σ (Ri fun v σ' => ((x ^^^ me, rn1 11 s)).1 = v ∧ BM σ0 σ' ((x ^^^ me, rn1 11 s)).2) := by
  refine CT.of (own := RX11) rfl (by decide) (Nat.le_of_ble_eq_true rfl) (fun X (hx : Ok V RX11 cX11_blinksAs 4 (d + 1) X) (he : En layM V (some .int) (Ri fun v σ' => ((x ^^^ me, rn1 11 s)).1 = v ∧ BM σ0 σ' ((x ^^^ me, rn1 11 s)).2) X) => ?_)
  change WS layM V 4 X σ 0 [(0, rf V 0), (1, .int 1), (2, .int x)] []
  refine WS.iload_n hx dX11_blinksAs_0 rfl 1 rfl ?_
  refine WS.iconst (v := 3) hx dX11_blinksAs_1 (by decide) ?_
  refine WS.icmp_eq (tgt := 10) hx dX11_blinksAs_2 (by decide) (fun h => absurd h (by decide)) (fun _ => ?_)
  refine WS.iload_n hx dX11_blinksAs_5 rfl 1 rfl ?_
  refine WS.iconst (v := 5) hx dX11_blinksAs_6 (by decide) ?_
  refine WS.icmp_ne (tgt := 25) hx dX11_blinksAs_7 (by decide) (fun _ => ?_) (fun h => absurd h (by decide))
  refine WS.iload_n hx dX11_blinksAs_25 rfl 1 rfl ?_
  refine WS.iconst (v := 4) hx dX11_blinksAs_26 (by decide) ?_
  refine WS.icmp_eq (tgt := 36) hx dX11_blinksAs_27 (by decide) (fun h => absurd h (by decide)) (fun _ => ?_)
  refine WS.iload_n hx dX11_blinksAs_30 rfl 1 rfl ?_
  refine WS.bipush (v := 7) hx dX11_blinksAs_31 (by decide) ?_
  refine WS.icmp_ne (tgt := 61) hx dX11_blinksAs_33 (by decide) (fun _ => ?_) (fun h => absurd h (by decide))
  refine WS.aload_n hx dX11_blinksAs_61 rfl 0 rfl ?_
  refine WS.bipush (v := 11) hx dX11_blinksAs_62 (by decide) ?_
  refine WS.callVv (st := []) [.int 11] hx (c_X11_runs V d σ σ0 s hE (by omega) 11) okX11_runs lm11_325 rfl rfl rfl rfl (Nat.le_of_ble_eq_true rfl) dX11_blinksAs_64 (fun σ2 h3 => ?_)
  have be64 := h3
  show WS layM V 4 X σ2 67 [(0, rf V 0), (1, .int 1), (2, .int x)] []
  refine WS.iload_n hx dX11_blinksAs_67 rfl 2 rfl ?_
  refine WS.aload_n hx dX11_blinksAs_68 rfl 0 rfl ?_
  refine WS.getI hx okX11 lf11_331 rfl rfl dX11_blinksAs_69 ?_
  refine WS.as rfl rfl (congrArg (fun z => Value.int z :: _) (show σ2.1 0 40 = me from (be64.2.2.2.2 40 (by decide)).trans hme)) ?_
  skip
  refine WS.ixor hx dX11_blinksAs_72 ?_
  exact WS.iret hx he dX11_blinksAs_73 ⟨_, rfl, rfl, be64⟩
set_option maxHeartbeats 1000000 in
theorem c_X11_blinksAs2 (V : Vt) (d : Nat) (σ : Sg) (σ0 : Sg) (me K : Int32) (hme : σ0.1 0 40 = me) (hK : σ0.1 0 39 = K) (s : Tz) (hE : BM σ0 σ s) (hs : s.2 ≤ 990) (x : Int32) : CT layM V mX11_blinksAs (d + 1) [rf V 0, .int 2, .int x] σ (Ri fun v σ' => ((x ^^^ me, rn1 11 s)).1 = v ∧ BM σ0 σ' ((x ^^^ me, rn1 11 s)).2) := by
  refine CT.of (own := RX11) rfl (by decide) (Nat.le_of_ble_eq_true rfl) (fun X (hx : Ok V RX11 cX11_blinksAs 4 (d + 1) X) (he : En layM V (some .int) (Ri fun v σ' => ((x ^^^ me, rn1 11 s)).1 = v ∧ BM σ0 σ' ((x ^^^ me, rn1 11 s)).2) X) => ?_)
  change WS layM V 4 X σ 0 [(0, rf V 0), (1, .int 2), (2, .int x)] []
  refine WS.iload_n hx dX11_blinksAs_0 rfl 1 rfl ?_
  refine WS.iconst (v := 3) hx dX11_blinksAs_1 (by decide) ?_
  refine WS.icmp_eq (tgt := 10) hx dX11_blinksAs_2 (by decide) (fun h => absurd h (by decide)) (fun _ => ?_)
  refine WS.iload_n hx dX11_blinksAs_5 rfl 1 rfl ?_
  refine WS.iconst (v := 5) hx dX11_blinksAs_6 (by decide) ?_
  refine WS.icmp_ne (tgt := 25) hx dX11_blinksAs_7 (by decide) (fun _ => ?_) (fun h => absurd h (by decide))
  refine WS.iload_n hx dX11_blinksAs_25 rfl 1 rfl ?_
  refine WS.iconst (v := 4) hx dX11_blinksAs_26 (by decide) ?_
  refine WS.icmp_eq (tgt := 36) hx dX11_blinksAs_27 (by decide) (fun h => absurd h (by decide)) (fun _ => ?_)
  refine WS.iload_n hx dX11_blinksAs_30 rfl 1 rfl ?_
  refine WS.bipush (v := 7) hx dX11_blinksAs_31 (by decide) ?_
  refine WS.icmp_ne (tgt := 61) hx dX11_blinksAs_33 (by decide) (fun _ => ?_) (fun h => absurd h (by decide))
  refine WS.aload_n hx dX11_blinksAs_61 rfl 0 rfl ?_
  refine WS.bipush (v := 11) hx dX11_blinksAs_62 (by decide) ?_
  refine WS.callVv (st := []) [.int 11] hx (c_X11_runs V d σ σ0 s hE (by omega) 11) okX11_runs lm11_325 rfl rfl rfl rfl (Nat.le_of_ble_eq_true rfl) dX11_blinksAs_64 (fun σ2 h3 => ?_)
  have be64 := h3
  show WS layM V 4 X σ2 67 [(0, rf V 0), (1, .int 2), (2, .int x)] []
  refine WS.iload_n hx dX11_blinksAs_67 rfl 2 rfl ?_
  refine WS.aload_n hx dX11_blinksAs_68 rfl 0 rfl ?_
  refine WS.getI hx okX11 lf11_331 rfl rfl dX11_blinksAs_69 ?_
  refine WS.as rfl rfl (congrArg (fun z => Value.int z :: _) (show σ2.1 0 40 = me from (be64.2.2.2.2 40 (by decide)).trans hme)) ?_
  skip
  refine WS.ixor hx dX11_blinksAs_72 ?_
  exact WS.iret hx he dX11_blinksAs_73 ⟨_, rfl, rfl, be64⟩
set_option maxHeartbeats 1000000 in
theorem c_X11_blinksAs (V : Vt) (d : Nat) (σ : Sg) (σ0 : Sg) (me K : Int32) (hme : σ0.1 0 40 = me) (hK : σ0.1 0 39 = K) (s : Tz) (hE : BM σ0 σ s) (hs : s.2 ≤ 970) (k x : Int32) : CT layM V mX11_blinksAs (d + 3) [rf V 0, .int k, .int x] σ (Ri fun v σ' => (blM me K k x s).1 = v ∧ BM σ0 σ' (blM me K k x s).2) := by
  refine CT.of (own := RX11) rfl (by decide) (Nat.le_of_ble_eq_true rfl) (fun X (hx : Ok V RX11 cX11_blinksAs 4 (d + 3) X) (he : En layM V (some .int) (Ri fun v σ' => (blM me K k x s).1 = v ∧ BM σ0 σ' (blM me K k x s).2) X) => ?_)
  change WS layM V 4 X σ 0 [(0, rf V 0), (1, .int k), (2, .int x)] []
  refine WS.iload_n hx dX11_blinksAs_0 rfl 1 rfl ?_
  refine WS.iconst (v := 3) hx dX11_blinksAs_1 (by decide) ?_
  refine WS.icmp_eq (tgt := 10) hx dX11_blinksAs_2 (by decide) (fun c2 => ?_) (fun c2 => ?_)
  · skip
    show WS layM V 4 X σ 10 [(0, rf V 0), (1, .int k), (2, .int x)] []
    refine WS.aload_n hx dX11_blinksAs_10 rfl 0 rfl ?_
    refine WS.bipush (v := 40) hx dX11_blinksAs_11 (by decide) ?_
    refine WS.callVv (st := []) [.int 40] hx (c_X11_runs V (d + 2) σ σ0 s hE (by omega) 40) okX11_runs lm11_325 rfl rfl rfl rfl (Nat.le_of_ble_eq_true rfl) dX11_blinksAs_13 (fun σ2 h3 => ?_)
    have be13 := h3
    show WS layM V 4 X σ2 16 [(0, rf V 0), (1, .int k), (2, .int x)] []
    refine WS.aload_n hx dX11_blinksAs_16 rfl 0 rfl ?_
    refine WS.iconst (v := 2) hx dX11_blinksAs_17 (by decide) ?_
    refine WS.iload_n hx dX11_blinksAs_18 rfl 2 rfl ?_
    refine WS.callVi (st := []) [.int 2, .int x] hx (c_X11_blinksAs2 V (d + 1) σ2 σ0 me K hme hK (rn1 40 s) be13 (by simp only [rn1_n] at *; omega) x) okX11_blinksAs lm11_340 rfl rfl rfl rfl (Nat.le_of_ble_eq_true rfl) dX11_blinksAs_19 (fun v4 σ5 h6 => ?_)
    obtain ⟨hv19, be19⟩ := h6
    show WS layM V 4 X σ5 22 [(0, rf V 0), (1, .int k), (2, .int x)] [.int v4]
    refine WS.iconst (v := 3) hx dX11_blinksAs_22 (by decide) ?_
    refine WS.imul hx dX11_blinksAs_23 ?_
    exact WS.iret hx he dX11_blinksAs_24 ⟨_, rfl, by unfold blM; rw [if_pos (by first | exact Or.inl c2 | exact Or.inr c7), ← hv19], by unfold blM; rw [if_pos (by first | exact Or.inl c2 | exact Or.inr c7)]; exact be19⟩
  · skip
    show WS layM V 4 X σ 5 [(0, rf V 0), (1, .int k), (2, .int x)] []
    refine WS.iload_n hx dX11_blinksAs_5 rfl 1 rfl ?_
    refine WS.iconst (v := 5) hx dX11_blinksAs_6 (by decide) ?_
    refine WS.icmp_ne (tgt := 25) hx dX11_blinksAs_7 (by decide) (fun c7 => ?_) (fun c7 => ?_)
    · skip
      show WS layM V 4 X σ 25 [(0, rf V 0), (1, .int k), (2, .int x)] []
      refine WS.iload_n hx dX11_blinksAs_25 rfl 1 rfl ?_
      refine WS.iconst (v := 4) hx dX11_blinksAs_26 (by decide) ?_
      refine WS.icmp_eq (tgt := 36) hx dX11_blinksAs_27 (by decide) (fun c27 => ?_) (fun c27 => ?_)
      · skip
        show WS layM V 4 X σ 36 [(0, rf V 0), (1, .int k), (2, .int x)] []
        refine WS.aload_n hx dX11_blinksAs_36 rfl 0 rfl ?_
        refine WS.bipush (v := 50) hx dX11_blinksAs_37 (by decide) ?_
        refine WS.callVv (st := []) [.int 50] hx (c_X11_runs V (d + 2) σ σ0 s hE (by omega) 50) okX11_runs lm11_325 rfl rfl rfl rfl (Nat.le_of_ble_eq_true rfl) dX11_blinksAs_39 (fun σ8 h9 => ?_)
        have be39 := h9
        show WS layM V 4 X σ8 42 [(0, rf V 0), (1, .int k), (2, .int x)] []
        refine WS.aload_n hx dX11_blinksAs_42 rfl 0 rfl ?_
        refine WS.iconst (v := 1) hx dX11_blinksAs_43 (by decide) ?_
        refine WS.iload_n hx dX11_blinksAs_44 rfl 2 rfl ?_
        refine WS.callVi (st := []) [.int 1, .int x] hx (c_X11_blinksAs1 V (d + 1) σ8 σ0 me K hme hK (rn1 50 s) be39 (by simp only [rn1_n] at *; omega) x) okX11_blinksAs lm11_340 rfl rfl rfl rfl (Nat.le_of_ble_eq_true rfl) dX11_blinksAs_45 (fun v10 σ11 h12 => ?_)
        obtain ⟨hv45, be45⟩ := h12
        show WS layM V 4 X σ11 48 [(0, rf V 0), (1, .int k), (2, .int x)] [.int v10]
        refine WS.istore_n (lo' := [(3, .int v10), (0, rf V 0), (1, .int k), (2, .int x)]) hx dX11_blinksAs_48 rfl (by decide) rfl ?_
        refine WS.iload_n hx dX11_blinksAs_49 rfl 0 rfl ?_
        refine WS.aload_n hx dX11_blinksAs_50 rfl 1 rfl ?_
        refine WS.aload_n hx dX11_blinksAs_51 rfl 1 rfl ?_
        refine WS.getI hx okX11 lf11_337 rfl rfl dX11_blinksAs_52 ?_
        refine WS.as rfl rfl (congrArg (fun z => Value.int z :: _) (show σ11.1 0 39 = K from (be45.2.2.2.2 39 (by decide)).trans hK)) ?_
        skip
        refine WS.iconst (v := 2) hx dX11_blinksAs_55 (by decide) ?_
        refine WS.callVi (st := [.int v10]) [.int K, .int 2] hx (c_X11_thinksAs V d σ11 σ0 me K hme hK (rn1 11 (rn1 50 s)) be45 (by simp only [rn1_n] at *; omega) K 2) okX11_thinksAs lm11_328 rfl rfl rfl rfl (Nat.le_of_ble_eq_true rfl) dX11_blinksAs_56 (fun v13 σ14 h15 => ?_)
        obtain ⟨hv56, be56⟩ := h15
        show WS layM V 4 X σ14 59 [(3, .int v10), (0, rf V 0), (1, .int k), (2, .int x)] [.int v13, .int v10]
        refine WS.isub hx dX11_blinksAs_59 ?_
        exact WS.iret hx he dX11_blinksAs_60 ⟨_, rfl, by unfold blM; rw [if_neg (fun h => h.elim c2 c7), if_pos (by first | exact Or.inl c27 | exact Or.inr c33), ← hv45, ← hv56], by unfold blM; rw [if_neg (fun h => h.elim c2 c7), if_pos (by first | exact Or.inl c27 | exact Or.inr c33)]; exact be56⟩
      · skip
        show WS layM V 4 X σ 30 [(0, rf V 0), (1, .int k), (2, .int x)] []
        refine WS.iload_n hx dX11_blinksAs_30 rfl 1 rfl ?_
        refine WS.bipush (v := 7) hx dX11_blinksAs_31 (by decide) ?_
        refine WS.icmp_ne (tgt := 61) hx dX11_blinksAs_33 (by decide) (fun c33 => ?_) (fun c33 => ?_)
        · skip
          show WS layM V 4 X σ 61 [(0, rf V 0), (1, .int k), (2, .int x)] []
          refine WS.aload_n hx dX11_blinksAs_61 rfl 0 rfl ?_
          refine WS.bipush (v := 11) hx dX11_blinksAs_62 (by decide) ?_
          refine WS.callVv (st := []) [.int 11] hx (c_X11_runs V (d + 2) σ σ0 s hE (by omega) 11) okX11_runs lm11_325 rfl rfl rfl rfl (Nat.le_of_ble_eq_true rfl) dX11_blinksAs_64 (fun σ17 h18 => ?_)
          have be64 := h18
          show WS layM V 4 X σ17 67 [(0, rf V 0), (1, .int k), (2, .int x)] []
          refine WS.iload_n hx dX11_blinksAs_67 rfl 2 rfl ?_
          refine WS.aload_n hx dX11_blinksAs_68 rfl 0 rfl ?_
          refine WS.getI hx okX11 lf11_331 rfl rfl dX11_blinksAs_69 ?_
          refine WS.as rfl rfl (congrArg (fun z => Value.int z :: _) (show σ17.1 0 40 = me from (be64.2.2.2.2 40 (by decide)).trans hme)) ?_
          skip
          refine WS.ixor hx dX11_blinksAs_72 ?_
          exact WS.iret hx he dX11_blinksAs_73 ⟨_, rfl, by unfold blM; rw [if_neg (fun h => h.elim c2 c7), if_neg (fun h => h.elim c27 c33)], by unfold blM; rw [if_neg (fun h => h.elim c2 c7), if_neg (fun h => h.elim c27 c33)]; exact be64⟩
        · skip
          show WS layM V 4 X σ 36 [(0, rf V 0), (1, .int k), (2, .int x)] []
          refine WS.aload_n hx dX11_blinksAs_36 rfl 0 rfl ?_
          refine WS.bipush (v := 50) hx dX11_blinksAs_37 (by decide) ?_
          refine WS.callVv (st := []) [.int 50] hx (c_X11_runs V (d + 2) σ σ0 s hE (by omega) 50) okX11_runs lm11_325 rfl rfl rfl rfl (Nat.le_of_ble_eq_true rfl) dX11_blinksAs_39 (fun σ20 h21 => ?_)
          have be39 := h21
          show WS layM V 4 X σ20 42 [(0, rf V 0), (1, .int k), (2, .int x)] []
          refine WS.aload_n hx dX11_blinksAs_42 rfl 0 rfl ?_
          refine WS.iconst (v := 1) hx dX11_blinksAs_43 (by decide) ?_
          refine WS.iload_n hx dX11_blinksAs_44 rfl 2 rfl ?_
          refine WS.callVi (st := []) [.int 1, .int x] hx (c_X11_blinksAs1 V (d + 1) σ20 σ0 me K hme hK (rn1 50 s) be39 (by simp only [rn1_n] at *; omega) x) okX11_blinksAs lm11_340 rfl rfl rfl rfl (Nat.le_of_ble_eq_true rfl) dX11_blinksAs_45 (fun v22 σ23 h24 => ?_)
          obtain ⟨hv45, be45⟩ := h24
          show WS layM V 4 X σ23 48 [(0, rf V 0), (1, .int k), (2, .int x)] [.int v22]
          refine WS.istore_n (lo' := [(3, .int v22), (0, rf V 0), (1, .int k), (2, .int x)]) hx dX11_blinksAs_48 rfl (by decide) rfl ?_
          refine WS.iload_n hx dX11_blinksAs_49 rfl 0 rfl ?_
          refine WS.aload_n hx dX11_blinksAs_50 rfl 1 rfl ?_
          refine WS.aload_n hx dX11_blinksAs_51 rfl 1 rfl ?_
          refine WS.getI hx okX11 lf11_337 rfl rfl dX11_blinksAs_52 ?_
          refine WS.as rfl rfl (congrArg (fun z => Value.int z :: _) (show σ23.1 0 39 = K from (be45.2.2.2.2 39 (by decide)).trans hK)) ?_
          skip
          refine WS.iconst (v := 2) hx dX11_blinksAs_55 (by decide) ?_
          refine WS.callVi (st := [.int v22]) [.int K, .int 2] hx (c_X11_thinksAs V d σ23 σ0 me K hme hK (rn1 11 (rn1 50 s)) be45 (by simp only [rn1_n] at *; omega) K 2) okX11_thinksAs lm11_328 rfl rfl rfl rfl (Nat.le_of_ble_eq_true rfl) dX11_blinksAs_56 (fun v25 σ26 h27 => ?_)
          obtain ⟨hv56, be56⟩ := h27
          show WS layM V 4 X σ26 59 [(3, .int v22), (0, rf V 0), (1, .int k), (2, .int x)] [.int v25, .int v22]
          refine WS.isub hx dX11_blinksAs_59 ?_
          exact WS.iret hx he dX11_blinksAs_60 ⟨_, rfl, by unfold blM; rw [if_neg (fun h => h.elim c2 c7), if_pos (by first | exact Or.inl c27 | exact Or.inr c33), ← hv45, ← hv56], by unfold blM; rw [if_neg (fun h => h.elim c2 c7), if_pos (by first | exact Or.inl c27 | exact Or.inr c33)]; exact be56⟩
    · skip
      show WS layM V 4 X σ 10 [(0, rf V 0), (1, .int k), (2, .int x)] []
      refine WS.aload_n hx dX11_blinksAs_10 rfl 0 rfl ?_
      refine WS.bipush (v := 40) hx dX11_blinksAs_11 (by decide) ?_
      refine WS.callVv (st := []) [.int 40] hx (c_X11_runs V (d + 2) σ σ0 s hE (by omega) 40) okX11_runs lm11_325 rfl rfl rfl rfl (Nat.le_of_ble_eq_true rfl) dX11_blinksAs_13 (fun σ29 h30 => ?_)
      have be13 := h30
      show WS layM V 4 X σ29 16 [(0, rf V 0), (1, .int k), (2, .int x)] []
      refine WS.aload_n hx dX11_blinksAs_16 rfl 0 rfl ?_
      refine WS.iconst (v := 2) hx dX11_blinksAs_17 (by decide) ?_
      refine WS.iload_n hx dX11_blinksAs_18 rfl 2 rfl ?_
      refine WS.callVi (st := []) [.int 2, .int x] hx (c_X11_blinksAs2 V (d + 1) σ29 σ0 me K hme hK (rn1 40 s) be13 (by simp only [rn1_n] at *; omega) x) okX11_blinksAs lm11_340 rfl rfl rfl rfl (Nat.le_of_ble_eq_true rfl) dX11_blinksAs_19 (fun v31 σ32 h33 => ?_)
      obtain ⟨hv19, be19⟩ := h33
      show WS layM V 4 X σ32 22 [(0, rf V 0), (1, .int k), (2, .int x)] [.int v31]
      refine WS.iconst (v := 3) hx dX11_blinksAs_22 (by decide) ?_
      refine WS.imul hx dX11_blinksAs_23 ?_
      exact WS.iret hx he dX11_blinksAs_24 ⟨_, rfl, by unfold blM; rw [if_pos (by first | exact Or.inl c2 | exact Or.inr c7), ← hv19], by unfold blM; rw [if_pos (by first | exact Or.inl c2 | exact Or.inr c7)]; exact be19⟩
set_option maxHeartbeats 1000000 in
theorem c_X11_saysAs0 (V : Vt) (d : Nat) (σ : Sg) (σ0 : Sg) (me K : Int32) (hme : σ0.1 0 40 = me) (hK : σ0.1 0 39 = K) (s : Tz) (hE : BM σ0 σ s) (hs : s.2 ≤ 970) (x : Int32) : CT layM V mX11_saysAs (d + 3) [rf V 0, .int 0, .int x] σ (Ri fun v σ' => (s0M me K x s).1 = v ∧ BM σ0 σ' (s0M me K x s).2) := by
  refine CT.of (own := RX11) rfl (by decide) (Nat.le_of_ble_eq_true rfl) (fun X (hx : Ok V RX11 cX11_saysAs 4 (d + 3) X) (he : En layM V (some .int) (Ri fun v σ' => (s0M me K x s).1 = v ∧ BM σ0 σ' (s0M me K x s).2) X) => ?_)
  change WS layM V 4 X σ 0 [(0, rf V 0), (1, .int 0), (2, .int x)] []
  refine WS.iload_n hx dX11_saysAs_0 rfl 1 rfl ?_
  refine WS.iconst (v := 3) hx dX11_saysAs_1 (by decide) ?_
  refine WS.icmp_eq (tgt := 10) hx dX11_saysAs_2 (by decide) (fun h => absurd h (by decide)) (fun _ => ?_)
  refine WS.iload_n hx dX11_saysAs_5 rfl 1 rfl ?_
  refine WS.iconst (v := 5) hx dX11_saysAs_6 (by decide) ?_
  refine WS.icmp_ne (tgt := 25) hx dX11_saysAs_7 (by decide) (fun _ => ?_) (fun h => absurd h (by decide))
  refine WS.iload_n hx dX11_saysAs_25 rfl 1 rfl ?_
  refine WS.iconst (v := 2) hx dX11_saysAs_26 (by decide) ?_
  refine WS.icmp_ne (tgt := 44) hx dX11_saysAs_27 (by decide) (fun _ => ?_) (fun h => absurd h (by decide))
  refine WS.iload_n hx dX11_saysAs_44 rfl 1 rfl ?_
  refine WS.bipush (v := 7) hx dX11_saysAs_45 (by decide) ?_
  refine WS.icmp_ne (tgt := 75) hx dX11_saysAs_47 (by decide) (fun _ => ?_) (fun h => absurd h (by decide))
  refine WS.aload_n hx dX11_saysAs_75 rfl 0 rfl ?_
  refine WS.bipush (v := 10) hx dX11_saysAs_76 (by decide) ?_
  refine WS.callVv (st := []) [.int 10] hx (c_X11_runs V (d + 2) σ σ0 s hE (by omega) 10) okX11_runs lm11_325 rfl rfl rfl rfl (Nat.le_of_ble_eq_true rfl) dX11_saysAs_78 (fun σ2 h3 => ?_)
  have be78 := h3
  show WS layM V 4 X σ2 81 [(0, rf V 0), (1, .int 0), (2, .int x)] []
  refine WS.aload_n hx dX11_saysAs_81 rfl 0 rfl ?_
  refine WS.aload_n hx dX11_saysAs_82 rfl 0 rfl ?_
  refine WS.getI hx okX11 lf11_337 rfl rfl dX11_saysAs_83 ?_
  refine WS.as rfl rfl (congrArg (fun z => Value.int z :: _) (show σ2.1 0 39 = K from (be78.2.2.2.2 39 (by decide)).trans hK)) ?_
  skip
  refine WS.iload_n hx dX11_saysAs_86 rfl 2 rfl ?_
  refine WS.callVi (st := []) [.int K, .int x] hx (c_X11_thinksAs V d σ2 σ0 me K hme hK (rn1 10 s) be78 (by simp only [rn1_n] at *; omega) K x) okX11_thinksAs lm11_328 rfl rfl rfl rfl (Nat.le_of_ble_eq_true rfl) dX11_saysAs_87 (fun v4 σ5 h6 => ?_)
  obtain ⟨hv87, be87⟩ := h6
  show WS layM V 4 X σ5 90 [(0, rf V 0), (1, .int 0), (2, .int x)] [.int v4]
  refine WS.iconst (v := 2) hx dX11_saysAs_90 (by decide) ?_
  refine WS.imul hx dX11_saysAs_91 ?_
  exact WS.iret hx he dX11_saysAs_92 ⟨_, rfl, by unfold s0M; rw [← hv87], be87⟩
set_option maxHeartbeats 1000000 in
theorem c_X11_saysAs4 (V : Vt) (d : Nat) (σ : Sg) (σ0 : Sg) (me K : Int32) (hme : σ0.1 0 40 = me) (hK : σ0.1 0 39 = K) (s : Tz) (hE : BM σ0 σ s) (hs : s.2 ≤ 970) (x : Int32) : CT layM V mX11_saysAs (d + 3) [rf V 0, .int 4, .int x] σ (Ri fun v σ' => (s0M me K x s).1 = v ∧ BM σ0 σ' (s0M me K x s).2) := by
  refine CT.of (own := RX11) rfl (by decide) (Nat.le_of_ble_eq_true rfl) (fun X (hx : Ok V RX11 cX11_saysAs 4 (d + 3) X) (he : En layM V (some .int) (Ri fun v σ' => (s0M me K x s).1 = v ∧ BM σ0 σ' (s0M me K x s).2) X) => ?_)
  change WS layM V 4 X σ 0 [(0, rf V 0), (1, .int 4), (2, .int x)] []
  refine WS.iload_n hx dX11_saysAs_0 rfl 1 rfl ?_
  refine WS.iconst (v := 3) hx dX11_saysAs_1 (by decide) ?_
  refine WS.icmp_eq (tgt := 10) hx dX11_saysAs_2 (by decide) (fun h => absurd h (by decide)) (fun _ => ?_)
  refine WS.iload_n hx dX11_saysAs_5 rfl 1 rfl ?_
  refine WS.iconst (v := 5) hx dX11_saysAs_6 (by decide) ?_
  refine WS.icmp_ne (tgt := 25) hx dX11_saysAs_7 (by decide) (fun _ => ?_) (fun h => absurd h (by decide))
  refine WS.iload_n hx dX11_saysAs_25 rfl 1 rfl ?_
  refine WS.iconst (v := 2) hx dX11_saysAs_26 (by decide) ?_
  refine WS.icmp_ne (tgt := 44) hx dX11_saysAs_27 (by decide) (fun _ => ?_) (fun h => absurd h (by decide))
  refine WS.iload_n hx dX11_saysAs_44 rfl 1 rfl ?_
  refine WS.bipush (v := 7) hx dX11_saysAs_45 (by decide) ?_
  refine WS.icmp_ne (tgt := 75) hx dX11_saysAs_47 (by decide) (fun _ => ?_) (fun h => absurd h (by decide))
  refine WS.aload_n hx dX11_saysAs_75 rfl 0 rfl ?_
  refine WS.bipush (v := 10) hx dX11_saysAs_76 (by decide) ?_
  refine WS.callVv (st := []) [.int 10] hx (c_X11_runs V (d + 2) σ σ0 s hE (by omega) 10) okX11_runs lm11_325 rfl rfl rfl rfl (Nat.le_of_ble_eq_true rfl) dX11_saysAs_78 (fun σ2 h3 => ?_)
  have be78 := h3
  show WS layM V 4 X σ2 81 [(0, rf V 0), (1, .int 4), (2, .int x)] []
  refine WS.aload_n hx dX11_saysAs_81 rfl 0 rfl ?_
  refine WS.aload_n hx dX11_saysAs_82 rfl 0 rfl ?_
  refine WS.getI hx okX11 lf11_337 rfl rfl dX11_saysAs_83 ?_
  refine WS.as rfl rfl (congrArg (fun z => Value.int z :: _) (show σ2.1 0 39 = K from (be78.2.2.2.2 39 (by decide)).trans hK)) ?_
  skip
  refine WS.iload_n hx dX11_saysAs_86 rfl 2 rfl ?_
  refine WS.callVi (st := []) [.int K, .int x] hx (c_X11_thinksAs V d σ2 σ0 me K hme hK (rn1 10 s) be78 (by simp only [rn1_n] at *; omega) K x) okX11_thinksAs lm11_328 rfl rfl rfl rfl (Nat.le_of_ble_eq_true rfl) dX11_saysAs_87 (fun v4 σ5 h6 => ?_)
  obtain ⟨hv87, be87⟩ := h6
  show WS layM V 4 X σ5 90 [(0, rf V 0), (1, .int 4), (2, .int x)] [.int v4]
  refine WS.iconst (v := 2) hx dX11_saysAs_90 (by decide) ?_
  refine WS.imul hx dX11_saysAs_91 ?_
  exact WS.iret hx he dX11_saysAs_92 ⟨_, rfl, by unfold s0M; rw [← hv87], be87⟩
set_option maxHeartbeats 1000000 in
theorem c_X11_saysAs2 (V : Vt) (d : Nat) (σ : Sg) (σ0 : Sg) (me K : Int32) (hme : σ0.1 0 40 = me) (hK : σ0.1 0 39 = K) (s : Tz) (hE : BM σ0 σ s) (hs : s.2 ≤ 960) (x : Int32) : CT layM V mX11_saysAs (d + 4) [rf V 0, .int 2, .int x] σ (Ri fun v σ' => (s2M me K x s).1 = v ∧ BM σ0 σ' (s2M me K x s).2) := by
  refine CT.of (own := RX11) rfl (by decide) (Nat.le_of_ble_eq_true rfl) (fun X (hx : Ok V RX11 cX11_saysAs 4 (d + 4) X) (he : En layM V (some .int) (Ri fun v σ' => (s2M me K x s).1 = v ∧ BM σ0 σ' (s2M me K x s).2) X) => ?_)
  change WS layM V 4 X σ 0 [(0, rf V 0), (1, .int 2), (2, .int x)] []
  refine WS.iload_n hx dX11_saysAs_0 rfl 1 rfl ?_
  refine WS.iconst (v := 3) hx dX11_saysAs_1 (by decide) ?_
  refine WS.icmp_eq (tgt := 10) hx dX11_saysAs_2 (by decide) (fun h => absurd h (by decide)) (fun _ => ?_)
  refine WS.iload_n hx dX11_saysAs_5 rfl 1 rfl ?_
  refine WS.iconst (v := 5) hx dX11_saysAs_6 (by decide) ?_
  refine WS.icmp_ne (tgt := 25) hx dX11_saysAs_7 (by decide) (fun _ => ?_) (fun h => absurd h (by decide))
  refine WS.iload_n hx dX11_saysAs_25 rfl 1 rfl ?_
  refine WS.iconst (v := 2) hx dX11_saysAs_26 (by decide) ?_
  refine WS.icmp_ne (tgt := 44) hx dX11_saysAs_27 (by decide) (fun h => absurd (by decide) h) (fun _ => ?_)
  refine WS.aload_n hx dX11_saysAs_30 rfl 0 rfl ?_
  refine WS.bipush (v := 30) hx dX11_saysAs_31 (by decide) ?_
  refine WS.callVv (st := []) [.int 30] hx (c_X11_runs V (d + 3) σ σ0 s hE (by omega) 30) okX11_runs lm11_325 rfl rfl rfl rfl (Nat.le_of_ble_eq_true rfl) dX11_saysAs_33 (fun σ2 h3 => ?_)
  have be33 := h3
  show WS layM V 4 X σ2 36 [(0, rf V 0), (1, .int 2), (2, .int x)] []
  refine WS.aload_n hx dX11_saysAs_36 rfl 0 rfl ?_
  refine WS.iconst (v := 0) hx dX11_saysAs_37 (by decide) ?_
  refine WS.iload_n hx dX11_saysAs_38 rfl 2 rfl ?_
  refine WS.callVi (st := []) [.int 0, .int x] hx (c_X11_saysAs0 V d σ2 σ0 me K hme hK (rn1 30 s) be33 (by simp only [rn1_n] at *; omega) x) okX11_saysAs lm11_334 rfl rfl rfl rfl (Nat.le_of_ble_eq_true rfl) dX11_saysAs_39 (fun v4 σ5 h6 => ?_)
  obtain ⟨hv39, be39⟩ := h6
  show WS layM V 4 X σ5 42 [(0, rf V 0), (1, .int 2), (2, .int x)] [.int v4]
  refine WS.ineg hx dX11_saysAs_42 ?_
  exact WS.iret hx he dX11_saysAs_43 ⟨_, rfl, by unfold s2M; rw [← hv39], be39⟩
set_option maxHeartbeats 1000000 in
theorem c_X11_saysAs (V : Vt) (d : Nat) (σ : Sg) (σ0 : Sg) (me K : Int32) (hme : σ0.1 0 40 = me) (hK : σ0.1 0 39 = K) (s : Tz) (hE : BM σ0 σ s) (hs : s.2 ≤ 900) (k x : Int32) : CT layM V mX11_saysAs (d + 5) [rf V 0, .int k, .int x] σ (Ri fun v σ' => (saM me K k x s).1 = v ∧ BM σ0 σ' (saM me K k x s).2) := by
  refine CT.of (own := RX11) rfl (by decide) (Nat.le_of_ble_eq_true rfl) (fun X (hx : Ok V RX11 cX11_saysAs 4 (d + 5) X) (he : En layM V (some .int) (Ri fun v σ' => (saM me K k x s).1 = v ∧ BM σ0 σ' (saM me K k x s).2) X) => ?_)
  change WS layM V 4 X σ 0 [(0, rf V 0), (1, .int k), (2, .int x)] []
  refine WS.iload_n hx dX11_saysAs_0 rfl 1 rfl ?_
  refine WS.iconst (v := 3) hx dX11_saysAs_1 (by decide) ?_
  refine WS.icmp_eq (tgt := 10) hx dX11_saysAs_2 (by decide) (fun c2 => ?_) (fun c2 => ?_)
  · skip
    show WS layM V 4 X σ 10 [(0, rf V 0), (1, .int k), (2, .int x)] []
    refine WS.aload_n hx dX11_saysAs_10 rfl 0 rfl ?_
    refine WS.bipush (v := 41) hx dX11_saysAs_11 (by decide) ?_
    refine WS.callVv (st := []) [.int 41] hx (c_X11_runs V (d + 4) σ σ0 s hE (by omega) 41) okX11_runs lm11_325 rfl rfl rfl rfl (Nat.le_of_ble_eq_true rfl) dX11_saysAs_13 (fun σ2 h3 => ?_)
    have be13 := h3
    show WS layM V 4 X σ2 16 [(0, rf V 0), (1, .int k), (2, .int x)] []
    refine WS.aload_n hx dX11_saysAs_16 rfl 0 rfl ?_
    refine WS.iconst (v := 2) hx dX11_saysAs_17 (by decide) ?_
    refine WS.iload_n hx dX11_saysAs_18 rfl 2 rfl ?_
    refine WS.iconst (v := 1) hx dX11_saysAs_19 (by decide) ?_
    refine WS.iadd hx dX11_saysAs_20 ?_
    refine WS.callVi (st := []) [.int 2, .int (x + 1)] hx (c_X11_saysAs2 V d σ2 σ0 me K hme hK (rn1 41 s) be13 (by simp only [rn1_n] at *; omega) (x + 1)) okX11_saysAs lm11_334 rfl rfl rfl rfl (Nat.le_of_ble_eq_true rfl) dX11_saysAs_21 (fun v4 σ5 h6 => ?_)
    obtain ⟨hv21, be21⟩ := h6
    show WS layM V 4 X σ5 24 [(0, rf V 0), (1, .int k), (2, .int x)] [.int v4]
    exact WS.iret hx he dX11_saysAs_24 ⟨_, rfl, by unfold saM; rw [if_pos (by first | exact Or.inl c2 | exact Or.inr c7), ← hv21], by unfold saM; rw [if_pos (by first | exact Or.inl c2 | exact Or.inr c7)]; exact be21⟩
  · skip
    show WS layM V 4 X σ 5 [(0, rf V 0), (1, .int k), (2, .int x)] []
    refine WS.iload_n hx dX11_saysAs_5 rfl 1 rfl ?_
    refine WS.iconst (v := 5) hx dX11_saysAs_6 (by decide) ?_
    refine WS.icmp_ne (tgt := 25) hx dX11_saysAs_7 (by decide) (fun c7 => ?_) (fun c7 => ?_)
    · skip
      show WS layM V 4 X σ 25 [(0, rf V 0), (1, .int k), (2, .int x)] []
      refine WS.iload_n hx dX11_saysAs_25 rfl 1 rfl ?_
      refine WS.iconst (v := 2) hx dX11_saysAs_26 (by decide) ?_
      refine WS.icmp_ne (tgt := 44) hx dX11_saysAs_27 (by decide) (fun c27 => ?_) (fun c27 => ?_)
      · skip
        show WS layM V 4 X σ 44 [(0, rf V 0), (1, .int k), (2, .int x)] []
        refine WS.iload_n hx dX11_saysAs_44 rfl 1 rfl ?_
        refine WS.bipush (v := 7) hx dX11_saysAs_45 (by decide) ?_
        refine WS.icmp_ne (tgt := 75) hx dX11_saysAs_47 (by decide) (fun c47 => ?_) (fun c47 => ?_)
        · skip
          show WS layM V 4 X σ 75 [(0, rf V 0), (1, .int k), (2, .int x)] []
          refine WS.aload_n hx dX11_saysAs_75 rfl 0 rfl ?_
          refine WS.bipush (v := 10) hx dX11_saysAs_76 (by decide) ?_
          refine WS.callVv (st := []) [.int 10] hx (c_X11_runs V (d + 4) σ σ0 s hE (by omega) 10) okX11_runs lm11_325 rfl rfl rfl rfl (Nat.le_of_ble_eq_true rfl) dX11_saysAs_78 (fun σ8 h9 => ?_)
          have be78 := h9
          show WS layM V 4 X σ8 81 [(0, rf V 0), (1, .int k), (2, .int x)] []
          refine WS.aload_n hx dX11_saysAs_81 rfl 0 rfl ?_
          refine WS.aload_n hx dX11_saysAs_82 rfl 0 rfl ?_
          refine WS.getI hx okX11 lf11_337 rfl rfl dX11_saysAs_83 ?_
          refine WS.as rfl rfl (congrArg (fun z => Value.int z :: _) (show σ8.1 0 39 = K from (be78.2.2.2.2 39 (by decide)).trans hK)) ?_
          skip
          refine WS.iload_n hx dX11_saysAs_86 rfl 2 rfl ?_
          refine WS.callVi (st := []) [.int K, .int x] hx (c_X11_thinksAs V (d + 2) σ8 σ0 me K hme hK (rn1 10 s) be78 (by simp only [rn1_n] at *; omega) K x) okX11_thinksAs lm11_328 rfl rfl rfl rfl (Nat.le_of_ble_eq_true rfl) dX11_saysAs_87 (fun v10 σ11 h12 => ?_)
          obtain ⟨hv87, be87⟩ := h12
          show WS layM V 4 X σ11 90 [(0, rf V 0), (1, .int k), (2, .int x)] [.int v10]
          refine WS.iconst (v := 2) hx dX11_saysAs_90 (by decide) ?_
          refine WS.imul hx dX11_saysAs_91 ?_
          exact WS.iret hx he dX11_saysAs_92 ⟨_, rfl, by unfold saM; rw [if_neg (fun h => h.elim c2 c7), if_neg c27, if_neg c47]; unfold s0M; rw [← hv87], by unfold saM; rw [if_neg (fun h => h.elim c2 c7), if_neg c27, if_neg c47]; exact be87⟩
        · skip
          show WS layM V 4 X σ 50 [(0, rf V 0), (1, .int k), (2, .int x)] []
          refine WS.aload_n hx dX11_saysAs_50 rfl 0 rfl ?_
          refine WS.bipush (v := 80) hx dX11_saysAs_51 (by decide) ?_
          refine WS.callVv (st := []) [.int 80] hx (c_X11_runs V (d + 4) σ σ0 s hE (by omega) 80) okX11_runs lm11_325 rfl rfl rfl rfl (Nat.le_of_ble_eq_true rfl) dX11_saysAs_53 (fun σ14 h15 => ?_)
          have be53 := h15
          show WS layM V 4 X σ14 56 [(0, rf V 0), (1, .int k), (2, .int x)] []
          refine WS.aload_n hx dX11_saysAs_56 rfl 0 rfl ?_
          refine WS.iconst (v := 4) hx dX11_saysAs_57 (by decide) ?_
          refine WS.iload_n hx dX11_saysAs_58 rfl 2 rfl ?_
          refine WS.callVi (st := []) [.int 4, .int x] hx (c_X11_saysAs4 V (d + 1) σ14 σ0 me K hme hK (rn1 80 s) be53 (by simp only [rn1_n] at *; omega) x) okX11_saysAs lm11_334 rfl rfl rfl rfl (Nat.le_of_ble_eq_true rfl) dX11_saysAs_59 (fun v16 σ17 h18 => ?_)
          obtain ⟨hv59, be59⟩ := h18
          show WS layM V 4 X σ17 62 [(0, rf V 0), (1, .int k), (2, .int x)] [.int v16]
          refine WS.istore_n (lo' := [(3, .int v16), (0, rf V 0), (1, .int k), (2, .int x)]) hx dX11_saysAs_62 rfl (by decide) rfl ?_
          refine WS.iload_n hx dX11_saysAs_63 rfl 0 rfl ?_
          refine WS.aload_n hx dX11_saysAs_64 rfl 1 rfl ?_
          refine WS.aload_n hx dX11_saysAs_65 rfl 1 rfl ?_
          refine WS.getI hx okX11 lf11_337 rfl rfl dX11_saysAs_66 ?_
          refine WS.as rfl rfl (congrArg (fun z => Value.int z :: _) (show σ17.1 0 39 = K from (be59.2.2.2.2 39 (by decide)).trans hK)) ?_
          skip
          refine WS.iconst (v := 2) hx dX11_saysAs_69 (by decide) ?_
          refine WS.callVi (st := [.int v16]) [.int K, .int 2] hx (c_X11_blinksAs V (d + 1) σ17 σ0 me K hme hK _ be59 (by have := s0M_n (me := me) (K := K) (x := x) (s := rn1 80 s); simp only [rn1_n] at *; omega) K 2) okX11_blinksAs lm11_340 rfl rfl rfl rfl (Nat.le_of_ble_eq_true rfl) dX11_saysAs_70 (fun v19 σ20 h21 => ?_)
          obtain ⟨hv70, be70⟩ := h21
          show WS layM V 4 X σ20 73 [(3, .int v16), (0, rf V 0), (1, .int k), (2, .int x)] [.int v19, .int v16]
          refine WS.iadd hx dX11_saysAs_73 ?_
          exact WS.iret hx he dX11_saysAs_74 ⟨_, rfl, by unfold saM; rw [if_neg (fun h => h.elim c2 c7), if_neg c27, if_pos c47, ← hv59, ← hv70], by unfold saM; rw [if_neg (fun h => h.elim c2 c7), if_neg c27, if_pos c47]; exact be70⟩
      · skip
        show WS layM V 4 X σ 30 [(0, rf V 0), (1, .int k), (2, .int x)] []
        refine WS.aload_n hx dX11_saysAs_30 rfl 0 rfl ?_
        refine WS.bipush (v := 30) hx dX11_saysAs_31 (by decide) ?_
        refine WS.callVv (st := []) [.int 30] hx (c_X11_runs V (d + 4) σ σ0 s hE (by omega) 30) okX11_runs lm11_325 rfl rfl rfl rfl (Nat.le_of_ble_eq_true rfl) dX11_saysAs_33 (fun σ23 h24 => ?_)
        have be33 := h24
        show WS layM V 4 X σ23 36 [(0, rf V 0), (1, .int k), (2, .int x)] []
        refine WS.aload_n hx dX11_saysAs_36 rfl 0 rfl ?_
        refine WS.iconst (v := 0) hx dX11_saysAs_37 (by decide) ?_
        refine WS.iload_n hx dX11_saysAs_38 rfl 2 rfl ?_
        refine WS.callVi (st := []) [.int 0, .int x] hx (c_X11_saysAs0 V (d + 1) σ23 σ0 me K hme hK (rn1 30 s) be33 (by simp only [rn1_n] at *; omega) x) okX11_saysAs lm11_334 rfl rfl rfl rfl (Nat.le_of_ble_eq_true rfl) dX11_saysAs_39 (fun v25 σ26 h27 => ?_)
        obtain ⟨hv39, be39⟩ := h27
        show WS layM V 4 X σ26 42 [(0, rf V 0), (1, .int k), (2, .int x)] [.int v25]
        refine WS.ineg hx dX11_saysAs_42 ?_
        exact WS.iret hx he dX11_saysAs_43 ⟨_, rfl, by unfold saM; rw [if_neg (fun h => h.elim c2 c7), if_pos c27]; unfold s2M; rw [← hv39], by unfold saM; rw [if_neg (fun h => h.elim c2 c7), if_pos c27]; exact be39⟩
    · skip
      show WS layM V 4 X σ 10 [(0, rf V 0), (1, .int k), (2, .int x)] []
      refine WS.aload_n hx dX11_saysAs_10 rfl 0 rfl ?_
      refine WS.bipush (v := 41) hx dX11_saysAs_11 (by decide) ?_
      refine WS.callVv (st := []) [.int 41] hx (c_X11_runs V (d + 4) σ σ0 s hE (by omega) 41) okX11_runs lm11_325 rfl rfl rfl rfl (Nat.le_of_ble_eq_true rfl) dX11_saysAs_13 (fun σ29 h30 => ?_)
      have be13 := h30
      show WS layM V 4 X σ29 16 [(0, rf V 0), (1, .int k), (2, .int x)] []
      refine WS.aload_n hx dX11_saysAs_16 rfl 0 rfl ?_
      refine WS.iconst (v := 2) hx dX11_saysAs_17 (by decide) ?_
      refine WS.iload_n hx dX11_saysAs_18 rfl 2 rfl ?_
      refine WS.iconst (v := 1) hx dX11_saysAs_19 (by decide) ?_
      refine WS.iadd hx dX11_saysAs_20 ?_
      refine WS.callVi (st := []) [.int 2, .int (x + 1)] hx (c_X11_saysAs2 V d σ29 σ0 me K hme hK (rn1 41 s) be13 (by simp only [rn1_n] at *; omega) (x + 1)) okX11_saysAs lm11_334 rfl rfl rfl rfl (Nat.le_of_ble_eq_true rfl) dX11_saysAs_21 (fun v31 σ32 h33 => ?_)
      obtain ⟨hv21, be21⟩ := h33
      show WS layM V 4 X σ32 24 [(0, rf V 0), (1, .int k), (2, .int x)] [.int v31]
      exact WS.iret hx he dX11_saysAs_24 ⟨_, rfl, by unfold saM; rw [if_pos (by first | exact Or.inl c2 | exact Or.inr c7), ← hv21], by unfold saM; rw [if_pos (by first | exact Or.inl c2 | exact Or.inr c7)]; exact be21⟩
set_option maxHeartbeats 1000000 in
theorem c_X11_tellsAs3 (V : Vt) (d : Nat) (σ : Sg) (σ0 : Sg) (me K : Int32) (hme : σ0.1 0 40 = me) (hK : σ0.1 0 39 = K) (s : Tz) (hE : BM σ0 σ s) (hs : s.2 ≤ 850) (x : Int32) : CT layM V mX11_tellsAs (d + 6) [rf V 0, .int 3, .int x] σ (Ri fun v σ' => (t0M me K x s).1 = v ∧ BM σ0 σ' (t0M me K x s).2) := by
  refine CT.of (own := RX11) rfl (by decide) (Nat.le_of_ble_eq_true rfl) (fun X (hx : Ok V RX11 cX11_tellsAs 4 (d + 6) X) (he : En layM V (some .int) (Ri fun v σ' => (t0M me K x s).1 = v ∧ BM σ0 σ' (t0M me K x s).2) X) => ?_)
  change WS layM V 4 X σ 0 [(0, rf V 0), (1, .int 3), (2, .int x)] []
  refine WS.iload_n hx dX11_tellsAs_0 rfl 1 rfl ?_
  refine WS.iconst (v := 5) hx dX11_tellsAs_1 (by decide) ?_
  refine WS.icmp_ne (tgt := 20) hx dX11_tellsAs_2 (by decide) (fun _ => ?_) (fun h => absurd h (by decide))
  refine WS.iload_n hx dX11_tellsAs_20 rfl 1 rfl ?_
  refine WS.bipush (v := 7) hx dX11_tellsAs_21 (by decide) ?_
  refine WS.icmp_ne (tgt := 41) hx dX11_tellsAs_23 (by decide) (fun _ => ?_) (fun h => absurd h (by decide))
  refine WS.aload_n hx dX11_tellsAs_41 rfl 0 rfl ?_
  refine WS.iconst (v := 2) hx dX11_tellsAs_42 (by decide) ?_
  refine WS.callVv (st := []) [.int 2] hx (c_X11_runs V (d + 5) σ σ0 s hE (by omega) 2) okX11_runs lm11_325 rfl rfl rfl rfl (Nat.le_of_ble_eq_true rfl) dX11_tellsAs_43 (fun σ2 h3 => ?_)
  have be43 := h3
  show WS layM V 4 X σ2 46 [(0, rf V 0), (1, .int 3), (2, .int x)] []
  refine WS.aload_n hx dX11_tellsAs_46 rfl 0 rfl ?_
  refine WS.aload_n hx dX11_tellsAs_47 rfl 0 rfl ?_
  refine WS.getI hx okX11 lf11_337 rfl rfl dX11_tellsAs_48 ?_
  refine WS.as rfl rfl (congrArg (fun z => Value.int z :: _) (show σ2.1 0 39 = K from (be43.2.2.2.2 39 (by decide)).trans hK)) ?_
  skip
  refine WS.iload_n hx dX11_tellsAs_51 rfl 2 rfl ?_
  refine WS.callVi (st := []) [.int K, .int x] hx (c_X11_saysAs V d σ2 σ0 me K hme hK (rn1 2 s) be43 (by simp only [rn1_n] at *; omega) K x) okX11_saysAs lm11_334 rfl rfl rfl rfl (Nat.le_of_ble_eq_true rfl) dX11_tellsAs_52 (fun v4 σ5 h6 => ?_)
  obtain ⟨hv52, be52⟩ := h6
  show WS layM V 4 X σ5 55 [(0, rf V 0), (1, .int 3), (2, .int x)] [.int v4]
  refine WS.istore_n (lo' := [(3, .int v4), (0, rf V 0), (1, .int 3), (2, .int x)]) hx dX11_tellsAs_55 rfl (by decide) rfl ?_
  refine WS.iload_n hx dX11_tellsAs_56 rfl 0 rfl ?_
  refine WS.aload_n hx dX11_tellsAs_57 rfl 1 rfl ?_
  refine WS.aload_n hx dX11_tellsAs_58 rfl 1 rfl ?_
  refine WS.getI hx okX11 lf11_337 rfl rfl dX11_tellsAs_59 ?_
  refine WS.as rfl rfl (congrArg (fun z => Value.int z :: _) (show σ5.1 0 39 = K from (be52.2.2.2.2 39 (by decide)).trans hK)) ?_
  skip
  refine WS.iconst (v := 1) hx dX11_tellsAs_62 (by decide) ?_
  refine WS.callVi (st := [.int v4]) [.int K, .int 1] hx (c_X11_blinksAs V (d + 2) σ5 σ0 me K hme hK _ be52 (by have := saM_n (me := me) (K := K) (k := K) (x := x) (s := rn1 2 s); simp only [rn1_n] at *; omega) K 1) okX11_blinksAs lm11_340 rfl rfl rfl rfl (Nat.le_of_ble_eq_true rfl) dX11_tellsAs_63 (fun v7 σ8 h9 => ?_)
  obtain ⟨hv63, be63⟩ := h9
  show WS layM V 4 X σ8 66 [(3, .int v4), (0, rf V 0), (1, .int 3), (2, .int x)] [.int v7, .int v4]
  refine WS.isub hx dX11_tellsAs_66 ?_
  exact WS.iret hx he dX11_tellsAs_67 ⟨_, rfl, by unfold t0M; rw [← hv52, ← hv63], be63⟩
set_option maxHeartbeats 1000000 in
theorem c_X11_tellsAs4 (V : Vt) (d : Nat) (σ : Sg) (σ0 : Sg) (me K : Int32) (hme : σ0.1 0 40 = me) (hK : σ0.1 0 39 = K) (s : Tz) (hE : BM σ0 σ s) (hs : s.2 ≤ 850) (x : Int32) : CT layM V mX11_tellsAs (d + 6) [rf V 0, .int 4, .int x] σ (Ri fun v σ' => (t0M me K x s).1 = v ∧ BM σ0 σ' (t0M me K x s).2) := by
  refine CT.of (own := RX11) rfl (by decide) (Nat.le_of_ble_eq_true rfl) (fun X (hx : Ok V RX11 cX11_tellsAs 4 (d + 6) X) (he : En layM V (some .int) (Ri fun v σ' => (t0M me K x s).1 = v ∧ BM σ0 σ' (t0M me K x s).2) X) => ?_)
  change WS layM V 4 X σ 0 [(0, rf V 0), (1, .int 4), (2, .int x)] []
  refine WS.iload_n hx dX11_tellsAs_0 rfl 1 rfl ?_
  refine WS.iconst (v := 5) hx dX11_tellsAs_1 (by decide) ?_
  refine WS.icmp_ne (tgt := 20) hx dX11_tellsAs_2 (by decide) (fun _ => ?_) (fun h => absurd h (by decide))
  refine WS.iload_n hx dX11_tellsAs_20 rfl 1 rfl ?_
  refine WS.bipush (v := 7) hx dX11_tellsAs_21 (by decide) ?_
  refine WS.icmp_ne (tgt := 41) hx dX11_tellsAs_23 (by decide) (fun _ => ?_) (fun h => absurd h (by decide))
  refine WS.aload_n hx dX11_tellsAs_41 rfl 0 rfl ?_
  refine WS.iconst (v := 2) hx dX11_tellsAs_42 (by decide) ?_
  refine WS.callVv (st := []) [.int 2] hx (c_X11_runs V (d + 5) σ σ0 s hE (by omega) 2) okX11_runs lm11_325 rfl rfl rfl rfl (Nat.le_of_ble_eq_true rfl) dX11_tellsAs_43 (fun σ2 h3 => ?_)
  have be43 := h3
  show WS layM V 4 X σ2 46 [(0, rf V 0), (1, .int 4), (2, .int x)] []
  refine WS.aload_n hx dX11_tellsAs_46 rfl 0 rfl ?_
  refine WS.aload_n hx dX11_tellsAs_47 rfl 0 rfl ?_
  refine WS.getI hx okX11 lf11_337 rfl rfl dX11_tellsAs_48 ?_
  refine WS.as rfl rfl (congrArg (fun z => Value.int z :: _) (show σ2.1 0 39 = K from (be43.2.2.2.2 39 (by decide)).trans hK)) ?_
  skip
  refine WS.iload_n hx dX11_tellsAs_51 rfl 2 rfl ?_
  refine WS.callVi (st := []) [.int K, .int x] hx (c_X11_saysAs V d σ2 σ0 me K hme hK (rn1 2 s) be43 (by simp only [rn1_n] at *; omega) K x) okX11_saysAs lm11_334 rfl rfl rfl rfl (Nat.le_of_ble_eq_true rfl) dX11_tellsAs_52 (fun v4 σ5 h6 => ?_)
  obtain ⟨hv52, be52⟩ := h6
  show WS layM V 4 X σ5 55 [(0, rf V 0), (1, .int 4), (2, .int x)] [.int v4]
  refine WS.istore_n (lo' := [(3, .int v4), (0, rf V 0), (1, .int 4), (2, .int x)]) hx dX11_tellsAs_55 rfl (by decide) rfl ?_
  refine WS.iload_n hx dX11_tellsAs_56 rfl 0 rfl ?_
  refine WS.aload_n hx dX11_tellsAs_57 rfl 1 rfl ?_
  refine WS.aload_n hx dX11_tellsAs_58 rfl 1 rfl ?_
  refine WS.getI hx okX11 lf11_337 rfl rfl dX11_tellsAs_59 ?_
  refine WS.as rfl rfl (congrArg (fun z => Value.int z :: _) (show σ5.1 0 39 = K from (be52.2.2.2.2 39 (by decide)).trans hK)) ?_
  skip
  refine WS.iconst (v := 1) hx dX11_tellsAs_62 (by decide) ?_
  refine WS.callVi (st := [.int v4]) [.int K, .int 1] hx (c_X11_blinksAs V (d + 2) σ5 σ0 me K hme hK _ be52 (by have := saM_n (me := me) (K := K) (k := K) (x := x) (s := rn1 2 s); simp only [rn1_n] at *; omega) K 1) okX11_blinksAs lm11_340 rfl rfl rfl rfl (Nat.le_of_ble_eq_true rfl) dX11_tellsAs_63 (fun v7 σ8 h9 => ?_)
  obtain ⟨hv63, be63⟩ := h9
  show WS layM V 4 X σ8 66 [(3, .int v4), (0, rf V 0), (1, .int 4), (2, .int x)] [.int v7, .int v4]
  refine WS.isub hx dX11_tellsAs_66 ?_
  exact WS.iret hx he dX11_tellsAs_67 ⟨_, rfl, by unfold t0M; rw [← hv52, ← hv63], be63⟩
set_option maxHeartbeats 1000000 in
theorem c_X11_tellsAs (V : Vt) (d : Nat) (σ : Sg) (σ0 : Sg) (me K : Int32) (hme : σ0.1 0 40 = me) (hK : σ0.1 0 39 = K) (s : Tz) (hE : BM σ0 σ s) (hs : s.2 ≤ 800) (k x : Int32) : CT layM V mX11_tellsAs (d + 7) [rf V 0, .int k, .int x] σ (Ri fun v σ' => (teM me K k x s).1 = v ∧ BM σ0 σ' (teM me K k x s).2) := by
  refine CT.of (own := RX11) rfl (by decide) (Nat.le_of_ble_eq_true rfl) (fun X (hx : Ok V RX11 cX11_tellsAs 4 (d + 7) X) (he : En layM V (some .int) (Ri fun v σ' => (teM me K k x s).1 = v ∧ BM σ0 σ' (teM me K k x s).2) X) => ?_)
  change WS layM V 4 X σ 0 [(0, rf V 0), (1, .int k), (2, .int x)] []
  refine WS.iload_n hx dX11_tellsAs_0 rfl 1 rfl ?_
  refine WS.iconst (v := 5) hx dX11_tellsAs_1 (by decide) ?_
  refine WS.icmp_ne (tgt := 20) hx dX11_tellsAs_2 (by decide) (fun c2 => ?_) (fun c2 => ?_)
  · skip
    show WS layM V 4 X σ 20 [(0, rf V 0), (1, .int k), (2, .int x)] []
    refine WS.iload_n hx dX11_tellsAs_20 rfl 1 rfl ?_
    refine WS.bipush (v := 7) hx dX11_tellsAs_21 (by decide) ?_
    refine WS.icmp_ne (tgt := 41) hx dX11_tellsAs_23 (by decide) (fun c23 => ?_) (fun c23 => ?_)
    · skip
      show WS layM V 4 X σ 41 [(0, rf V 0), (1, .int k), (2, .int x)] []
      refine WS.aload_n hx dX11_tellsAs_41 rfl 0 rfl ?_
      refine WS.iconst (v := 2) hx dX11_tellsAs_42 (by decide) ?_
      refine WS.callVv (st := []) [.int 2] hx (c_X11_runs V (d + 6) σ σ0 s hE (by omega) 2) okX11_runs lm11_325 rfl rfl rfl rfl (Nat.le_of_ble_eq_true rfl) dX11_tellsAs_43 (fun σ2 h3 => ?_)
      have be43 := h3
      show WS layM V 4 X σ2 46 [(0, rf V 0), (1, .int k), (2, .int x)] []
      refine WS.aload_n hx dX11_tellsAs_46 rfl 0 rfl ?_
      refine WS.aload_n hx dX11_tellsAs_47 rfl 0 rfl ?_
      refine WS.getI hx okX11 lf11_337 rfl rfl dX11_tellsAs_48 ?_
      refine WS.as rfl rfl (congrArg (fun z => Value.int z :: _) (show σ2.1 0 39 = K from (be43.2.2.2.2 39 (by decide)).trans hK)) ?_
      skip
      refine WS.iload_n hx dX11_tellsAs_51 rfl 2 rfl ?_
      refine WS.callVi (st := []) [.int K, .int x] hx (c_X11_saysAs V (d + 1) σ2 σ0 me K hme hK (rn1 2 s) be43 (by simp only [rn1_n] at *; omega) K x) okX11_saysAs lm11_334 rfl rfl rfl rfl (Nat.le_of_ble_eq_true rfl) dX11_tellsAs_52 (fun v4 σ5 h6 => ?_)
      obtain ⟨hv52, be52⟩ := h6
      show WS layM V 4 X σ5 55 [(0, rf V 0), (1, .int k), (2, .int x)] [.int v4]
      refine WS.istore_n (lo' := [(3, .int v4), (0, rf V 0), (1, .int k), (2, .int x)]) hx dX11_tellsAs_55 rfl (by decide) rfl ?_
      refine WS.iload_n hx dX11_tellsAs_56 rfl 0 rfl ?_
      refine WS.aload_n hx dX11_tellsAs_57 rfl 1 rfl ?_
      refine WS.aload_n hx dX11_tellsAs_58 rfl 1 rfl ?_
      refine WS.getI hx okX11 lf11_337 rfl rfl dX11_tellsAs_59 ?_
      refine WS.as rfl rfl (congrArg (fun z => Value.int z :: _) (show σ5.1 0 39 = K from (be52.2.2.2.2 39 (by decide)).trans hK)) ?_
      skip
      refine WS.iconst (v := 1) hx dX11_tellsAs_62 (by decide) ?_
      refine WS.callVi (st := [.int v4]) [.int K, .int 1] hx (c_X11_blinksAs V (d + 3) σ5 σ0 me K hme hK _ be52 (by have := saM_n (me := me) (K := K) (k := K) (x := x) (s := rn1 2 s); simp only [rn1_n] at *; omega) K 1) okX11_blinksAs lm11_340 rfl rfl rfl rfl (Nat.le_of_ble_eq_true rfl) dX11_tellsAs_63 (fun v7 σ8 h9 => ?_)
      obtain ⟨hv63, be63⟩ := h9
      show WS layM V 4 X σ8 66 [(3, .int v4), (0, rf V 0), (1, .int k), (2, .int x)] [.int v7, .int v4]
      refine WS.isub hx dX11_tellsAs_66 ?_
      exact WS.iret hx he dX11_tellsAs_67 ⟨_, rfl, by unfold teM; rw [if_neg c2, if_neg c23]; unfold t0M; rw [← hv52, ← hv63], by unfold teM; rw [if_neg c2, if_neg c23]; exact be63⟩
    · skip
      show WS layM V 4 X σ 26 [(0, rf V 0), (1, .int k), (2, .int x)] []
      refine WS.aload_n hx dX11_tellsAs_26 rfl 0 rfl ?_
      refine WS.bipush (v := 81) hx dX11_tellsAs_27 (by decide) ?_
      refine WS.callVv (st := []) [.int 81] hx (c_X11_runs V (d + 6) σ σ0 s hE (by omega) 81) okX11_runs lm11_325 rfl rfl rfl rfl (Nat.le_of_ble_eq_true rfl) dX11_tellsAs_29 (fun σ11 h12 => ?_)
      have be29 := h12
      show WS layM V 4 X σ11 32 [(0, rf V 0), (1, .int k), (2, .int x)] []
      refine WS.aload_n hx dX11_tellsAs_32 rfl 0 rfl ?_
      refine WS.iconst (v := 4) hx dX11_tellsAs_33 (by decide) ?_
      refine WS.iload_n hx dX11_tellsAs_34 rfl 2 rfl ?_
      refine WS.callVi (st := []) [.int 4, .int x] hx (c_X11_tellsAs4 V d σ11 σ0 me K hme hK (rn1 81 s) be29 (by simp only [rn1_n] at *; omega) x) okX11_tellsAs lm11_343 rfl rfl rfl rfl (Nat.le_of_ble_eq_true rfl) dX11_tellsAs_35 (fun v13 σ14 h15 => ?_)
      obtain ⟨hv35, be35⟩ := h15
      show WS layM V 4 X σ14 38 [(0, rf V 0), (1, .int k), (2, .int x)] [.int v13]
      refine WS.iconst (v := 1) hx dX11_tellsAs_38 (by decide) ?_
      refine WS.isub hx dX11_tellsAs_39 ?_
      exact WS.iret hx he dX11_tellsAs_40 ⟨_, rfl, by unfold teM; rw [if_neg c2, if_pos c23, ← hv35], by unfold teM; rw [if_neg c2, if_pos c23]; exact be35⟩
  · skip
    show WS layM V 4 X σ 5 [(0, rf V 0), (1, .int k), (2, .int x)] []
    refine WS.aload_n hx dX11_tellsAs_5 rfl 0 rfl ?_
    refine WS.bipush (v := 60) hx dX11_tellsAs_6 (by decide) ?_
    refine WS.callVv (st := []) [.int 60] hx (c_X11_runs V (d + 6) σ σ0 s hE (by omega) 60) okX11_runs lm11_325 rfl rfl rfl rfl (Nat.le_of_ble_eq_true rfl) dX11_tellsAs_8 (fun σ17 h18 => ?_)
    have be8 := h18
    show WS layM V 4 X σ17 11 [(0, rf V 0), (1, .int k), (2, .int x)] []
    refine WS.aload_n hx dX11_tellsAs_11 rfl 0 rfl ?_
    refine WS.iconst (v := 3) hx dX11_tellsAs_12 (by decide) ?_
    refine WS.iload_n hx dX11_tellsAs_13 rfl 2 rfl ?_
    refine WS.callVi (st := []) [.int 3, .int x] hx (c_X11_tellsAs3 V d σ17 σ0 me K hme hK (rn1 60 s) be8 (by simp only [rn1_n] at *; omega) x) okX11_tellsAs lm11_343 rfl rfl rfl rfl (Nat.le_of_ble_eq_true rfl) dX11_tellsAs_14 (fun v19 σ20 h21 => ?_)
    obtain ⟨hv14, be14⟩ := h21
    show WS layM V 4 X σ20 17 [(0, rf V 0), (1, .int k), (2, .int x)] [.int v19]
    refine WS.iconst (v := 5) hx dX11_tellsAs_17 (by decide) ?_
    refine WS.ixor hx dX11_tellsAs_18 ?_
    exact WS.iret hx he dX11_tellsAs_19 ⟨_, rfl, by unfold teM; rw [if_pos c2, ← hv14], by unfold teM; rw [if_pos c2]; exact be14⟩
def acM (me K act x : Int32) (s : Tz) : Int32 × Tz := if act = 0 then thM me K x s else if act = 1 then saM me K K x s else if act = 2 then blM me K K x s else teM me K K x s
theorem am_0_0 (me x : Int32) (g : Nat → Int32) : frmF (runF 0 me 20) 0 0 x (g, 0) = some (acM me 0 0 x (g, 0)) := rfl
theorem am_0_1 (me x : Int32) (g : Nat → Int32) : frmF (runF 0 me 20) 0 1 x (g, 0) = some (acM me 0 1 x (g, 0)) := rfl
theorem am_0_2 (me x : Int32) (g : Nat → Int32) : frmF (runF 0 me 20) 0 2 x (g, 0) = some (acM me 0 2 x (g, 0)) := rfl
theorem am_0_3 (me x : Int32) (g : Nat → Int32) : frmF (runF 0 me 20) 0 3 x (g, 0) = some (acM me 0 3 x (g, 0)) := rfl
theorem am_1_0 (me x : Int32) (g : Nat → Int32) : frmF (runF 1 me 20) 1 0 x (g, 0) = some (acM me 1 0 x (g, 0)) := rfl
theorem am_1_1 (me x : Int32) (g : Nat → Int32) : frmF (runF 1 me 20) 1 1 x (g, 0) = some (acM me 1 1 x (g, 0)) := rfl
theorem am_1_2 (me x : Int32) (g : Nat → Int32) : frmF (runF 1 me 20) 1 2 x (g, 0) = some (acM me 1 2 x (g, 0)) := rfl
theorem am_1_3 (me x : Int32) (g : Nat → Int32) : frmF (runF 1 me 20) 1 3 x (g, 0) = some (acM me 1 3 x (g, 0)) := rfl
theorem am_2_0 (me x : Int32) (g : Nat → Int32) : frmF (runF 2 me 20) 2 0 x (g, 0) = some (acM me 2 0 x (g, 0)) := rfl
theorem am_2_1 (me x : Int32) (g : Nat → Int32) : frmF (runF 2 me 20) 2 1 x (g, 0) = some (acM me 2 1 x (g, 0)) := rfl
theorem am_2_2 (me x : Int32) (g : Nat → Int32) : frmF (runF 2 me 20) 2 2 x (g, 0) = some (acM me 2 2 x (g, 0)) := rfl
theorem am_2_3 (me x : Int32) (g : Nat → Int32) : frmF (runF 2 me 20) 2 3 x (g, 0) = some (acM me 2 3 x (g, 0)) := rfl
theorem am_3_0 (me x : Int32) (g : Nat → Int32) : frmF (runF 3 me 20) 3 0 x (g, 0) = some (acM me 3 0 x (g, 0)) := rfl
theorem am_3_1 (me x : Int32) (g : Nat → Int32) : frmF (runF 3 me 20) 3 1 x (g, 0) = some (acM me 3 1 x (g, 0)) := rfl
theorem am_3_2 (me x : Int32) (g : Nat → Int32) : frmF (runF 3 me 20) 3 2 x (g, 0) = some (acM me 3 2 x (g, 0)) := rfl
theorem am_3_3 (me x : Int32) (g : Nat → Int32) : frmF (runF 3 me 20) 3 3 x (g, 0) = some (acM me 3 3 x (g, 0)) := rfl
theorem am_4_0 (me x : Int32) (g : Nat → Int32) : frmF (runF 4 me 20) 4 0 x (g, 0) = some (acM me 4 0 x (g, 0)) := rfl
theorem am_4_1 (me x : Int32) (g : Nat → Int32) : frmF (runF 4 me 20) 4 1 x (g, 0) = some (acM me 4 1 x (g, 0)) := rfl
theorem am_4_2 (me x : Int32) (g : Nat → Int32) : frmF (runF 4 me 20) 4 2 x (g, 0) = some (acM me 4 2 x (g, 0)) := rfl
theorem am_4_3 (me x : Int32) (g : Nat → Int32) : frmF (runF 4 me 20) 4 3 x (g, 0) = some (acM me 4 3 x (g, 0)) := rfl
theorem am_5_0 (me x : Int32) (g : Nat → Int32) : frmF (runF 5 me 20) 5 0 x (g, 0) = some (acM me 5 0 x (g, 0)) := rfl
theorem am_5_1 (me x : Int32) (g : Nat → Int32) : frmF (runF 5 me 20) 5 1 x (g, 0) = some (acM me 5 1 x (g, 0)) := rfl
theorem am_5_2 (me x : Int32) (g : Nat → Int32) : frmF (runF 5 me 20) 5 2 x (g, 0) = some (acM me 5 2 x (g, 0)) := rfl
theorem am_5_3 (me x : Int32) (g : Nat → Int32) : frmF (runF 5 me 20) 5 3 x (g, 0) = some (acM me 5 3 x (g, 0)) := rfl
theorem am_6_0 (me x : Int32) (g : Nat → Int32) : frmF (runF 6 me 20) 6 0 x (g, 0) = some (acM me 6 0 x (g, 0)) := rfl
theorem am_6_1 (me x : Int32) (g : Nat → Int32) : frmF (runF 6 me 20) 6 1 x (g, 0) = some (acM me 6 1 x (g, 0)) := rfl
theorem am_6_2 (me x : Int32) (g : Nat → Int32) : frmF (runF 6 me 20) 6 2 x (g, 0) = some (acM me 6 2 x (g, 0)) := rfl
theorem am_6_3 (me x : Int32) (g : Nat → Int32) : frmF (runF 6 me 20) 6 3 x (g, 0) = some (acM me 6 3 x (g, 0)) := rfl
theorem am_7_0 (me x : Int32) (g : Nat → Int32) : frmF (runF 7 me 20) 7 0 x (g, 0) = some (acM me 7 0 x (g, 0)) := rfl
theorem am_7_1 (me x : Int32) (g : Nat → Int32) : frmF (runF 7 me 20) 7 1 x (g, 0) = some (acM me 7 1 x (g, 0)) := rfl
theorem am_7_2 (me x : Int32) (g : Nat → Int32) : frmF (runF 7 me 20) 7 2 x (g, 0) = some (acM me 7 2 x (g, 0)) := rfl
theorem am_7_3 (me x : Int32) (g : Nat → Int32) : frmF (runF 7 me 20) 7 3 x (g, 0) = some (acM me 7 3 x (g, 0)) := rfl
theorem act_M {K act : Int32} (hK : rg K 7) (ha : 0 ≤ act.toInt ∧ act.toInt ≤ 3) (me x : Int32) (g : Nat → Int32) : frmF (runF K me 20) K act x (g, 0) = some (acM me K act x (g, 0)) := by
  have e1 := hK.i
  have e2 := hK.le
  have e3 := nI_nn ha.1
  have e4 := nn_int ha.1
  have h1 : nn K = 0 ∨ nn K = 1 ∨ nn K = 2 ∨ nn K = 3 ∨ nn K = 4 ∨ nn K = 5 ∨ nn K = 6 ∨ nn K = 7 := by omega
  have h2 : nn act = 0 ∨ nn act = 1 ∨ nn act = 2 ∨ nn act = 3 := by omega
  rw [e1, ← e3]
  rcases h1 with h | h | h | h | h | h | h | h <;> rcases h2 with g2 | g2 | g2 | g2 <;> rw [h, g2]
  · exact am_0_0 me x g
  · exact am_0_1 me x g
  · exact am_0_2 me x g
  · exact am_0_3 me x g
  · exact am_1_0 me x g
  · exact am_1_1 me x g
  · exact am_1_2 me x g
  · exact am_1_3 me x g
  · exact am_2_0 me x g
  · exact am_2_1 me x g
  · exact am_2_2 me x g
  · exact am_2_3 me x g
  · exact am_3_0 me x g
  · exact am_3_1 me x g
  · exact am_3_2 me x g
  · exact am_3_3 me x g
  · exact am_4_0 me x g
  · exact am_4_1 me x g
  · exact am_4_2 me x g
  · exact am_4_3 me x g
  · exact am_5_0 me x g
  · exact am_5_1 me x g
  · exact am_5_2 me x g
  · exact am_5_3 me x g
  · exact am_6_0 me x g
  · exact am_6_1 me x g
  · exact am_6_2 me x g
  · exact am_6_3 me x g
  · exact am_7_0 me x g
  · exact am_7_1 me x g
  · exact am_7_2 me x g
  · exact am_7_3 me x g
theorem BM.st {σ : Sg} {g : Nat → Int32} (h : σ.1 0 38 = 0) : BM σ σ (g, 0) := ⟨fun _ _ _ => rfl, rfl, fun j hj => absurd hj (Nat.not_lt_zero j), h, fun _ _ => rfl⟩
set_option maxHeartbeats 1000000 in
theorem c_X11_act (V : Vt) (d : Nat) (σ : Sg) (z : Nat) (hz : σ.1 0 35 = nI z) (hz2 : z ≤ 50) (g : Nat → Int32) (b act x : Int32) : CT layM V mX11_act (d + 8) [rf V 0, .int b, .int act, .int x] σ (Ri fun v σ' => (¬ (0 ≤ b.toInt ∧ b.toInt < z ∧ 0 ≤ act.toInt ∧ act.toInt ≤ 3) → v = 0 ∧ (∀ q, q ≠ 0 → σ'.1 q = σ.1 q) ∧ σ'.2 = σ.2 ∧ σ'.1 0 38 = 0 ∧ (∀ j, j ≠ 38 → j ≠ 39 → j ≠ 40 → σ'.1 0 j = σ.1 0 j)) ∧ ((0 ≤ b.toInt ∧ b.toInt < z ∧ 0 ≤ act.toInt ∧ act.toInt ≤ 3) → v = (acM b (σ.1 21 (nn b)) act x (g, 0)).1 ∧ BM (stI (stI (stI σ 0 38 0) 0 39 (σ.1 21 (nn b))) 0 40 b) σ' (acM b (σ.1 21 (nn b)) act x (g, 0)).2)) := by
  refine CT.of (own := RX11) rfl (by decide) (Nat.le_of_ble_eq_true rfl) (fun X (hx : Ok V RX11 cX11_act 4 (d + 8) X) (he : En layM V (some .int) (Ri fun v σ' => (¬ (0 ≤ b.toInt ∧ b.toInt < z ∧ 0 ≤ act.toInt ∧ act.toInt ≤ 3) → v = 0 ∧ (∀ q, q ≠ 0 → σ'.1 q = σ.1 q) ∧ σ'.2 = σ.2 ∧ σ'.1 0 38 = 0 ∧ (∀ j, j ≠ 38 → j ≠ 39 → j ≠ 40 → σ'.1 0 j = σ.1 0 j)) ∧ ((0 ≤ b.toInt ∧ b.toInt < z ∧ 0 ≤ act.toInt ∧ act.toInt ≤ 3) → v = (acM b (σ.1 21 (nn b)) act x (g, 0)).1 ∧ BM (stI (stI (stI σ 0 38 0) 0 39 (σ.1 21 (nn b))) 0 40 b) σ' (acM b (σ.1 21 (nn b)) act x (g, 0)).2)) X) => ?_)
  change WS layM V 4 X σ 0 [(0, rf V 0), (1, .int b), (2, .int act), (3, .int x)] []
  refine WS.aload_n hx dX11_act_0 rfl 0 rfl ?_
  refine WS.iconst (v := 0) hx dX11_act_1 (by decide) ?_
  refine WS.putI hx okX11 lf11_322 rfl rfl rfl rfl dX11_act_2 ?_
  refine WS.aload_n hx dX11_act_5 rfl 0 rfl ?_
  refine WS.iload_n hx dX11_act_6 rfl 1 rfl ?_
  refine WS.callVi (st := []) [.int b] hx (c_X11_isBody V (d + 6) (stI σ 0 38 0) z (by rw [stI_k _ _ _ _ (by decide)]; exact hz) hz2 b) okX11_isBody lm11_346 rfl rfl rfl rfl (Nat.le_of_ble_eq_true rfl) dX11_act_7 (fun v1 σ2 h3 => ?_)
  rcases h3 with ⟨rfl, rfl, hb7⟩ | ⟨rfl, rfl, hb7⟩
  · skip
    show WS layM V 4 X (stI σ 0 38 0) 10 [(0, rf V 0), (1, .int b), (2, .int act), (3, .int x)] [.int 1]
    refine WS.if_ne (tgt := 15) hx dX11_act_10 (by decide) (fun _ => ?_) (fun h => absurd h (by decide))
    refine WS.aload_n hx dX11_act_15 rfl 0 rfl ?_
    refine WS.aload_n hx dX11_act_16 rfl 0 rfl ?_
    refine WS.getR hx okX11 lf11_71 rfl rfl dX11_act_17 ?_
    refine WS.iload_n hx dX11_act_20 rfl 1 rfl ?_
    refine WS.iald hx rfl (vp_in_iff.mpr (by omega)) dX11_act_21 ?_
    refine WS.as rfl rfl (congrArg (fun z => Value.int z :: _) (show (stI σ 0 38 0).1 21 (nn b) = σ.1 21 (nn b) from by rw [stI_o _ _ _ _ (by decide)])) ?_
    skip
    refine WS.putI hx okX11 lf11_337 rfl rfl rfl rfl dX11_act_22 ?_
    refine WS.aload_n hx dX11_act_25 rfl 0 rfl ?_
    refine WS.iload_n hx dX11_act_26 rfl 1 rfl ?_
    refine WS.putI hx okX11 lf11_331 rfl rfl rfl rfl dX11_act_27 ?_
    refine WS.iload_n hx dX11_act_30 rfl 2 rfl ?_
    by_cases s31_0 : act = 0
    · refine WS.tableIn (off := 29) (tgt := 60) hx dX11_act_31 (by rw [s31_0]; decide) (by rw [s31_0]; decide) (by rw [s31_0]; decide) (by decide) ?_
      show WS layM V 4 X (stI (stI (stI σ 0 38 0) 0 39 (σ.1 21 (nn b))) 0 40 b) 60 [(0, rf V 0), (1, .int b), (2, .int act), (3, .int x)] []
      refine WS.aload_n hx dX11_act_60 rfl 0 rfl ?_
      refine WS.aload_n hx dX11_act_61 rfl 0 rfl ?_
      refine WS.getI hx okX11 lf11_337 rfl rfl dX11_act_62 ?_
      refine WS.as rfl rfl (congrArg (fun z => Value.int z :: _) (show (stI (stI (stI σ 0 38 0) 0 39 (σ.1 21 (nn b))) 0 40 b).1 0 39 = σ.1 21 (nn b) from by rw [stI_k _ _ _ _ (by decide)]; exact stI_1 _ _ _ _)) ?_
      skip
      refine WS.iload_n hx dX11_act_65 rfl 3 rfl ?_
      refine WS.callVi (st := []) [.int (σ.1 21 (nn b)), .int x] hx (c_X11_thinksAs V (d + 5) (stI (stI (stI σ 0 38 0) 0 39 (σ.1 21 (nn b))) 0 40 b) (stI (stI (stI σ 0 38 0) 0 39 (σ.1 21 (nn b))) 0 40 b) b (σ.1 21 (nn b)) (stI_1 _ _ _ _) (by rw [stI_k _ _ _ _ (by decide)]; exact stI_1 _ _ _ _) (g, 0) (BM.st (by rw [stI_k _ _ _ _ (by decide), stI_k _ _ _ _ (by decide)]; exact stI_1 _ _ _ _)) (Nat.zero_le _) (σ.1 21 (nn b)) x) okX11_thinksAs lm11_328 rfl rfl rfl rfl (Nat.le_of_ble_eq_true rfl) dX11_act_66 (fun v4 σ5 h6 => ?_)
      obtain ⟨hv66, be66⟩ := h6
      show WS layM V 4 X σ5 69 [(0, rf V 0), (1, .int b), (2, .int act), (3, .int x)] [.int v4]
      exact WS.iret hx he dX11_act_69 ⟨_, rfl, fun h => absurd ⟨hb7.1, hb7.2, by rw [s31_0]; decide, by rw [s31_0]; decide⟩ h, fun _ => by rw [s31_0]; exact ⟨hv66.symm, be66⟩⟩
    by_cases s31_1 : act = 1
    · refine WS.tableIn (off := 39) (tgt := 70) hx dX11_act_31 (by rw [s31_1]; decide) (by rw [s31_1]; decide) (by rw [s31_1]; decide) (by decide) ?_
      show WS layM V 4 X (stI (stI (stI σ 0 38 0) 0 39 (σ.1 21 (nn b))) 0 40 b) 70 [(0, rf V 0), (1, .int b), (2, .int act), (3, .int x)] []
      refine WS.aload_n hx dX11_act_70 rfl 0 rfl ?_
      refine WS.aload_n hx dX11_act_71 rfl 0 rfl ?_
      refine WS.getI hx okX11 lf11_337 rfl rfl dX11_act_72 ?_
      refine WS.as rfl rfl (congrArg (fun z => Value.int z :: _) (show (stI (stI (stI σ 0 38 0) 0 39 (σ.1 21 (nn b))) 0 40 b).1 0 39 = σ.1 21 (nn b) from by rw [stI_k _ _ _ _ (by decide)]; exact stI_1 _ _ _ _)) ?_
      skip
      refine WS.iload_n hx dX11_act_75 rfl 3 rfl ?_
      refine WS.callVi (st := []) [.int (σ.1 21 (nn b)), .int x] hx (c_X11_saysAs V (d + 2) (stI (stI (stI σ 0 38 0) 0 39 (σ.1 21 (nn b))) 0 40 b) (stI (stI (stI σ 0 38 0) 0 39 (σ.1 21 (nn b))) 0 40 b) b (σ.1 21 (nn b)) (stI_1 _ _ _ _) (by rw [stI_k _ _ _ _ (by decide)]; exact stI_1 _ _ _ _) (g, 0) (BM.st (by rw [stI_k _ _ _ _ (by decide), stI_k _ _ _ _ (by decide)]; exact stI_1 _ _ _ _)) (Nat.zero_le _) (σ.1 21 (nn b)) x) okX11_saysAs lm11_334 rfl rfl rfl rfl (Nat.le_of_ble_eq_true rfl) dX11_act_76 (fun v7 σ8 h9 => ?_)
      obtain ⟨hv76, be76⟩ := h9
      show WS layM V 4 X σ8 79 [(0, rf V 0), (1, .int b), (2, .int act), (3, .int x)] [.int v7]
      exact WS.iret hx he dX11_act_79 ⟨_, rfl, fun h => absurd ⟨hb7.1, hb7.2, by rw [s31_1]; decide, by rw [s31_1]; decide⟩ h, fun _ => by rw [s31_1]; exact ⟨hv76.symm, be76⟩⟩
    by_cases s31_2 : act = 2
    · refine WS.tableIn (off := 49) (tgt := 80) hx dX11_act_31 (by rw [s31_2]; decide) (by rw [s31_2]; decide) (by rw [s31_2]; decide) (by decide) ?_
      show WS layM V 4 X (stI (stI (stI σ 0 38 0) 0 39 (σ.1 21 (nn b))) 0 40 b) 80 [(0, rf V 0), (1, .int b), (2, .int act), (3, .int x)] []
      refine WS.aload_n hx dX11_act_80 rfl 0 rfl ?_
      refine WS.aload_n hx dX11_act_81 rfl 0 rfl ?_
      refine WS.getI hx okX11 lf11_337 rfl rfl dX11_act_82 ?_
      refine WS.as rfl rfl (congrArg (fun z => Value.int z :: _) (show (stI (stI (stI σ 0 38 0) 0 39 (σ.1 21 (nn b))) 0 40 b).1 0 39 = σ.1 21 (nn b) from by rw [stI_k _ _ _ _ (by decide)]; exact stI_1 _ _ _ _)) ?_
      skip
      refine WS.iload_n hx dX11_act_85 rfl 3 rfl ?_
      refine WS.callVi (st := []) [.int (σ.1 21 (nn b)), .int x] hx (c_X11_blinksAs V (d + 4) (stI (stI (stI σ 0 38 0) 0 39 (σ.1 21 (nn b))) 0 40 b) (stI (stI (stI σ 0 38 0) 0 39 (σ.1 21 (nn b))) 0 40 b) b (σ.1 21 (nn b)) (stI_1 _ _ _ _) (by rw [stI_k _ _ _ _ (by decide)]; exact stI_1 _ _ _ _) (g, 0) (BM.st (by rw [stI_k _ _ _ _ (by decide), stI_k _ _ _ _ (by decide)]; exact stI_1 _ _ _ _)) (Nat.zero_le _) (σ.1 21 (nn b)) x) okX11_blinksAs lm11_340 rfl rfl rfl rfl (Nat.le_of_ble_eq_true rfl) dX11_act_86 (fun v10 σ11 h12 => ?_)
      obtain ⟨hv86, be86⟩ := h12
      show WS layM V 4 X σ11 89 [(0, rf V 0), (1, .int b), (2, .int act), (3, .int x)] [.int v10]
      exact WS.iret hx he dX11_act_89 ⟨_, rfl, fun h => absurd ⟨hb7.1, hb7.2, by rw [s31_2]; decide, by rw [s31_2]; decide⟩ h, fun _ => by rw [s31_2]; exact ⟨hv86.symm, be86⟩⟩
    by_cases s31_3 : act = 3
    · refine WS.tableIn (off := 59) (tgt := 90) hx dX11_act_31 (by rw [s31_3]; decide) (by rw [s31_3]; decide) (by rw [s31_3]; decide) (by decide) ?_
      show WS layM V 4 X (stI (stI (stI σ 0 38 0) 0 39 (σ.1 21 (nn b))) 0 40 b) 90 [(0, rf V 0), (1, .int b), (2, .int act), (3, .int x)] []
      refine WS.aload_n hx dX11_act_90 rfl 0 rfl ?_
      refine WS.aload_n hx dX11_act_91 rfl 0 rfl ?_
      refine WS.getI hx okX11 lf11_337 rfl rfl dX11_act_92 ?_
      refine WS.as rfl rfl (congrArg (fun z => Value.int z :: _) (show (stI (stI (stI σ 0 38 0) 0 39 (σ.1 21 (nn b))) 0 40 b).1 0 39 = σ.1 21 (nn b) from by rw [stI_k _ _ _ _ (by decide)]; exact stI_1 _ _ _ _)) ?_
      skip
      refine WS.iload_n hx dX11_act_95 rfl 3 rfl ?_
      refine WS.callVi (st := []) [.int (σ.1 21 (nn b)), .int x] hx (c_X11_tellsAs V d (stI (stI (stI σ 0 38 0) 0 39 (σ.1 21 (nn b))) 0 40 b) (stI (stI (stI σ 0 38 0) 0 39 (σ.1 21 (nn b))) 0 40 b) b (σ.1 21 (nn b)) (stI_1 _ _ _ _) (by rw [stI_k _ _ _ _ (by decide)]; exact stI_1 _ _ _ _) (g, 0) (BM.st (by rw [stI_k _ _ _ _ (by decide), stI_k _ _ _ _ (by decide)]; exact stI_1 _ _ _ _)) (Nat.zero_le _) (σ.1 21 (nn b)) x) okX11_tellsAs lm11_343 rfl rfl rfl rfl (Nat.le_of_ble_eq_true rfl) dX11_act_96 (fun v13 σ14 h15 => ?_)
      obtain ⟨hv96, be96⟩ := h15
      show WS layM V 4 X σ14 99 [(0, rf V 0), (1, .int b), (2, .int act), (3, .int x)] [.int v13]
      exact WS.iret hx he dX11_act_99 ⟨_, rfl, fun h => absurd ⟨hb7.1, hb7.2, by rw [s31_3]; decide, by rw [s31_3]; decide⟩ h, fun _ => by rw [s31_3]; exact ⟨hv96.symm, be96⟩⟩
    refine WS.tableOut (tgt := 100) hx dX11_act_31 (sw_out act 0 3 (by simp only [i_eq, tI_0, tI_1, tI_2, tI_3] at *; omega)) (by decide) ?_
    show WS layM V 4 X (stI (stI (stI σ 0 38 0) 0 39 (σ.1 21 (nn b))) 0 40 b) 100 [(0, rf V 0), (1, .int b), (2, .int act), (3, .int x)] []
    refine WS.iconst (v := 0) hx dX11_act_100 (by decide) ?_
    exact WS.iret hx he dX11_act_101 ⟨_, rfl, fun _ => ⟨rfl, fun q hq => by rw [stI_o _ _ _ _ hq, stI_o _ _ _ _ hq, stI_o _ _ _ _ hq], rfl, by rw [stI_k _ _ _ _ (by decide), stI_k _ _ _ _ (by decide)]; exact stI_1 _ _ _ _, fun j h1 h2 h3 => by rw [stI_k _ _ _ _ h3, stI_k _ _ _ _ h2, stI_k _ _ _ _ h1]⟩, fun h => by exfalso; simp only [i_eq, tI_0, tI_1, tI_2, tI_3] at s31_0 s31_1 s31_2 s31_3; omega⟩
  · skip
    show WS layM V 4 X (stI σ 0 38 0) 10 [(0, rf V 0), (1, .int b), (2, .int act), (3, .int x)] [.int 0]
    refine WS.if_ne (tgt := 15) hx dX11_act_10 (by decide) (fun h => absurd (by decide) h) (fun _ => ?_)
    refine WS.iconst (v := 0) hx dX11_act_13 (by decide) ?_
    exact WS.iret hx he dX11_act_14 ⟨_, rfl, fun _ => ⟨rfl, fun q hq => stI_o _ _ _ _ hq, rfl, stI_1 _ _ _ _, fun j h1 _ _ => stI_k _ _ _ _ h1⟩, fun h => absurd ⟨h.1, h.2.1⟩ hb7⟩

theorem st1_cg {c : Int32} {nm nm' : Nat → Int32} {s : List Int32} (h : ∀ j, j < 6 → nm j = nm' j) : st1 c nm s = st1 c nm' s := by
  unfold st1
  by_cases h1 : c < -6
  · rw [if_pos h1, if_pos h1]
  · rw [if_neg h1, if_neg h1]
    by_cases h2 : c < 0
    · rw [if_pos h2, if_pos h2, h _ (by
        have e : (-1 - c).toInt = -1 - c.toInt := by
          simp only [i_lt, tI_m6, tI_0] at h1 h2
          rw [i_sub (by rw [tI_m1]; omega) (by rw [tI_m1]; omega), tI_m1]
        simp only [i_lt, tI_m6, tI_0] at h1 h2
        have := nn_int (show 0 ≤ (-1 - c).toInt by omega)
        omega)]
    · rw [if_neg h2, if_neg h2]
theorem exC_cg {cs nm nm' : Nat → Int32} (h : ∀ j, j < 6 → nm j = nm' j) : ∀ (k i : Nat) (s : List Int32), exC cs nm k i s = exC cs nm' k i s
  | 0, _, _ => rfl
  | k + 1, i, s => by
    unfold exC
    rw [st1_cg h]
    congr 1
    funext t
    exact exC_cg h k (i + 1) t
theorem EX.cg {cs : Nat → Int32} {i k : Nat} {v : (Nat → Int32) → Int32} (h : EX cs i k v) {nm nm' : Nat → Int32} (e : ∀ j, j < 6 → nm j = nm' j) : v nm = v nm' := by
  have h1 := h nm []
  rw [exC_cg e, h nm' []] at h1
  injection h1 with h2
  injection h2 with h3
  exact h3.symm
theorem evL_cg {cs as es : Nat → Int32} {T : Nat} {nm nm' : Nat → Int32} (e : ∀ j, j < 6 → nm j = nm' j) : ∀ (lw : Lw) (j f : Nat), MLs cs as es T j f lw → evL lw nm = evL lw nm'
  | [], _, _, _ => rfl
  | (none, v) :: r, j, f, h => by
    obtain ⟨-, k, -, -, h4, -⟩ := h
    exact h4.cg e
  | (some c, v) :: r, j, f, h => by
    obtain ⟨k1, k2, -, -, -, h4, -, h6, -, h8⟩ := h
    unfold evL
    rw [h4.cg e, h6.cg e, evL_cg e r _ _ h8]
def ML (μ : Sg) (cs : Nat → Int32) (T : Nat) (lw : Lw) : Prop := lw.length ≤ 120 ∧ T ≤ 120 ∧ μ.1 0 17 = nI lw.length ∧ (∀ j, j < T → μ.1 7 j = phi (cs j)) ∧ MLs cs (μ.1 10) (μ.1 11) T 0 0 lw
def lwN (lw : Lw) (b a w k o y : Int32) : Int32 := if lw.length = 0 then 1 + b / 4 else mx 0 (mn 9 (evL lw (nm6 b a w k o y)))
theorem lwN_r {lw : Lw} {b a w k o y : Int32} (hb : rg b 9) : rg (lwN lw b a w k o y) 9 := by
  unfold lwN
  split
  · exact lwF_r (cs := fun _ => 0) (m := 0) (a := 0) (w := 0) (k := 0) (o := 0) (y := 0) hb
  · exact mx_09 _
theorem stRR (σ : Sg) (a : Nat) (f g : Nat → Int32) : stR (stR σ a f) a g = stR σ a g := by
  unfold stR
  refine Prod.ext ?_ rfl
  funext q
  by_cases h : q = a
  · subst h; simp [va_up]
  · simp [va_up, h]
set_option maxHeartbeats 1000000 in
theorem lp_X11_ruled (V : Vt) (d : Nat) (σ : Sg) (cs : Nat → Int32) (T N : Nat) (hT : T ≤ 120) (hN : N ≤ 120) (h17 : σ.1 0 17 = nI N) (hcs : ∀ j, j < T → σ.1 7 j = phi (cs j)) (v0 : Int32) (X : Xt) (hx : Ok V RX11 cX11_ruled 3 (d + 2) X) (he : En layM V (some .int) (Ri fun v σ' => v0 = v ∧ ∃ P, σ' = stR σ 12 P) X) : ∀ (lw : Lw) (j f : Nat) (P : Nat → Int32), j + lw.length = N → MLs cs (σ.1 10) (σ.1 11) T j f lw → evL lw (σ.1 13) = v0 → WS layM V 3 X (stR σ 12 P) 4 [(2, .int (nI j)), (1, .int (nI f)), (0, rf V 0)] []
  | [], j, f, P, hj, hm, hv => by
    have hjN : j = N := hj
    have hjI : (nI j).toInt = (j : Int) := nI_c (by omega)
    have hNI : (nI N).toInt = (N : Int) := nI_c (by omega)
    refine WS.iload_n hx dX11_ruled_4 rfl 0 rfl ?_
    refine WS.aload_n hx dX11_ruled_5 rfl 2 rfl ?_
    refine WS.getI hx okX11 lf11_203 rfl rfl dX11_ruled_6 ?_
    refine WS.as rfl rfl (congrArg (fun z => Value.int z :: _) (show (stR σ 12 P).1 0 17 = nI N from h17)) ?_
    skip
    refine WS.icmp_ge (tgt := 66) hx dX11_ruled_9 (by decide) (fun c9 => ?_) (fun c9 => by exfalso; (try simp only [l_int, tL_0, tL_1, tL_2, tL_4, tL_5, tL_6, tL_7, tL_9, tL_10, tL_12, tL_15, tL_30, tL_40, tL_60, tL_99, tL_255, tL_1023, tL_m1, lc_lt, lc_gt, lc_ge, lc_le, lc_eq, l6_le, l6_lt, l6_eq, tI_m133, tI_m226, i_le, i_lt, i_eq, tI_0, tI_1] at c9); (try simp only [l_int, tL_0, tL_1, tL_2, tL_4, tL_5, tL_6, tL_7, tL_9, tL_10, tL_12, tL_15, tL_30, tL_40, tL_60, tL_99, tL_255, tL_1023, tL_m1, lc_lt, lc_gt, lc_ge, lc_le, lc_eq, l6_le, l6_lt, l6_eq, tI_m133, tI_m226, i_le, i_lt, i_eq, tI_0, tI_1]); omega)
    refine WS.iconst (v := 0) hx dX11_ruled_66 (by decide) ?_
    exact WS.iret hx he dX11_ruled_67 ⟨_, rfl, hv.symm, P, rfl⟩
  | (none, v) :: r, j, f, P, hj, hm, hv => by
    have hj2 : j + (r.length + 1) = N := hj
    have hjI : (nI j).toInt = (j : Int) := nI_c (by omega)
    have hNI : (nI N).toInt = (N : Int) := nI_c (by omega)
    obtain ⟨ha, k, hk1, hk2, hX, hz, hr⟩ := hm
    refine WS.iload_n hx dX11_ruled_4 rfl 0 rfl ?_
    refine WS.aload_n hx dX11_ruled_5 rfl 2 rfl ?_
    refine WS.getI hx okX11 lf11_203 rfl rfl dX11_ruled_6 ?_
    refine WS.as rfl rfl (congrArg (fun z => Value.int z :: _) (show (stR σ 12 P).1 0 17 = nI N from h17)) ?_
    skip
    refine WS.icmp_ge (tgt := 66) hx dX11_ruled_9 (by decide) (fun c9 => by exfalso; (try simp only [l_int, tL_0, tL_1, tL_2, tL_4, tL_5, tL_6, tL_7, tL_9, tL_10, tL_12, tL_15, tL_30, tL_40, tL_60, tL_99, tL_255, tL_1023, tL_m1, lc_lt, lc_gt, lc_ge, lc_le, lc_eq, l6_le, l6_lt, l6_eq, tI_m133, tI_m226, i_le, i_lt, i_eq, tI_0, tI_1] at c9); (try simp only [l_int, tL_0, tL_1, tL_2, tL_4, tL_5, tL_6, tL_7, tL_9, tL_10, tL_12, tL_15, tL_30, tL_40, tL_60, tL_99, tL_255, tL_1023, tL_m1, lc_lt, lc_gt, lc_ge, lc_le, lc_eq, l6_le, l6_lt, l6_eq, tI_m133, tI_m226, i_le, i_lt, i_eq, tI_0, tI_1]); omega) (fun c9 => ?_)
    refine WS.aload_n hx dX11_ruled_12 rfl 2 rfl ?_
    refine WS.getR hx okX11 lf11_37 rfl rfl dX11_ruled_13 ?_
    refine WS.iload_n hx dX11_ruled_16 rfl 0 rfl ?_
    refine WS.iald hx rfl (vp_in_nI (by omega) (by decide)) dX11_ruled_17 ?_
    refine WS.as rfl rfl (congrArg (fun z => Value.int z :: _) (show (stR σ 12 P).1 10 (nn (nI j)) = nI f from by rw [nn_nI (by omega)]; exact ha)) ?_
    skip
    refine WS.iload_n hx dX11_ruled_18 rfl 1 rfl ?_
    refine WS.icmp_eq (tgt := 36) hx dX11_ruled_19 (by decide) (fun c19 => ?_) (fun c19 => absurd rfl c19)
    refine WS.aload_n hx dX11_ruled_36 rfl 2 rfl ?_
    refine WS.aload_n hx dX11_ruled_37 rfl 2 rfl ?_
    refine WS.getR hx okX11 lf11_37 rfl rfl dX11_ruled_38 ?_
    refine WS.iload_n hx dX11_ruled_41 rfl 0 rfl ?_
    refine WS.iald hx rfl (vp_in_nI (by omega) (by decide)) dX11_ruled_42 ?_
    refine WS.as rfl rfl (congrArg (fun z => Value.int z :: _) (show (stR σ 12 P).1 10 (nn (nI j)) = nI f from by rw [nn_nI (by omega)]; exact ha)) ?_
    skip
    refine WS.aload_n hx dX11_ruled_43 rfl 2 rfl ?_
    refine WS.getR hx okX11 lf11_40 rfl rfl dX11_ruled_44 ?_
    refine WS.iload_n hx dX11_ruled_47 rfl 0 rfl ?_
    refine WS.iald hx rfl (vp_in_nI (by omega) (by decide)) dX11_ruled_48 ?_
    refine WS.as rfl rfl (congrArg (fun z => Value.int z :: _) (show (stR σ 12 P).1 11 (nn (nI j)) = nI (f + k) from by rw [nn_nI (by omega)]; exact hz)) ?_
    skip
    refine WS.callVi (st := []) [.int (nI f), .int (nI (f + k))] hx (c_X11_workedOut V d (stR σ 12 P) cs T hT hcs f k v hX hk2) okX11_workedOut lm11_210 rfl rfl rfl rfl (Nat.le_of_ble_eq_true rfl) dX11_ruled_49 (fun v1 σ2 h3 => ?_)
    obtain ⟨hv49, P49, rfl⟩ := h3
    show WS layM V 3 X (stR (stR σ 12 P) 12 P49) 52 [(2, .int (nI j)), (1, .int (nI f)), (0, rf V 0)] [.int v1]
    exact WS.iret hx he dX11_ruled_52 ⟨_, rfl, hv.symm.trans hv49, P49, by rw [stRR]⟩
  | (some c, v) :: r, j, f, P, hj, hm, hv => by
    have hj2 : j + (r.length + 1) = N := hj
    have hjI : (nI j).toInt = (j : Int) := nI_c (by omega)
    have hNI : (nI N).toInt = (N : Int) := nI_c (by omega)
    obtain ⟨k1, k2, hk1, hk2, hk3, hX, ha, hY, hz, hr⟩ := hm
    unfold evL at hv
    have hfI : (nI f).toInt = (f : Int) := nI_c (by omega)
    have hgI : (nI (f + k1)).toInt = ((f + k1 : Nat) : Int) := nI_c (by omega)
    refine WS.iload_n hx dX11_ruled_4 rfl 0 rfl ?_
    refine WS.aload_n hx dX11_ruled_5 rfl 2 rfl ?_
    refine WS.getI hx okX11 lf11_203 rfl rfl dX11_ruled_6 ?_
    refine WS.as rfl rfl (congrArg (fun z => Value.int z :: _) (show (stR σ 12 P).1 0 17 = nI N from h17)) ?_
    skip
    refine WS.icmp_ge (tgt := 66) hx dX11_ruled_9 (by decide) (fun c9 => by exfalso; (try simp only [l_int, tL_0, tL_1, tL_2, tL_4, tL_5, tL_6, tL_7, tL_9, tL_10, tL_12, tL_15, tL_30, tL_40, tL_60, tL_99, tL_255, tL_1023, tL_m1, lc_lt, lc_gt, lc_ge, lc_le, lc_eq, l6_le, l6_lt, l6_eq, tI_m133, tI_m226, i_le, i_lt, i_eq, tI_0, tI_1] at c9); (try simp only [l_int, tL_0, tL_1, tL_2, tL_4, tL_5, tL_6, tL_7, tL_9, tL_10, tL_12, tL_15, tL_30, tL_40, tL_60, tL_99, tL_255, tL_1023, tL_m1, lc_lt, lc_gt, lc_ge, lc_le, lc_eq, l6_le, l6_lt, l6_eq, tI_m133, tI_m226, i_le, i_lt, i_eq, tI_0, tI_1]); omega) (fun c9 => ?_)
    refine WS.aload_n hx dX11_ruled_12 rfl 2 rfl ?_
    refine WS.getR hx okX11 lf11_37 rfl rfl dX11_ruled_13 ?_
    refine WS.iload_n hx dX11_ruled_16 rfl 0 rfl ?_
    refine WS.iald hx rfl (vp_in_nI (by omega) (by decide)) dX11_ruled_17 ?_
    refine WS.as rfl rfl (congrArg (fun z => Value.int z :: _) (show (stR σ 12 P).1 10 (nn (nI j)) = nI (f + k1) from by rw [nn_nI (by omega)]; exact ha)) ?_
    skip
    refine WS.iload_n hx dX11_ruled_18 rfl 1 rfl ?_
    refine WS.icmp_eq (tgt := 36) hx dX11_ruled_19 (by decide) (fun c19 => by exfalso; (try simp only [l_int, tL_0, tL_1, tL_2, tL_4, tL_5, tL_6, tL_7, tL_9, tL_10, tL_12, tL_15, tL_30, tL_40, tL_60, tL_99, tL_255, tL_1023, tL_m1, lc_lt, lc_gt, lc_ge, lc_le, lc_eq, l6_le, l6_lt, l6_eq, tI_m133, tI_m226, i_le, i_lt, i_eq, tI_0, tI_1] at c9); (try simp only [l_int, tL_0, tL_1, tL_2, tL_4, tL_5, tL_6, tL_7, tL_9, tL_10, tL_12, tL_15, tL_30, tL_40, tL_60, tL_99, tL_255, tL_1023, tL_m1, lc_lt, lc_gt, lc_ge, lc_le, lc_eq, l6_le, l6_lt, l6_eq, tI_m133, tI_m226, i_le, i_lt, i_eq, tI_0, tI_1] at c19); (try simp only [l_int, tL_0, tL_1, tL_2, tL_4, tL_5, tL_6, tL_7, tL_9, tL_10, tL_12, tL_15, tL_30, tL_40, tL_60, tL_99, tL_255, tL_1023, tL_m1, lc_lt, lc_gt, lc_ge, lc_le, lc_eq, l6_le, l6_lt, l6_eq, tI_m133, tI_m226, i_le, i_lt, i_eq, tI_0, tI_1]); omega) (fun c19 => ?_)
    refine WS.aload_n hx dX11_ruled_22 rfl 2 rfl ?_
    refine WS.iload_n hx dX11_ruled_23 rfl 1 rfl ?_
    refine WS.aload_n hx dX11_ruled_24 rfl 2 rfl ?_
    refine WS.getR hx okX11 lf11_37 rfl rfl dX11_ruled_25 ?_
    refine WS.iload_n hx dX11_ruled_28 rfl 0 rfl ?_
    refine WS.iald hx rfl (vp_in_nI (by omega) (by decide)) dX11_ruled_29 ?_
    refine WS.as rfl rfl (congrArg (fun z => Value.int z :: _) (show (stR σ 12 P).1 10 (nn (nI j)) = nI (f + k1) from by rw [nn_nI (by omega)]; exact ha)) ?_
    skip
    refine WS.callVi (st := []) [.int (nI f), .int (nI (f + k1))] hx (c_X11_workedOut V d (stR σ 12 P) cs T hT hcs f k1 c hX (by omega)) okX11_workedOut lm11_210 rfl rfl rfl rfl (Nat.le_of_ble_eq_true rfl) dX11_ruled_30 (fun v1 σ2 h3 => ?_)
    obtain ⟨hv30, P30, rfl⟩ := h3
    show WS layM V 3 X (stR (stR σ 12 P) 12 P30) 33 [(2, .int (nI j)), (1, .int (nI f)), (0, rf V 0)] [.int v1]
    refine WS.if_eq (tgt := 53) hx dX11_ruled_33 (by decide) (fun c33 => ?_) (fun c33 => ?_)
    · skip
      show WS layM V 3 X (stR (stR σ 12 P) 12 P30) 53 [(2, .int (nI j)), (1, .int (nI f)), (0, rf V 0)] []
      rw [if_pos (by rw [← c33]; exact hv30)] at hv
      refine WS.aload_n hx dX11_ruled_53 rfl 2 rfl ?_
      refine WS.getR hx okX11 lf11_40 rfl rfl dX11_ruled_54 ?_
      refine WS.iload_n hx dX11_ruled_57 rfl 0 rfl ?_
      refine WS.iald hx rfl (vp_in_nI (by omega) (by decide)) dX11_ruled_58 ?_
      refine WS.as rfl rfl (congrArg (fun z => Value.int z :: _) (show (stR (stR σ 12 P) 12 P30).1 11 (nn (nI j)) = nI (f + k1 + k2) from by rw [nn_nI (by omega)]; exact hz)) ?_
      skip
      refine WS.istore_n (lo' := [(1, .int (nI (f + k1 + k2))), (2, .int (nI j)), (0, rf V 0)]) hx dX11_ruled_59 rfl (by decide) rfl ?_
      refine WS.iinc (v := nI (j + 1)) (lo' := [(2, .int (nI (j + 1))), (1, .int (nI (f + k1 + k2))), (0, rf V 0)]) hx dX11_ruled_60 1 rfl (nI_1 j) (by decide) rfl ?_
      refine WS.goto (tgt := 4) hx dX11_ruled_63 (by decide) ?_
      rw [stRR]
      exact WS.los [0, 1, 2] rfl (lp_X11_ruled V d σ cs T N hT hN h17 hcs v0 X hx he r (j + 1) _ _ (by omega) hr hv)
    · skip
      show WS layM V 3 X (stR (stR σ 12 P) 12 P30) 36 [(2, .int (nI j)), (1, .int (nI f)), (0, rf V 0)] []
      rw [if_neg (fun h => c33 (by rw [← h]; exact hv30.symm))] at hv
      refine WS.aload_n hx dX11_ruled_36 rfl 2 rfl ?_
      refine WS.aload_n hx dX11_ruled_37 rfl 2 rfl ?_
      refine WS.getR hx okX11 lf11_37 rfl rfl dX11_ruled_38 ?_
      refine WS.iload_n hx dX11_ruled_41 rfl 0 rfl ?_
      refine WS.iald hx rfl (vp_in_nI (by omega) (by decide)) dX11_ruled_42 ?_
      refine WS.as rfl rfl (congrArg (fun z => Value.int z :: _) (show (stR (stR σ 12 P) 12 P30).1 10 (nn (nI j)) = nI (f + k1) from by rw [nn_nI (by omega)]; exact ha)) ?_
      skip
      refine WS.aload_n hx dX11_ruled_43 rfl 2 rfl ?_
      refine WS.getR hx okX11 lf11_40 rfl rfl dX11_ruled_44 ?_
      refine WS.iload_n hx dX11_ruled_47 rfl 0 rfl ?_
      refine WS.iald hx rfl (vp_in_nI (by omega) (by decide)) dX11_ruled_48 ?_
      refine WS.as rfl rfl (congrArg (fun z => Value.int z :: _) (show (stR (stR σ 12 P) 12 P30).1 11 (nn (nI j)) = nI (f + k1 + k2) from by rw [nn_nI (by omega)]; exact hz)) ?_
      skip
      refine WS.callVi (st := []) [.int (nI (f + k1)), .int (nI (f + k1 + k2))] hx (c_X11_workedOut V d (stR (stR σ 12 P) 12 P30) cs T hT hcs (f + k1) k2 v hY hk3) okX11_workedOut lm11_210 rfl rfl rfl rfl (Nat.le_of_ble_eq_true rfl) dX11_ruled_49 (fun v4 σ5 h6 => ?_)
      obtain ⟨hv49, P49, rfl⟩ := h6
      show WS layM V 3 X (stR (stR (stR σ 12 P) 12 P30) 12 P49) 52 [(2, .int (nI j)), (1, .int (nI f)), (0, rf V 0)] [.int v4]
      exact WS.iret hx he dX11_ruled_52 ⟨_, rfl, hv.symm.trans hv49, P49, by rw [stRR, stRR]⟩
set_option maxHeartbeats 1000000 in
theorem c_X11_ruled (V : Vt) (d : Nat) (σ : Sg) (cs : Nat → Int32) (T : Nat) (lw : Lw) (hL : ML σ cs T lw) : CT layM V mX11_ruled (d + 2) [rf V 0] σ (Ri fun v σ' => evL lw (σ.1 13) = v ∧ ∃ P, σ' = stR σ 12 P) := by
  refine CT.of (own := RX11) rfl (by decide) (Nat.le_of_ble_eq_true rfl) (fun X (hx : Ok V RX11 cX11_ruled 3 (d + 2) X) (he : En layM V (some .int) (Ri fun v σ' => evL lw (σ.1 13) = v ∧ ∃ P, σ' = stR σ 12 P) X) => ?_)
  change WS layM V 3 X σ 0 [(0, rf V 0)] []
  refine WS.iconst (v := 0) hx dX11_ruled_0 (by decide) ?_
  refine WS.istore_n (lo' := [(1, .int 0), (0, rf V 0)]) hx dX11_ruled_1 rfl (by decide) rfl ?_
  refine WS.iconst (v := 0) hx dX11_ruled_2 (by decide) ?_
  refine WS.istore_n (lo' := [(2, .int 0), (1, .int 0), (0, rf V 0)]) hx dX11_ruled_3 rfl (by decide) rfl ?_
  refine WS.as (show σ = stR σ 12 (σ.1 12) from (stR_self σ 12).symm) rfl rfl ?_
  exact WS.los [0, 1, 2] rfl (lp_X11_ruled V d σ cs T lw.length hL.2.1 hL.1 hL.2.2.1 hL.2.2.2.1 _ X hx he lw 0 0 _ (by omega) hL.2.2.2.2 rfl)
def msc (q : Nat) : Prop := q = 0 ∨ (12 ≤ q ∧ q ≤ 15)
/-- the same up to what the model thinks on -/
def ME (σ τ : Sg) : Prop := (∀ q, ¬ msc q → τ.1 q = σ.1 q) ∧ (∀ j, j ≠ 25 → j ≠ 26 → 0 ≤ j → τ.1 0 j = σ.1 0 j) ∧ τ.2 = σ.2
theorem ME.rf {σ : Sg} : ME σ σ := ⟨fun _ _ => rfl, fun _ _ _ _ => rfl, rfl⟩
theorem ME.tr {σ τ υ : Sg} (h : ME σ τ) (g : ME τ υ) : ME σ υ := ⟨fun q h1 => (g.1 q h1).trans (h.1 q h1), fun j a b c => (g.2.1 j a b c).trans (h.2.1 j a b c), g.2.2.trans h.2.2⟩
theorem nmsc {q : Nat} (h : 1 ≤ q ∧ (q ≤ 11 ∨ 16 ≤ q)) : ¬ msc q := by unfold msc; omega
theorem MR.me {κ σ τ : Sg} {n : Nat} (h : MR κ σ n) (e : ME σ τ) : MR κ τ n := MR_o h (e.1 1 (nmsc (by decide))) (e.2.1 6 (by decide) (by decide) (by decide))
theorem ML.me {σ τ : Sg} {cs : Nat → Int32} {T : Nat} {lw : Lw} (h : ML σ cs T lw) (e : ME σ τ) : ML τ cs T lw := by
  obtain ⟨h1, h2, h3, h4, h5⟩ := h
  refine ⟨h1, h2, (e.2.1 17 (by decide) (by decide) (by decide)).trans h3, fun j hj => by rw [e.1 7 (nmsc (by decide))]; exact h4 j hj, ?_⟩
  rw [e.1 10 (nmsc (by decide)), e.1 11 (nmsc (by decide))]; exact h5
theorem ME.st {σ : Sg} {o k : Nat} {v : Int32} (h : 12 ≤ o ∧ o ≤ 15) : ME σ (stI σ o k v) := ⟨fun q hq => stI_o _ _ _ _ (fun e => hq (by unfold msc; omega)), fun j _ _ _ => by rw [stI_o _ _ _ _ (by omega)], rfl⟩
theorem ME.sr {σ : Sg} {o : Nat} {f : Nat → Int32} (h : 12 ≤ o ∧ o ≤ 15) : ME σ (stR σ o f) := ⟨fun q hq => stR_o _ _ _ (fun e => hq (by unfold msc; omega)), fun j _ _ _ => by rw [stR_o _ _ _ (by omega)], rfl⟩
theorem ME.s0 {σ : Sg} {k : Nat} {v : Int32} (h : k = 25 ∨ k = 26) : ME σ (stI σ 0 k v) := ⟨fun q hq => stI_o _ _ _ _ (fun e => hq (by unfold msc; omega)), fun j a b c => stI_k _ _ _ _ (by omega), rfl⟩
abbrev Ms : Type := (Nat → Nat) × (Nat → Bool) × Nat × Nat
def MT (μ : Sg) (n : Nat) (s : Ms) : Prop := (∀ k, k < n → μ.1 14 k = nI (s.1 k) ∧ s.1 k < 16 ∧ μ.1 15 k = bI (s.2.1 k)) ∧ μ.1 0 25 = nI s.2.2.1 ∧ s.2.2.1 ≤ 99 ∧ μ.1 0 26 = nI s.2.2.2 ∧ s.2.2.2 ≤ 100
def wdM (κ : Sg) (n : Nat) (lw : Lw) : Wd := (lwN lw, Lc κ, κ.1 17, fun k => nn (κ.1 11 k), fun k => nn (κ.1 12 k), cnt (κ.1 14) n, fun k => decide (κ.1 14 k = 1), nn (κ.1 18 0))
def ms0 (W : Wd) : Ms := (fun k => (W.s0 k).1, W.2.2.2.2.2.2.1, W.2.2.2.2.2.2.2, W.2.2.2.2.2.1)
def msP (W : Wd) (s : Ms) (b : Nat) : Nat := (cen W.1 W.2.1 W.2.2.1 b (W.bd b) s.2.2.2 (s.2.1 b) (s.1 b, s.2.2.1)).1
def msQ (W : Wd) (s : Ms) (i : Nat) : Ms := (fun b => if b < i then msP W s b else s.1 b, s.2)
def msC (W : Wd) (s : Ms) : Ms := (msP W s, s.2.1, min (s.2.2.1 + 1) 99, s.2.2.2)
def msR (W : Wd) : Nat → Ms → Ms
  | 0, s => s
  | u + 1, s => msR W u (msC W s)
def BG (κ σ τ : Sg) (i : Nat) : Prop := ME σ τ ∧ (∀ k, k < i → τ.1 14 k = nI (nn (κ.1 12 k)) ∧ τ.1 15 k = bI (decide (κ.1 14 k = 1))) ∧ τ.1 0 26 = nI (cnt (κ.1 14) i)
theorem BG.st {κ σ τ : Sg} {i : Nat} (h : BG κ σ τ i) {b : Int32} (hb : b = bI (decide (κ.1 14 i = 1))) : BG κ σ (stI (stI (stI τ 14 i (nI (nn (κ.1 12 i)))) 15 i b) 0 26 (nI (cnt (κ.1 14) (i + 1)))) (i + 1) := by
  obtain ⟨h1, h2, h3⟩ := h
  refine ⟨((h1.tr (ME.st (by decide))).tr (ME.st (by decide))).tr (ME.s0 (by decide)), fun k hk => ?_, rfl⟩
  by_cases e : k = i
  · subst e
    exact ⟨pk_us, by rw [← hb]; exact pk_us⟩
  · refine ⟨?_, ?_⟩
    · show upd (τ.1 14) i _ k = _
      rw [pk_un e]; exact (h2 k (by omega)).1
    · show upd (τ.1 15) i _ k = _
      rw [pk_un e]; exact (h2 k (by omega)).2
theorem s0_M {κ σ : Sg} {n k : Nat} {lw : Lw} (hM : MR κ σ n) (hk : k < n) : ((wdM κ n lw).s0 k).1 < 16 ∧ ((wdM κ n lw).s0 k).2 ≤ 99 := s0_r (m := 0) (c := 0) hM.q hk
set_option maxHeartbeats 1000000 in
theorem lp_X11_begins (V : Vt) (d : Nat) (σ κ : Sg) (n : Nat) (lw : Lw) (hM : MR κ σ n) (X : Xt) (hx : Ok V RX11 cX11_begins 2 d X) (he : En layM V none (Rv fun σ' => ME σ σ' ∧ MT σ' n (ms0 (wdM κ n lw))) X) : ∀ (i : Nat) (τ : Sg), i ≤ n → BG κ σ τ i → WS layM V 2 X τ 7 [(1, .int (nI i)), (0, rf V 0)] [] := by
  have hn := hM.n
  intro i
  induction hm : n - i using Nat.strongRecOn generalizing i with
  | _ m9 ih =>
    intro τ hi hB
    have hM9 := hM.me hB.1
    have hiI : (nI i).toInt = (i : Int) := nI_c (by omega)
    have hnI : (nI n).toInt = (n : Int) := nI_c (by omega)
    refine WS.iload_n hx dX11_begins_7 rfl 0 rfl ?_
    refine WS.aload_n hx dX11_begins_8 rfl 1 rfl ?_
    refine WS.getI hx okX11 lf11_97 rfl rfl dX11_begins_9 ?_
    refine WS.as rfl rfl (congrArg (fun z => Value.int z :: _) (show τ.1 0 6 = nI n from hM9.s)) ?_
    skip
    refine WS.icmp_ge (tgt := 78) hx dX11_begins_12 (by decide) (fun c12 => ?_) (fun c12 => ?_)
    · skip
      show WS layM V 2 X τ 78 [(1, .int (nI i)), (0, rf V 0)] []
      refine WS.aload_n hx dX11_begins_78 rfl 1 rfl ?_
      refine WS.aload_n hx dX11_begins_79 rfl 1 rfl ?_
      refine WS.getR hx okX11 lf11_9 rfl rfl dX11_begins_80 ?_
      refine WS.bipush (v := 82) hx dX11_begins_83 (by decide) ?_
      refine WS.iald hx rfl (vp_dec (by decide)) dX11_begins_85 ?_
      refine WS.putI hx okX11 lf11_216 rfl rfl rfl rfl dX11_begins_86 ?_
      exact WS.vret hx he dX11_begins_89 ⟨rfl, hB.1.tr (ME.s0 (by decide)), fun k hk => ⟨(hB.2.1 k (by (try simp only [l_int, tL_0, tL_1, tL_2, tL_4, tL_5, tL_6, tL_7, tL_9, tL_10, tL_12, tL_15, tL_30, tL_40, tL_60, tL_99, tL_255, tL_1023, tL_m1, lc_lt, lc_gt, lc_ge, lc_le, lc_eq, l6_le, l6_lt, l6_eq, tI_m133, tI_m226, i_le, i_lt, i_eq, tI_0, tI_1, tI_10, tI_30, tI_82] at c12); (try simp only [l_int, tL_0, tL_1, tL_2, tL_4, tL_5, tL_6, tL_7, tL_9, tL_10, tL_12, tL_15, tL_30, tL_40, tL_60, tL_99, tL_255, tL_1023, tL_m1, lc_lt, lc_gt, lc_ge, lc_le, lc_eq, l6_le, l6_lt, l6_eq, tI_m133, tI_m226, i_le, i_lt, i_eq, tI_0, tI_1, tI_10, tI_30, tI_82]); omega)).1, (s0_M (lw := lw) hM hk).1, (hB.2.1 k (by (try simp only [l_int, tL_0, tL_1, tL_2, tL_4, tL_5, tL_6, tL_7, tL_9, tL_10, tL_12, tL_15, tL_30, tL_40, tL_60, tL_99, tL_255, tL_1023, tL_m1, lc_lt, lc_gt, lc_ge, lc_le, lc_eq, l6_le, l6_lt, l6_eq, tI_m133, tI_m226, i_le, i_lt, i_eq, tI_0, tI_1, tI_10, tI_30, tI_82] at c12); (try simp only [l_int, tL_0, tL_1, tL_2, tL_4, tL_5, tL_6, tL_7, tL_9, tL_10, tL_12, tL_15, tL_30, tL_40, tL_60, tL_99, tL_255, tL_1023, tL_m1, lc_lt, lc_gt, lc_ge, lc_le, lc_eq, l6_le, l6_lt, l6_eq, tI_m133, tI_m226, i_le, i_lt, i_eq, tI_0, tI_1, tI_10, tI_30, tI_82]); omega)).2⟩, by
      show τ.1 1 82 = nI (nn (κ.1 18 0))
      rw [hM9.y, nI_nn hM.q.2.2.2.2.2.2.2.2.2.1], by have h9 := hM.q.2.2.2.2.2.2.2.2.2; have := nn_int h9.1; unfold rg at h9; show nn (κ.1 18 0) ≤ 99; omega, by rw [show n = i by (try simp only [l_int, tL_0, tL_1, tL_2, tL_4, tL_5, tL_6, tL_7, tL_9, tL_10, tL_12, tL_15, tL_30, tL_40, tL_60, tL_99, tL_255, tL_1023, tL_m1, lc_lt, lc_gt, lc_ge, lc_le, lc_eq, l6_le, l6_lt, l6_eq, tI_m133, tI_m226, i_le, i_lt, i_eq, tI_0, tI_1, tI_10, tI_30, tI_82] at c12); (try simp only [l_int, tL_0, tL_1, tL_2, tL_4, tL_5, tL_6, tL_7, tL_9, tL_10, tL_12, tL_15, tL_30, tL_40, tL_60, tL_99, tL_255, tL_1023, tL_m1, lc_lt, lc_gt, lc_ge, lc_le, lc_eq, l6_le, l6_lt, l6_eq, tI_m133, tI_m226, i_le, i_lt, i_eq, tI_0, tI_1, tI_10, tI_30, tI_82]); omega]; exact hB.2.2, by have := hM.q.o.2; show cnt (κ.1 14) n ≤ 100; omega⟩
    · skip
      show WS layM V 2 X τ 15 [(1, .int (nI i)), (0, rf V 0)] []
      have hin : i < n := by (try simp only [l_int, tL_0, tL_1, tL_2, tL_4, tL_5, tL_6, tL_7, tL_9, tL_10, tL_12, tL_15, tL_30, tL_40, tL_60, tL_99, tL_255, tL_1023, tL_m1, lc_lt, lc_gt, lc_ge, lc_le, lc_eq, l6_le, l6_lt, l6_eq, tI_m133, tI_m226, i_le, i_lt, i_eq, tI_0, tI_1, tI_10, tI_30, tI_82] at c12); (try simp only [l_int, tL_0, tL_1, tL_2, tL_4, tL_5, tL_6, tL_7, tL_9, tL_10, tL_12, tL_15, tL_30, tL_40, tL_60, tL_99, tL_255, tL_1023, tL_m1, lc_lt, lc_gt, lc_ge, lc_le, lc_eq, l6_le, l6_lt, l6_eq, tI_m133, tI_m226, i_le, i_lt, i_eq, tI_0, tI_1, tI_10, tI_30, tI_82]); omega
      refine WS.aload_n hx dX11_begins_15 rfl 1 rfl ?_
      refine WS.getR hx okX11 lf11_49 rfl rfl dX11_begins_16 ?_
      refine WS.iload_n hx dX11_begins_19 rfl 0 rfl ?_
      refine WS.aload_n hx dX11_begins_20 rfl 1 rfl ?_
      refine WS.getR hx okX11 lf11_9 rfl rfl dX11_begins_21 ?_
      refine WS.bipush (v := 10) hx dX11_begins_24 (by decide) ?_
      refine WS.iload_n hx dX11_begins_26 rfl 0 rfl ?_
      refine WS.iadd hx dX11_begins_27 ?_
      refine WS.as rfl rfl (congrArg (fun z => Value.int z :: _) (show 10 + (nI i) = nI (10 + i) from nI_add 10 i)) ?_
      skip
      refine WS.iald hx rfl (vp_in_nI (by (try simp only [l_int, tL_0, tL_1, tL_2, tL_4, tL_5, tL_6, tL_7, tL_9, tL_10, tL_12, tL_15, tL_30, tL_40, tL_60, tL_99, tL_255, tL_1023, tL_m1, lc_lt, lc_gt, lc_ge, lc_le, lc_eq, l6_le, l6_lt, l6_eq, tI_m133, tI_m226, i_le, i_lt, i_eq, tI_0, tI_1, tI_10, tI_30, tI_82] at c12); (try simp only [l_int, tL_0, tL_1, tL_2, tL_4, tL_5, tL_6, tL_7, tL_9, tL_10, tL_12, tL_15, tL_30, tL_40, tL_60, tL_99, tL_255, tL_1023, tL_m1, lc_lt, lc_gt, lc_ge, lc_le, lc_eq, l6_le, l6_lt, l6_eq, tI_m133, tI_m226, i_le, i_lt, i_eq, tI_0, tI_1, tI_10, tI_30, tI_82]); omega) (by decide)) dX11_begins_28 ?_
      refine WS.as rfl rfl (congrArg (fun z => Value.int z :: _) (show τ.1 1 (nn (nI (10 + i))) = nI (nn (κ.1 12 i)) from by rw [nn_nI (show 10 + i < 2 ^ 31 by omega), nI_nn (hM.q.2.2.2.1 i (by omega)).1]; exact (hM9.a (show i < 10 by omega)))) ?_
      skip
      refine WS.iast hx rfl (vp_in_nI (by (try simp only [l_int, tL_0, tL_1, tL_2, tL_4, tL_5, tL_6, tL_7, tL_9, tL_10, tL_12, tL_15, tL_30, tL_40, tL_60, tL_99, tL_255, tL_1023, tL_m1, lc_lt, lc_gt, lc_ge, lc_le, lc_eq, l6_le, l6_lt, l6_eq, tI_m133, tI_m226, i_le, i_lt, i_eq, tI_0, tI_1, tI_10, tI_30, tI_82] at c12); (try simp only [l_int, tL_0, tL_1, tL_2, tL_4, tL_5, tL_6, tL_7, tL_9, tL_10, tL_12, tL_15, tL_30, tL_40, tL_60, tL_99, tL_255, tL_1023, tL_m1, lc_lt, lc_gt, lc_ge, lc_le, lc_eq, l6_le, l6_lt, l6_eq, tI_m133, tI_m226, i_le, i_lt, i_eq, tI_0, tI_1, tI_10, tI_30, tI_82]); omega) (by decide)) dX11_begins_29 ?_
      refine WS.aload_n hx dX11_begins_30 rfl 1 rfl ?_
      refine WS.getR hx okX11 lf11_52 rfl rfl dX11_begins_31 ?_
      refine WS.iload_n hx dX11_begins_34 rfl 0 rfl ?_
      refine WS.aload_n hx dX11_begins_35 rfl 1 rfl ?_
      refine WS.getR hx okX11 lf11_9 rfl rfl dX11_begins_36 ?_
      refine WS.bipush (v := 30) hx dX11_begins_39 (by decide) ?_
      refine WS.iload_n hx dX11_begins_41 rfl 0 rfl ?_
      refine WS.iadd hx dX11_begins_42 ?_
      refine WS.as rfl rfl (congrArg (fun z => Value.int z :: _) (show 30 + (nI i) = nI (30 + i) from nI_add 30 i)) ?_
      skip
      refine WS.iald hx rfl (vp_in_nI (by (try simp only [l_int, tL_0, tL_1, tL_2, tL_4, tL_5, tL_6, tL_7, tL_9, tL_10, tL_12, tL_15, tL_30, tL_40, tL_60, tL_99, tL_255, tL_1023, tL_m1, lc_lt, lc_gt, lc_ge, lc_le, lc_eq, l6_le, l6_lt, l6_eq, tI_m133, tI_m226, i_le, i_lt, i_eq, tI_0, tI_1, tI_10, tI_30, tI_82] at c12); (try simp only [l_int, tL_0, tL_1, tL_2, tL_4, tL_5, tL_6, tL_7, tL_9, tL_10, tL_12, tL_15, tL_30, tL_40, tL_60, tL_99, tL_255, tL_1023, tL_m1, lc_lt, lc_gt, lc_ge, lc_le, lc_eq, l6_le, l6_lt, l6_eq, tI_m133, tI_m226, i_le, i_lt, i_eq, tI_0, tI_1, tI_10, tI_30, tI_82]); omega) (by decide)) dX11_begins_43 ?_
      refine WS.as rfl rfl (congrArg (fun z => Value.int z :: _) (show (stI τ 14 (nn (nI i)) (nI (nn (κ.1 12 i)))).1 1 (nn (nI (30 + i))) = κ.1 14 i from by rw [nn_nI (show 30 + i < 2 ^ 31 by omega)]; exact (hM9.o (show i < 10 by omega)))) ?_
      skip
      refine WS.iconst (v := 1) hx dX11_begins_44 (by decide) ?_
      refine WS.icmp_ne (tgt := 52) hx dX11_begins_45 (by decide) (fun c45 => ?_) (fun c45 => ?_)
      · skip
        show WS layM V 2 X (stI τ 14 (nn (nI i)) (nI (nn (κ.1 12 i)))) 52 [(1, .int (nI i)), (0, rf V 0)] [.int (nI i), rf V 15]
        refine WS.iconst (v := 0) hx dX11_begins_52 (by decide) ?_
        refine WS.zast hx rfl (vp_in_nI (by (try simp only [l_int, tL_0, tL_1, tL_2, tL_4, tL_5, tL_6, tL_7, tL_9, tL_10, tL_12, tL_15, tL_30, tL_40, tL_60, tL_99, tL_255, tL_1023, tL_m1, lc_lt, lc_gt, lc_ge, lc_le, lc_eq, l6_le, l6_lt, l6_eq, tI_m133, tI_m226, i_le, i_lt, i_eq, tI_0, tI_1, tI_10, tI_30, tI_82] at c12); (try simp only [l_int, tL_0, tL_1, tL_2, tL_4, tL_5, tL_6, tL_7, tL_9, tL_10, tL_12, tL_15, tL_30, tL_40, tL_60, tL_99, tL_255, tL_1023, tL_m1, lc_lt, lc_gt, lc_ge, lc_le, lc_eq, l6_le, l6_lt, l6_eq, tI_m133, tI_m226, i_le, i_lt, i_eq, tI_0, tI_1, tI_10, tI_30, tI_82] at c45); (try simp only [l_int, tL_0, tL_1, tL_2, tL_4, tL_5, tL_6, tL_7, tL_9, tL_10, tL_12, tL_15, tL_30, tL_40, tL_60, tL_99, tL_255, tL_1023, tL_m1, lc_lt, lc_gt, lc_ge, lc_le, lc_eq, l6_le, l6_lt, l6_eq, tI_m133, tI_m226, i_le, i_lt, i_eq, tI_0, tI_1, tI_10, tI_30, tI_82]); omega) (by decide)) (Or.inl rfl) dX11_begins_53 ?_
        refine WS.aload_n hx dX11_begins_54 rfl 1 rfl ?_
        refine WS.dup hx dX11_begins_55 rfl ?_
        refine WS.getI hx okX11 lf11_213 rfl rfl dX11_begins_56 ?_
        refine WS.as rfl rfl (congrArg (fun z => Value.int z :: _) (show (stI (stI τ 14 (nn (nI i)) (nI (nn (κ.1 12 i)))) 15 (nn (nI i)) 0).1 0 26 = nI (cnt (κ.1 14) i) from hB.2.2)) ?_
        skip
        refine WS.aload_n hx dX11_begins_59 rfl 1 rfl ?_
        refine WS.getR hx okX11 lf11_9 rfl rfl dX11_begins_60 ?_
        refine WS.bipush (v := 30) hx dX11_begins_63 (by decide) ?_
        refine WS.iload_n hx dX11_begins_65 rfl 0 rfl ?_
        refine WS.iadd hx dX11_begins_66 ?_
        refine WS.as rfl rfl (congrArg (fun z => Value.int z :: _) (show 30 + (nI i) = nI (30 + i) from nI_add 30 i)) ?_
        skip
        refine WS.iald hx rfl (vp_in_nI (by (try simp only [l_int, tL_0, tL_1, tL_2, tL_4, tL_5, tL_6, tL_7, tL_9, tL_10, tL_12, tL_15, tL_30, tL_40, tL_60, tL_99, tL_255, tL_1023, tL_m1, lc_lt, lc_gt, lc_ge, lc_le, lc_eq, l6_le, l6_lt, l6_eq, tI_m133, tI_m226, i_le, i_lt, i_eq, tI_0, tI_1, tI_10, tI_30, tI_82] at c12); (try simp only [l_int, tL_0, tL_1, tL_2, tL_4, tL_5, tL_6, tL_7, tL_9, tL_10, tL_12, tL_15, tL_30, tL_40, tL_60, tL_99, tL_255, tL_1023, tL_m1, lc_lt, lc_gt, lc_ge, lc_le, lc_eq, l6_le, l6_lt, l6_eq, tI_m133, tI_m226, i_le, i_lt, i_eq, tI_0, tI_1, tI_10, tI_30, tI_82] at c45); (try simp only [l_int, tL_0, tL_1, tL_2, tL_4, tL_5, tL_6, tL_7, tL_9, tL_10, tL_12, tL_15, tL_30, tL_40, tL_60, tL_99, tL_255, tL_1023, tL_m1, lc_lt, lc_gt, lc_ge, lc_le, lc_eq, l6_le, l6_lt, l6_eq, tI_m133, tI_m226, i_le, i_lt, i_eq, tI_0, tI_1, tI_10, tI_30, tI_82]); omega) (by decide)) dX11_begins_67 ?_
        refine WS.as rfl rfl (congrArg (fun z => Value.int z :: _) (show (stI (stI τ 14 (nn (nI i)) (nI (nn (κ.1 12 i)))) 15 (nn (nI i)) 0).1 1 (nn (nI (30 + i))) = nI (nn (κ.1 14 i)) from by rw [nn_nI (show 30 + i < 2 ^ 31 by omega), nI_nn (hM.q.2.2.2.2.2.1 i (by omega)).1]; exact (hM9.o (show i < 10 by omega)))) ?_
        skip
        refine WS.iadd hx dX11_begins_68 ?_
        refine WS.as rfl rfl (congrArg (fun z => Value.int z :: _) (show (nI (cnt (κ.1 14) i)) + (nI (nn (κ.1 14 i))) = nI (cnt (κ.1 14) (i + 1)) from nI_add _ _)) ?_
        skip
        refine WS.putI hx okX11 lf11_213 rfl rfl rfl rfl dX11_begins_69 ?_
        refine WS.iinc (v := nI (i + 1)) (lo' := [(1, .int (nI (i + 1))), (0, rf V 0)]) hx dX11_begins_72 0 rfl (nI_1 i) (by decide) rfl ?_
        refine WS.goto (tgt := 7) hx dX11_begins_75 (by decide) ?_
        (try rw [nI_clamp (show i < 2 ^ 31 by omega)])
        (try rw [nn_nI (show i < 2 ^ 31 by omega)])
        exact WS.los [0, 1] rfl (ih _ (by (try simp only [l_int, tL_0, tL_1, tL_2, tL_4, tL_5, tL_6, tL_7, tL_9, tL_10, tL_12, tL_15, tL_30, tL_40, tL_60, tL_99, tL_255, tL_1023, tL_m1, lc_lt, lc_gt, lc_ge, lc_le, lc_eq, l6_le, l6_lt, l6_eq, tI_m133, tI_m226, i_le, i_lt, i_eq, tI_0, tI_1, tI_10, tI_30, tI_82] at c12); (try simp only [l_int, tL_0, tL_1, tL_2, tL_4, tL_5, tL_6, tL_7, tL_9, tL_10, tL_12, tL_15, tL_30, tL_40, tL_60, tL_99, tL_255, tL_1023, tL_m1, lc_lt, lc_gt, lc_ge, lc_le, lc_eq, l6_le, l6_lt, l6_eq, tI_m133, tI_m226, i_le, i_lt, i_eq, tI_0, tI_1, tI_10, tI_30, tI_82] at c45); (try simp only [l_int, tL_0, tL_1, tL_2, tL_4, tL_5, tL_6, tL_7, tL_9, tL_10, tL_12, tL_15, tL_30, tL_40, tL_60, tL_99, tL_255, tL_1023, tL_m1, lc_lt, lc_gt, lc_ge, lc_le, lc_eq, l6_le, l6_lt, l6_eq, tI_m133, tI_m226, i_le, i_lt, i_eq, tI_0, tI_1, tI_10, tI_30, tI_82]); omega) (i + 1) rfl _ (by (try simp only [l_int, tL_0, tL_1, tL_2, tL_4, tL_5, tL_6, tL_7, tL_9, tL_10, tL_12, tL_15, tL_30, tL_40, tL_60, tL_99, tL_255, tL_1023, tL_m1, lc_lt, lc_gt, lc_ge, lc_le, lc_eq, l6_le, l6_lt, l6_eq, tI_m133, tI_m226, i_le, i_lt, i_eq, tI_0, tI_1, tI_10, tI_30, tI_82] at c12); (try simp only [l_int, tL_0, tL_1, tL_2, tL_4, tL_5, tL_6, tL_7, tL_9, tL_10, tL_12, tL_15, tL_30, tL_40, tL_60, tL_99, tL_255, tL_1023, tL_m1, lc_lt, lc_gt, lc_ge, lc_le, lc_eq, l6_le, l6_lt, l6_eq, tI_m133, tI_m226, i_le, i_lt, i_eq, tI_0, tI_1, tI_10, tI_30, tI_82] at c45); (try simp only [l_int, tL_0, tL_1, tL_2, tL_4, tL_5, tL_6, tL_7, tL_9, tL_10, tL_12, tL_15, tL_30, tL_40, tL_60, tL_99, tL_255, tL_1023, tL_m1, lc_lt, lc_gt, lc_ge, lc_le, lc_eq, l6_le, l6_lt, l6_eq, tI_m133, tI_m226, i_le, i_lt, i_eq, tI_0, tI_1, tI_10, tI_30, tI_82]); omega) (hB.st (b := 0) (by rw [decide_eq_false c45]; rfl)))
      · skip
        show WS layM V 2 X (stI τ 14 (nn (nI i)) (nI (nn (κ.1 12 i)))) 48 [(1, .int (nI i)), (0, rf V 0)] [.int (nI i), rf V 15]
        refine WS.iconst (v := 1) hx dX11_begins_48 (by decide) ?_
        refine WS.goto (tgt := 53) hx dX11_begins_49 (by decide) ?_
        refine WS.zast hx rfl (vp_in_nI (by (try simp only [l_int, tL_0, tL_1, tL_2, tL_4, tL_5, tL_6, tL_7, tL_9, tL_10, tL_12, tL_15, tL_30, tL_40, tL_60, tL_99, tL_255, tL_1023, tL_m1, lc_lt, lc_gt, lc_ge, lc_le, lc_eq, l6_le, l6_lt, l6_eq, tI_m133, tI_m226, i_le, i_lt, i_eq, tI_0, tI_1, tI_10, tI_30, tI_82] at c12); (try simp only [l_int, tL_0, tL_1, tL_2, tL_4, tL_5, tL_6, tL_7, tL_9, tL_10, tL_12, tL_15, tL_30, tL_40, tL_60, tL_99, tL_255, tL_1023, tL_m1, lc_lt, lc_gt, lc_ge, lc_le, lc_eq, l6_le, l6_lt, l6_eq, tI_m133, tI_m226, i_le, i_lt, i_eq, tI_0, tI_1, tI_10, tI_30, tI_82] at c45); (try simp only [l_int, tL_0, tL_1, tL_2, tL_4, tL_5, tL_6, tL_7, tL_9, tL_10, tL_12, tL_15, tL_30, tL_40, tL_60, tL_99, tL_255, tL_1023, tL_m1, lc_lt, lc_gt, lc_ge, lc_le, lc_eq, l6_le, l6_lt, l6_eq, tI_m133, tI_m226, i_le, i_lt, i_eq, tI_0, tI_1, tI_10, tI_30, tI_82]); omega) (by decide)) (Or.inr rfl) dX11_begins_53 ?_
        refine WS.aload_n hx dX11_begins_54 rfl 1 rfl ?_
        refine WS.dup hx dX11_begins_55 rfl ?_
        refine WS.getI hx okX11 lf11_213 rfl rfl dX11_begins_56 ?_
        refine WS.as rfl rfl (congrArg (fun z => Value.int z :: _) (show (stI (stI τ 14 (nn (nI i)) (nI (nn (κ.1 12 i)))) 15 (nn (nI i)) 1).1 0 26 = nI (cnt (κ.1 14) i) from hB.2.2)) ?_
        skip
        refine WS.aload_n hx dX11_begins_59 rfl 1 rfl ?_
        refine WS.getR hx okX11 lf11_9 rfl rfl dX11_begins_60 ?_
        refine WS.bipush (v := 30) hx dX11_begins_63 (by decide) ?_
        refine WS.iload_n hx dX11_begins_65 rfl 0 rfl ?_
        refine WS.iadd hx dX11_begins_66 ?_
        refine WS.as rfl rfl (congrArg (fun z => Value.int z :: _) (show 30 + (nI i) = nI (30 + i) from nI_add 30 i)) ?_
        skip
        refine WS.iald hx rfl (vp_in_nI (by (try simp only [l_int, tL_0, tL_1, tL_2, tL_4, tL_5, tL_6, tL_7, tL_9, tL_10, tL_12, tL_15, tL_30, tL_40, tL_60, tL_99, tL_255, tL_1023, tL_m1, lc_lt, lc_gt, lc_ge, lc_le, lc_eq, l6_le, l6_lt, l6_eq, tI_m133, tI_m226, i_le, i_lt, i_eq, tI_0, tI_1, tI_10, tI_30, tI_82] at c12); (try simp only [l_int, tL_0, tL_1, tL_2, tL_4, tL_5, tL_6, tL_7, tL_9, tL_10, tL_12, tL_15, tL_30, tL_40, tL_60, tL_99, tL_255, tL_1023, tL_m1, lc_lt, lc_gt, lc_ge, lc_le, lc_eq, l6_le, l6_lt, l6_eq, tI_m133, tI_m226, i_le, i_lt, i_eq, tI_0, tI_1, tI_10, tI_30, tI_82] at c45); (try simp only [l_int, tL_0, tL_1, tL_2, tL_4, tL_5, tL_6, tL_7, tL_9, tL_10, tL_12, tL_15, tL_30, tL_40, tL_60, tL_99, tL_255, tL_1023, tL_m1, lc_lt, lc_gt, lc_ge, lc_le, lc_eq, l6_le, l6_lt, l6_eq, tI_m133, tI_m226, i_le, i_lt, i_eq, tI_0, tI_1, tI_10, tI_30, tI_82]); omega) (by decide)) dX11_begins_67 ?_
        refine WS.as rfl rfl (congrArg (fun z => Value.int z :: _) (show (stI (stI τ 14 (nn (nI i)) (nI (nn (κ.1 12 i)))) 15 (nn (nI i)) 1).1 1 (nn (nI (30 + i))) = nI (nn (κ.1 14 i)) from by rw [nn_nI (show 30 + i < 2 ^ 31 by omega), nI_nn (hM.q.2.2.2.2.2.1 i (by omega)).1]; exact (hM9.o (show i < 10 by omega)))) ?_
        skip
        refine WS.iadd hx dX11_begins_68 ?_
        refine WS.as rfl rfl (congrArg (fun z => Value.int z :: _) (show (nI (cnt (κ.1 14) i)) + (nI (nn (κ.1 14 i))) = nI (cnt (κ.1 14) (i + 1)) from nI_add _ _)) ?_
        skip
        refine WS.putI hx okX11 lf11_213 rfl rfl rfl rfl dX11_begins_69 ?_
        refine WS.iinc (v := nI (i + 1)) (lo' := [(1, .int (nI (i + 1))), (0, rf V 0)]) hx dX11_begins_72 0 rfl (nI_1 i) (by decide) rfl ?_
        refine WS.goto (tgt := 7) hx dX11_begins_75 (by decide) ?_
        (try rw [nI_clamp (show i < 2 ^ 31 by omega)])
        (try rw [nn_nI (show i < 2 ^ 31 by omega)])
        exact WS.los [0, 1] rfl (ih _ (by (try simp only [l_int, tL_0, tL_1, tL_2, tL_4, tL_5, tL_6, tL_7, tL_9, tL_10, tL_12, tL_15, tL_30, tL_40, tL_60, tL_99, tL_255, tL_1023, tL_m1, lc_lt, lc_gt, lc_ge, lc_le, lc_eq, l6_le, l6_lt, l6_eq, tI_m133, tI_m226, i_le, i_lt, i_eq, tI_0, tI_1, tI_10, tI_30, tI_82] at c12); (try simp only [l_int, tL_0, tL_1, tL_2, tL_4, tL_5, tL_6, tL_7, tL_9, tL_10, tL_12, tL_15, tL_30, tL_40, tL_60, tL_99, tL_255, tL_1023, tL_m1, lc_lt, lc_gt, lc_ge, lc_le, lc_eq, l6_le, l6_lt, l6_eq, tI_m133, tI_m226, i_le, i_lt, i_eq, tI_0, tI_1, tI_10, tI_30, tI_82] at c45); (try simp only [l_int, tL_0, tL_1, tL_2, tL_4, tL_5, tL_6, tL_7, tL_9, tL_10, tL_12, tL_15, tL_30, tL_40, tL_60, tL_99, tL_255, tL_1023, tL_m1, lc_lt, lc_gt, lc_ge, lc_le, lc_eq, l6_le, l6_lt, l6_eq, tI_m133, tI_m226, i_le, i_lt, i_eq, tI_0, tI_1, tI_10, tI_30, tI_82]); omega) (i + 1) rfl _ (by (try simp only [l_int, tL_0, tL_1, tL_2, tL_4, tL_5, tL_6, tL_7, tL_9, tL_10, tL_12, tL_15, tL_30, tL_40, tL_60, tL_99, tL_255, tL_1023, tL_m1, lc_lt, lc_gt, lc_ge, lc_le, lc_eq, l6_le, l6_lt, l6_eq, tI_m133, tI_m226, i_le, i_lt, i_eq, tI_0, tI_1, tI_10, tI_30, tI_82] at c12); (try simp only [l_int, tL_0, tL_1, tL_2, tL_4, tL_5, tL_6, tL_7, tL_9, tL_10, tL_12, tL_15, tL_30, tL_40, tL_60, tL_99, tL_255, tL_1023, tL_m1, lc_lt, lc_gt, lc_ge, lc_le, lc_eq, l6_le, l6_lt, l6_eq, tI_m133, tI_m226, i_le, i_lt, i_eq, tI_0, tI_1, tI_10, tI_30, tI_82] at c45); (try simp only [l_int, tL_0, tL_1, tL_2, tL_4, tL_5, tL_6, tL_7, tL_9, tL_10, tL_12, tL_15, tL_30, tL_40, tL_60, tL_99, tL_255, tL_1023, tL_m1, lc_lt, lc_gt, lc_ge, lc_le, lc_eq, l6_le, l6_lt, l6_eq, tI_m133, tI_m226, i_le, i_lt, i_eq, tI_0, tI_1, tI_10, tI_30, tI_82]); omega) (hB.st (b := 1) (by rw [decide_eq_true c45]; rfl)))
set_option maxHeartbeats 1000000 in
theorem c_X11_begins (V : Vt) (d : Nat) (σ : Sg) (κ : Sg) (n : Nat) (lw : Lw) (hM : MR κ σ n) : CT layM V mX11_begins (d) [rf V 0] σ (Rv fun σ' => ME σ σ' ∧ MT σ' n (ms0 (wdM κ n lw))) := by
  refine CT.of (own := RX11) rfl (by decide) (Nat.le_of_ble_eq_true rfl) (fun X (hx : Ok V RX11 cX11_begins 2 (d) X) (he : En layM V none (Rv fun σ' => ME σ σ' ∧ MT σ' n (ms0 (wdM κ n lw))) X) => ?_)
  change WS layM V 2 X σ 0 [(0, rf V 0)] []
  refine WS.aload_n hx dX11_begins_0 rfl 0 rfl ?_
  refine WS.iconst (v := 0) hx dX11_begins_1 (by decide) ?_
  refine WS.putI hx okX11 lf11_213 rfl rfl rfl rfl dX11_begins_2 ?_
  refine WS.iconst (v := 0) hx dX11_begins_5 (by decide) ?_
  refine WS.istore_n (lo' := [(1, .int 0), (0, rf V 0)]) hx dX11_begins_6 rfl (by decide) rfl ?_
  exact WS.los [0, 1] rfl (lp_X11_begins V d σ κ n lw hM X hx he 0 _ (Nat.zero_le _) ⟨ME.s0 (by decide), fun k hk => absurd hk (Nat.not_lt_zero k), rfl⟩)
set_option maxHeartbeats 1000000 in
theorem c_X11_wordOf (V : Vt) (d : Nat) (σ : Sg) (κ : Sg) (n : Nat) (hM : MR κ σ n) (s : Ms) (hT : MT σ n s) (k : Nat) (hk : k < n) : CT layM V mX11_wordOf (d) [rf V 0, .int (nI k)] σ (Ro (κ.1 17 (s.1 k)) σ) := by
  refine CT.of (own := RX11) rfl (by decide) (Nat.le_of_ble_eq_true rfl) (fun X (hx : Ok V RX11 cX11_wordOf 2 (d) X) (he : En layM V (some .int) (Ro (κ.1 17 (s.1 k)) σ) X) => ?_)
  change WS layM V 2 X σ 0 [(0, rf V 0), (1, .int (nI k))] []
  have hn := hM.n
  have hmk := hT.1 k hk
  refine WS.aload_n hx dX11_wordOf_0 rfl 0 rfl ?_
  refine WS.getR hx okX11 lf11_9 rfl rfl dX11_wordOf_1 ?_
  refine WS.bipush (v := 66) hx dX11_wordOf_4 (by decide) ?_
  refine WS.aload_n hx dX11_wordOf_6 rfl 0 rfl ?_
  refine WS.getR hx okX11 lf11_49 rfl rfl dX11_wordOf_7 ?_
  refine WS.iload_n hx dX11_wordOf_10 rfl 1 rfl ?_
  refine WS.iald hx rfl (vp_in_nI (by omega) (by decide)) dX11_wordOf_11 ?_
  refine WS.as rfl rfl (congrArg (fun z => Value.int z :: _) (show σ.1 14 (nn (nI k)) = nI (s.1 k) from by rw [nn_nI (by omega)]; exact hmk.1)) ?_
  skip
  refine WS.iadd hx dX11_wordOf_12 ?_
  refine WS.as rfl rfl (congrArg (fun z => Value.int z :: _) (show 66 + (nI (s.1 k)) = nI (66 + s.1 k) from nI_add 66 _)) ?_
  skip
  refine WS.iald hx rfl (vp_in_nI (by have := hmk.2.1; omega) (by decide)) dX11_wordOf_13 ?_
  exact WS.iret hx he dX11_wordOf_14 (Ro.i (by rw [nI_clamp (show 66 + s.1 k < 2 ^ 31 by have := hmk.2.1; omega)]; exact (hM.w hmk.2.1).symm))
def nm9 (σ : Sg) (b a w k o y : Int32) : Sg := stI (stI (stI (stI (stI (stI σ 13 0 b) 13 1 a) 13 2 w) 13 3 k) 13 4 o) 13 5 y
theorem nm9_6 {σ : Sg} {b a w k o y : Int32} : ∀ j, j < 6 → (nm9 σ b a w k o y).1 13 j = nm6 b a w k o y j := by
  intro j hj
  have : j = 0 ∨ j = 1 ∨ j = 2 ∨ j = 3 ∨ j = 4 ∨ j = 5 := by omega
  rcases this with rfl | rfl | rfl | rfl | rfl | rfl <;> rfl
theorem clp_t {v : Int32} (h : ¬ 0 ≤ v) : mx 0 (mn 9 v) = 0 := by
  have e : (mn 9 v).toInt = v.toInt := by rw [mn_int]; simp only [i_le, tI_0, tI_9] at *; split <;> omega
  rw [i_le, tI_0] at h
  unfold mx
  rw [if_neg (by rw [i_lt, e, tI_0]; omega)]
theorem clp_9 {v : Int32} (h : ¬ v ≤ 9) : mx 0 (mn 9 v) = 9 := by
  have e : mn 9 v = 9 := by
    unfold mn
    rw [i_le, tI_9] at h
    rw [if_neg (by rw [i_lt, tI_9]; omega)]
  rw [e]; decide
theorem clp_v {v : Int32} (h : 0 ≤ v) (g : v ≤ 9) : mx 0 (mn 9 v) = v := by
  rw [i_le, tI_0] at h
  rw [i_le, tI_9] at g
  obtain ⟨j, hj⟩ : ∃ j : Nat, v = nI j ∧ j ≤ 9 := ⟨nn v, (nI_nn h).symm, by have := nn_int h; omega⟩
  rw [hj.1, show (9 : Int32) = nI 9 from rfl, show mn (nI 9) (nI j) = nI j by rw [mn_nI (by omega) (by omega), Nat.min_eq_right hj.2]]
  unfold mx
  by_cases e : (0 : Int32) < nI j
  · rw [if_pos e]
  · rw [if_neg e]
    rw [i_lt, tI_0, nI_c (by omega)] at e
    rw [show j = 0 by omega]; rfl
set_option maxHeartbeats 1000000 in
theorem c_X11_goesOn (V : Vt) (d : Nat) (σ : Sg) (κ : Sg) (n : Nat) (hM : MR κ σ n) (s : Ms) (hT : MT σ n s) (k : Nat) (hk : k < n) (cs : Nat → Int32) (T : Nat) (lw : Lw) (hL : ML σ cs T lw) : CT layM V mX11_goesOn (d + 3) [rf V 0, .int (nI k)] σ (Ri fun v σ' => lwN lw (nI (nn (κ.1 11 k))) (nI (s.1 k)) (κ.1 17 (s.1 k)) (nI k) (nI s.2.2.2) (nI s.2.2.1) = v ∧ (∀ q, q ≠ 12 → q ≠ 13 → σ'.1 q = σ.1 q) ∧ σ'.2 = σ.2) := by
  refine CT.of (own := RX11) rfl (by decide) (Nat.le_of_ble_eq_true rfl) (fun X (hx : Ok V RX11 cX11_goesOn 3 (d + 3) X) (he : En layM V (some .int) (Ri fun v σ' => lwN lw (nI (nn (κ.1 11 k))) (nI (s.1 k)) (κ.1 17 (s.1 k)) (nI k) (nI s.2.2.2) (nI s.2.2.1) = v ∧ (∀ q, q ≠ 12 → q ≠ 13 → σ'.1 q = σ.1 q) ∧ σ'.2 = σ.2) X) => ?_)
  change WS layM V 3 X σ 0 [(0, rf V 0), (1, .int (nI k))] []
  have hn := hM.n
  have hmk := hT.1 k hk
  have hbr := hM.q.2.2.1 k (by omega)
  have hbd := hM.b (show k < 10 by omega)
  have hlI : (nI lw.length).toInt = (lw.length : Int) := nI_c (by have := hL.1; omega)
  refine WS.iconst (v := 1) hx dX11_goesOn_0 (by decide) ?_
  refine WS.aload_n hx dX11_goesOn_1 rfl 0 rfl ?_
  refine WS.getR hx okX11 lf11_9 rfl rfl dX11_goesOn_2 ?_
  refine WS.iload_n hx dX11_goesOn_5 rfl 1 rfl ?_
  refine WS.iald hx rfl (vp_in_nI (by omega) (by decide)) dX11_goesOn_6 ?_
  refine WS.as rfl rfl (congrArg (fun z => Value.int z :: _) (show σ.1 1 (nn (nI k)) = nI (nn (κ.1 11 k)) from by rw [nn_nI (by omega), nI_nn hbr.1]; exact hbd)) ?_
  skip
  refine WS.iconst (v := 4) hx dX11_goesOn_7 (by decide) ?_
  refine WS.idiv hx dX11_goesOn_8 (by decide) ?_
  refine WS.iadd hx dX11_goesOn_9 ?_
  refine WS.istore_n (lo' := [(2, .int (1 + ((nI (nn (κ.1 11 k))) / 4))), (0, rf V 0), (1, .int (nI k))]) hx dX11_goesOn_10 rfl (by decide) rfl ?_
  refine WS.aload_n hx dX11_goesOn_11 rfl 1 rfl ?_
  refine WS.getI hx okX11 lf11_203 rfl rfl dX11_goesOn_12 ?_
  refine WS.as rfl rfl (congrArg (fun z => Value.int z :: _) (show σ.1 0 17 = nI lw.length from hL.2.2.1)) ?_
  skip
  refine WS.if_le (tgt := 85) hx dX11_goesOn_15 (by decide) (fun c15 => ?_) (fun c15 => ?_)
  · skip
    show WS layM V 3 X σ 85 [(2, .int (1 + ((nI (nn (κ.1 11 k))) / 4))), (0, rf V 0), (1, .int (nI k))] []
    refine WS.iload_n hx dX11_goesOn_85 rfl 0 rfl ?_
    refine WS.if_ge (tgt := 93) hx dX11_goesOn_86 (by decide) (fun c86 => ?_) (fun c86 => ?_)
    · skip
      show WS layM V 3 X σ 93 [(2, .int (1 + ((nI (nn (κ.1 11 k))) / 4))), (0, rf V 0), (1, .int (nI k))] []
      refine WS.iload_n hx dX11_goesOn_93 rfl 0 rfl ?_
      refine WS.bipush (v := 9) hx dX11_goesOn_94 (by decide) ?_
      refine WS.icmp_le (tgt := 104) hx dX11_goesOn_96 (by decide) (fun c96 => ?_) (fun c96 => ?_)
      · skip
        show WS layM V 3 X σ 104 [(2, .int (1 + ((nI (nn (κ.1 11 k))) / 4))), (0, rf V 0), (1, .int (nI k))] []
        refine WS.iload_n hx dX11_goesOn_104 rfl 0 rfl ?_
        exact WS.iret hx he dX11_goesOn_105 ⟨_, rfl, by unfold lwN; rw [if_pos (show lw.length = 0 by (try simp only [l_int, tL_0, tL_1, tL_2, tL_4, tL_5, tL_6, tL_7, tL_9, tL_10, tL_12, tL_15, tL_30, tL_40, tL_60, tL_99, tL_255, tL_1023, tL_m1, lc_lt, lc_gt, lc_ge, lc_le, lc_eq, l6_le, l6_lt, l6_eq, tI_m133, tI_m226, i_le, i_lt, i_eq, tI_0, tI_1, tI_2, tI_3, tI_4, tI_5, tI_9] at c15); (try simp only [l_int, tL_0, tL_1, tL_2, tL_4, tL_5, tL_6, tL_7, tL_9, tL_10, tL_12, tL_15, tL_30, tL_40, tL_60, tL_99, tL_255, tL_1023, tL_m1, lc_lt, lc_gt, lc_ge, lc_le, lc_eq, l6_le, l6_lt, l6_eq, tI_m133, tI_m226, i_le, i_lt, i_eq, tI_0, tI_1, tI_2, tI_3, tI_4, tI_5, tI_9] at c86); (try simp only [l_int, tL_0, tL_1, tL_2, tL_4, tL_5, tL_6, tL_7, tL_9, tL_10, tL_12, tL_15, tL_30, tL_40, tL_60, tL_99, tL_255, tL_1023, tL_m1, lc_lt, lc_gt, lc_ge, lc_le, lc_eq, l6_le, l6_lt, l6_eq, tI_m133, tI_m226, i_le, i_lt, i_eq, tI_0, tI_1, tI_2, tI_3, tI_4, tI_5, tI_9] at c96); (try simp only [l_int, tL_0, tL_1, tL_2, tL_4, tL_5, tL_6, tL_7, tL_9, tL_10, tL_12, tL_15, tL_30, tL_40, tL_60, tL_99, tL_255, tL_1023, tL_m1, lc_lt, lc_gt, lc_ge, lc_le, lc_eq, l6_le, l6_lt, l6_eq, tI_m133, tI_m226, i_le, i_lt, i_eq, tI_0, tI_1, tI_2, tI_3, tI_4, tI_5, tI_9]); omega)], fun _ _ _ => rfl, rfl⟩
      · skip
        show WS layM V 3 X σ 99 [(2, .int (1 + ((nI (nn (κ.1 11 k))) / 4))), (0, rf V 0), (1, .int (nI k))] []
        refine WS.bipush (v := 9) hx dX11_goesOn_99 (by decide) ?_
        refine WS.goto (tgt := 105) hx dX11_goesOn_101 (by decide) ?_
        exact WS.iret hx he dX11_goesOn_105 (by exfalso; have hb3 := lwN_r (lw := []) (b := nI (nn (κ.1 11 k))) (a := 0) (w := 0) (k := 0) (o := 0) (y := 0) (by rw [nI_nn hbr.1]; exact hbr); have h31 := hb3.1; have h32 := hb3.2; unfold lwN at h31 h32; simp only [List.length_nil, if_true] at h31 h32; (try simp only [l_int, tL_0, tL_1, tL_2, tL_4, tL_5, tL_6, tL_7, tL_9, tL_10, tL_12, tL_15, tL_30, tL_40, tL_60, tL_99, tL_255, tL_1023, tL_m1, lc_lt, lc_gt, lc_ge, lc_le, lc_eq, l6_le, l6_lt, l6_eq, tI_m133, tI_m226, i_le, i_lt, i_eq, tI_0, tI_1, tI_2, tI_3, tI_4, tI_5, tI_9] at c15); (try simp only [l_int, tL_0, tL_1, tL_2, tL_4, tL_5, tL_6, tL_7, tL_9, tL_10, tL_12, tL_15, tL_30, tL_40, tL_60, tL_99, tL_255, tL_1023, tL_m1, lc_lt, lc_gt, lc_ge, lc_le, lc_eq, l6_le, l6_lt, l6_eq, tI_m133, tI_m226, i_le, i_lt, i_eq, tI_0, tI_1, tI_2, tI_3, tI_4, tI_5, tI_9] at c86); (try simp only [l_int, tL_0, tL_1, tL_2, tL_4, tL_5, tL_6, tL_7, tL_9, tL_10, tL_12, tL_15, tL_30, tL_40, tL_60, tL_99, tL_255, tL_1023, tL_m1, lc_lt, lc_gt, lc_ge, lc_le, lc_eq, l6_le, l6_lt, l6_eq, tI_m133, tI_m226, i_le, i_lt, i_eq, tI_0, tI_1, tI_2, tI_3, tI_4, tI_5, tI_9] at c96); (try simp only [l_int, tL_0, tL_1, tL_2, tL_4, tL_5, tL_6, tL_7, tL_9, tL_10, tL_12, tL_15, tL_30, tL_40, tL_60, tL_99, tL_255, tL_1023, tL_m1, lc_lt, lc_gt, lc_ge, lc_le, lc_eq, l6_le, l6_lt, l6_eq, tI_m133, tI_m226, i_le, i_lt, i_eq, tI_0, tI_1, tI_2, tI_3, tI_4, tI_5, tI_9]); omega)
    · skip
      show WS layM V 3 X σ 89 [(2, .int (1 + ((nI (nn (κ.1 11 k))) / 4))), (0, rf V 0), (1, .int (nI k))] []
      refine WS.iconst (v := 0) hx dX11_goesOn_89 (by decide) ?_
      refine WS.goto (tgt := 105) hx dX11_goesOn_90 (by decide) ?_
      exact WS.iret hx he dX11_goesOn_105 (by exfalso; have hb3 := lwN_r (lw := []) (b := nI (nn (κ.1 11 k))) (a := 0) (w := 0) (k := 0) (o := 0) (y := 0) (by rw [nI_nn hbr.1]; exact hbr); have h31 := hb3.1; have h32 := hb3.2; unfold lwN at h31 h32; simp only [List.length_nil, if_true] at h31 h32; (try simp only [l_int, tL_0, tL_1, tL_2, tL_4, tL_5, tL_6, tL_7, tL_9, tL_10, tL_12, tL_15, tL_30, tL_40, tL_60, tL_99, tL_255, tL_1023, tL_m1, lc_lt, lc_gt, lc_ge, lc_le, lc_eq, l6_le, l6_lt, l6_eq, tI_m133, tI_m226, i_le, i_lt, i_eq, tI_0, tI_1, tI_2, tI_3, tI_4, tI_5, tI_9] at c15); (try simp only [l_int, tL_0, tL_1, tL_2, tL_4, tL_5, tL_6, tL_7, tL_9, tL_10, tL_12, tL_15, tL_30, tL_40, tL_60, tL_99, tL_255, tL_1023, tL_m1, lc_lt, lc_gt, lc_ge, lc_le, lc_eq, l6_le, l6_lt, l6_eq, tI_m133, tI_m226, i_le, i_lt, i_eq, tI_0, tI_1, tI_2, tI_3, tI_4, tI_5, tI_9] at c86); (try simp only [l_int, tL_0, tL_1, tL_2, tL_4, tL_5, tL_6, tL_7, tL_9, tL_10, tL_12, tL_15, tL_30, tL_40, tL_60, tL_99, tL_255, tL_1023, tL_m1, lc_lt, lc_gt, lc_ge, lc_le, lc_eq, l6_le, l6_lt, l6_eq, tI_m133, tI_m226, i_le, i_lt, i_eq, tI_0, tI_1, tI_2, tI_3, tI_4, tI_5, tI_9]); omega)
  · skip
    show WS layM V 3 X σ 18 [(2, .int (1 + ((nI (nn (κ.1 11 k))) / 4))), (0, rf V 0), (1, .int (nI k))] []
    refine WS.aload_n hx dX11_goesOn_18 rfl 1 rfl ?_
    refine WS.getR hx okX11 lf11_46 rfl rfl dX11_goesOn_19 ?_
    refine WS.iconst (v := 0) hx dX11_goesOn_22 (by decide) ?_
    refine WS.aload_n hx dX11_goesOn_23 rfl 1 rfl ?_
    refine WS.getR hx okX11 lf11_9 rfl rfl dX11_goesOn_24 ?_
    refine WS.iload_n hx dX11_goesOn_27 rfl 2 rfl ?_
    refine WS.iald hx rfl (vp_in_nI (by omega) (by decide)) dX11_goesOn_28 ?_
    refine WS.as rfl rfl (congrArg (fun z => Value.int z :: _) (show σ.1 1 (nn (nI k)) = nI (nn (κ.1 11 k)) from by rw [nn_nI (by omega), nI_nn hbr.1]; exact hbd)) ?_
    skip
    refine WS.iast hx rfl (vp_dec (by decide)) dX11_goesOn_29 ?_
    refine WS.aload_n hx dX11_goesOn_30 rfl 1 rfl ?_
    refine WS.getR hx okX11 lf11_46 rfl rfl dX11_goesOn_31 ?_
    refine WS.iconst (v := 1) hx dX11_goesOn_34 (by decide) ?_
    refine WS.aload_n hx dX11_goesOn_35 rfl 1 rfl ?_
    refine WS.getR hx okX11 lf11_49 rfl rfl dX11_goesOn_36 ?_
    refine WS.iload_n hx dX11_goesOn_39 rfl 2 rfl ?_
    refine WS.iald hx rfl (vp_in_nI (by omega) (by decide)) dX11_goesOn_40 ?_
    refine WS.as rfl rfl (congrArg (fun z => Value.int z :: _) (show (stI σ 13 0 (nI (nn (κ.1 11 k)))).1 14 (nn (nI k)) = nI (s.1 k) from by rw [nn_nI (by omega)]; exact hmk.1)) ?_
    skip
    refine WS.iast hx rfl (vp_dec (by decide)) dX11_goesOn_41 ?_
    refine WS.aload_n hx dX11_goesOn_42 rfl 1 rfl ?_
    refine WS.getR hx okX11 lf11_46 rfl rfl dX11_goesOn_43 ?_
    refine WS.iconst (v := 2) hx dX11_goesOn_46 (by decide) ?_
    refine WS.aload_n hx dX11_goesOn_47 rfl 1 rfl ?_
    refine WS.iload_n hx dX11_goesOn_48 rfl 2 rfl ?_
    refine WS.callVi (st := [.int 2, rf V 13]) [.int (nI k)] hx (c_X11_wordOf V (d + 2) (stI (stI σ 13 0 (nI (nn (κ.1 11 k)))) 13 1 (nI (s.1 k))) κ n (hM.me ((ME.st (by decide)).tr (ME.st (by decide)))) s hT k hk) okX11_wordOf lm11_219 rfl rfl rfl rfl (Nat.le_of_ble_eq_true rfl) dX11_goesOn_49 (fun v1 σ2 h3 => ?_)
    obtain ⟨rfl, rfl⟩ := h3
    show WS layM V 3 X (stI (stI σ 13 0 (nI (nn (κ.1 11 k)))) 13 1 (nI (s.1 k))) 52 [(2, .int (1 + ((nI (nn (κ.1 11 k))) / 4))), (0, rf V 0), (1, .int (nI k))] [.int (κ.1 17 (s.1 k)), .int 2, rf V 13]
    refine WS.iast hx rfl (vp_dec (by decide)) dX11_goesOn_52 ?_
    refine WS.aload_n hx dX11_goesOn_53 rfl 1 rfl ?_
    refine WS.getR hx okX11 lf11_46 rfl rfl dX11_goesOn_54 ?_
    refine WS.iconst (v := 3) hx dX11_goesOn_57 (by decide) ?_
    refine WS.iload_n hx dX11_goesOn_58 rfl 2 rfl ?_
    refine WS.iast hx rfl (vp_dec (by decide)) dX11_goesOn_59 ?_
    refine WS.aload_n hx dX11_goesOn_60 rfl 1 rfl ?_
    refine WS.getR hx okX11 lf11_46 rfl rfl dX11_goesOn_61 ?_
    refine WS.iconst (v := 4) hx dX11_goesOn_64 (by decide) ?_
    refine WS.aload_n hx dX11_goesOn_65 rfl 1 rfl ?_
    refine WS.getI hx okX11 lf11_213 rfl rfl dX11_goesOn_66 ?_
    refine WS.as rfl rfl (congrArg (fun z => Value.int z :: _) (show (stI (stI (stI (stI σ 13 0 (nI (nn (κ.1 11 k)))) 13 1 (nI (s.1 k))) 13 2 (κ.1 17 (s.1 k))) 13 3 (nI k)).1 0 26 = nI s.2.2.2 from hT.2.2.2.1)) ?_
    skip
    refine WS.iast hx rfl (vp_dec (by decide)) dX11_goesOn_69 ?_
    refine WS.aload_n hx dX11_goesOn_70 rfl 1 rfl ?_
    refine WS.getR hx okX11 lf11_46 rfl rfl dX11_goesOn_71 ?_
    refine WS.iconst (v := 5) hx dX11_goesOn_74 (by decide) ?_
    refine WS.aload_n hx dX11_goesOn_75 rfl 1 rfl ?_
    refine WS.getI hx okX11 lf11_216 rfl rfl dX11_goesOn_76 ?_
    refine WS.as rfl rfl (congrArg (fun z => Value.int z :: _) (show (stI (stI (stI (stI (stI σ 13 0 (nI (nn (κ.1 11 k)))) 13 1 (nI (s.1 k))) 13 2 (κ.1 17 (s.1 k))) 13 3 (nI k)) 13 4 (nI s.2.2.2)).1 0 25 = nI s.2.2.1 from hT.2.1)) ?_
    skip
    refine WS.iast hx rfl (vp_dec (by decide)) dX11_goesOn_79 ?_
    refine WS.aload_n hx dX11_goesOn_80 rfl 1 rfl ?_
    refine WS.callVi (st := []) [] hx (c_X11_ruled V d (stI (stI (stI (stI (stI (stI σ 13 0 (nI (nn (κ.1 11 k)))) 13 1 (nI (s.1 k))) 13 2 (κ.1 17 (s.1 k))) 13 3 (nI k)) 13 4 (nI s.2.2.2)) 13 5 (nI s.2.2.1)) cs T lw (hL.me (show ME σ (nm9 σ (nI (nn (κ.1 11 k))) (nI (s.1 k)) (κ.1 17 (s.1 k)) (nI k) (nI s.2.2.2) (nI s.2.2.1)) from (((((ME.st (by decide)).tr (ME.st (by decide))).tr (ME.st (by decide))).tr (ME.st (by decide))).tr (ME.st (by decide))).tr (ME.st (by decide))))) okX11_ruled lm11_222 rfl rfl rfl rfl (Nat.le_of_ble_eq_true rfl) dX11_goesOn_81 (fun v4 σ5 h6 => ?_)
    obtain ⟨hv81, P81, rfl⟩ := h6
    have hv9 := hv81
    show WS layM V 3 X (stR (stI (stI (stI (stI (stI (stI σ 13 0 (nI (nn (κ.1 11 k)))) 13 1 (nI (s.1 k))) 13 2 (κ.1 17 (s.1 k))) 13 3 (nI k)) 13 4 (nI s.2.2.2)) 13 5 (nI s.2.2.1)) 12 P81) 84 [(2, .int (1 + ((nI (nn (κ.1 11 k))) / 4))), (0, rf V 0), (1, .int (nI k))] [.int v4]
    refine WS.istore_n (lo' := [(2, .int v4), (0, rf V 0), (1, .int (nI k))]) hx dX11_goesOn_84 rfl (by decide) rfl ?_
    refine WS.iload_n hx dX11_goesOn_85 rfl 0 rfl ?_
    refine WS.if_ge (tgt := 93) hx dX11_goesOn_86 (by decide) (fun c86 => ?_) (fun c86 => ?_)
    · skip
      show WS layM V 3 X (stR (stI (stI (stI (stI (stI (stI σ 13 0 (nI (nn (κ.1 11 k)))) 13 1 (nI (s.1 k))) 13 2 (κ.1 17 (s.1 k))) 13 3 (nI k)) 13 4 (nI s.2.2.2)) 13 5 (nI s.2.2.1)) 12 P81) 93 [(2, .int v4), (0, rf V 0), (1, .int (nI k))] []
      refine WS.iload_n hx dX11_goesOn_93 rfl 0 rfl ?_
      refine WS.bipush (v := 9) hx dX11_goesOn_94 (by decide) ?_
      refine WS.icmp_le (tgt := 104) hx dX11_goesOn_96 (by decide) (fun c96 => ?_) (fun c96 => ?_)
      · skip
        show WS layM V 3 X (stR (stI (stI (stI (stI (stI (stI σ 13 0 (nI (nn (κ.1 11 k)))) 13 1 (nI (s.1 k))) 13 2 (κ.1 17 (s.1 k))) 13 3 (nI k)) 13 4 (nI s.2.2.2)) 13 5 (nI s.2.2.1)) 12 P81) 104 [(2, .int v4), (0, rf V 0), (1, .int (nI k))] []
        refine WS.iload_n hx dX11_goesOn_104 rfl 0 rfl ?_
        exact WS.iret hx he dX11_goesOn_105 ⟨_, rfl, by unfold lwN; rw [if_neg (show ¬ lw.length = 0 by (try simp only [l_int, tL_0, tL_1, tL_2, tL_4, tL_5, tL_6, tL_7, tL_9, tL_10, tL_12, tL_15, tL_30, tL_40, tL_60, tL_99, tL_255, tL_1023, tL_m1, lc_lt, lc_gt, lc_ge, lc_le, lc_eq, l6_le, l6_lt, l6_eq, tI_m133, tI_m226, i_le, i_lt, i_eq, tI_0, tI_1, tI_2, tI_3, tI_4, tI_5, tI_9] at c15); (try simp only [l_int, tL_0, tL_1, tL_2, tL_4, tL_5, tL_6, tL_7, tL_9, tL_10, tL_12, tL_15, tL_30, tL_40, tL_60, tL_99, tL_255, tL_1023, tL_m1, lc_lt, lc_gt, lc_ge, lc_le, lc_eq, l6_le, l6_lt, l6_eq, tI_m133, tI_m226, i_le, i_lt, i_eq, tI_0, tI_1, tI_2, tI_3, tI_4, tI_5, tI_9] at c86); (try simp only [l_int, tL_0, tL_1, tL_2, tL_4, tL_5, tL_6, tL_7, tL_9, tL_10, tL_12, tL_15, tL_30, tL_40, tL_60, tL_99, tL_255, tL_1023, tL_m1, lc_lt, lc_gt, lc_ge, lc_le, lc_eq, l6_le, l6_lt, l6_eq, tI_m133, tI_m226, i_le, i_lt, i_eq, tI_0, tI_1, tI_2, tI_3, tI_4, tI_5, tI_9] at c96); (try simp only [l_int, tL_0, tL_1, tL_2, tL_4, tL_5, tL_6, tL_7, tL_9, tL_10, tL_12, tL_15, tL_30, tL_40, tL_60, tL_99, tL_255, tL_1023, tL_m1, lc_lt, lc_gt, lc_ge, lc_le, lc_eq, l6_le, l6_lt, l6_eq, tI_m133, tI_m226, i_le, i_lt, i_eq, tI_0, tI_1, tI_2, tI_3, tI_4, tI_5, tI_9]); omega), ← evL_cg (nm9_6 (σ := σ)) lw 0 0 hL.2.2.2.2, show evL lw ((nm9 σ (nI (nn (κ.1 11 k))) (nI (s.1 k)) (κ.1 17 (s.1 k)) (nI k) (nI s.2.2.2) (nI s.2.2.1)).1 13) = v4 from hv9]; exact clp_v c86 c96, fun q a b => by rw [stR_o _ _ _ a]; rw [stI_o _ _ _ _ b, stI_o _ _ _ _ b, stI_o _ _ _ _ b, stI_o _ _ _ _ b, stI_o _ _ _ _ b, stI_o _ _ _ _ b], rfl⟩
      · skip
        show WS layM V 3 X (stR (stI (stI (stI (stI (stI (stI σ 13 0 (nI (nn (κ.1 11 k)))) 13 1 (nI (s.1 k))) 13 2 (κ.1 17 (s.1 k))) 13 3 (nI k)) 13 4 (nI s.2.2.2)) 13 5 (nI s.2.2.1)) 12 P81) 99 [(2, .int v4), (0, rf V 0), (1, .int (nI k))] []
        refine WS.bipush (v := 9) hx dX11_goesOn_99 (by decide) ?_
        refine WS.goto (tgt := 105) hx dX11_goesOn_101 (by decide) ?_
        exact WS.iret hx he dX11_goesOn_105 ⟨_, rfl, by unfold lwN; rw [if_neg (show ¬ lw.length = 0 by (try simp only [l_int, tL_0, tL_1, tL_2, tL_4, tL_5, tL_6, tL_7, tL_9, tL_10, tL_12, tL_15, tL_30, tL_40, tL_60, tL_99, tL_255, tL_1023, tL_m1, lc_lt, lc_gt, lc_ge, lc_le, lc_eq, l6_le, l6_lt, l6_eq, tI_m133, tI_m226, i_le, i_lt, i_eq, tI_0, tI_1, tI_2, tI_3, tI_4, tI_5, tI_9] at c15); (try simp only [l_int, tL_0, tL_1, tL_2, tL_4, tL_5, tL_6, tL_7, tL_9, tL_10, tL_12, tL_15, tL_30, tL_40, tL_60, tL_99, tL_255, tL_1023, tL_m1, lc_lt, lc_gt, lc_ge, lc_le, lc_eq, l6_le, l6_lt, l6_eq, tI_m133, tI_m226, i_le, i_lt, i_eq, tI_0, tI_1, tI_2, tI_3, tI_4, tI_5, tI_9] at c86); (try simp only [l_int, tL_0, tL_1, tL_2, tL_4, tL_5, tL_6, tL_7, tL_9, tL_10, tL_12, tL_15, tL_30, tL_40, tL_60, tL_99, tL_255, tL_1023, tL_m1, lc_lt, lc_gt, lc_ge, lc_le, lc_eq, l6_le, l6_lt, l6_eq, tI_m133, tI_m226, i_le, i_lt, i_eq, tI_0, tI_1, tI_2, tI_3, tI_4, tI_5, tI_9] at c96); (try simp only [l_int, tL_0, tL_1, tL_2, tL_4, tL_5, tL_6, tL_7, tL_9, tL_10, tL_12, tL_15, tL_30, tL_40, tL_60, tL_99, tL_255, tL_1023, tL_m1, lc_lt, lc_gt, lc_ge, lc_le, lc_eq, l6_le, l6_lt, l6_eq, tI_m133, tI_m226, i_le, i_lt, i_eq, tI_0, tI_1, tI_2, tI_3, tI_4, tI_5, tI_9]); omega), ← evL_cg (nm9_6 (σ := σ)) lw 0 0 hL.2.2.2.2, show evL lw ((nm9 σ (nI (nn (κ.1 11 k))) (nI (s.1 k)) (κ.1 17 (s.1 k)) (nI k) (nI s.2.2.2) (nI s.2.2.1)).1 13) = v4 from hv9]; exact clp_9 c96, fun q a b => by rw [stR_o _ _ _ a]; rw [stI_o _ _ _ _ b, stI_o _ _ _ _ b, stI_o _ _ _ _ b, stI_o _ _ _ _ b, stI_o _ _ _ _ b, stI_o _ _ _ _ b], rfl⟩
    · skip
      show WS layM V 3 X (stR (stI (stI (stI (stI (stI (stI σ 13 0 (nI (nn (κ.1 11 k)))) 13 1 (nI (s.1 k))) 13 2 (κ.1 17 (s.1 k))) 13 3 (nI k)) 13 4 (nI s.2.2.2)) 13 5 (nI s.2.2.1)) 12 P81) 89 [(2, .int v4), (0, rf V 0), (1, .int (nI k))] []
      refine WS.iconst (v := 0) hx dX11_goesOn_89 (by decide) ?_
      refine WS.goto (tgt := 105) hx dX11_goesOn_90 (by decide) ?_
      exact WS.iret hx he dX11_goesOn_105 ⟨_, rfl, by unfold lwN; rw [if_neg (show ¬ lw.length = 0 by (try simp only [l_int, tL_0, tL_1, tL_2, tL_4, tL_5, tL_6, tL_7, tL_9, tL_10, tL_12, tL_15, tL_30, tL_40, tL_60, tL_99, tL_255, tL_1023, tL_m1, lc_lt, lc_gt, lc_ge, lc_le, lc_eq, l6_le, l6_lt, l6_eq, tI_m133, tI_m226, i_le, i_lt, i_eq, tI_0, tI_1, tI_2, tI_3, tI_4, tI_5, tI_9] at c15); (try simp only [l_int, tL_0, tL_1, tL_2, tL_4, tL_5, tL_6, tL_7, tL_9, tL_10, tL_12, tL_15, tL_30, tL_40, tL_60, tL_99, tL_255, tL_1023, tL_m1, lc_lt, lc_gt, lc_ge, lc_le, lc_eq, l6_le, l6_lt, l6_eq, tI_m133, tI_m226, i_le, i_lt, i_eq, tI_0, tI_1, tI_2, tI_3, tI_4, tI_5, tI_9] at c86); (try simp only [l_int, tL_0, tL_1, tL_2, tL_4, tL_5, tL_6, tL_7, tL_9, tL_10, tL_12, tL_15, tL_30, tL_40, tL_60, tL_99, tL_255, tL_1023, tL_m1, lc_lt, lc_gt, lc_ge, lc_le, lc_eq, l6_le, l6_lt, l6_eq, tI_m133, tI_m226, i_le, i_lt, i_eq, tI_0, tI_1, tI_2, tI_3, tI_4, tI_5, tI_9]); omega), ← evL_cg (nm9_6 (σ := σ)) lw 0 0 hL.2.2.2.2, show evL lw ((nm9 σ (nI (nn (κ.1 11 k))) (nI (s.1 k)) (κ.1 17 (s.1 k)) (nI k) (nI s.2.2.2) (nI s.2.2.1)).1 13) = v4 from hv9]; exact clp_t c86, fun q a b => by rw [stR_o _ _ _ a]; rw [stI_o _ _ _ _ b, stI_o _ _ _ _ b, stI_o _ _ _ _ b, stI_o _ _ _ _ b, stI_o _ _ _ _ b, stI_o _ _ _ _ b], rfl⟩

/-- all but the blocks' numbers stands -/
def FB (σ τ : Sg) : Prop := (∀ q, q ≠ 0 → q ≠ 1 → τ.1 q = σ.1 q) ∧ (∀ j, j ≠ 6 → τ.1 0 j = σ.1 0 j) ∧ τ.2 = σ.2
theorem FB.rf {σ : Sg} : FB σ σ := ⟨fun _ _ _ => rfl, fun _ _ => rfl, rfl⟩
theorem FB.ad {σ τ : Sg} (h : FB σ τ) {n : Nat} {b a l : Int32} : FB σ (aM τ n b a l) := by
  refine ⟨fun q h0 h1 => ?_, fun j hj => ?_, h.2.2⟩
  · unfold aM
    rw [stI_o _ _ _ _ h0, stI_o _ _ _ _ h1, stI_o _ _ _ _ h1, stI_o _ _ _ _ h1]
    exact h.1 q h0 h1
  · unfold aM
    rw [stI_k _ _ _ _ hj, stI_o _ _ _ _ (by decide), stI_o _ _ _ _ (by decide), stI_o _ _ _ _ (by decide)]
    exact h.2.1 j hj
/-- a row of bytes in both -/
def RB9 (κ μ : Sg) (s z : Nat) : Prop := z ≤ 60 ∧ μ.1 24 s = nI z ∧ ∀ p, p < 60 → μ.2.1 25 (60 * s + p) = κ.2.1 (58 + s) p ∧ -128 ≤ (κ.2.1 (58 + s) p).toInt ∧ (κ.2.1 (58 + s) p).toInt ≤ 127
theorem RB9.ad {κ μ : Sg} {s z n m : Nat} {b a l b' a' l' : Int32} (h : RB9 κ μ s z) : RB9 (addQ κ n b a l) (aM μ m b' a' l') s z := h
theorem l2i_r {x : Int64} (h1 : -128 ≤ x.toInt) (h2 : x.toInt ≤ 127) : (Int64.toInt32 x).toInt = x.toInt := by
  rw [Int64.toInt_toInt32]
  rw [Int.bmod_eq_of_le (by omega) (by omega)]
theorem iso_a {v : Int32} : isSoC 0 v ↔ 0 ≤ v.toInt ∧ v.toInt ≤ 9 := iso_k (m := 9) rfl (by decide) (by decide) (by decide)
theorem iso_b {v : Int32} : isSoC 1 v ↔ 0 ≤ v.toInt ∧ v.toInt ≤ 15 := iso_k (m := 15) rfl (by decide) (by decide) (by decide)
theorem iso_c {v : Int32} : isSoC 2 v ↔ 0 ≤ v.toInt ∧ v.toInt ≤ 9 := iso_k (m := 9) rfl (by decide) (by decide) (by decide)
theorem blF_t {κ : Sg} {s z u c n : Nat} {i : Int32} (h : camC κ n s z (i + nI (3 * c))) : blF s z i (u + 1) c n κ = blF s z i u (c + 1) (n + 1) (addQ κ n (eJ κ s (nn (i + nI (3 * c)))) (eJ κ s (nn (i + nI (3 * c)) + 1)) (eJ κ s (nn (i + nI (3 * c)) + 2))) := if_pos h
theorem blF_f {κ : Sg} {s z u c n : Nat} {i : Int32} (h : ¬ camC κ n s z (i + nI (3 * c))) : blF s z i (u + 1) c n κ = (c, κ) := if_neg h
set_option maxHeartbeats 1000000 in
theorem lz_X11_blocks (V : Vt) (d : Nat) (τ : Sg) (c : Nat) (f i x : Int32) (P : Int32 → Sg → Prop) (X : Xt) (hx : Ok V RX11 cX11_blocks 7 (d + 3) X) (he : En layM V (some .int) (Ri P) X) (hP : P (nI c) τ) : WS layM V 7 X τ 69 [(5, .int 0), (4, .int (nI c)), (0, rf V 0), (1, .int f), (2, .int i), (3, .int x)] [] := by
  refine WS.iload hx dX11_blocks_69 0 rfl ?_
  refine WS.if_eq (tgt := 212) hx dX11_blocks_71 (by decide) (fun _ => ?_) (fun h => absurd (by decide) h)
  refine WS.iload hx dX11_blocks_212 1 rfl ?_
  exact WS.iret hx he dX11_blocks_214 ⟨_, rfl, hP⟩
theorem fin_bl {κ τ σ : Sg} {c n0 : Nat} {F : Nat × Sg} {P : Int32 → Sg → Prop} (hr : (c, κ) = F) (hP : ∀ τ, MR F.2 τ (n0 + F.1) → FB σ τ → P (nI F.1) τ) (hM : MR κ τ (n0 + c)) (hE : FB σ τ) : P (nI c) τ := by
  subst hr
  exact hP τ hM hE
theorem bm_ov {x : Int} (h1 : 2147483648 ≤ x) (h2 : x ≤ 4294967295) : x.bmod (2 ^ 32) = x - 4294967296 := by
  rw [Int.bmod_def]
  have : x % ((2 ^ 32 : Nat) : Int) = x := Int.emod_eq_of_lt (by omega) (by omega)
  rw [this, if_neg (by omega)]
  omega
set_option maxHeartbeats 1000000 in
theorem lp_X11_blocks (V : Vt) (d : Nat) (σ : Sg) (s z : Nat) (hs6 : s < 6) (f i x : Int32) (hf : f = nI s) (hi : 0 ≤ i.toInt) (Xn n0 : Nat) (hX : Xn ≤ 10) (hxX : x = nI Xn) (F : Nat × Sg) (P : Int32 → Sg → Prop) (X : Xt) (hx : Ok V RX11 cX11_blocks 7 (d + 3) X) (he : En layM V (some .int) (Ri P) X) (hP : ∀ τ, MR F.2 τ (n0 + F.1) → FB σ τ → P (nI F.1) τ) : ∀ (u c : Nat) (κ τ : Sg), c + u = Xn → MR κ τ (n0 + c) → FB σ τ → RB9 κ τ s z → blF s z i u c (n0 + c) κ = F → WS layM V 7 X τ 69 [(5, .int 1), (4, .int (nI c)), (0, rf V 0), (1, .int f), (2, .int i), (3, .int x)] [] := by
  have hXI : (nI Xn).toInt = (Xn : Int) := nI_c (by omega)
  have hin := nn_int hi
  intro u
  induction u with
  | zero =>
    intro c κ τ hcu hM hE hR hr
    have hcI : (nI c).toInt = (c : Int) := nI_c (by omega)
    refine WS.iload hx dX11_blocks_69 0 rfl ?_
    refine WS.if_eq (tgt := 212) hx dX11_blocks_71 (by decide) (fun h => absurd h (by decide)) (fun _ => ?_)
    refine WS.iload hx dX11_blocks_74 1 rfl ?_
    refine WS.iload_n hx dX11_blocks_76 rfl 5 rfl ?_
    refine WS.as rfl rfl (congrArg (fun z => Value.int z :: _) (show x = nI Xn from hxX)) ?_
    skip
    refine WS.icmp_ge (tgt := 212) hx dX11_blocks_77 (by decide) (fun c77 => ?_) (fun c77 => by exfalso; (try simp only [l_int, tL_0, tL_1, tL_2, tL_4, tL_5, tL_6, tL_7, tL_9, tL_10, tL_12, tL_15, tL_30, tL_40, tL_60, tL_99, tL_255, tL_1023, tL_m1, lc_lt, lc_gt, lc_ge, lc_le, lc_eq, l6_le, l6_lt, l6_eq, tI_m133, tI_m226, i_le, i_lt, i_eq, tI_m12, tI_m1, tI_0, tI_1, tI_2, tI_3, tI_10, tI_50, tI_60] at c77); (try simp only [l_int, tL_0, tL_1, tL_2, tL_4, tL_5, tL_6, tL_7, tL_9, tL_10, tL_12, tL_15, tL_30, tL_40, tL_60, tL_99, tL_255, tL_1023, tL_m1, lc_lt, lc_gt, lc_ge, lc_le, lc_eq, l6_le, l6_lt, l6_eq, tI_m133, tI_m226, i_le, i_lt, i_eq, tI_m12, tI_m1, tI_0, tI_1, tI_2, tI_3, tI_10, tI_50, tI_60]); omega)
    refine WS.iload hx dX11_blocks_212 1 rfl ?_
    exact WS.iret hx he dX11_blocks_214 ⟨_, rfl, fin_bl hr hP hM hE⟩
  | succ u ih =>
    intro c κ τ hcu hM hE hR hr
    have hn := hM.n
    have hcI : (nI c).toInt = (c : Int) := nI_c (by omega)
    have h3I : (nI (3 * c)).toInt = 3 * (c : Int) := by rw [nI_c (by omega)]; omega
    have hnI : (nI (n0 + c)).toInt = (n0 : Int) + c := by rw [nI_c (by omega)]; omega
    have hz60 := hR.1
    have hzI : (nI z).toInt = (z : Int) := nI_c (by omega)
    have e88 : (nI z - 3).toInt = (z : Int) - 3 := by rw [i_sub (by rw [hzI, tI_3]; omega) (by rw [hzI, tI_3]; omega), hzI, tI_3]
    have e93 : (nI z - 3 - nI (3 * c)).toInt = (z : Int) - 3 - 3 * c := by rw [i_sub (by rw [e88, h3I]; omega) (by rw [e88, h3I]; omega), e88, h3I]
    refine WS.iload hx dX11_blocks_69 0 rfl ?_
    refine WS.if_eq (tgt := 212) hx dX11_blocks_71 (by decide) (fun h => absurd h (by decide)) (fun _ => ?_)
    refine WS.iload hx dX11_blocks_74 1 rfl ?_
    refine WS.iload_n hx dX11_blocks_76 rfl 5 rfl ?_
    refine WS.as rfl rfl (congrArg (fun z => Value.int z :: _) (show x = nI Xn from hxX)) ?_
    skip
    refine WS.icmp_ge (tgt := 212) hx dX11_blocks_77 (by decide) (fun c77 => by exfalso; (try simp only [l_int, tL_0, tL_1, tL_2, tL_4, tL_5, tL_6, tL_7, tL_9, tL_10, tL_12, tL_15, tL_30, tL_40, tL_60, tL_99, tL_255, tL_1023, tL_m1, lc_lt, lc_gt, lc_ge, lc_le, lc_eq, l6_le, l6_lt, l6_eq, tI_m133, tI_m226, i_le, i_lt, i_eq, tI_m12, tI_m1, tI_0, tI_1, tI_2, tI_3, tI_10, tI_50, tI_60] at c77); (try simp only [l_int, tL_0, tL_1, tL_2, tL_4, tL_5, tL_6, tL_7, tL_9, tL_10, tL_12, tL_15, tL_30, tL_40, tL_60, tL_99, tL_255, tL_1023, tL_m1, lc_lt, lc_gt, lc_ge, lc_le, lc_eq, l6_le, l6_lt, l6_eq, tI_m133, tI_m226, i_le, i_lt, i_eq, tI_m12, tI_m1, tI_0, tI_1, tI_2, tI_3, tI_10, tI_50, tI_60]); omega) (fun c77 => ?_)
    refine WS.iload_n hx dX11_blocks_80 rfl 4 rfl ?_
    refine WS.aload_n hx dX11_blocks_81 rfl 2 rfl ?_
    refine WS.getR hx okX11 lf11_80 rfl rfl dX11_blocks_82 ?_
    refine WS.iload_n hx dX11_blocks_85 rfl 3 rfl ?_
    refine WS.iald hx rfl (vp_in_iff.mpr (by rw [hf, nI_c (by omega)]; omega)) dX11_blocks_86 ?_
    refine WS.as rfl rfl (congrArg (fun z => Value.int z :: _) (show τ.1 24 (nn f) = nI z from by rw [show nn f = s by rw [hf, nn_nI (by omega)]]; exact hR.2.1)) ?_
    skip
    refine WS.iconst (v := 3) hx dX11_blocks_87 (by decide) ?_
    refine WS.isub hx dX11_blocks_88 ?_
    refine WS.iconst (v := 3) hx dX11_blocks_89 (by decide) ?_
    refine WS.iload hx dX11_blocks_90 1 rfl ?_
    refine WS.imul hx dX11_blocks_92 ?_
    refine WS.as rfl rfl (congrArg (fun z => Value.int z :: _) (show 3 * (nI c) = nI (3 * c) from pk_mul 3 c)) ?_
    skip
    refine WS.isub hx dX11_blocks_93 ?_
    refine WS.icmp_gt (tgt := 110) hx dX11_blocks_94 (by decide) (fun c94 => ?_) (fun c94 => ?_)
    · skip
      show WS layM V 7 X τ 110 [(5, .int 1), (4, .int (nI c)), (0, rf V 0), (1, .int f), (2, .int i), (3, .int x)] []
      have hno : ¬ camC κ (n0 + c) s z (i + nI (3 * c)) := fun h => by
        obtain ⟨p1, p2, p3, p4⟩ := h.2.1
        by_cases hbig : i.toInt ≤ 1000
        · rw [i_add (by rw [h3I]; omega) (by rw [h3I]; omega), h3I, tI_3] at p4; (try simp only [l_int, tL_0, tL_1, tL_2, tL_4, tL_5, tL_6, tL_7, tL_9, tL_10, tL_12, tL_15, tL_30, tL_40, tL_60, tL_99, tL_255, tL_1023, tL_m1, lc_lt, lc_gt, lc_ge, lc_le, lc_eq, l6_le, l6_lt, l6_eq, tI_m133, tI_m226, i_le, i_lt, i_eq, tI_m12, tI_m1, tI_0, tI_1, tI_2, tI_3, tI_10, tI_50, tI_60] at c77); (try simp only [l_int, tL_0, tL_1, tL_2, tL_4, tL_5, tL_6, tL_7, tL_9, tL_10, tL_12, tL_15, tL_30, tL_40, tL_60, tL_99, tL_255, tL_1023, tL_m1, lc_lt, lc_gt, lc_ge, lc_le, lc_eq, l6_le, l6_lt, l6_eq, tI_m133, tI_m226, i_le, i_lt, i_eq, tI_m12, tI_m1, tI_0, tI_1, tI_2, tI_3, tI_10, tI_50, tI_60] at c94); (try simp only [l_int, tL_0, tL_1, tL_2, tL_4, tL_5, tL_6, tL_7, tL_9, tL_10, tL_12, tL_15, tL_30, tL_40, tL_60, tL_99, tL_255, tL_1023, tL_m1, lc_lt, lc_gt, lc_ge, lc_le, lc_eq, l6_le, l6_lt, l6_eq, tI_m133, tI_m226, i_le, i_lt, i_eq, tI_m12, tI_m1, tI_0, tI_1, tI_2, tI_3, tI_10, tI_50, tI_60]); omega
        · have h8 := i_rng i
          by_cases hov : i.toInt + 3 * c ≤ 2147483647
          · rw [i_add (by rw [h3I]; omega) (by rw [h3I]; omega), h3I, tI_3] at p4; omega
          · have h7 : (i + nI (3 * c)).toInt = i.toInt + 3 * c - 4294967296 := by
              rw [Int32.toInt_add, h3I]
              exact bm_ov (by omega) (by omega)
            omega
      refine WS.iconst (v := 0) hx dX11_blocks_110 (by decide) ?_
      refine WS.istore (lo' := [(5, .int 0), (4, .int (nI c)), (0, rf V 0), (1, .int f), (2, .int i), (3, .int x)]) hx dX11_blocks_111 (by decide) rfl ?_
      refine WS.bipush (v := 60) hx dX11_blocks_113 (by decide) ?_
      refine WS.iload_n hx dX11_blocks_115 rfl 3 rfl ?_
      refine WS.as rfl rfl (congrArg (fun z => Value.int z :: _) (show f = nI s from hf)) ?_
      skip
      refine WS.imul hx dX11_blocks_116 ?_
      refine WS.as rfl rfl (congrArg (fun z => Value.int z :: _) (show 60 * (nI s) = nI (60 * s) from pk_mul 60 s)) ?_
      skip
      refine WS.iload_n hx dX11_blocks_117 rfl 4 rfl ?_
      refine WS.iadd hx dX11_blocks_118 ?_
      refine WS.as rfl rfl (congrArg (fun z => Value.int z :: _) (show (nI (60 * s)) + i = nI (60 * s + nn i) from by rw [← nI_add, nI_nn hi])) ?_
      skip
      refine WS.iconst (v := 3) hx dX11_blocks_119 (by decide) ?_
      refine WS.iload hx dX11_blocks_120 1 rfl ?_
      refine WS.imul hx dX11_blocks_122 ?_
      refine WS.as rfl rfl (congrArg (fun z => Value.int z :: _) (show 3 * (nI c) = nI (3 * c) from pk_mul 3 c)) ?_
      skip
      refine WS.iadd hx dX11_blocks_123 ?_
      refine WS.as rfl rfl (congrArg (fun z => Value.int z :: _) (show (nI (60 * s + nn i)) + (nI (3 * c)) = nI (60 * s + nn i + 3 * c) from nI_add _ _)) ?_
      skip
      refine WS.istore (lo' := [(6, .int (nI (60 * s + nn i + 3 * c))), (5, .int 0), (4, .int (nI c)), (0, rf V 0), (1, .int f), (2, .int i), (3, .int x)]) hx dX11_blocks_124 (by decide) rfl ?_
      refine WS.iload hx dX11_blocks_126 1 rfl ?_
      refine WS.if_eq (tgt := 166) hx dX11_blocks_128 (by decide) (fun _ => ?_) (fun h => absurd (by decide) h)
      refine WS.iconst (v := 0) hx dX11_blocks_166 (by decide) ?_
      refine WS.istore (lo' := [(5, .int 0), (6, .int (nI (60 * s + nn i + 3 * c))), (4, .int (nI c)), (0, rf V 0), (1, .int f), (2, .int i), (3, .int x)]) hx dX11_blocks_167 (by decide) rfl ?_
      refine WS.iload hx dX11_blocks_169 0 rfl ?_
      refine WS.if_eq (tgt := 209) hx dX11_blocks_171 (by decide) (fun _ => ?_) (fun h => absurd (by decide) h)
      refine WS.goto (tgt := 69) hx dX11_blocks_209 (by decide) ?_
      rw [blF_f (fun h => hno h)] at hr
      exact WS.los [0, 2, 3, 4, 5, 6] rfl (lz_X11_blocks V d _ c f i x P X hx he (fin_bl hr hP hM hE))
    · skip
      show WS layM V 7 X τ 97 [(5, .int 1), (4, .int (nI c)), (0, rf V 0), (1, .int f), (2, .int i), (3, .int x)] []
      have hi60 : i.toInt + 3 * c + 3 ≤ z := by (try simp only [l_int, tL_0, tL_1, tL_2, tL_4, tL_5, tL_6, tL_7, tL_9, tL_10, tL_12, tL_15, tL_30, tL_40, tL_60, tL_99, tL_255, tL_1023, tL_m1, lc_lt, lc_gt, lc_ge, lc_le, lc_eq, l6_le, l6_lt, l6_eq, tI_m133, tI_m226, i_le, i_lt, i_eq, tI_m12, tI_m1, tI_0, tI_1, tI_2, tI_3, tI_10, tI_50, tI_60] at c77); (try simp only [l_int, tL_0, tL_1, tL_2, tL_4, tL_5, tL_6, tL_7, tL_9, tL_10, tL_12, tL_15, tL_30, tL_40, tL_60, tL_99, tL_255, tL_1023, tL_m1, lc_lt, lc_gt, lc_ge, lc_le, lc_eq, l6_le, l6_lt, l6_eq, tI_m133, tI_m226, i_le, i_lt, i_eq, tI_m12, tI_m1, tI_0, tI_1, tI_2, tI_3, tI_10, tI_50, tI_60] at c94); (try simp only [l_int, tL_0, tL_1, tL_2, tL_4, tL_5, tL_6, tL_7, tL_9, tL_10, tL_12, tL_15, tL_30, tL_40, tL_60, tL_99, tL_255, tL_1023, tL_m1, lc_lt, lc_gt, lc_ge, lc_le, lc_eq, l6_le, l6_lt, l6_eq, tI_m133, tI_m226, i_le, i_lt, i_eq, tI_m12, tI_m1, tI_0, tI_1, tI_2, tI_3, tI_10, tI_50, tI_60]); omega
      have hpp : nn (i + nI (3 * c)) = (nn i + 3 * c) := by
        have h9 : i + nI (3 * c) = nI (nn i + 3 * c) := by rw [← nI_add, nI_nn hi]
        rw [h9, nn_nI (by omega)]
      have hpl : plc z (i + nI (3 * c)) 3 := by
        unfold plc
        rw [i_add (by rw [h3I]; omega) (by rw [h3I]; omega), h3I, tI_3]
        omega
      have q0 := (hR.2.2 (nn i + 3 * c) (by omega)).2
      have q1 := (hR.2.2 ((nn i + 3 * c) + 1) (by omega)).2
      have q2 := (hR.2.2 ((nn i + 3 * c) + 2) (by omega)).2
      have hmc : (isSoC 0 (eJ κ s (nn (i + nI (3 * c)))) ∧ isSoC 1 (eJ κ s (nn (i + nI (3 * c)) + 1)) ∧ isSoC 2 (eJ κ s (nn (i + nI (3 * c)) + 2))) ↔ ((0 ≤ (κ.2.1 (58 + s) (nn i + 3 * c)).toInt ∧ (κ.2.1 (58 + s) (nn i + 3 * c)).toInt ≤ 9) ∧ (0 ≤ (κ.2.1 (58 + s) ((nn i + 3 * c) + 1)).toInt ∧ (κ.2.1 (58 + s) ((nn i + 3 * c) + 1)).toInt ≤ 15) ∧ (0 ≤ (κ.2.1 (58 + s) ((nn i + 3 * c) + 2)).toInt ∧ (κ.2.1 (58 + s) ((nn i + 3 * c) + 2)).toInt ≤ 9)) := by
        rw [hpp, iso_a, iso_b, iso_c]
        unfold eJ
        rw [l2i_r q0.1 q0.2, l2i_r q1.1 q1.2, l2i_r q2.1 q2.2]
      refine WS.aload_n hx dX11_blocks_97 rfl 2 rfl ?_
      refine WS.getI hx okX11 lf11_97 rfl rfl dX11_blocks_98 ?_
      refine WS.as rfl rfl (congrArg (fun z => Value.int z :: _) (show τ.1 0 6 = nI (n0 + c) from hM.s)) ?_
      skip
      refine WS.bipush (v := 10) hx dX11_blocks_101 (by decide) ?_
      refine WS.icmp_ge (tgt := 110) hx dX11_blocks_103 (by decide) (fun c103 => ?_) (fun c103 => ?_)
      · skip
        show WS layM V 7 X τ 110 [(5, .int 1), (4, .int (nI c)), (0, rf V 0), (1, .int f), (2, .int i), (3, .int x)] []
        refine WS.iconst (v := 0) hx dX11_blocks_110 (by decide) ?_
        refine WS.istore (lo' := [(5, .int 0), (4, .int (nI c)), (0, rf V 0), (1, .int f), (2, .int i), (3, .int x)]) hx dX11_blocks_111 (by decide) rfl ?_
        refine WS.bipush (v := 60) hx dX11_blocks_113 (by decide) ?_
        refine WS.iload_n hx dX11_blocks_115 rfl 3 rfl ?_
        refine WS.as rfl rfl (congrArg (fun z => Value.int z :: _) (show f = nI s from hf)) ?_
        skip
        refine WS.imul hx dX11_blocks_116 ?_
        refine WS.as rfl rfl (congrArg (fun z => Value.int z :: _) (show 60 * (nI s) = nI (60 * s) from pk_mul 60 s)) ?_
        skip
        refine WS.iload_n hx dX11_blocks_117 rfl 4 rfl ?_
        refine WS.iadd hx dX11_blocks_118 ?_
        refine WS.as rfl rfl (congrArg (fun z => Value.int z :: _) (show (nI (60 * s)) + i = nI (60 * s + nn i) from by rw [← nI_add, nI_nn hi])) ?_
        skip
        refine WS.iconst (v := 3) hx dX11_blocks_119 (by decide) ?_
        refine WS.iload hx dX11_blocks_120 1 rfl ?_
        refine WS.imul hx dX11_blocks_122 ?_
        refine WS.as rfl rfl (congrArg (fun z => Value.int z :: _) (show 3 * (nI c) = nI (3 * c) from pk_mul 3 c)) ?_
        skip
        refine WS.iadd hx dX11_blocks_123 ?_
        refine WS.as rfl rfl (congrArg (fun z => Value.int z :: _) (show (nI (60 * s + nn i)) + (nI (3 * c)) = nI (60 * s + nn i + 3 * c) from nI_add _ _)) ?_
        skip
        refine WS.istore (lo' := [(6, .int (nI (60 * s + nn i + 3 * c))), (5, .int 0), (4, .int (nI c)), (0, rf V 0), (1, .int f), (2, .int i), (3, .int x)]) hx dX11_blocks_124 (by decide) rfl ?_
        refine WS.iload hx dX11_blocks_126 1 rfl ?_
        refine WS.if_eq (tgt := 166) hx dX11_blocks_128 (by decide) (fun _ => ?_) (fun h => absurd (by decide) h)
        refine WS.iconst (v := 0) hx dX11_blocks_166 (by decide) ?_
        refine WS.istore (lo' := [(5, .int 0), (6, .int (nI (60 * s + nn i + 3 * c))), (4, .int (nI c)), (0, rf V 0), (1, .int f), (2, .int i), (3, .int x)]) hx dX11_blocks_167 (by decide) rfl ?_
        refine WS.iload hx dX11_blocks_169 0 rfl ?_
        refine WS.if_eq (tgt := 209) hx dX11_blocks_171 (by decide) (fun _ => ?_) (fun h => absurd (by decide) h)
        refine WS.goto (tgt := 69) hx dX11_blocks_209 (by decide) ?_
        rw [blF_f (fun h => by have := h.1; (try simp only [l_int, tL_0, tL_1, tL_2, tL_4, tL_5, tL_6, tL_7, tL_9, tL_10, tL_12, tL_15, tL_30, tL_40, tL_60, tL_99, tL_255, tL_1023, tL_m1, lc_lt, lc_gt, lc_ge, lc_le, lc_eq, l6_le, l6_lt, l6_eq, tI_m133, tI_m226, i_le, i_lt, i_eq, tI_m12, tI_m1, tI_0, tI_1, tI_2, tI_3, tI_10, tI_50, tI_60] at c77); (try simp only [l_int, tL_0, tL_1, tL_2, tL_4, tL_5, tL_6, tL_7, tL_9, tL_10, tL_12, tL_15, tL_30, tL_40, tL_60, tL_99, tL_255, tL_1023, tL_m1, lc_lt, lc_gt, lc_ge, lc_le, lc_eq, l6_le, l6_lt, l6_eq, tI_m133, tI_m226, i_le, i_lt, i_eq, tI_m12, tI_m1, tI_0, tI_1, tI_2, tI_3, tI_10, tI_50, tI_60] at c94); (try simp only [l_int, tL_0, tL_1, tL_2, tL_4, tL_5, tL_6, tL_7, tL_9, tL_10, tL_12, tL_15, tL_30, tL_40, tL_60, tL_99, tL_255, tL_1023, tL_m1, lc_lt, lc_gt, lc_ge, lc_le, lc_eq, l6_le, l6_lt, l6_eq, tI_m133, tI_m226, i_le, i_lt, i_eq, tI_m12, tI_m1, tI_0, tI_1, tI_2, tI_3, tI_10, tI_50, tI_60] at c103); (try simp only [l_int, tL_0, tL_1, tL_2, tL_4, tL_5, tL_6, tL_7, tL_9, tL_10, tL_12, tL_15, tL_30, tL_40, tL_60, tL_99, tL_255, tL_1023, tL_m1, lc_lt, lc_gt, lc_ge, lc_le, lc_eq, l6_le, l6_lt, l6_eq, tI_m133, tI_m226, i_le, i_lt, i_eq, tI_m12, tI_m1, tI_0, tI_1, tI_2, tI_3, tI_10, tI_50, tI_60]); omega)] at hr
        exact WS.los [0, 2, 3, 4, 5, 6] rfl (lz_X11_blocks V d _ c f i x P X hx he (fin_bl hr hP hM hE))
      · skip
        show WS layM V 7 X τ 106 [(5, .int 1), (4, .int (nI c)), (0, rf V 0), (1, .int f), (2, .int i), (3, .int x)] []
        refine WS.iconst (v := 1) hx dX11_blocks_106 (by decide) ?_
        refine WS.goto (tgt := 111) hx dX11_blocks_107 (by decide) ?_
        refine WS.istore (lo' := [(5, .int 1), (4, .int (nI c)), (0, rf V 0), (1, .int f), (2, .int i), (3, .int x)]) hx dX11_blocks_111 (by decide) rfl ?_
        refine WS.bipush (v := 60) hx dX11_blocks_113 (by decide) ?_
        refine WS.iload_n hx dX11_blocks_115 rfl 3 rfl ?_
        refine WS.as rfl rfl (congrArg (fun z => Value.int z :: _) (show f = nI s from hf)) ?_
        skip
        refine WS.imul hx dX11_blocks_116 ?_
        refine WS.as rfl rfl (congrArg (fun z => Value.int z :: _) (show 60 * (nI s) = nI (60 * s) from pk_mul 60 s)) ?_
        skip
        refine WS.iload_n hx dX11_blocks_117 rfl 4 rfl ?_
        refine WS.iadd hx dX11_blocks_118 ?_
        refine WS.as rfl rfl (congrArg (fun z => Value.int z :: _) (show (nI (60 * s)) + i = nI (60 * s + nn i) from by rw [← nI_add, nI_nn hi])) ?_
        skip
        refine WS.iconst (v := 3) hx dX11_blocks_119 (by decide) ?_
        refine WS.iload hx dX11_blocks_120 1 rfl ?_
        refine WS.imul hx dX11_blocks_122 ?_
        refine WS.as rfl rfl (congrArg (fun z => Value.int z :: _) (show 3 * (nI c) = nI (3 * c) from pk_mul 3 c)) ?_
        skip
        refine WS.iadd hx dX11_blocks_123 ?_
        refine WS.as rfl rfl (congrArg (fun z => Value.int z :: _) (show (nI (60 * s + nn i)) + (nI (3 * c)) = nI (60 * s + nn i + 3 * c) from nI_add _ _)) ?_
        skip
        refine WS.istore (lo' := [(6, .int (nI (60 * s + nn i + 3 * c))), (5, .int 1), (4, .int (nI c)), (0, rf V 0), (1, .int f), (2, .int i), (3, .int x)]) hx dX11_blocks_124 (by decide) rfl ?_
        refine WS.iload hx dX11_blocks_126 1 rfl ?_
        refine WS.if_eq (tgt := 166) hx dX11_blocks_128 (by decide) (fun h => absurd h (by decide)) (fun _ => ?_)
        refine WS.aload_n hx dX11_blocks_131 rfl 3 rfl ?_
        refine WS.getR hx okX11 lf11_83 rfl rfl dX11_blocks_132 ?_
        refine WS.iload hx dX11_blocks_135 0 rfl ?_
        refine WS.lald hx rfl (vp_in_nI (by omega) (by decide)) dX11_blocks_137 ?_
        refine WS.as rfl rfl (congrArg (fun z => Value.long z :: _) (show τ.2.1 25 (nn (nI (60 * s + nn i + 3 * c))) = κ.2.1 (58 + s) ((nn i + 3 * c)) from by rw [nn_nI (show 60 * s + nn i + 3 * c < 2 ^ 31 by omega), show 60 * s + nn i + 3 * c = 60 * s + ((nn i + 3 * c)) by omega]; exact (hR.2.2 _ (by omega)).1)) ?_
        skip
        refine WS.aload_n hx dX11_blocks_138 rfl 3 rfl ?_
        refine WS.getR hx okX11 lf11_83 rfl rfl dX11_blocks_139 ?_
        refine WS.iload hx dX11_blocks_142 0 rfl ?_
        refine WS.iconst (v := 1) hx dX11_blocks_144 (by decide) ?_
        refine WS.iadd hx dX11_blocks_145 ?_
        refine WS.as rfl rfl (congrArg (fun z => Value.int z :: _) (show (nI (60 * s + nn i + 3 * c)) + 1 = nI (60 * s + nn i + 3 * c + 1) from nI_1 _)) ?_
        skip
        refine WS.lald hx rfl (vp_in_nI (by omega) (by decide)) dX11_blocks_146 ?_
        refine WS.as rfl rfl (congrArg (fun z => Value.long z :: _) (show τ.2.1 25 (nn (nI (60 * s + nn i + 3 * c + 1))) = κ.2.1 (58 + s) ((nn i + 3 * c) + 1) from by rw [nn_nI (show 60 * s + nn i + 3 * c + 1 < 2 ^ 31 by omega), show 60 * s + nn i + 3 * c + 1 = 60 * s + ((nn i + 3 * c) + 1) by omega]; exact (hR.2.2 _ (by omega)).1)) ?_
        skip
        refine WS.aload_n hx dX11_blocks_147 rfl 3 rfl ?_
        refine WS.getR hx okX11 lf11_83 rfl rfl dX11_blocks_148 ?_
        refine WS.iload hx dX11_blocks_151 0 rfl ?_
        refine WS.iconst (v := 2) hx dX11_blocks_153 (by decide) ?_
        refine WS.iadd hx dX11_blocks_154 ?_
        refine WS.as rfl rfl (congrArg (fun z => Value.int z :: _) (show (nI (60 * s + nn i + 3 * c)) + 2 = nI (60 * s + nn i + 3 * c + 2) from nI_add _ 2)) ?_
        skip
        refine WS.lald hx rfl (vp_in_nI (by omega) (by decide)) dX11_blocks_155 ?_
        refine WS.as rfl rfl (congrArg (fun z => Value.long z :: _) (show τ.2.1 25 (nn (nI (60 * s + nn i + 3 * c + 2))) = κ.2.1 (58 + s) ((nn i + 3 * c) + 2) from by rw [nn_nI (show 60 * s + nn i + 3 * c + 2 < 2 ^ 31 by omega), show 60 * s + nn i + 3 * c + 2 = 60 * s + ((nn i + 3 * c) + 2) by omega]; exact (hR.2.2 _ (by omega)).1)) ?_
        skip
        refine WS.callSi (st := []) [.long (κ.2.1 (58 + s) ((nn i + 3 * c))), .long (κ.2.1 (58 + s) ((nn i + 3 * c) + 1)), .long (κ.2.1 (58 + s) ((nn i + 3 * c) + 2))] hx (c_X11_mayCome V d τ (κ.2.1 (58 + s) ((nn i + 3 * c))) (κ.2.1 (58 + s) ((nn i + 3 * c) + 1)) (κ.2.1 (58 + s) ((nn i + 3 * c) + 2))) okX11_mayCome lm11_112 rfl rfl (Nat.le_of_ble_eq_true rfl) dX11_blocks_156 (fun v1 σ2 h3 => ?_)
        rcases h3 with ⟨rfl, rfl, hb156⟩ | ⟨rfl, rfl, hb156⟩
        · skip
          show WS layM V 7 X τ 159 [(6, .int (nI (60 * s + nn i + 3 * c))), (5, .int 1), (4, .int (nI c)), (0, rf V 0), (1, .int f), (2, .int i), (3, .int x)] [.int 1]
          have hmd := hmc.mpr hb156
          refine WS.if_eq (tgt := 166) hx dX11_blocks_159 (by decide) (fun h => absurd h (by decide)) (fun _ => ?_)
          refine WS.iconst (v := 1) hx dX11_blocks_162 (by decide) ?_
          refine WS.goto (tgt := 167) hx dX11_blocks_163 (by decide) ?_
          refine WS.istore (lo' := [(5, .int 1), (6, .int (nI (60 * s + nn i + 3 * c))), (4, .int (nI c)), (0, rf V 0), (1, .int f), (2, .int i), (3, .int x)]) hx dX11_blocks_167 (by decide) rfl ?_
          refine WS.iload hx dX11_blocks_169 0 rfl ?_
          refine WS.if_eq (tgt := 209) hx dX11_blocks_171 (by decide) (fun h => absurd h (by decide)) (fun _ => ?_)
          refine WS.aload_n hx dX11_blocks_174 rfl 3 rfl ?_
          refine WS.aload_n hx dX11_blocks_175 rfl 3 rfl ?_
          refine WS.getR hx okX11 lf11_83 rfl rfl dX11_blocks_176 ?_
          refine WS.iload hx dX11_blocks_179 1 rfl ?_
          refine WS.lald hx rfl (vp_in_nI (by omega) (by decide)) dX11_blocks_181 ?_
          refine WS.as rfl rfl (congrArg (fun z => Value.long z :: _) (show τ.2.1 25 (nn (nI (60 * s + nn i + 3 * c))) = κ.2.1 (58 + s) ((nn i + 3 * c)) from by rw [nn_nI (show 60 * s + nn i + 3 * c < 2 ^ 31 by omega), show 60 * s + nn i + 3 * c = 60 * s + ((nn i + 3 * c)) by omega]; exact (hR.2.2 _ (by omega)).1)) ?_
          skip
          refine WS.l2i hx dX11_blocks_182 ?_
          refine WS.as rfl rfl (congrArg (fun z => Value.int z :: _) (show Int64.toInt32 (κ.2.1 (58 + s) ((nn i + 3 * c))) = eJ κ s (nn i + 3 * c) from rfl)) ?_
          skip
          refine WS.aload_n hx dX11_blocks_183 rfl 3 rfl ?_
          refine WS.getR hx okX11 lf11_83 rfl rfl dX11_blocks_184 ?_
          refine WS.iload hx dX11_blocks_187 1 rfl ?_
          refine WS.iconst (v := 1) hx dX11_blocks_189 (by decide) ?_
          refine WS.iadd hx dX11_blocks_190 ?_
          refine WS.as rfl rfl (congrArg (fun z => Value.int z :: _) (show (nI (60 * s + nn i + 3 * c)) + 1 = nI (60 * s + nn i + 3 * c + 1) from nI_1 _)) ?_
          skip
          refine WS.lald hx rfl (vp_in_nI (by omega) (by decide)) dX11_blocks_191 ?_
          refine WS.as rfl rfl (congrArg (fun z => Value.long z :: _) (show τ.2.1 25 (nn (nI (60 * s + nn i + 3 * c + 1))) = κ.2.1 (58 + s) ((nn i + 3 * c) + 1) from by rw [nn_nI (show 60 * s + nn i + 3 * c + 1 < 2 ^ 31 by omega), show 60 * s + nn i + 3 * c + 1 = 60 * s + ((nn i + 3 * c) + 1) by omega]; exact (hR.2.2 _ (by omega)).1)) ?_
          skip
          refine WS.l2i hx dX11_blocks_192 ?_
          refine WS.as rfl rfl (congrArg (fun z => Value.int z :: _) (show Int64.toInt32 (κ.2.1 (58 + s) ((nn i + 3 * c) + 1)) = eJ κ s ((nn i + 3 * c) + 1) from rfl)) ?_
          skip
          refine WS.aload_n hx dX11_blocks_193 rfl 3 rfl ?_
          refine WS.getR hx okX11 lf11_83 rfl rfl dX11_blocks_194 ?_
          refine WS.iload hx dX11_blocks_197 1 rfl ?_
          refine WS.iconst (v := 2) hx dX11_blocks_199 (by decide) ?_
          refine WS.iadd hx dX11_blocks_200 ?_
          refine WS.as rfl rfl (congrArg (fun z => Value.int z :: _) (show (nI (60 * s + nn i + 3 * c)) + 2 = nI (60 * s + nn i + 3 * c + 2) from nI_add _ 2)) ?_
          skip
          refine WS.lald hx rfl (vp_in_nI (by omega) (by decide)) dX11_blocks_201 ?_
          refine WS.as rfl rfl (congrArg (fun z => Value.long z :: _) (show τ.2.1 25 (nn (nI (60 * s + nn i + 3 * c + 2))) = κ.2.1 (58 + s) ((nn i + 3 * c) + 2) from by rw [nn_nI (show 60 * s + nn i + 3 * c + 2 < 2 ^ 31 by omega), show 60 * s + nn i + 3 * c + 2 = 60 * s + ((nn i + 3 * c) + 2) by omega]; exact (hR.2.2 _ (by omega)).1)) ?_
          skip
          refine WS.l2i hx dX11_blocks_202 ?_
          refine WS.as rfl rfl (congrArg (fun z => Value.int z :: _) (show Int64.toInt32 (κ.2.1 (58 + s) ((nn i + 3 * c) + 2)) = eJ κ s ((nn i + 3 * c) + 2) from rfl)) ?_
          skip
          refine WS.callVv (st := []) [.int (eJ κ s (nn i + 3 * c)), .int (eJ κ s ((nn i + 3 * c) + 1)), .int (eJ κ s ((nn i + 3 * c) + 2))] hx (c_X11_adds V (d + 2) τ (n0 + c) hM.s (by (try simp only [l_int, tL_0, tL_1, tL_2, tL_4, tL_5, tL_6, tL_7, tL_9, tL_10, tL_12, tL_15, tL_30, tL_40, tL_60, tL_99, tL_255, tL_1023, tL_m1, lc_lt, lc_gt, lc_ge, lc_le, lc_eq, l6_le, l6_lt, l6_eq, tI_m133, tI_m226, i_le, i_lt, i_eq, tI_m12, tI_m1, tI_0, tI_1, tI_2, tI_3, tI_10, tI_50, tI_60] at c77); (try simp only [l_int, tL_0, tL_1, tL_2, tL_4, tL_5, tL_6, tL_7, tL_9, tL_10, tL_12, tL_15, tL_30, tL_40, tL_60, tL_99, tL_255, tL_1023, tL_m1, lc_lt, lc_gt, lc_ge, lc_le, lc_eq, l6_le, l6_lt, l6_eq, tI_m133, tI_m226, i_le, i_lt, i_eq, tI_m12, tI_m1, tI_0, tI_1, tI_2, tI_3, tI_10, tI_50, tI_60] at c94); (try simp only [l_int, tL_0, tL_1, tL_2, tL_4, tL_5, tL_6, tL_7, tL_9, tL_10, tL_12, tL_15, tL_30, tL_40, tL_60, tL_99, tL_255, tL_1023, tL_m1, lc_lt, lc_gt, lc_ge, lc_le, lc_eq, l6_le, l6_lt, l6_eq, tI_m133, tI_m226, i_le, i_lt, i_eq, tI_m12, tI_m1, tI_0, tI_1, tI_2, tI_3, tI_10, tI_50, tI_60] at c103); (try simp only [l_int, tL_0, tL_1, tL_2, tL_4, tL_5, tL_6, tL_7, tL_9, tL_10, tL_12, tL_15, tL_30, tL_40, tL_60, tL_99, tL_255, tL_1023, tL_m1, lc_lt, lc_gt, lc_ge, lc_le, lc_eq, l6_le, l6_lt, l6_eq, tI_m133, tI_m226, i_le, i_lt, i_eq, tI_m12, tI_m1, tI_0, tI_1, tI_2, tI_3, tI_10, tI_50, tI_60] at hb156); (try simp only [l_int, tL_0, tL_1, tL_2, tL_4, tL_5, tL_6, tL_7, tL_9, tL_10, tL_12, tL_15, tL_30, tL_40, tL_60, tL_99, tL_255, tL_1023, tL_m1, lc_lt, lc_gt, lc_ge, lc_le, lc_eq, l6_le, l6_lt, l6_eq, tI_m133, tI_m226, i_le, i_lt, i_eq, tI_m12, tI_m1, tI_0, tI_1, tI_2, tI_3, tI_10, tI_50, tI_60]); omega) (eJ κ s (nn i + 3 * c)) (eJ κ s ((nn i + 3 * c) + 1)) (eJ κ s ((nn i + 3 * c) + 2))) okX11_adds lm11_115 rfl rfl rfl rfl (Nat.le_of_ble_eq_true rfl) dX11_blocks_203 (fun σ5 h6 => ?_)
          obtain rfl := h6
          show WS layM V 7 X (aM τ (n0 + c) (eJ κ s (nn i + 3 * c)) (eJ κ s ((nn i + 3 * c) + 1)) (eJ κ s ((nn i + 3 * c) + 2))) 206 [(5, .int 1), (6, .int (nI (60 * s + nn i + 3 * c))), (4, .int (nI c)), (0, rf V 0), (1, .int f), (2, .int i), (3, .int x)] []
          refine WS.iinc (v := nI (c + 1)) (lo' := [(4, .int (nI (c + 1))), (5, .int 1), (6, .int (nI (60 * s + nn i + 3 * c))), (0, rf V 0), (1, .int f), (2, .int i), (3, .int x)]) hx dX11_blocks_206 2 rfl (nI_1 c) (by decide) rfl ?_
          refine WS.goto (tgt := 69) hx dX11_blocks_209 (by decide) ?_
          rw [blF_t ⟨by (try simp only [l_int, tL_0, tL_1, tL_2, tL_4, tL_5, tL_6, tL_7, tL_9, tL_10, tL_12, tL_15, tL_30, tL_40, tL_60, tL_99, tL_255, tL_1023, tL_m1, lc_lt, lc_gt, lc_ge, lc_le, lc_eq, l6_le, l6_lt, l6_eq, tI_m133, tI_m226, i_le, i_lt, i_eq, tI_m12, tI_m1, tI_0, tI_1, tI_2, tI_3, tI_10, tI_50, tI_60] at c77); (try simp only [l_int, tL_0, tL_1, tL_2, tL_4, tL_5, tL_6, tL_7, tL_9, tL_10, tL_12, tL_15, tL_30, tL_40, tL_60, tL_99, tL_255, tL_1023, tL_m1, lc_lt, lc_gt, lc_ge, lc_le, lc_eq, l6_le, l6_lt, l6_eq, tI_m133, tI_m226, i_le, i_lt, i_eq, tI_m12, tI_m1, tI_0, tI_1, tI_2, tI_3, tI_10, tI_50, tI_60] at c94); (try simp only [l_int, tL_0, tL_1, tL_2, tL_4, tL_5, tL_6, tL_7, tL_9, tL_10, tL_12, tL_15, tL_30, tL_40, tL_60, tL_99, tL_255, tL_1023, tL_m1, lc_lt, lc_gt, lc_ge, lc_le, lc_eq, l6_le, l6_lt, l6_eq, tI_m133, tI_m226, i_le, i_lt, i_eq, tI_m12, tI_m1, tI_0, tI_1, tI_2, tI_3, tI_10, tI_50, tI_60] at c103); (try simp only [l_int, tL_0, tL_1, tL_2, tL_4, tL_5, tL_6, tL_7, tL_9, tL_10, tL_12, tL_15, tL_30, tL_40, tL_60, tL_99, tL_255, tL_1023, tL_m1, lc_lt, lc_gt, lc_ge, lc_le, lc_eq, l6_le, l6_lt, l6_eq, tI_m133, tI_m226, i_le, i_lt, i_eq, tI_m12, tI_m1, tI_0, tI_1, tI_2, tI_3, tI_10, tI_50, tI_60] at hb156); (try simp only [l_int, tL_0, tL_1, tL_2, tL_4, tL_5, tL_6, tL_7, tL_9, tL_10, tL_12, tL_15, tL_30, tL_40, tL_60, tL_99, tL_255, tL_1023, tL_m1, lc_lt, lc_gt, lc_ge, lc_le, lc_eq, l6_le, l6_lt, l6_eq, tI_m133, tI_m226, i_le, i_lt, i_eq, tI_m12, tI_m1, tI_0, tI_1, tI_2, tI_3, tI_10, tI_50, tI_60]); omega, hpl, hmd⟩, hpp] at hr
          rw [hpp] at hmd
          exact WS.los [1, 0, 3, 4, 5, 6] rfl (ih (c + 1) _ _ (by omega) (MR_add hM (by (try simp only [l_int, tL_0, tL_1, tL_2, tL_4, tL_5, tL_6, tL_7, tL_9, tL_10, tL_12, tL_15, tL_30, tL_40, tL_60, tL_99, tL_255, tL_1023, tL_m1, lc_lt, lc_gt, lc_ge, lc_le, lc_eq, l6_le, l6_lt, l6_eq, tI_m133, tI_m226, i_le, i_lt, i_eq, tI_m12, tI_m1, tI_0, tI_1, tI_2, tI_3, tI_10, tI_50, tI_60] at c77); (try simp only [l_int, tL_0, tL_1, tL_2, tL_4, tL_5, tL_6, tL_7, tL_9, tL_10, tL_12, tL_15, tL_30, tL_40, tL_60, tL_99, tL_255, tL_1023, tL_m1, lc_lt, lc_gt, lc_ge, lc_le, lc_eq, l6_le, l6_lt, l6_eq, tI_m133, tI_m226, i_le, i_lt, i_eq, tI_m12, tI_m1, tI_0, tI_1, tI_2, tI_3, tI_10, tI_50, tI_60] at c94); (try simp only [l_int, tL_0, tL_1, tL_2, tL_4, tL_5, tL_6, tL_7, tL_9, tL_10, tL_12, tL_15, tL_30, tL_40, tL_60, tL_99, tL_255, tL_1023, tL_m1, lc_lt, lc_gt, lc_ge, lc_le, lc_eq, l6_le, l6_lt, l6_eq, tI_m133, tI_m226, i_le, i_lt, i_eq, tI_m12, tI_m1, tI_0, tI_1, tI_2, tI_3, tI_10, tI_50, tI_60] at c103); (try simp only [l_int, tL_0, tL_1, tL_2, tL_4, tL_5, tL_6, tL_7, tL_9, tL_10, tL_12, tL_15, tL_30, tL_40, tL_60, tL_99, tL_255, tL_1023, tL_m1, lc_lt, lc_gt, lc_ge, lc_le, lc_eq, l6_le, l6_lt, l6_eq, tI_m133, tI_m226, i_le, i_lt, i_eq, tI_m12, tI_m1, tI_0, tI_1, tI_2, tI_3, tI_10, tI_50, tI_60] at hb156); (try simp only [l_int, tL_0, tL_1, tL_2, tL_4, tL_5, tL_6, tL_7, tL_9, tL_10, tL_12, tL_15, tL_30, tL_40, tL_60, tL_99, tL_255, tL_1023, tL_m1, lc_lt, lc_gt, lc_ge, lc_le, lc_eq, l6_le, l6_lt, l6_eq, tI_m133, tI_m226, i_le, i_lt, i_eq, tI_m12, tI_m1, tI_0, tI_1, tI_2, tI_3, tI_10, tI_50, tI_60]); omega) (isSo0 hmd.1) (isSo1 hmd.2.1) (isSo2 hmd.2.2)) hE.ad hR.ad hr)
        · skip
          show WS layM V 7 X τ 159 [(6, .int (nI (60 * s + nn i + 3 * c))), (5, .int 1), (4, .int (nI c)), (0, rf V 0), (1, .int f), (2, .int i), (3, .int x)] [.int 0]
          refine WS.if_eq (tgt := 166) hx dX11_blocks_159 (by decide) (fun _ => ?_) (fun h => absurd (by decide) h)
          refine WS.iconst (v := 0) hx dX11_blocks_166 (by decide) ?_
          refine WS.istore (lo' := [(5, .int 0), (6, .int (nI (60 * s + nn i + 3 * c))), (4, .int (nI c)), (0, rf V 0), (1, .int f), (2, .int i), (3, .int x)]) hx dX11_blocks_167 (by decide) rfl ?_
          refine WS.iload hx dX11_blocks_169 0 rfl ?_
          refine WS.if_eq (tgt := 209) hx dX11_blocks_171 (by decide) (fun _ => ?_) (fun h => absurd (by decide) h)
          refine WS.goto (tgt := 69) hx dX11_blocks_209 (by decide) ?_
          rw [blF_f (fun h => hb156 ((hmc.mp ⟨h.2.2.1, h.2.2.2.1, h.2.2.2.2⟩)))] at hr
          exact WS.los [0, 2, 3, 4, 5, 6] rfl (lz_X11_blocks V d _ c f i x P X hx he (fin_bl hr hP hM hE))
theorem SR.rb {κ μ : Sg} {z s : Nat} (h : SR κ μ z) (hs : s < 6) (hr : κ.1 (52 + s) 1 = 2 ∧ κ.1 (52 + s) 3 = 0) : RB9 κ μ s (nn (κ.1 (52 + s) 4)) := by
  obtain ⟨g0, g | g | g⟩ := h s hs
  · rw [g.1] at hr; exact absurd hr.1 (by decide)
  · rw [g.1] at hr; exact absurd hr.1 (by decide)
  · exact ⟨g0.le, by rw [g.2.2.2.1, nI_nn g0.1], fun p hp => ⟨g.2.2.2.2.1 p hp, g.2.2.2.2.2 hr.2 p hp⟩⟩
set_option maxHeartbeats 1000000 in
theorem c_X11_blocks (V : Vt) (d : Nat) (σ : Sg) (κ : Sg) (n : Nat) (hM : MR κ σ n) (z9 : Nat) (hz9 : z9 ≤ 50) (hS : SR κ σ z9) (f i x : Int32) : CT layM V mX11_blocks (d + 3) [rf V 0, .int f, .int i, .int x] σ (Ri fun v σ' => if ¬ ((0 ≤ f.toInt ∧ f.toInt ≤ 5) ∧ (1 ≤ x.toInt ∧ x.toInt ≤ 10)) then v = -1 ∧ σ' = σ else if κ.1 (52 + nn f) 1 = 0 then v = 0 ∧ σ' = σ else if ¬ (κ.1 (52 + nn f) 1 = 2 ∧ κ.1 (52 + nn f) 3 = 0) then v = -12 ∧ σ' = σ else v = nI (blF (nn f) (nn (κ.1 (52 + nn f) 4)) i (nn x) 0 n κ).1 ∧ MR (blF (nn f) (nn (κ.1 (52 + nn f) 4)) i (nn x) 0 n κ).2 σ' (n + (blF (nn f) (nn (κ.1 (52 + nn f) 4)) i (nn x) 0 n κ).1) ∧ FB σ σ') := by
  refine CT.of (own := RX11) rfl (by decide) (Nat.le_of_ble_eq_true rfl) (fun X (hx : Ok V RX11 cX11_blocks 7 (d + 3) X) (he : En layM V (some .int) (Ri fun v σ' => if ¬ ((0 ≤ f.toInt ∧ f.toInt ≤ 5) ∧ (1 ≤ x.toInt ∧ x.toInt ≤ 10)) then v = -1 ∧ σ' = σ else if κ.1 (52 + nn f) 1 = 0 then v = 0 ∧ σ' = σ else if ¬ (κ.1 (52 + nn f) 1 = 2 ∧ κ.1 (52 + nn f) 3 = 0) then v = -12 ∧ σ' = σ else v = nI (blF (nn f) (nn (κ.1 (52 + nn f) 4)) i (nn x) 0 n κ).1 ∧ MR (blF (nn f) (nn (κ.1 (52 + nn f) 4)) i (nn x) 0 n κ).2 σ' (n + (blF (nn f) (nn (κ.1 (52 + nn f) 4)) i (nn x) 0 n κ).1) ∧ FB σ σ') X) => ?_)
  change WS layM V 7 X σ 0 [(0, rf V 0), (1, .int f), (2, .int i), (3, .int x)] []
  refine WS.iload_n hx dX11_blocks_0 rfl 1 rfl ?_
  refine WS.callSi (st := []) [.int f] hx (c_X11_isShelf V (d + 1) σ f) okX11_isShelf lm11_119 rfl rfl (Nat.le_of_ble_eq_true rfl) dX11_blocks_1 (fun v1 σ2 h3 => ?_)
  rcases h3 with ⟨rfl, rfl, hb1⟩ | ⟨rfl, rfl, hb1⟩
  · skip
    show WS layM V 7 X σ 4 [(0, rf V 0), (1, .int f), (2, .int i), (3, .int x)] [.int 1]
    obtain ⟨e1, e2, e3⟩ := hS.c hz9 (sh_nn hb1)
    unfold nn at e1 e2 e3
    refine WS.if_eq (tgt := 19) hx dX11_blocks_4 (by decide) (fun h => absurd h (by decide)) (fun _ => ?_)
    refine WS.iload_n hx dX11_blocks_7 rfl 3 rfl ?_
    refine WS.i2l hx dX11_blocks_8 ?_
    refine WS.lconst (v := 1) hx dX11_blocks_9 rfl ?_
    refine WS.ldc2 (v := 10) hx lc11_123 dX11_blocks_10 ?_
    refine WS.callSi (st := []) [.long (Int32.toInt64 x), .long 1, .long 10] hx (c_X11_within V (d + 2) σ (Int32.toInt64 x) 1 10) okX11_within lm11_100 rfl rfl (Nat.le_of_ble_eq_true rfl) dX11_blocks_13 (fun v4 σ5 h6 => ?_)
    rcases h6 with ⟨rfl, rfl, hb13⟩ | ⟨rfl, rfl, hb13⟩
    · skip
      show WS layM V 7 X σ 16 [(0, rf V 0), (1, .int f), (2, .int i), (3, .int x)] [.int 1]
      have hx10 : (1 ≤ x.toInt ∧ x.toInt ≤ 10) := by have h9 := hb13; simp only [l_int, tL_1, tL_10] at h9; exact h9
      have hA : (0 ≤ f.toInt ∧ f.toInt ≤ 5) ∧ (1 ≤ x.toInt ∧ x.toInt ≤ 10) := ⟨hb1, hx10⟩
      refine WS.if_ne (tgt := 21) hx dX11_blocks_16 (by decide) (fun _ => ?_) (fun h => absurd h (by decide))
      refine WS.aload_n hx dX11_blocks_21 rfl 0 rfl ?_
      refine WS.getR hx okX11 lf11_77 rfl rfl dX11_blocks_22 ?_
      refine WS.iload_n hx dX11_blocks_25 rfl 1 rfl ?_
      refine WS.iald hx rfl (sh_in hb1) dX11_blocks_26 ?_
      refine WS.if_lt (tgt := 44) hx dX11_blocks_27 (by decide) (fun c27 => ?_) (fun c27 => ?_)
      · skip
        show WS layM V 7 X σ 44 [(0, rf V 0), (1, .int f), (2, .int i), (3, .int x)] []
        refine WS.iconst (v := 0) hx dX11_blocks_44 (by decide) ?_
        refine WS.istore (lo' := [(4, .int 0), (0, rf V 0), (1, .int f), (2, .int i), (3, .int x)]) hx dX11_blocks_45 (by decide) rfl ?_
        refine WS.aload_n hx dX11_blocks_47 rfl 1 rfl ?_
        refine WS.getR hx okX11 lf11_77 rfl rfl dX11_blocks_48 ?_
        refine WS.iload_n hx dX11_blocks_51 rfl 2 rfl ?_
        refine WS.iald hx rfl (sh_in hb1) dX11_blocks_52 ?_
        refine WS.bipush (v := 50) hx dX11_blocks_53 (by decide) ?_
        refine WS.icmp_ne (tgt := 66) hx dX11_blocks_55 (by decide) (fun c55 => ?_) (fun c55 => ?_)
        · skip
          show WS layM V 7 X σ 66 [(4, .int 0), (0, rf V 0), (1, .int f), (2, .int i), (3, .int x)] []
          refine WS.iconst (v := 0) hx dX11_blocks_66 (by decide) ?_
          refine WS.istore (lo' := [(5, .int 0), (4, .int 0), (0, rf V 0), (1, .int f), (2, .int i), (3, .int x)]) hx dX11_blocks_67 (by decide) rfl ?_
          exact WS.los [0, 1, 2, 3, 4, 5] rfl (lz_X11_blocks V d _ 0 f i x _ X hx he (by (try dsimp only); rw [if_neg (fun h => h hA), if_pos (e1.mpr (by (try simp only [l_int, tL_0, tL_1, tL_2, tL_4, tL_5, tL_6, tL_7, tL_9, tL_10, tL_12, tL_15, tL_30, tL_40, tL_60, tL_99, tL_255, tL_1023, tL_m1, lc_lt, lc_gt, lc_ge, lc_le, lc_eq, l6_le, l6_lt, l6_eq, tI_m133, tI_m226, i_le, i_lt, i_eq, tI_m12, tI_m1, tI_0, tI_1, tI_2, tI_3, tI_10, tI_50, tI_60] at hb1); (try simp only [l_int, tL_0, tL_1, tL_2, tL_4, tL_5, tL_6, tL_7, tL_9, tL_10, tL_12, tL_15, tL_30, tL_40, tL_60, tL_99, tL_255, tL_1023, tL_m1, lc_lt, lc_gt, lc_ge, lc_le, lc_eq, l6_le, l6_lt, l6_eq, tI_m133, tI_m226, i_le, i_lt, i_eq, tI_m12, tI_m1, tI_0, tI_1, tI_2, tI_3, tI_10, tI_50, tI_60] at hb13); (try simp only [l_int, tL_0, tL_1, tL_2, tL_4, tL_5, tL_6, tL_7, tL_9, tL_10, tL_12, tL_15, tL_30, tL_40, tL_60, tL_99, tL_255, tL_1023, tL_m1, lc_lt, lc_gt, lc_ge, lc_le, lc_eq, l6_le, l6_lt, l6_eq, tI_m133, tI_m226, i_le, i_lt, i_eq, tI_m12, tI_m1, tI_0, tI_1, tI_2, tI_3, tI_10, tI_50, tI_60] at c27); (try simp only [l_int, tL_0, tL_1, tL_2, tL_4, tL_5, tL_6, tL_7, tL_9, tL_10, tL_12, tL_15, tL_30, tL_40, tL_60, tL_99, tL_255, tL_1023, tL_m1, lc_lt, lc_gt, lc_ge, lc_le, lc_eq, l6_le, l6_lt, l6_eq, tI_m133, tI_m226, i_le, i_lt, i_eq, tI_m12, tI_m1, tI_0, tI_1, tI_2, tI_3, tI_10, tI_50, tI_60] at c55); (try simp only [l_int, tL_0, tL_1, tL_2, tL_4, tL_5, tL_6, tL_7, tL_9, tL_10, tL_12, tL_15, tL_30, tL_40, tL_60, tL_99, tL_255, tL_1023, tL_m1, lc_lt, lc_gt, lc_ge, lc_le, lc_eq, l6_le, l6_lt, l6_eq, tI_m133, tI_m226, i_le, i_lt, i_eq, tI_m12, tI_m1, tI_0, tI_1, tI_2, tI_3, tI_10, tI_50, tI_60]); omega))]; exact ⟨rfl, rfl⟩))
        · skip
          show WS layM V 7 X σ 58 [(4, .int 0), (0, rf V 0), (1, .int f), (2, .int i), (3, .int x)] []
          refine WS.iload_n hx dX11_blocks_58 rfl 3 rfl ?_
          refine WS.if_lt (tgt := 66) hx dX11_blocks_59 (by decide) (fun c59 => ?_) (fun c59 => ?_)
          · skip
            show WS layM V 7 X σ 66 [(4, .int 0), (0, rf V 0), (1, .int f), (2, .int i), (3, .int x)] []
            refine WS.iconst (v := 0) hx dX11_blocks_66 (by decide) ?_
            refine WS.istore (lo' := [(5, .int 0), (4, .int 0), (0, rf V 0), (1, .int f), (2, .int i), (3, .int x)]) hx dX11_blocks_67 (by decide) rfl ?_
            exfalso; (try simp only [l_int, tL_0, tL_1, tL_2, tL_4, tL_5, tL_6, tL_7, tL_9, tL_10, tL_12, tL_15, tL_30, tL_40, tL_60, tL_99, tL_255, tL_1023, tL_m1, lc_lt, lc_gt, lc_ge, lc_le, lc_eq, l6_le, l6_lt, l6_eq, tI_m133, tI_m226, i_le, i_lt, i_eq, tI_m12, tI_m1, tI_0, tI_1, tI_2, tI_3, tI_10, tI_50, tI_60] at hb1); (try simp only [l_int, tL_0, tL_1, tL_2, tL_4, tL_5, tL_6, tL_7, tL_9, tL_10, tL_12, tL_15, tL_30, tL_40, tL_60, tL_99, tL_255, tL_1023, tL_m1, lc_lt, lc_gt, lc_ge, lc_le, lc_eq, l6_le, l6_lt, l6_eq, tI_m133, tI_m226, i_le, i_lt, i_eq, tI_m12, tI_m1, tI_0, tI_1, tI_2, tI_3, tI_10, tI_50, tI_60] at hb13); (try simp only [l_int, tL_0, tL_1, tL_2, tL_4, tL_5, tL_6, tL_7, tL_9, tL_10, tL_12, tL_15, tL_30, tL_40, tL_60, tL_99, tL_255, tL_1023, tL_m1, lc_lt, lc_gt, lc_ge, lc_le, lc_eq, l6_le, l6_lt, l6_eq, tI_m133, tI_m226, i_le, i_lt, i_eq, tI_m12, tI_m1, tI_0, tI_1, tI_2, tI_3, tI_10, tI_50, tI_60] at c27); (try simp only [l_int, tL_0, tL_1, tL_2, tL_4, tL_5, tL_6, tL_7, tL_9, tL_10, tL_12, tL_15, tL_30, tL_40, tL_60, tL_99, tL_255, tL_1023, tL_m1, lc_lt, lc_gt, lc_ge, lc_le, lc_eq, l6_le, l6_lt, l6_eq, tI_m133, tI_m226, i_le, i_lt, i_eq, tI_m12, tI_m1, tI_0, tI_1, tI_2, tI_3, tI_10, tI_50, tI_60] at c55); (try simp only [l_int, tL_0, tL_1, tL_2, tL_4, tL_5, tL_6, tL_7, tL_9, tL_10, tL_12, tL_15, tL_30, tL_40, tL_60, tL_99, tL_255, tL_1023, tL_m1, lc_lt, lc_gt, lc_ge, lc_le, lc_eq, l6_le, l6_lt, l6_eq, tI_m133, tI_m226, i_le, i_lt, i_eq, tI_m12, tI_m1, tI_0, tI_1, tI_2, tI_3, tI_10, tI_50, tI_60] at c59); (try simp only [l_int, tL_0, tL_1, tL_2, tL_4, tL_5, tL_6, tL_7, tL_9, tL_10, tL_12, tL_15, tL_30, tL_40, tL_60, tL_99, tL_255, tL_1023, tL_m1, lc_lt, lc_gt, lc_ge, lc_le, lc_eq, l6_le, l6_lt, l6_eq, tI_m133, tI_m226, i_le, i_lt, i_eq, tI_m12, tI_m1, tI_0, tI_1, tI_2, tI_3, tI_10, tI_50, tI_60]); omega
          · skip
            show WS layM V 7 X σ 62 [(4, .int 0), (0, rf V 0), (1, .int f), (2, .int i), (3, .int x)] []
            refine WS.iconst (v := 1) hx dX11_blocks_62 (by decide) ?_
            refine WS.goto (tgt := 67) hx dX11_blocks_63 (by decide) ?_
            refine WS.istore (lo' := [(5, .int 1), (4, .int 0), (0, rf V 0), (1, .int f), (2, .int i), (3, .int x)]) hx dX11_blocks_67 (by decide) rfl ?_
            exfalso; (try simp only [l_int, tL_0, tL_1, tL_2, tL_4, tL_5, tL_6, tL_7, tL_9, tL_10, tL_12, tL_15, tL_30, tL_40, tL_60, tL_99, tL_255, tL_1023, tL_m1, lc_lt, lc_gt, lc_ge, lc_le, lc_eq, l6_le, l6_lt, l6_eq, tI_m133, tI_m226, i_le, i_lt, i_eq, tI_m12, tI_m1, tI_0, tI_1, tI_2, tI_3, tI_10, tI_50, tI_60] at hb1); (try simp only [l_int, tL_0, tL_1, tL_2, tL_4, tL_5, tL_6, tL_7, tL_9, tL_10, tL_12, tL_15, tL_30, tL_40, tL_60, tL_99, tL_255, tL_1023, tL_m1, lc_lt, lc_gt, lc_ge, lc_le, lc_eq, l6_le, l6_lt, l6_eq, tI_m133, tI_m226, i_le, i_lt, i_eq, tI_m12, tI_m1, tI_0, tI_1, tI_2, tI_3, tI_10, tI_50, tI_60] at hb13); (try simp only [l_int, tL_0, tL_1, tL_2, tL_4, tL_5, tL_6, tL_7, tL_9, tL_10, tL_12, tL_15, tL_30, tL_40, tL_60, tL_99, tL_255, tL_1023, tL_m1, lc_lt, lc_gt, lc_ge, lc_le, lc_eq, l6_le, l6_lt, l6_eq, tI_m133, tI_m226, i_le, i_lt, i_eq, tI_m12, tI_m1, tI_0, tI_1, tI_2, tI_3, tI_10, tI_50, tI_60] at c27); (try simp only [l_int, tL_0, tL_1, tL_2, tL_4, tL_5, tL_6, tL_7, tL_9, tL_10, tL_12, tL_15, tL_30, tL_40, tL_60, tL_99, tL_255, tL_1023, tL_m1, lc_lt, lc_gt, lc_ge, lc_le, lc_eq, l6_le, l6_lt, l6_eq, tI_m133, tI_m226, i_le, i_lt, i_eq, tI_m12, tI_m1, tI_0, tI_1, tI_2, tI_3, tI_10, tI_50, tI_60] at c55); (try simp only [l_int, tL_0, tL_1, tL_2, tL_4, tL_5, tL_6, tL_7, tL_9, tL_10, tL_12, tL_15, tL_30, tL_40, tL_60, tL_99, tL_255, tL_1023, tL_m1, lc_lt, lc_gt, lc_ge, lc_le, lc_eq, l6_le, l6_lt, l6_eq, tI_m133, tI_m226, i_le, i_lt, i_eq, tI_m12, tI_m1, tI_0, tI_1, tI_2, tI_3, tI_10, tI_50, tI_60] at c59); (try simp only [l_int, tL_0, tL_1, tL_2, tL_4, tL_5, tL_6, tL_7, tL_9, tL_10, tL_12, tL_15, tL_30, tL_40, tL_60, tL_99, tL_255, tL_1023, tL_m1, lc_lt, lc_gt, lc_ge, lc_le, lc_eq, l6_le, l6_lt, l6_eq, tI_m133, tI_m226, i_le, i_lt, i_eq, tI_m12, tI_m1, tI_0, tI_1, tI_2, tI_3, tI_10, tI_50, tI_60]); omega
      · skip
        show WS layM V 7 X σ 30 [(0, rf V 0), (1, .int f), (2, .int i), (3, .int x)] []
        refine WS.aload_n hx dX11_blocks_30 rfl 0 rfl ?_
        refine WS.getR hx okX11 lf11_77 rfl rfl dX11_blocks_31 ?_
        refine WS.iload_n hx dX11_blocks_34 rfl 1 rfl ?_
        refine WS.iald hx rfl (sh_in hb1) dX11_blocks_35 ?_
        refine WS.bipush (v := 50) hx dX11_blocks_36 (by decide) ?_
        refine WS.icmp_eq (tgt := 44) hx dX11_blocks_38 (by decide) (fun c38 => ?_) (fun c38 => ?_)
        · skip
          show WS layM V 7 X σ 44 [(0, rf V 0), (1, .int f), (2, .int i), (3, .int x)] []
          refine WS.iconst (v := 0) hx dX11_blocks_44 (by decide) ?_
          refine WS.istore (lo' := [(4, .int 0), (0, rf V 0), (1, .int f), (2, .int i), (3, .int x)]) hx dX11_blocks_45 (by decide) rfl ?_
          refine WS.aload_n hx dX11_blocks_47 rfl 1 rfl ?_
          refine WS.getR hx okX11 lf11_77 rfl rfl dX11_blocks_48 ?_
          refine WS.iload_n hx dX11_blocks_51 rfl 2 rfl ?_
          refine WS.iald hx rfl (sh_in hb1) dX11_blocks_52 ?_
          refine WS.bipush (v := 50) hx dX11_blocks_53 (by decide) ?_
          refine WS.icmp_ne (tgt := 66) hx dX11_blocks_55 (by decide) (fun c55 => ?_) (fun c55 => ?_)
          · skip
            show WS layM V 7 X σ 66 [(4, .int 0), (0, rf V 0), (1, .int f), (2, .int i), (3, .int x)] []
            refine WS.iconst (v := 0) hx dX11_blocks_66 (by decide) ?_
            refine WS.istore (lo' := [(5, .int 0), (4, .int 0), (0, rf V 0), (1, .int f), (2, .int i), (3, .int x)]) hx dX11_blocks_67 (by decide) rfl ?_
            exfalso; (try simp only [l_int, tL_0, tL_1, tL_2, tL_4, tL_5, tL_6, tL_7, tL_9, tL_10, tL_12, tL_15, tL_30, tL_40, tL_60, tL_99, tL_255, tL_1023, tL_m1, lc_lt, lc_gt, lc_ge, lc_le, lc_eq, l6_le, l6_lt, l6_eq, tI_m133, tI_m226, i_le, i_lt, i_eq, tI_m12, tI_m1, tI_0, tI_1, tI_2, tI_3, tI_10, tI_50, tI_60] at hb1); (try simp only [l_int, tL_0, tL_1, tL_2, tL_4, tL_5, tL_6, tL_7, tL_9, tL_10, tL_12, tL_15, tL_30, tL_40, tL_60, tL_99, tL_255, tL_1023, tL_m1, lc_lt, lc_gt, lc_ge, lc_le, lc_eq, l6_le, l6_lt, l6_eq, tI_m133, tI_m226, i_le, i_lt, i_eq, tI_m12, tI_m1, tI_0, tI_1, tI_2, tI_3, tI_10, tI_50, tI_60] at hb13); (try simp only [l_int, tL_0, tL_1, tL_2, tL_4, tL_5, tL_6, tL_7, tL_9, tL_10, tL_12, tL_15, tL_30, tL_40, tL_60, tL_99, tL_255, tL_1023, tL_m1, lc_lt, lc_gt, lc_ge, lc_le, lc_eq, l6_le, l6_lt, l6_eq, tI_m133, tI_m226, i_le, i_lt, i_eq, tI_m12, tI_m1, tI_0, tI_1, tI_2, tI_3, tI_10, tI_50, tI_60] at c27); (try simp only [l_int, tL_0, tL_1, tL_2, tL_4, tL_5, tL_6, tL_7, tL_9, tL_10, tL_12, tL_15, tL_30, tL_40, tL_60, tL_99, tL_255, tL_1023, tL_m1, lc_lt, lc_gt, lc_ge, lc_le, lc_eq, l6_le, l6_lt, l6_eq, tI_m133, tI_m226, i_le, i_lt, i_eq, tI_m12, tI_m1, tI_0, tI_1, tI_2, tI_3, tI_10, tI_50, tI_60] at c38); (try simp only [l_int, tL_0, tL_1, tL_2, tL_4, tL_5, tL_6, tL_7, tL_9, tL_10, tL_12, tL_15, tL_30, tL_40, tL_60, tL_99, tL_255, tL_1023, tL_m1, lc_lt, lc_gt, lc_ge, lc_le, lc_eq, l6_le, l6_lt, l6_eq, tI_m133, tI_m226, i_le, i_lt, i_eq, tI_m12, tI_m1, tI_0, tI_1, tI_2, tI_3, tI_10, tI_50, tI_60] at c55); (try simp only [l_int, tL_0, tL_1, tL_2, tL_4, tL_5, tL_6, tL_7, tL_9, tL_10, tL_12, tL_15, tL_30, tL_40, tL_60, tL_99, tL_255, tL_1023, tL_m1, lc_lt, lc_gt, lc_ge, lc_le, lc_eq, l6_le, l6_lt, l6_eq, tI_m133, tI_m226, i_le, i_lt, i_eq, tI_m12, tI_m1, tI_0, tI_1, tI_2, tI_3, tI_10, tI_50, tI_60]); omega
          · skip
            show WS layM V 7 X σ 58 [(4, .int 0), (0, rf V 0), (1, .int f), (2, .int i), (3, .int x)] []
            refine WS.iload_n hx dX11_blocks_58 rfl 3 rfl ?_
            refine WS.if_lt (tgt := 66) hx dX11_blocks_59 (by decide) (fun c59 => ?_) (fun c59 => ?_)
            · skip
              show WS layM V 7 X σ 66 [(4, .int 0), (0, rf V 0), (1, .int f), (2, .int i), (3, .int x)] []
              refine WS.iconst (v := 0) hx dX11_blocks_66 (by decide) ?_
              refine WS.istore (lo' := [(5, .int 0), (4, .int 0), (0, rf V 0), (1, .int f), (2, .int i), (3, .int x)]) hx dX11_blocks_67 (by decide) rfl ?_
              have hrow := e3.mpr (by (try simp only [l_int, tL_0, tL_1, tL_2, tL_4, tL_5, tL_6, tL_7, tL_9, tL_10, tL_12, tL_15, tL_30, tL_40, tL_60, tL_99, tL_255, tL_1023, tL_m1, lc_lt, lc_gt, lc_ge, lc_le, lc_eq, l6_le, l6_lt, l6_eq, tI_m133, tI_m226, i_le, i_lt, i_eq, tI_m12, tI_m1, tI_0, tI_1, tI_2, tI_3, tI_10, tI_50, tI_60] at hb1); (try simp only [l_int, tL_0, tL_1, tL_2, tL_4, tL_5, tL_6, tL_7, tL_9, tL_10, tL_12, tL_15, tL_30, tL_40, tL_60, tL_99, tL_255, tL_1023, tL_m1, lc_lt, lc_gt, lc_ge, lc_le, lc_eq, l6_le, l6_lt, l6_eq, tI_m133, tI_m226, i_le, i_lt, i_eq, tI_m12, tI_m1, tI_0, tI_1, tI_2, tI_3, tI_10, tI_50, tI_60] at hb13); (try simp only [l_int, tL_0, tL_1, tL_2, tL_4, tL_5, tL_6, tL_7, tL_9, tL_10, tL_12, tL_15, tL_30, tL_40, tL_60, tL_99, tL_255, tL_1023, tL_m1, lc_lt, lc_gt, lc_ge, lc_le, lc_eq, l6_le, l6_lt, l6_eq, tI_m133, tI_m226, i_le, i_lt, i_eq, tI_m12, tI_m1, tI_0, tI_1, tI_2, tI_3, tI_10, tI_50, tI_60] at c27); (try simp only [l_int, tL_0, tL_1, tL_2, tL_4, tL_5, tL_6, tL_7, tL_9, tL_10, tL_12, tL_15, tL_30, tL_40, tL_60, tL_99, tL_255, tL_1023, tL_m1, lc_lt, lc_gt, lc_ge, lc_le, lc_eq, l6_le, l6_lt, l6_eq, tI_m133, tI_m226, i_le, i_lt, i_eq, tI_m12, tI_m1, tI_0, tI_1, tI_2, tI_3, tI_10, tI_50, tI_60] at c38); (try simp only [l_int, tL_0, tL_1, tL_2, tL_4, tL_5, tL_6, tL_7, tL_9, tL_10, tL_12, tL_15, tL_30, tL_40, tL_60, tL_99, tL_255, tL_1023, tL_m1, lc_lt, lc_gt, lc_ge, lc_le, lc_eq, l6_le, l6_lt, l6_eq, tI_m133, tI_m226, i_le, i_lt, i_eq, tI_m12, tI_m1, tI_0, tI_1, tI_2, tI_3, tI_10, tI_50, tI_60] at c55); (try simp only [l_int, tL_0, tL_1, tL_2, tL_4, tL_5, tL_6, tL_7, tL_9, tL_10, tL_12, tL_15, tL_30, tL_40, tL_60, tL_99, tL_255, tL_1023, tL_m1, lc_lt, lc_gt, lc_ge, lc_le, lc_eq, l6_le, l6_lt, l6_eq, tI_m133, tI_m226, i_le, i_lt, i_eq, tI_m12, tI_m1, tI_0, tI_1, tI_2, tI_3, tI_10, tI_50, tI_60] at c59); (try simp only [l_int, tL_0, tL_1, tL_2, tL_4, tL_5, tL_6, tL_7, tL_9, tL_10, tL_12, tL_15, tL_30, tL_40, tL_60, tL_99, tL_255, tL_1023, tL_m1, lc_lt, lc_gt, lc_ge, lc_le, lc_eq, l6_le, l6_lt, l6_eq, tI_m133, tI_m226, i_le, i_lt, i_eq, tI_m12, tI_m1, tI_0, tI_1, tI_2, tI_3, tI_10, tI_50, tI_60]); omega)
              have h0 : ¬ κ.1 (52 + nn f) 1 = 0 := fun h => by have := e1.mp h; (try simp only [l_int, tL_0, tL_1, tL_2, tL_4, tL_5, tL_6, tL_7, tL_9, tL_10, tL_12, tL_15, tL_30, tL_40, tL_60, tL_99, tL_255, tL_1023, tL_m1, lc_lt, lc_gt, lc_ge, lc_le, lc_eq, l6_le, l6_lt, l6_eq, tI_m133, tI_m226, i_le, i_lt, i_eq, tI_m12, tI_m1, tI_0, tI_1, tI_2, tI_3, tI_10, tI_50, tI_60] at hb1); (try simp only [l_int, tL_0, tL_1, tL_2, tL_4, tL_5, tL_6, tL_7, tL_9, tL_10, tL_12, tL_15, tL_30, tL_40, tL_60, tL_99, tL_255, tL_1023, tL_m1, lc_lt, lc_gt, lc_ge, lc_le, lc_eq, l6_le, l6_lt, l6_eq, tI_m133, tI_m226, i_le, i_lt, i_eq, tI_m12, tI_m1, tI_0, tI_1, tI_2, tI_3, tI_10, tI_50, tI_60] at hb13); (try simp only [l_int, tL_0, tL_1, tL_2, tL_4, tL_5, tL_6, tL_7, tL_9, tL_10, tL_12, tL_15, tL_30, tL_40, tL_60, tL_99, tL_255, tL_1023, tL_m1, lc_lt, lc_gt, lc_ge, lc_le, lc_eq, l6_le, l6_lt, l6_eq, tI_m133, tI_m226, i_le, i_lt, i_eq, tI_m12, tI_m1, tI_0, tI_1, tI_2, tI_3, tI_10, tI_50, tI_60] at c27); (try simp only [l_int, tL_0, tL_1, tL_2, tL_4, tL_5, tL_6, tL_7, tL_9, tL_10, tL_12, tL_15, tL_30, tL_40, tL_60, tL_99, tL_255, tL_1023, tL_m1, lc_lt, lc_gt, lc_ge, lc_le, lc_eq, l6_le, l6_lt, l6_eq, tI_m133, tI_m226, i_le, i_lt, i_eq, tI_m12, tI_m1, tI_0, tI_1, tI_2, tI_3, tI_10, tI_50, tI_60] at c38); (try simp only [l_int, tL_0, tL_1, tL_2, tL_4, tL_5, tL_6, tL_7, tL_9, tL_10, tL_12, tL_15, tL_30, tL_40, tL_60, tL_99, tL_255, tL_1023, tL_m1, lc_lt, lc_gt, lc_ge, lc_le, lc_eq, l6_le, l6_lt, l6_eq, tI_m133, tI_m226, i_le, i_lt, i_eq, tI_m12, tI_m1, tI_0, tI_1, tI_2, tI_3, tI_10, tI_50, tI_60] at c55); (try simp only [l_int, tL_0, tL_1, tL_2, tL_4, tL_5, tL_6, tL_7, tL_9, tL_10, tL_12, tL_15, tL_30, tL_40, tL_60, tL_99, tL_255, tL_1023, tL_m1, lc_lt, lc_gt, lc_ge, lc_le, lc_eq, l6_le, l6_lt, l6_eq, tI_m133, tI_m226, i_le, i_lt, i_eq, tI_m12, tI_m1, tI_0, tI_1, tI_2, tI_3, tI_10, tI_50, tI_60] at c59); (try simp only [l_int, tL_0, tL_1, tL_2, tL_4, tL_5, tL_6, tL_7, tL_9, tL_10, tL_12, tL_15, tL_30, tL_40, tL_60, tL_99, tL_255, tL_1023, tL_m1, lc_lt, lc_gt, lc_ge, lc_le, lc_eq, l6_le, l6_lt, l6_eq, tI_m133, tI_m226, i_le, i_lt, i_eq, tI_m12, tI_m1, tI_0, tI_1, tI_2, tI_3, tI_10, tI_50, tI_60]); omega
              have hxx := nn_int (show 0 ≤ x.toInt by omega)
              have hF : (blF (nn f) (nn (κ.1 (52 + nn f) 4)) i (nn x) 0 n κ) = (0, κ) := by
                obtain ⟨u, hu⟩ : ∃ u, nn x = u + 1 := ⟨nn x - 1, by omega⟩
                rw [hu]
                exact blF_f (fun h => by have h9 := h.2.1.1; rw [show i + nI (3 * 0) = i from Int32.add_zero i] at h9; (try simp only [l_int, tL_0, tL_1, tL_2, tL_4, tL_5, tL_6, tL_7, tL_9, tL_10, tL_12, tL_15, tL_30, tL_40, tL_60, tL_99, tL_255, tL_1023, tL_m1, lc_lt, lc_gt, lc_ge, lc_le, lc_eq, l6_le, l6_lt, l6_eq, tI_m133, tI_m226, i_le, i_lt, i_eq, tI_m12, tI_m1, tI_0, tI_1, tI_2, tI_3, tI_10, tI_50, tI_60] at hb1); (try simp only [l_int, tL_0, tL_1, tL_2, tL_4, tL_5, tL_6, tL_7, tL_9, tL_10, tL_12, tL_15, tL_30, tL_40, tL_60, tL_99, tL_255, tL_1023, tL_m1, lc_lt, lc_gt, lc_ge, lc_le, lc_eq, l6_le, l6_lt, l6_eq, tI_m133, tI_m226, i_le, i_lt, i_eq, tI_m12, tI_m1, tI_0, tI_1, tI_2, tI_3, tI_10, tI_50, tI_60] at hb13); (try simp only [l_int, tL_0, tL_1, tL_2, tL_4, tL_5, tL_6, tL_7, tL_9, tL_10, tL_12, tL_15, tL_30, tL_40, tL_60, tL_99, tL_255, tL_1023, tL_m1, lc_lt, lc_gt, lc_ge, lc_le, lc_eq, l6_le, l6_lt, l6_eq, tI_m133, tI_m226, i_le, i_lt, i_eq, tI_m12, tI_m1, tI_0, tI_1, tI_2, tI_3, tI_10, tI_50, tI_60] at c27); (try simp only [l_int, tL_0, tL_1, tL_2, tL_4, tL_5, tL_6, tL_7, tL_9, tL_10, tL_12, tL_15, tL_30, tL_40, tL_60, tL_99, tL_255, tL_1023, tL_m1, lc_lt, lc_gt, lc_ge, lc_le, lc_eq, l6_le, l6_lt, l6_eq, tI_m133, tI_m226, i_le, i_lt, i_eq, tI_m12, tI_m1, tI_0, tI_1, tI_2, tI_3, tI_10, tI_50, tI_60] at c38); (try simp only [l_int, tL_0, tL_1, tL_2, tL_4, tL_5, tL_6, tL_7, tL_9, tL_10, tL_12, tL_15, tL_30, tL_40, tL_60, tL_99, tL_255, tL_1023, tL_m1, lc_lt, lc_gt, lc_ge, lc_le, lc_eq, l6_le, l6_lt, l6_eq, tI_m133, tI_m226, i_le, i_lt, i_eq, tI_m12, tI_m1, tI_0, tI_1, tI_2, tI_3, tI_10, tI_50, tI_60] at c55); (try simp only [l_int, tL_0, tL_1, tL_2, tL_4, tL_5, tL_6, tL_7, tL_9, tL_10, tL_12, tL_15, tL_30, tL_40, tL_60, tL_99, tL_255, tL_1023, tL_m1, lc_lt, lc_gt, lc_ge, lc_le, lc_eq, l6_le, l6_lt, l6_eq, tI_m133, tI_m226, i_le, i_lt, i_eq, tI_m12, tI_m1, tI_0, tI_1, tI_2, tI_3, tI_10, tI_50, tI_60] at c59); (try simp only [l_int, tL_0, tL_1, tL_2, tL_4, tL_5, tL_6, tL_7, tL_9, tL_10, tL_12, tL_15, tL_30, tL_40, tL_60, tL_99, tL_255, tL_1023, tL_m1, lc_lt, lc_gt, lc_ge, lc_le, lc_eq, l6_le, l6_lt, l6_eq, tI_m133, tI_m226, i_le, i_lt, i_eq, tI_m12, tI_m1, tI_0, tI_1, tI_2, tI_3, tI_10, tI_50, tI_60]); omega)
              exact WS.los [0, 1, 2, 3, 4, 5] rfl (lz_X11_blocks V d _ 0 f i x _ X hx he (by (try dsimp only); rw [if_neg (fun h => h hA), if_neg h0, if_neg (fun h => h hrow), hF]; exact ⟨rfl, hM, FB.rf⟩))
            · skip
              show WS layM V 7 X σ 62 [(4, .int 0), (0, rf V 0), (1, .int f), (2, .int i), (3, .int x)] []
              refine WS.iconst (v := 1) hx dX11_blocks_62 (by decide) ?_
              refine WS.goto (tgt := 67) hx dX11_blocks_63 (by decide) ?_
              refine WS.istore (lo' := [(5, .int 1), (4, .int 0), (0, rf V 0), (1, .int f), (2, .int i), (3, .int x)]) hx dX11_blocks_67 (by decide) rfl ?_
              have hrow := e3.mpr (by (try simp only [l_int, tL_0, tL_1, tL_2, tL_4, tL_5, tL_6, tL_7, tL_9, tL_10, tL_12, tL_15, tL_30, tL_40, tL_60, tL_99, tL_255, tL_1023, tL_m1, lc_lt, lc_gt, lc_ge, lc_le, lc_eq, l6_le, l6_lt, l6_eq, tI_m133, tI_m226, i_le, i_lt, i_eq, tI_m12, tI_m1, tI_0, tI_1, tI_2, tI_3, tI_10, tI_50, tI_60] at hb1); (try simp only [l_int, tL_0, tL_1, tL_2, tL_4, tL_5, tL_6, tL_7, tL_9, tL_10, tL_12, tL_15, tL_30, tL_40, tL_60, tL_99, tL_255, tL_1023, tL_m1, lc_lt, lc_gt, lc_ge, lc_le, lc_eq, l6_le, l6_lt, l6_eq, tI_m133, tI_m226, i_le, i_lt, i_eq, tI_m12, tI_m1, tI_0, tI_1, tI_2, tI_3, tI_10, tI_50, tI_60] at hb13); (try simp only [l_int, tL_0, tL_1, tL_2, tL_4, tL_5, tL_6, tL_7, tL_9, tL_10, tL_12, tL_15, tL_30, tL_40, tL_60, tL_99, tL_255, tL_1023, tL_m1, lc_lt, lc_gt, lc_ge, lc_le, lc_eq, l6_le, l6_lt, l6_eq, tI_m133, tI_m226, i_le, i_lt, i_eq, tI_m12, tI_m1, tI_0, tI_1, tI_2, tI_3, tI_10, tI_50, tI_60] at c27); (try simp only [l_int, tL_0, tL_1, tL_2, tL_4, tL_5, tL_6, tL_7, tL_9, tL_10, tL_12, tL_15, tL_30, tL_40, tL_60, tL_99, tL_255, tL_1023, tL_m1, lc_lt, lc_gt, lc_ge, lc_le, lc_eq, l6_le, l6_lt, l6_eq, tI_m133, tI_m226, i_le, i_lt, i_eq, tI_m12, tI_m1, tI_0, tI_1, tI_2, tI_3, tI_10, tI_50, tI_60] at c38); (try simp only [l_int, tL_0, tL_1, tL_2, tL_4, tL_5, tL_6, tL_7, tL_9, tL_10, tL_12, tL_15, tL_30, tL_40, tL_60, tL_99, tL_255, tL_1023, tL_m1, lc_lt, lc_gt, lc_ge, lc_le, lc_eq, l6_le, l6_lt, l6_eq, tI_m133, tI_m226, i_le, i_lt, i_eq, tI_m12, tI_m1, tI_0, tI_1, tI_2, tI_3, tI_10, tI_50, tI_60] at c55); (try simp only [l_int, tL_0, tL_1, tL_2, tL_4, tL_5, tL_6, tL_7, tL_9, tL_10, tL_12, tL_15, tL_30, tL_40, tL_60, tL_99, tL_255, tL_1023, tL_m1, lc_lt, lc_gt, lc_ge, lc_le, lc_eq, l6_le, l6_lt, l6_eq, tI_m133, tI_m226, i_le, i_lt, i_eq, tI_m12, tI_m1, tI_0, tI_1, tI_2, tI_3, tI_10, tI_50, tI_60] at c59); (try simp only [l_int, tL_0, tL_1, tL_2, tL_4, tL_5, tL_6, tL_7, tL_9, tL_10, tL_12, tL_15, tL_30, tL_40, tL_60, tL_99, tL_255, tL_1023, tL_m1, lc_lt, lc_gt, lc_ge, lc_le, lc_eq, l6_le, l6_lt, l6_eq, tI_m133, tI_m226, i_le, i_lt, i_eq, tI_m12, tI_m1, tI_0, tI_1, tI_2, tI_3, tI_10, tI_50, tI_60]); omega)
              have h0 : ¬ κ.1 (52 + nn f) 1 = 0 := fun h => by have := e1.mp h; (try simp only [l_int, tL_0, tL_1, tL_2, tL_4, tL_5, tL_6, tL_7, tL_9, tL_10, tL_12, tL_15, tL_30, tL_40, tL_60, tL_99, tL_255, tL_1023, tL_m1, lc_lt, lc_gt, lc_ge, lc_le, lc_eq, l6_le, l6_lt, l6_eq, tI_m133, tI_m226, i_le, i_lt, i_eq, tI_m12, tI_m1, tI_0, tI_1, tI_2, tI_3, tI_10, tI_50, tI_60] at hb1); (try simp only [l_int, tL_0, tL_1, tL_2, tL_4, tL_5, tL_6, tL_7, tL_9, tL_10, tL_12, tL_15, tL_30, tL_40, tL_60, tL_99, tL_255, tL_1023, tL_m1, lc_lt, lc_gt, lc_ge, lc_le, lc_eq, l6_le, l6_lt, l6_eq, tI_m133, tI_m226, i_le, i_lt, i_eq, tI_m12, tI_m1, tI_0, tI_1, tI_2, tI_3, tI_10, tI_50, tI_60] at hb13); (try simp only [l_int, tL_0, tL_1, tL_2, tL_4, tL_5, tL_6, tL_7, tL_9, tL_10, tL_12, tL_15, tL_30, tL_40, tL_60, tL_99, tL_255, tL_1023, tL_m1, lc_lt, lc_gt, lc_ge, lc_le, lc_eq, l6_le, l6_lt, l6_eq, tI_m133, tI_m226, i_le, i_lt, i_eq, tI_m12, tI_m1, tI_0, tI_1, tI_2, tI_3, tI_10, tI_50, tI_60] at c27); (try simp only [l_int, tL_0, tL_1, tL_2, tL_4, tL_5, tL_6, tL_7, tL_9, tL_10, tL_12, tL_15, tL_30, tL_40, tL_60, tL_99, tL_255, tL_1023, tL_m1, lc_lt, lc_gt, lc_ge, lc_le, lc_eq, l6_le, l6_lt, l6_eq, tI_m133, tI_m226, i_le, i_lt, i_eq, tI_m12, tI_m1, tI_0, tI_1, tI_2, tI_3, tI_10, tI_50, tI_60] at c38); (try simp only [l_int, tL_0, tL_1, tL_2, tL_4, tL_5, tL_6, tL_7, tL_9, tL_10, tL_12, tL_15, tL_30, tL_40, tL_60, tL_99, tL_255, tL_1023, tL_m1, lc_lt, lc_gt, lc_ge, lc_le, lc_eq, l6_le, l6_lt, l6_eq, tI_m133, tI_m226, i_le, i_lt, i_eq, tI_m12, tI_m1, tI_0, tI_1, tI_2, tI_3, tI_10, tI_50, tI_60] at c55); (try simp only [l_int, tL_0, tL_1, tL_2, tL_4, tL_5, tL_6, tL_7, tL_9, tL_10, tL_12, tL_15, tL_30, tL_40, tL_60, tL_99, tL_255, tL_1023, tL_m1, lc_lt, lc_gt, lc_ge, lc_le, lc_eq, l6_le, l6_lt, l6_eq, tI_m133, tI_m226, i_le, i_lt, i_eq, tI_m12, tI_m1, tI_0, tI_1, tI_2, tI_3, tI_10, tI_50, tI_60] at c59); (try simp only [l_int, tL_0, tL_1, tL_2, tL_4, tL_5, tL_6, tL_7, tL_9, tL_10, tL_12, tL_15, tL_30, tL_40, tL_60, tL_99, tL_255, tL_1023, tL_m1, lc_lt, lc_gt, lc_ge, lc_le, lc_eq, l6_le, l6_lt, l6_eq, tI_m133, tI_m226, i_le, i_lt, i_eq, tI_m12, tI_m1, tI_0, tI_1, tI_2, tI_3, tI_10, tI_50, tI_60]); omega
              have hxx := nn_int (show 0 ≤ x.toInt by omega)
              exact WS.los [0, 1, 2, 3, 4, 5] rfl (lp_X11_blocks V d σ (nn f) (nn (κ.1 (52 + nn f) 4)) (sh_nn hb1) f i x (nI_nn hb1.1).symm (by (try simp only [l_int, tL_0, tL_1, tL_2, tL_4, tL_5, tL_6, tL_7, tL_9, tL_10, tL_12, tL_15, tL_30, tL_40, tL_60, tL_99, tL_255, tL_1023, tL_m1, lc_lt, lc_gt, lc_ge, lc_le, lc_eq, l6_le, l6_lt, l6_eq, tI_m133, tI_m226, i_le, i_lt, i_eq, tI_m12, tI_m1, tI_0, tI_1, tI_2, tI_3, tI_10, tI_50, tI_60] at hb1); (try simp only [l_int, tL_0, tL_1, tL_2, tL_4, tL_5, tL_6, tL_7, tL_9, tL_10, tL_12, tL_15, tL_30, tL_40, tL_60, tL_99, tL_255, tL_1023, tL_m1, lc_lt, lc_gt, lc_ge, lc_le, lc_eq, l6_le, l6_lt, l6_eq, tI_m133, tI_m226, i_le, i_lt, i_eq, tI_m12, tI_m1, tI_0, tI_1, tI_2, tI_3, tI_10, tI_50, tI_60] at hb13); (try simp only [l_int, tL_0, tL_1, tL_2, tL_4, tL_5, tL_6, tL_7, tL_9, tL_10, tL_12, tL_15, tL_30, tL_40, tL_60, tL_99, tL_255, tL_1023, tL_m1, lc_lt, lc_gt, lc_ge, lc_le, lc_eq, l6_le, l6_lt, l6_eq, tI_m133, tI_m226, i_le, i_lt, i_eq, tI_m12, tI_m1, tI_0, tI_1, tI_2, tI_3, tI_10, tI_50, tI_60] at c27); (try simp only [l_int, tL_0, tL_1, tL_2, tL_4, tL_5, tL_6, tL_7, tL_9, tL_10, tL_12, tL_15, tL_30, tL_40, tL_60, tL_99, tL_255, tL_1023, tL_m1, lc_lt, lc_gt, lc_ge, lc_le, lc_eq, l6_le, l6_lt, l6_eq, tI_m133, tI_m226, i_le, i_lt, i_eq, tI_m12, tI_m1, tI_0, tI_1, tI_2, tI_3, tI_10, tI_50, tI_60] at c38); (try simp only [l_int, tL_0, tL_1, tL_2, tL_4, tL_5, tL_6, tL_7, tL_9, tL_10, tL_12, tL_15, tL_30, tL_40, tL_60, tL_99, tL_255, tL_1023, tL_m1, lc_lt, lc_gt, lc_ge, lc_le, lc_eq, l6_le, l6_lt, l6_eq, tI_m133, tI_m226, i_le, i_lt, i_eq, tI_m12, tI_m1, tI_0, tI_1, tI_2, tI_3, tI_10, tI_50, tI_60] at c55); (try simp only [l_int, tL_0, tL_1, tL_2, tL_4, tL_5, tL_6, tL_7, tL_9, tL_10, tL_12, tL_15, tL_30, tL_40, tL_60, tL_99, tL_255, tL_1023, tL_m1, lc_lt, lc_gt, lc_ge, lc_le, lc_eq, l6_le, l6_lt, l6_eq, tI_m133, tI_m226, i_le, i_lt, i_eq, tI_m12, tI_m1, tI_0, tI_1, tI_2, tI_3, tI_10, tI_50, tI_60] at c59); (try simp only [l_int, tL_0, tL_1, tL_2, tL_4, tL_5, tL_6, tL_7, tL_9, tL_10, tL_12, tL_15, tL_30, tL_40, tL_60, tL_99, tL_255, tL_1023, tL_m1, lc_lt, lc_gt, lc_ge, lc_le, lc_eq, l6_le, l6_lt, l6_eq, tI_m133, tI_m226, i_le, i_lt, i_eq, tI_m12, tI_m1, tI_0, tI_1, tI_2, tI_3, tI_10, tI_50, tI_60]); omega) (nn x) n (by omega) (nI_nn (by omega)).symm (blF (nn f) (nn (κ.1 (52 + nn f) 4)) i (nn x) 0 n κ) _ X hx he (fun τ h1 h2 => by (try dsimp only); rw [if_neg (fun h => h hA), if_neg h0, if_neg (fun h => h hrow)]; exact ⟨rfl, h1, h2⟩) (nn x) 0 κ σ (by omega) hM FB.rf (hS.rb (sh_nn hb1) hrow) rfl)
        · skip
          show WS layM V 7 X σ 41 [(0, rf V 0), (1, .int f), (2, .int i), (3, .int x)] []
          refine WS.bipush (v := (-12)) hx dX11_blocks_41 (by decide) ?_
          exact WS.iret hx he dX11_blocks_43 ⟨_, rfl, by (try dsimp only); rw [if_neg (fun h => h hA), if_neg (fun h => by have := e1.mp h; (try simp only [l_int, tL_0, tL_1, tL_2, tL_4, tL_5, tL_6, tL_7, tL_9, tL_10, tL_12, tL_15, tL_30, tL_40, tL_60, tL_99, tL_255, tL_1023, tL_m1, lc_lt, lc_gt, lc_ge, lc_le, lc_eq, l6_le, l6_lt, l6_eq, tI_m133, tI_m226, i_le, i_lt, i_eq, tI_m12, tI_m1, tI_0, tI_1, tI_2, tI_3, tI_10, tI_50, tI_60] at hb1); (try simp only [l_int, tL_0, tL_1, tL_2, tL_4, tL_5, tL_6, tL_7, tL_9, tL_10, tL_12, tL_15, tL_30, tL_40, tL_60, tL_99, tL_255, tL_1023, tL_m1, lc_lt, lc_gt, lc_ge, lc_le, lc_eq, l6_le, l6_lt, l6_eq, tI_m133, tI_m226, i_le, i_lt, i_eq, tI_m12, tI_m1, tI_0, tI_1, tI_2, tI_3, tI_10, tI_50, tI_60] at hb13); (try simp only [l_int, tL_0, tL_1, tL_2, tL_4, tL_5, tL_6, tL_7, tL_9, tL_10, tL_12, tL_15, tL_30, tL_40, tL_60, tL_99, tL_255, tL_1023, tL_m1, lc_lt, lc_gt, lc_ge, lc_le, lc_eq, l6_le, l6_lt, l6_eq, tI_m133, tI_m226, i_le, i_lt, i_eq, tI_m12, tI_m1, tI_0, tI_1, tI_2, tI_3, tI_10, tI_50, tI_60] at c27); (try simp only [l_int, tL_0, tL_1, tL_2, tL_4, tL_5, tL_6, tL_7, tL_9, tL_10, tL_12, tL_15, tL_30, tL_40, tL_60, tL_99, tL_255, tL_1023, tL_m1, lc_lt, lc_gt, lc_ge, lc_le, lc_eq, l6_le, l6_lt, l6_eq, tI_m133, tI_m226, i_le, i_lt, i_eq, tI_m12, tI_m1, tI_0, tI_1, tI_2, tI_3, tI_10, tI_50, tI_60] at c38); (try simp only [l_int, tL_0, tL_1, tL_2, tL_4, tL_5, tL_6, tL_7, tL_9, tL_10, tL_12, tL_15, tL_30, tL_40, tL_60, tL_99, tL_255, tL_1023, tL_m1, lc_lt, lc_gt, lc_ge, lc_le, lc_eq, l6_le, l6_lt, l6_eq, tI_m133, tI_m226, i_le, i_lt, i_eq, tI_m12, tI_m1, tI_0, tI_1, tI_2, tI_3, tI_10, tI_50, tI_60]); omega), if_pos (fun h => by have := e3.mp h; (try simp only [l_int, tL_0, tL_1, tL_2, tL_4, tL_5, tL_6, tL_7, tL_9, tL_10, tL_12, tL_15, tL_30, tL_40, tL_60, tL_99, tL_255, tL_1023, tL_m1, lc_lt, lc_gt, lc_ge, lc_le, lc_eq, l6_le, l6_lt, l6_eq, tI_m133, tI_m226, i_le, i_lt, i_eq, tI_m12, tI_m1, tI_0, tI_1, tI_2, tI_3, tI_10, tI_50, tI_60] at hb1); (try simp only [l_int, tL_0, tL_1, tL_2, tL_4, tL_5, tL_6, tL_7, tL_9, tL_10, tL_12, tL_15, tL_30, tL_40, tL_60, tL_99, tL_255, tL_1023, tL_m1, lc_lt, lc_gt, lc_ge, lc_le, lc_eq, l6_le, l6_lt, l6_eq, tI_m133, tI_m226, i_le, i_lt, i_eq, tI_m12, tI_m1, tI_0, tI_1, tI_2, tI_3, tI_10, tI_50, tI_60] at hb13); (try simp only [l_int, tL_0, tL_1, tL_2, tL_4, tL_5, tL_6, tL_7, tL_9, tL_10, tL_12, tL_15, tL_30, tL_40, tL_60, tL_99, tL_255, tL_1023, tL_m1, lc_lt, lc_gt, lc_ge, lc_le, lc_eq, l6_le, l6_lt, l6_eq, tI_m133, tI_m226, i_le, i_lt, i_eq, tI_m12, tI_m1, tI_0, tI_1, tI_2, tI_3, tI_10, tI_50, tI_60] at c27); (try simp only [l_int, tL_0, tL_1, tL_2, tL_4, tL_5, tL_6, tL_7, tL_9, tL_10, tL_12, tL_15, tL_30, tL_40, tL_60, tL_99, tL_255, tL_1023, tL_m1, lc_lt, lc_gt, lc_ge, lc_le, lc_eq, l6_le, l6_lt, l6_eq, tI_m133, tI_m226, i_le, i_lt, i_eq, tI_m12, tI_m1, tI_0, tI_1, tI_2, tI_3, tI_10, tI_50, tI_60] at c38); (try simp only [l_int, tL_0, tL_1, tL_2, tL_4, tL_5, tL_6, tL_7, tL_9, tL_10, tL_12, tL_15, tL_30, tL_40, tL_60, tL_99, tL_255, tL_1023, tL_m1, lc_lt, lc_gt, lc_ge, lc_le, lc_eq, l6_le, l6_lt, l6_eq, tI_m133, tI_m226, i_le, i_lt, i_eq, tI_m12, tI_m1, tI_0, tI_1, tI_2, tI_3, tI_10, tI_50, tI_60]); omega)]; exact ⟨rfl, rfl⟩⟩
    · skip
      show WS layM V 7 X σ 16 [(0, rf V 0), (1, .int f), (2, .int i), (3, .int x)] [.int 0]
      refine WS.if_ne (tgt := 21) hx dX11_blocks_16 (by decide) (fun h => absurd (by decide) h) (fun _ => ?_)
      refine WS.iconst (v := (-1)) hx dX11_blocks_19 (by decide) ?_
      exact WS.iret hx he dX11_blocks_20 ⟨_, rfl, by (try dsimp only); rw [if_pos (fun h => by (try simp only [l_int, tL_0, tL_1, tL_2, tL_4, tL_5, tL_6, tL_7, tL_9, tL_10, tL_12, tL_15, tL_30, tL_40, tL_60, tL_99, tL_255, tL_1023, tL_m1, lc_lt, lc_gt, lc_ge, lc_le, lc_eq, l6_le, l6_lt, l6_eq, tI_m133, tI_m226, i_le, i_lt, i_eq, tI_m12, tI_m1, tI_0, tI_1, tI_2, tI_3, tI_10, tI_50, tI_60] at hb1); (try simp only [l_int, tL_0, tL_1, tL_2, tL_4, tL_5, tL_6, tL_7, tL_9, tL_10, tL_12, tL_15, tL_30, tL_40, tL_60, tL_99, tL_255, tL_1023, tL_m1, lc_lt, lc_gt, lc_ge, lc_le, lc_eq, l6_le, l6_lt, l6_eq, tI_m133, tI_m226, i_le, i_lt, i_eq, tI_m12, tI_m1, tI_0, tI_1, tI_2, tI_3, tI_10, tI_50, tI_60] at hb13); (try simp only [l_int, tL_0, tL_1, tL_2, tL_4, tL_5, tL_6, tL_7, tL_9, tL_10, tL_12, tL_15, tL_30, tL_40, tL_60, tL_99, tL_255, tL_1023, tL_m1, lc_lt, lc_gt, lc_ge, lc_le, lc_eq, l6_le, l6_lt, l6_eq, tI_m133, tI_m226, i_le, i_lt, i_eq, tI_m12, tI_m1, tI_0, tI_1, tI_2, tI_3, tI_10, tI_50, tI_60]); omega)]; exact ⟨rfl, rfl⟩⟩
  · skip
    show WS layM V 7 X σ 4 [(0, rf V 0), (1, .int f), (2, .int i), (3, .int x)] [.int 0]
    refine WS.if_eq (tgt := 19) hx dX11_blocks_4 (by decide) (fun _ => ?_) (fun h => absurd (by decide) h)
    refine WS.iconst (v := (-1)) hx dX11_blocks_19 (by decide) ?_
    exact WS.iret hx he dX11_blocks_20 ⟨_, rfl, by (try dsimp only); rw [if_pos (fun h => by (try simp only [l_int, tL_0, tL_1, tL_2, tL_4, tL_5, tL_6, tL_7, tL_9, tL_10, tL_12, tL_15, tL_30, tL_40, tL_60, tL_99, tL_255, tL_1023, tL_m1, lc_lt, lc_gt, lc_ge, lc_le, lc_eq, l6_le, l6_lt, l6_eq, tI_m133, tI_m226, i_le, i_lt, i_eq, tI_m12, tI_m1, tI_0, tI_1, tI_2, tI_3, tI_10, tI_50, tI_60] at hb1); (try simp only [l_int, tL_0, tL_1, tL_2, tL_4, tL_5, tL_6, tL_7, tL_9, tL_10, tL_12, tL_15, tL_30, tL_40, tL_60, tL_99, tL_255, tL_1023, tL_m1, lc_lt, lc_gt, lc_ge, lc_le, lc_eq, l6_le, l6_lt, l6_eq, tI_m133, tI_m226, i_le, i_lt, i_eq, tI_m12, tI_m1, tI_0, tI_1, tI_2, tI_3, tI_10, tI_50, tI_60]); omega)]; exact ⟨rfl, rfl⟩⟩

def agM (g : Ag) : Ms := (g.1, g.2.1, g.2.2.1, g.2.2.2.1)
theorem zD_n {z : Int32} {n : Nat} (h0 : 0 < n) (hn : n ≤ 10) : (ush z 8) - (ush z 8) / nI n * nI n = nI (zD z n) := rem_nn (ush_nn (x := z) (k := 8) (s := 8) (by decide) (by decide) (by decide)).1 h0 (by omega)
theorem zZ_n {z : Int32} : (ush z 16) - (ush z 16) / 12 * 12 = nI (nn (ush z 16) % 12) := by
  rw [show (12 : Int32) = nI 12 from rfl]
  exact rem_nn (d := 12) (ush_nn (x := z) (k := 16) (s := 16) (by decide) (by decide) (by decide)).1 (by decide) (by decide)
def ownV (b : Int32) (x : Ax) : Int32 := if 0 ≤ b.toInt then x.2.2 (nn b) else 0
set_option maxHeartbeats 1000000 in
theorem tc_X11_drawn (V : Vt) (d : Nat) (τ : Sg) (κ : Sg) (n : Nat) (hM : MR κ τ n) (cs : Nat → Int32) (T : Nat) (lw : Lw) (hL : ML τ cs T lw) (sd x b : Int32) (i : Nat) (D : Ag) (hT : MT τ n (agM D)) (e9 ag own : Int32) (X : Xt) (hx : Ok V RX11 cX11_drawn 10 (d + 6) X) (hC : ∀ τ', ME τ τ' → MT τ' n (agM (agT (wdM κ n lw) D)) → WS layM V 10 X τ' 98 [(8, .int (nI (i + 1))), (7, .int ag), (6, .int own), (5, .int D.2.2.2.2.2), (4, .int D.2.2.2.2.1), (0, rf V 0), (1, .int sd), (2, .int x), (3, .int b)] []) : WS layM V 10 X τ 206 [(9, .int e9), (8, .int (nI i)), (7, .int ag), (6, .int own), (5, .int D.2.2.2.2.2), (4, .int D.2.2.2.2.1), (0, rf V 0), (1, .int sd), (2, .int x), (3, .int b)] [] := by
  refine WS.aload_n hx dX11_drawn_206 rfl 6 rfl ?_
  refine WS.callVv (st := []) [] hx (c_X11_goesCentury V d τ κ n hM (agM D) hT cs T lw hL) okX11_goesCentury lm11_234 rfl rfl rfl rfl (Nat.le_of_ble_eq_true rfl) dX11_drawn_207 (fun σ2 h3 => ?_)
  obtain ⟨me207, mt207⟩ := h3
  show WS layM V 10 X σ2 210 [(9, .int e9), (8, .int (nI i)), (7, .int ag), (6, .int own), (5, .int D.2.2.2.2.2), (4, .int D.2.2.2.2.1), (0, rf V 0), (1, .int sd), (2, .int x), (3, .int b)] []
  refine WS.iinc (v := nI (i + 1)) (lo' := [(8, .int (nI (i + 1))), (9, .int e9), (7, .int ag), (6, .int own), (5, .int D.2.2.2.2.2), (4, .int D.2.2.2.2.1), (0, rf V 0), (1, .int sd), (2, .int x), (3, .int b)]) hx dX11_drawn_210 1 rfl (nI_1 i) (by decide) rfl ?_
  refine WS.goto (tgt := 98) hx dX11_drawn_213 (by decide) ?_
  exact WS.los [0, 2, 3, 4, 5, 6, 7, 8, 9] rfl (hC _ me207 mt207)
set_option maxHeartbeats 1000000 in
theorem tn_X11_drawn (V : Vt) (d : Nat) (τ : Sg) (κ : Sg) (n : Nat) (hM : MR κ τ n) (cs : Nat → Int32) (T : Nat) (lw : Lw) (hL : ML τ cs T lw) (zeal m N : Nat) (hz : zeal ≤ 12) (hm9 : m ≤ 60) (hN9 : N ≤ 30) (sd x b : Int32) (hxN : x / 10000 = nI N) (hxm : (x / 100) - (x / 100) / 100 * 100 = nI m) (hxz : x - x / 100 * 100 = nI zeal) (i : Nat) (hi : i < m) (g : Ag) (hT : MT τ n (agM g)) (hg : g.2.2.2.1 = cntB g.2.1 n) (z : Int32) (hz0 : nz g.2.2.2.2.1 = z) (ag own : Int32) (X : Xt) (hx : Ok V RX11 cX11_drawn 10 (d + 6) X) (hC : ∀ τ', ME τ τ' → MT τ' n (agM (agS (wdM κ n lw) n zeal g)) → (agS (wdM κ n lw) n zeal g).2.2.2.1 = cntB (agS (wdM κ n lw) n zeal g).2.1 n → WS layM V 10 X τ' 98 [(8, .int (nI (i + 1))), (7, .int ag), (6, .int own), (5, .int ((agS (wdM κ n lw) n zeal g).2.2.2.2.2)), (4, .int ((agS (wdM κ n lw) n zeal g).2.2.2.2.1)), (0, rf V 0), (1, .int sd), (2, .int x), (3, .int b)] []) : WS layM V 10 X τ 98 [(8, .int (nI i)), (7, .int ag), (6, .int own), (5, .int g.2.2.2.2.2), (4, .int g.2.2.2.2.1), (0, rf V 0), (1, .int sd), (2, .int x), (3, .int b)] [] := by
  have hn := hM.n
  have hS : agS (wdM κ n lw) n zeal g = agT (wdM κ n lw) (agD (wdM κ n lw) n zeal (g.1, g.2.1, g.2.2.1, g.2.2.2.1, z, g.2.2.2.2.2)) := by unfold agS; rw [hz0]
  have hnI : (nI n).toInt = (n : Int) := nI_c (by omega)
  have hmI : (nI m).toInt = (m : Int) := nI_c (by omega)
  have hiI : (nI i).toInt = (i : Int) := nI_c (by omega)
  have hzI : (nI zeal).toInt = (zeal : Int) := nI_c (by omega)
  have h12 : (nI (nn (ush (z) 16) % 12)).toInt = ((nn (ush (z) 16) % 12 : Nat) : Int) := nI_c (by omega)
  refine WS.iload hx dX11_drawn_98 0 rfl ?_
  refine WS.iload_n hx dX11_drawn_100 rfl 7 rfl ?_
  refine WS.bipush (v := 100) hx dX11_drawn_101 (by decide) ?_
  refine WS.idiv hx dX11_drawn_103 (by decide) ?_
  refine WS.bipush (v := 100) hx dX11_drawn_104 (by decide) ?_
  refine WS.irem hx dX11_drawn_106 (by decide) ?_
  refine WS.as rfl rfl (congrArg (fun z => Value.int z :: _) (show (x / 100) - (x / 100) / 100 * 100 = nI m from hxm)) ?_
  skip
  refine WS.icmp_ge (tgt := 216) hx dX11_drawn_107 (by decide) (fun c107 => by exfalso; (try simp only [l_int, tL_0, tL_1, tL_2, tL_4, tL_5, tL_6, tL_7, tL_9, tL_10, tL_12, tL_15, tL_30, tL_40, tL_60, tL_99, tL_255, tL_1023, tL_m1, lc_lt, lc_gt, lc_ge, lc_le, lc_eq, l6_le, l6_lt, l6_eq, tI_m133, tI_m226, i_le, i_lt, i_eq, tI_m1, tI_0, tI_1, tI_8, tI_12, tI_16, tI_100, tI_10000] at c107); (try simp only [l_int, tL_0, tL_1, tL_2, tL_4, tL_5, tL_6, tL_7, tL_9, tL_10, tL_12, tL_15, tL_30, tL_40, tL_60, tL_99, tL_255, tL_1023, tL_m1, lc_lt, lc_gt, lc_ge, lc_le, lc_eq, l6_le, l6_lt, l6_eq, tI_m133, tI_m226, i_le, i_lt, i_eq, tI_m1, tI_0, tI_1, tI_8, tI_12, tI_16, tI_100, tI_10000]); omega) (fun c107 => ?_)
  refine WS.iload hx dX11_drawn_110 4 rfl ?_
  refine WS.ldc_w (v := 1103515245) hx lc11_309 dX11_drawn_112 ?_
  refine WS.imul hx dX11_drawn_115 ?_
  refine WS.sipush (v := 12345) hx dX11_drawn_116 (by decide) ?_
  refine WS.iadd hx dX11_drawn_119 ?_
  refine WS.as rfl rfl (congrArg (fun z => Value.int z :: _) (show (g.2.2.2.2.1 * 1103515245) + 12345 = z from hz0)) ?_
  skip
  refine WS.istore (lo' := [(4, .int z), (8, .int (nI i)), (7, .int ag), (6, .int own), (5, .int g.2.2.2.2.2), (0, rf V 0), (1, .int sd), (2, .int x), (3, .int b)]) hx dX11_drawn_120 (by decide) rfl ?_
  refine WS.aload_n hx dX11_drawn_122 rfl 5 rfl ?_
  refine WS.getI hx okX11 lf11_97 rfl rfl dX11_drawn_123 ?_
  refine WS.as rfl rfl (congrArg (fun z => Value.int z :: _) (show τ.1 0 6 = nI n from hM.s)) ?_
  skip
  refine WS.if_ne (tgt := 133) hx dX11_drawn_126 (by decide) (fun c126 => ?_) (fun c126 => ?_)
  · skip
    show WS layM V 10 X τ 133 [(4, .int z), (8, .int (nI i)), (7, .int ag), (6, .int own), (5, .int g.2.2.2.2.2), (0, rf V 0), (1, .int sd), (2, .int x), (3, .int b)] []
    have hn0 : 0 < n := by (try simp only [l_int, tL_0, tL_1, tL_2, tL_4, tL_5, tL_6, tL_7, tL_9, tL_10, tL_12, tL_15, tL_30, tL_40, tL_60, tL_99, tL_255, tL_1023, tL_m1, lc_lt, lc_gt, lc_ge, lc_le, lc_eq, l6_le, l6_lt, l6_eq, tI_m133, tI_m226, i_le, i_lt, i_eq, tI_m1, tI_0, tI_1, tI_8, tI_12, tI_16, tI_100, tI_10000] at c107); (try simp only [l_int, tL_0, tL_1, tL_2, tL_4, tL_5, tL_6, tL_7, tL_9, tL_10, tL_12, tL_15, tL_30, tL_40, tL_60, tL_99, tL_255, tL_1023, tL_m1, lc_lt, lc_gt, lc_ge, lc_le, lc_eq, l6_le, l6_lt, l6_eq, tI_m133, tI_m226, i_le, i_lt, i_eq, tI_m1, tI_0, tI_1, tI_8, tI_12, tI_16, tI_100, tI_10000] at c126); (try simp only [l_int, tL_0, tL_1, tL_2, tL_4, tL_5, tL_6, tL_7, tL_9, tL_10, tL_12, tL_15, tL_30, tL_40, tL_60, tL_99, tL_255, tL_1023, tL_m1, lc_lt, lc_gt, lc_ge, lc_le, lc_eq, l6_le, l6_lt, l6_eq, tI_m133, tI_m226, i_le, i_lt, i_eq, tI_m1, tI_0, tI_1, tI_8, tI_12, tI_16, tI_100, tI_10000]); omega
    have hzd : zD (z) n < n := Nat.mod_lt _ hn0
    refine WS.iload hx dX11_drawn_133 0 rfl ?_
    refine WS.bipush (v := 8) hx dX11_drawn_135 (by decide) ?_
    refine WS.iushr hx dX11_drawn_137 ?_
    refine WS.as rfl rfl (congrArg (fun z => Value.int z :: _) (show (Int32.toUInt32 z >>> (Int32.toUInt32 8 &&& Int32.toUInt32 31)).toInt32 = ush (z) 8 from rfl)) ?_
    skip
    refine WS.aload_n hx dX11_drawn_138 rfl 5 rfl ?_
    refine WS.getI hx okX11 lf11_97 rfl rfl dX11_drawn_139 ?_
    refine WS.as rfl rfl (congrArg (fun z => Value.int z :: _) (show τ.1 0 6 = nI n from hM.s)) ?_
    skip
    refine WS.irem hx dX11_drawn_142 (fun h => by rw [i_eq, tI_0] at h; omega) ?_
    refine WS.as rfl rfl (congrArg (fun z => Value.int z :: _) (show (ush (z) 8) - (ush (z) 8) / (nI n) * (nI n) = nI (zD (z) n) from zD_n hn0 hn)) ?_
    skip
    refine WS.istore (lo' := [(9, .int (nI (zD (z) n))), (4, .int z), (8, .int (nI i)), (7, .int ag), (6, .int own), (5, .int g.2.2.2.2.2), (0, rf V 0), (1, .int sd), (2, .int x), (3, .int b)]) hx dX11_drawn_143 (by decide) rfl ?_
    refine WS.aload_n hx dX11_drawn_145 rfl 6 rfl ?_
    refine WS.getI hx okX11 lf11_97 rfl rfl dX11_drawn_146 ?_
    refine WS.as rfl rfl (congrArg (fun z => Value.int z :: _) (show τ.1 0 6 = nI n from hM.s)) ?_
    skip
    refine WS.if_le (tgt := 206) hx dX11_drawn_149 (by decide) (fun c149 => by exfalso; (try simp only [l_int, tL_0, tL_1, tL_2, tL_4, tL_5, tL_6, tL_7, tL_9, tL_10, tL_12, tL_15, tL_30, tL_40, tL_60, tL_99, tL_255, tL_1023, tL_m1, lc_lt, lc_gt, lc_ge, lc_le, lc_eq, l6_le, l6_lt, l6_eq, tI_m133, tI_m226, i_le, i_lt, i_eq, tI_m1, tI_0, tI_1, tI_8, tI_12, tI_16, tI_100, tI_10000] at c107); (try simp only [l_int, tL_0, tL_1, tL_2, tL_4, tL_5, tL_6, tL_7, tL_9, tL_10, tL_12, tL_15, tL_30, tL_40, tL_60, tL_99, tL_255, tL_1023, tL_m1, lc_lt, lc_gt, lc_ge, lc_le, lc_eq, l6_le, l6_lt, l6_eq, tI_m133, tI_m226, i_le, i_lt, i_eq, tI_m1, tI_0, tI_1, tI_8, tI_12, tI_16, tI_100, tI_10000] at c126); (try simp only [l_int, tL_0, tL_1, tL_2, tL_4, tL_5, tL_6, tL_7, tL_9, tL_10, tL_12, tL_15, tL_30, tL_40, tL_60, tL_99, tL_255, tL_1023, tL_m1, lc_lt, lc_gt, lc_ge, lc_le, lc_eq, l6_le, l6_lt, l6_eq, tI_m133, tI_m226, i_le, i_lt, i_eq, tI_m1, tI_0, tI_1, tI_8, tI_12, tI_16, tI_100, tI_10000] at c149); (try simp only [l_int, tL_0, tL_1, tL_2, tL_4, tL_5, tL_6, tL_7, tL_9, tL_10, tL_12, tL_15, tL_30, tL_40, tL_60, tL_99, tL_255, tL_1023, tL_m1, lc_lt, lc_gt, lc_ge, lc_le, lc_eq, l6_le, l6_lt, l6_eq, tI_m133, tI_m226, i_le, i_lt, i_eq, tI_m1, tI_0, tI_1, tI_8, tI_12, tI_16, tI_100, tI_10000]); omega) (fun c149 => ?_)
    refine WS.aload_n hx dX11_drawn_152 rfl 6 rfl ?_
    refine WS.getR hx okX11 lf11_52 rfl rfl dX11_drawn_153 ?_
    refine WS.iload hx dX11_drawn_156 0 rfl ?_
    refine WS.zald hx rfl (vp_in_nI (by omega) (by decide)) dX11_drawn_158 ?_
    refine WS.as rfl rfl (congrArg (fun z => Value.int z :: _) (show τ.1 15 (nn (nI (zD (z) n))) = bI (g.2.1 (zD (z) n)) from by rw [nn_nI (by omega)]; exact (hT.1 _ hzd).2.2)) ?_
    skip
    refine WS.if_ne (tgt := 206) hx dX11_drawn_159 (by decide) (fun c159 => ?_) (fun c159 => ?_)
    · skip
      show WS layM V 10 X τ 206 [(9, .int (nI (zD (z) n))), (4, .int z), (8, .int (nI i)), (7, .int ag), (6, .int own), (5, .int g.2.2.2.2.2), (0, rf V 0), (1, .int sd), (2, .int x), (3, .int b)] []
      have hD : agD (wdM κ n lw) n zeal (g.1, g.2.1, g.2.2.1, g.2.2.2.1, z, g.2.2.2.2.2) = (g.1, g.2.1, g.2.2.1, g.2.2.2.1, z, g.2.2.2.2.2) := if_neg (fun h => c159 (bI_0.mpr h.2.2))
      exact WS.los [0, 2, 3, 4, 5, 1, 6, 7, 8, 9] rfl (tc_X11_drawn V d _ κ n hM cs T lw hL sd x b i (g.1, g.2.1, g.2.2.1, g.2.2.2.1, z, g.2.2.2.2.2) hT _ ag own X hx (fun τ9 h1 h2 => by
          have h3 := hC τ9 h1 (by rw [hS, hD]; exact h2) (by rw [hS, hD]; exact hg)
          rw [hS, hD] at h3
          exact h3))
    · skip
      show WS layM V 10 X τ 162 [(9, .int (nI (zD (z) n))), (4, .int z), (8, .int (nI i)), (7, .int ag), (6, .int own), (5, .int g.2.2.2.2.2), (0, rf V 0), (1, .int sd), (2, .int x), (3, .int b)] []
      have hee : ME τ (stI (stI τ 15 (nn (nI (zD (z) n))) 1) 0 26 (nI (g.2.2.2.1 + 1))) := (ME.st (by decide)).tr (ME.s0 (by decide))
      refine WS.iload hx dX11_drawn_162 1 rfl ?_
      refine WS.bipush (v := 16) hx dX11_drawn_164 (by decide) ?_
      refine WS.iushr hx dX11_drawn_166 ?_
      refine WS.as rfl rfl (congrArg (fun z => Value.int z :: _) (show (Int32.toUInt32 z >>> (Int32.toUInt32 16 &&& Int32.toUInt32 31)).toInt32 = ush (z) 16 from rfl)) ?_
      skip
      refine WS.bipush (v := 12) hx dX11_drawn_167 (by decide) ?_
      refine WS.irem hx dX11_drawn_169 (by decide) ?_
      refine WS.as rfl rfl (congrArg (fun z => Value.int z :: _) (show (ush (z) 16) - (ush (z) 16) / 12 * 12 = nI (nn (ush (z) 16) % 12) from zZ_n)) ?_
      skip
      refine WS.iload_n hx dX11_drawn_170 rfl 8 rfl ?_
      refine WS.bipush (v := 100) hx dX11_drawn_171 (by decide) ?_
      refine WS.irem hx dX11_drawn_173 (by decide) ?_
      refine WS.as rfl rfl (congrArg (fun z => Value.int z :: _) (show x - x / 100 * 100 = nI zeal from hxz)) ?_
      skip
      refine WS.icmp_ge (tgt := 206) hx dX11_drawn_174 (by decide) (fun c174 => ?_) (fun c174 => ?_)
      · skip
        show WS layM V 10 X τ 206 [(9, .int (nI (zD (z) n))), (4, .int z), (8, .int (nI i)), (7, .int ag), (6, .int own), (5, .int g.2.2.2.2.2), (0, rf V 0), (1, .int sd), (2, .int x), (3, .int b)] []
        have hD : agD (wdM κ n lw) n zeal (g.1, g.2.1, g.2.2.1, g.2.2.2.1, z, g.2.2.2.2.2) = (g.1, g.2.1, g.2.2.1, g.2.2.2.1, z, g.2.2.2.2.2) := if_neg (fun h => absurd h.2.1 (by (try simp only [l_int, tL_0, tL_1, tL_2, tL_4, tL_5, tL_6, tL_7, tL_9, tL_10, tL_12, tL_15, tL_30, tL_40, tL_60, tL_99, tL_255, tL_1023, tL_m1, lc_lt, lc_gt, lc_ge, lc_le, lc_eq, l6_le, l6_lt, l6_eq, tI_m133, tI_m226, i_le, i_lt, i_eq, tI_m1, tI_0, tI_1, tI_8, tI_12, tI_16, tI_100, tI_10000] at c107); (try simp only [l_int, tL_0, tL_1, tL_2, tL_4, tL_5, tL_6, tL_7, tL_9, tL_10, tL_12, tL_15, tL_30, tL_40, tL_60, tL_99, tL_255, tL_1023, tL_m1, lc_lt, lc_gt, lc_ge, lc_le, lc_eq, l6_le, l6_lt, l6_eq, tI_m133, tI_m226, i_le, i_lt, i_eq, tI_m1, tI_0, tI_1, tI_8, tI_12, tI_16, tI_100, tI_10000] at c126); (try simp only [l_int, tL_0, tL_1, tL_2, tL_4, tL_5, tL_6, tL_7, tL_9, tL_10, tL_12, tL_15, tL_30, tL_40, tL_60, tL_99, tL_255, tL_1023, tL_m1, lc_lt, lc_gt, lc_ge, lc_le, lc_eq, l6_le, l6_lt, l6_eq, tI_m133, tI_m226, i_le, i_lt, i_eq, tI_m1, tI_0, tI_1, tI_8, tI_12, tI_16, tI_100, tI_10000] at c149); (try simp only [l_int, tL_0, tL_1, tL_2, tL_4, tL_5, tL_6, tL_7, tL_9, tL_10, tL_12, tL_15, tL_30, tL_40, tL_60, tL_99, tL_255, tL_1023, tL_m1, lc_lt, lc_gt, lc_ge, lc_le, lc_eq, l6_le, l6_lt, l6_eq, tI_m133, tI_m226, i_le, i_lt, i_eq, tI_m1, tI_0, tI_1, tI_8, tI_12, tI_16, tI_100, tI_10000] at c159); (try simp only [l_int, tL_0, tL_1, tL_2, tL_4, tL_5, tL_6, tL_7, tL_9, tL_10, tL_12, tL_15, tL_30, tL_40, tL_60, tL_99, tL_255, tL_1023, tL_m1, lc_lt, lc_gt, lc_ge, lc_le, lc_eq, l6_le, l6_lt, l6_eq, tI_m133, tI_m226, i_le, i_lt, i_eq, tI_m1, tI_0, tI_1, tI_8, tI_12, tI_16, tI_100, tI_10000] at c174); (try simp only [l_int, tL_0, tL_1, tL_2, tL_4, tL_5, tL_6, tL_7, tL_9, tL_10, tL_12, tL_15, tL_30, tL_40, tL_60, tL_99, tL_255, tL_1023, tL_m1, lc_lt, lc_gt, lc_ge, lc_le, lc_eq, l6_le, l6_lt, l6_eq, tI_m133, tI_m226, i_le, i_lt, i_eq, tI_m1, tI_0, tI_1, tI_8, tI_12, tI_16, tI_100, tI_10000]); omega))
        exact WS.los [0, 2, 3, 4, 5, 1, 6, 7, 8, 9] rfl (tc_X11_drawn V d _ κ n hM cs T lw hL sd x b i (g.1, g.2.1, g.2.2.1, g.2.2.2.1, z, g.2.2.2.2.2) hT _ ag own X hx (fun τ9 h1 h2 => by
            have h3 := hC τ9 h1 (by rw [hS, hD]; exact h2) (by rw [hS, hD]; exact hg)
            rw [hS, hD] at h3
            exact h3))
      · skip
        show WS layM V 10 X τ 177 [(9, .int (nI (zD (z) n))), (4, .int z), (8, .int (nI i)), (7, .int ag), (6, .int own), (5, .int g.2.2.2.2.2), (0, rf V 0), (1, .int sd), (2, .int x), (3, .int b)] []
        refine WS.iload hx dX11_drawn_177 5 rfl ?_
        refine WS.aload_n hx dX11_drawn_179 rfl 6 rfl ?_
        refine WS.iload hx dX11_drawn_180 0 rfl ?_
        refine WS.callVi (st := [.int g.2.2.2.2.2]) [.int (nI (zD (z) n))] hx (c_X11_wordOf V (d + 5) τ κ n hM (agM g) hT _ hzd) okX11_wordOf lm11_219 rfl rfl rfl rfl (Nat.le_of_ble_eq_true rfl) dX11_drawn_182 (fun v1 σ2 h3 => ?_)
        obtain ⟨rfl, rfl⟩ := h3
        show WS layM V 10 X τ 185 [(9, .int (nI (zD (z) n))), (4, .int z), (8, .int (nI i)), (7, .int ag), (6, .int own), (5, .int g.2.2.2.2.2), (0, rf V 0), (1, .int sd), (2, .int x), (3, .int b)] [.int (κ.1 17 ((agM g).1 (zD (z) n))), .int g.2.2.2.2.2]
        refine WS.iadd hx dX11_drawn_185 ?_
        refine WS.istore (lo' := [(5, .int (g.2.2.2.2.2 + (κ.1 17 ((agM g).1 (zD (z) n))))), (9, .int (nI (zD (z) n))), (4, .int z), (8, .int (nI i)), (7, .int ag), (6, .int own), (0, rf V 0), (1, .int sd), (2, .int x), (3, .int b)]) hx dX11_drawn_186 (by decide) rfl ?_
        refine WS.aload_n hx dX11_drawn_188 rfl 6 rfl ?_
        refine WS.getR hx okX11 lf11_52 rfl rfl dX11_drawn_189 ?_
        refine WS.iload hx dX11_drawn_192 1 rfl ?_
        refine WS.iconst (v := 1) hx dX11_drawn_194 (by decide) ?_
        refine WS.zast hx rfl (vp_in_nI (by omega) (by decide)) (Or.inr rfl) dX11_drawn_195 ?_
        refine WS.aload_n hx dX11_drawn_196 rfl 6 rfl ?_
        refine WS.dup hx dX11_drawn_197 rfl ?_
        refine WS.getI hx okX11 lf11_213 rfl rfl dX11_drawn_198 ?_
        refine WS.as rfl rfl (congrArg (fun z => Value.int z :: _) (show (stI τ 15 (nn (nI (zD (z) n))) 1).1 0 26 = nI g.2.2.2.1 from hT.2.2.2.1)) ?_
        skip
        refine WS.iconst (v := 1) hx dX11_drawn_201 (by decide) ?_
        refine WS.iadd hx dX11_drawn_202 ?_
        refine WS.as rfl rfl (congrArg (fun z => Value.int z :: _) (show (nI g.2.2.2.1) + 1 = nI (g.2.2.2.1 + 1) from nI_1 _)) ?_
        skip
        refine WS.putI hx okX11 lf11_213 rfl rfl rfl rfl dX11_drawn_203 ?_
        have hD : agD (wdM κ n lw) n zeal (g.1, g.2.1, g.2.2.1, g.2.2.2.1, z, g.2.2.2.2.2) = (g.1, va_up g.2.1 (zD (z) n) true, g.2.2.1, g.2.2.2.1 + 1, z, g.2.2.2.2.2 + κ.1 17 (g.1 (zD (z) n))) := if_pos ⟨by (try simp only [l_int, tL_0, tL_1, tL_2, tL_4, tL_5, tL_6, tL_7, tL_9, tL_10, tL_12, tL_15, tL_30, tL_40, tL_60, tL_99, tL_255, tL_1023, tL_m1, lc_lt, lc_gt, lc_ge, lc_le, lc_eq, l6_le, l6_lt, l6_eq, tI_m133, tI_m226, i_le, i_lt, i_eq, tI_m1, tI_0, tI_1, tI_8, tI_12, tI_16, tI_100, tI_10000] at c107); (try simp only [l_int, tL_0, tL_1, tL_2, tL_4, tL_5, tL_6, tL_7, tL_9, tL_10, tL_12, tL_15, tL_30, tL_40, tL_60, tL_99, tL_255, tL_1023, tL_m1, lc_lt, lc_gt, lc_ge, lc_le, lc_eq, l6_le, l6_lt, l6_eq, tI_m133, tI_m226, i_le, i_lt, i_eq, tI_m1, tI_0, tI_1, tI_8, tI_12, tI_16, tI_100, tI_10000] at c126); (try simp only [l_int, tL_0, tL_1, tL_2, tL_4, tL_5, tL_6, tL_7, tL_9, tL_10, tL_12, tL_15, tL_30, tL_40, tL_60, tL_99, tL_255, tL_1023, tL_m1, lc_lt, lc_gt, lc_ge, lc_le, lc_eq, l6_le, l6_lt, l6_eq, tI_m133, tI_m226, i_le, i_lt, i_eq, tI_m1, tI_0, tI_1, tI_8, tI_12, tI_16, tI_100, tI_10000] at c149); (try simp only [l_int, tL_0, tL_1, tL_2, tL_4, tL_5, tL_6, tL_7, tL_9, tL_10, tL_12, tL_15, tL_30, tL_40, tL_60, tL_99, tL_255, tL_1023, tL_m1, lc_lt, lc_gt, lc_ge, lc_le, lc_eq, l6_le, l6_lt, l6_eq, tI_m133, tI_m226, i_le, i_lt, i_eq, tI_m1, tI_0, tI_1, tI_8, tI_12, tI_16, tI_100, tI_10000] at c159); (try simp only [l_int, tL_0, tL_1, tL_2, tL_4, tL_5, tL_6, tL_7, tL_9, tL_10, tL_12, tL_15, tL_30, tL_40, tL_60, tL_99, tL_255, tL_1023, tL_m1, lc_lt, lc_gt, lc_ge, lc_le, lc_eq, l6_le, l6_lt, l6_eq, tI_m133, tI_m226, i_le, i_lt, i_eq, tI_m1, tI_0, tI_1, tI_8, tI_12, tI_16, tI_100, tI_10000] at c174); (try simp only [l_int, tL_0, tL_1, tL_2, tL_4, tL_5, tL_6, tL_7, tL_9, tL_10, tL_12, tL_15, tL_30, tL_40, tL_60, tL_99, tL_255, tL_1023, tL_m1, lc_lt, lc_gt, lc_ge, lc_le, lc_eq, l6_le, l6_lt, l6_eq, tI_m133, tI_m226, i_le, i_lt, i_eq, tI_m1, tI_0, tI_1, tI_8, tI_12, tI_16, tI_100, tI_10000]); omega, (by (try simp only [l_int, tL_0, tL_1, tL_2, tL_4, tL_5, tL_6, tL_7, tL_9, tL_10, tL_12, tL_15, tL_30, tL_40, tL_60, tL_99, tL_255, tL_1023, tL_m1, lc_lt, lc_gt, lc_ge, lc_le, lc_eq, l6_le, l6_lt, l6_eq, tI_m133, tI_m226, i_le, i_lt, i_eq, tI_m1, tI_0, tI_1, tI_8, tI_12, tI_16, tI_100, tI_10000] at c107); (try simp only [l_int, tL_0, tL_1, tL_2, tL_4, tL_5, tL_6, tL_7, tL_9, tL_10, tL_12, tL_15, tL_30, tL_40, tL_60, tL_99, tL_255, tL_1023, tL_m1, lc_lt, lc_gt, lc_ge, lc_le, lc_eq, l6_le, l6_lt, l6_eq, tI_m133, tI_m226, i_le, i_lt, i_eq, tI_m1, tI_0, tI_1, tI_8, tI_12, tI_16, tI_100, tI_10000] at c126); (try simp only [l_int, tL_0, tL_1, tL_2, tL_4, tL_5, tL_6, tL_7, tL_9, tL_10, tL_12, tL_15, tL_30, tL_40, tL_60, tL_99, tL_255, tL_1023, tL_m1, lc_lt, lc_gt, lc_ge, lc_le, lc_eq, l6_le, l6_lt, l6_eq, tI_m133, tI_m226, i_le, i_lt, i_eq, tI_m1, tI_0, tI_1, tI_8, tI_12, tI_16, tI_100, tI_10000] at c149); (try simp only [l_int, tL_0, tL_1, tL_2, tL_4, tL_5, tL_6, tL_7, tL_9, tL_10, tL_12, tL_15, tL_30, tL_40, tL_60, tL_99, tL_255, tL_1023, tL_m1, lc_lt, lc_gt, lc_ge, lc_le, lc_eq, l6_le, l6_lt, l6_eq, tI_m133, tI_m226, i_le, i_lt, i_eq, tI_m1, tI_0, tI_1, tI_8, tI_12, tI_16, tI_100, tI_10000] at c159); (try simp only [l_int, tL_0, tL_1, tL_2, tL_4, tL_5, tL_6, tL_7, tL_9, tL_10, tL_12, tL_15, tL_30, tL_40, tL_60, tL_99, tL_255, tL_1023, tL_m1, lc_lt, lc_gt, lc_ge, lc_le, lc_eq, l6_le, l6_lt, l6_eq, tI_m133, tI_m226, i_le, i_lt, i_eq, tI_m1, tI_0, tI_1, tI_8, tI_12, tI_16, tI_100, tI_10000] at c174); (try simp only [l_int, tL_0, tL_1, tL_2, tL_4, tL_5, tL_6, tL_7, tL_9, tL_10, tL_12, tL_15, tL_30, tL_40, tL_60, tL_99, tL_255, tL_1023, tL_m1, lc_lt, lc_gt, lc_ge, lc_le, lc_eq, l6_le, l6_lt, l6_eq, tI_m133, tI_m226, i_le, i_lt, i_eq, tI_m1, tI_0, tI_1, tI_8, tI_12, tI_16, tI_100, tI_10000]); omega), bI_0.mp c159⟩
        have hg9 : g.2.2.2.1 + 1 = cntB (va_up g.2.1 (zD (z) n) true) n := by rw [cntB_up (bI_0.mp c159), if_pos hzd, hg]
        refine WS.los [1, 3, 4, 5, 0, 2, 6, 7, 8, 9] rfl (tc_X11_drawn V d _ κ n (hM.me hee) cs T lw (hL.me hee) sd x b i (g.1, va_up g.2.1 (zD (z) n) true, g.2.2.1, g.2.2.2.1 + 1, z, g.2.2.2.2.2 + κ.1 17 (g.1 (zD (z) n))) ?_ _ ag own X hx (fun τ9 h1 h2 => ?_))
        · (try simp only [nn_nI (show zD (z) n < 2 ^ 31 by omega), nI_clamp (show zD (z) n < 2 ^ 31 by omega)])
          exact hT.op (s := agM g) (by show g.2.2.2.1 < 100; rw [hg]; have := cntB_le g.2.1 n; omega)
        · have h3 := hC τ9 (hee.tr h1) (by rw [hS, hD]; exact h2) (by rw [hS, hD]; exact hg9)
          rw [hS, hD] at h3
          exact h3
  · skip
    show WS layM V 10 X τ 129 [(4, .int z), (8, .int (nI i)), (7, .int ag), (6, .int own), (5, .int g.2.2.2.2.2), (0, rf V 0), (1, .int sd), (2, .int x), (3, .int b)] []
    refine WS.iconst (v := 0) hx dX11_drawn_129 (by decide) ?_
    refine WS.goto (tgt := 143) hx dX11_drawn_130 (by decide) ?_
    refine WS.istore (lo' := [(9, .int 0), (4, .int z), (8, .int (nI i)), (7, .int ag), (6, .int own), (5, .int g.2.2.2.2.2), (0, rf V 0), (1, .int sd), (2, .int x), (3, .int b)]) hx dX11_drawn_143 (by decide) rfl ?_
    refine WS.aload_n hx dX11_drawn_145 rfl 6 rfl ?_
    refine WS.getI hx okX11 lf11_97 rfl rfl dX11_drawn_146 ?_
    refine WS.as rfl rfl (congrArg (fun z => Value.int z :: _) (show τ.1 0 6 = nI n from hM.s)) ?_
    skip
    refine WS.if_le (tgt := 206) hx dX11_drawn_149 (by decide) (fun c149 => ?_) (fun c149 => by exfalso; (try simp only [l_int, tL_0, tL_1, tL_2, tL_4, tL_5, tL_6, tL_7, tL_9, tL_10, tL_12, tL_15, tL_30, tL_40, tL_60, tL_99, tL_255, tL_1023, tL_m1, lc_lt, lc_gt, lc_ge, lc_le, lc_eq, l6_le, l6_lt, l6_eq, tI_m133, tI_m226, i_le, i_lt, i_eq, tI_m1, tI_0, tI_1, tI_8, tI_12, tI_16, tI_100, tI_10000] at c107); (try simp only [l_int, tL_0, tL_1, tL_2, tL_4, tL_5, tL_6, tL_7, tL_9, tL_10, tL_12, tL_15, tL_30, tL_40, tL_60, tL_99, tL_255, tL_1023, tL_m1, lc_lt, lc_gt, lc_ge, lc_le, lc_eq, l6_le, l6_lt, l6_eq, tI_m133, tI_m226, i_le, i_lt, i_eq, tI_m1, tI_0, tI_1, tI_8, tI_12, tI_16, tI_100, tI_10000] at c126); (try simp only [l_int, tL_0, tL_1, tL_2, tL_4, tL_5, tL_6, tL_7, tL_9, tL_10, tL_12, tL_15, tL_30, tL_40, tL_60, tL_99, tL_255, tL_1023, tL_m1, lc_lt, lc_gt, lc_ge, lc_le, lc_eq, l6_le, l6_lt, l6_eq, tI_m133, tI_m226, i_le, i_lt, i_eq, tI_m1, tI_0, tI_1, tI_8, tI_12, tI_16, tI_100, tI_10000] at c149); (try simp only [l_int, tL_0, tL_1, tL_2, tL_4, tL_5, tL_6, tL_7, tL_9, tL_10, tL_12, tL_15, tL_30, tL_40, tL_60, tL_99, tL_255, tL_1023, tL_m1, lc_lt, lc_gt, lc_ge, lc_le, lc_eq, l6_le, l6_lt, l6_eq, tI_m133, tI_m226, i_le, i_lt, i_eq, tI_m1, tI_0, tI_1, tI_8, tI_12, tI_16, tI_100, tI_10000]); omega)
    have hD : agD (wdM κ n lw) n zeal (g.1, g.2.1, g.2.2.1, g.2.2.2.1, z, g.2.2.2.2.2) = (g.1, g.2.1, g.2.2.1, g.2.2.2.1, z, g.2.2.2.2.2) := if_neg (fun h => h.1 (by (try simp only [l_int, tL_0, tL_1, tL_2, tL_4, tL_5, tL_6, tL_7, tL_9, tL_10, tL_12, tL_15, tL_30, tL_40, tL_60, tL_99, tL_255, tL_1023, tL_m1, lc_lt, lc_gt, lc_ge, lc_le, lc_eq, l6_le, l6_lt, l6_eq, tI_m133, tI_m226, i_le, i_lt, i_eq, tI_m1, tI_0, tI_1, tI_8, tI_12, tI_16, tI_100, tI_10000] at c107); (try simp only [l_int, tL_0, tL_1, tL_2, tL_4, tL_5, tL_6, tL_7, tL_9, tL_10, tL_12, tL_15, tL_30, tL_40, tL_60, tL_99, tL_255, tL_1023, tL_m1, lc_lt, lc_gt, lc_ge, lc_le, lc_eq, l6_le, l6_lt, l6_eq, tI_m133, tI_m226, i_le, i_lt, i_eq, tI_m1, tI_0, tI_1, tI_8, tI_12, tI_16, tI_100, tI_10000] at c126); (try simp only [l_int, tL_0, tL_1, tL_2, tL_4, tL_5, tL_6, tL_7, tL_9, tL_10, tL_12, tL_15, tL_30, tL_40, tL_60, tL_99, tL_255, tL_1023, tL_m1, lc_lt, lc_gt, lc_ge, lc_le, lc_eq, l6_le, l6_lt, l6_eq, tI_m133, tI_m226, i_le, i_lt, i_eq, tI_m1, tI_0, tI_1, tI_8, tI_12, tI_16, tI_100, tI_10000] at c149); (try simp only [l_int, tL_0, tL_1, tL_2, tL_4, tL_5, tL_6, tL_7, tL_9, tL_10, tL_12, tL_15, tL_30, tL_40, tL_60, tL_99, tL_255, tL_1023, tL_m1, lc_lt, lc_gt, lc_ge, lc_le, lc_eq, l6_le, l6_lt, l6_eq, tI_m133, tI_m226, i_le, i_lt, i_eq, tI_m1, tI_0, tI_1, tI_8, tI_12, tI_16, tI_100, tI_10000]); omega))
    exact WS.los [0, 2, 3, 4, 5, 1, 6, 7, 8, 9] rfl (tc_X11_drawn V d _ κ n hM cs T lw hL sd x b i (g.1, g.2.1, g.2.2.1, g.2.2.2.1, z, g.2.2.2.2.2) hT _ ag own X hx (fun τ9 h1 h2 => by
        have h3 := hC τ9 h1 (by rw [hS, hD]; exact h2) (by rw [hS, hD]; exact hg)
        rw [hS, hD] at h3
        exact h3))
set_option maxHeartbeats 1000000 in
theorem lm_X11_drawn (V : Vt) (d : Nat) (σ : Sg) (κ : Sg) (n : Nat) (hM : MR κ σ n) (cs : Nat → Int32) (T : Nat) (lw : Lw) (hL : ML σ cs T lw) (zeal m N : Nat) (hz : zeal ≤ 12) (hm9 : m ≤ 60) (hN9 : N ≤ 30) (sd x b : Int32) (hxN : x / 10000 = nI N) (hxm : (x / 100) - (x / 100) / 100 * 100 = nI m) (hxz : x - x / 100 * 100 = nI zeal) (ag own : Int32) (gF : Ag) (X : Xt) (hx : Ok V RX11 cX11_drawn 10 (d + 6) X) (hC : ∀ τ', ME σ τ' → MT τ' n (agM gF) → WS layM V 10 X τ' 216 [(8, .int (nI m)), (7, .int ag), (6, .int own), (5, .int gF.2.2.2.2.2), (4, .int gF.2.2.2.2.1), (0, rf V 0), (1, .int sd), (2, .int x), (3, .int b)] []) : ∀ (u i : Nat) (g : Ag) (τ : Sg), i + u = m → ME σ τ → MT τ n (agM g) → g.2.2.2.1 = cntB g.2.1 n → agR (wdM κ n lw) n zeal u g = gF → WS layM V 10 X τ 98 [(8, .int (nI i)), (7, .int ag), (6, .int own), (5, .int g.2.2.2.2.2), (4, .int g.2.2.2.2.1), (0, rf V 0), (1, .int sd), (2, .int x), (3, .int b)] [] := by
  have hn := hM.n
  intro u
  induction u with
  | zero =>
    intro i g τ hiu hE hT hg hr
    have hmI : (nI m).toInt = (m : Int) := nI_c (by omega)
    have hiI : (nI i).toInt = (i : Int) := nI_c (by omega)
    refine WS.iload hx dX11_drawn_98 0 rfl ?_
    refine WS.iload_n hx dX11_drawn_100 rfl 7 rfl ?_
    refine WS.bipush (v := 100) hx dX11_drawn_101 (by decide) ?_
    refine WS.idiv hx dX11_drawn_103 (by decide) ?_
    refine WS.bipush (v := 100) hx dX11_drawn_104 (by decide) ?_
    refine WS.irem hx dX11_drawn_106 (by decide) ?_
    refine WS.as rfl rfl (congrArg (fun z => Value.int z :: _) (show (x / 100) - (x / 100) / 100 * 100 = nI m from hxm)) ?_
    skip
    refine WS.icmp_ge (tgt := 216) hx dX11_drawn_107 (by decide) (fun c107 => ?_) (fun c107 => by exfalso; (try simp only [l_int, tL_0, tL_1, tL_2, tL_4, tL_5, tL_6, tL_7, tL_9, tL_10, tL_12, tL_15, tL_30, tL_40, tL_60, tL_99, tL_255, tL_1023, tL_m1, lc_lt, lc_gt, lc_ge, lc_le, lc_eq, l6_le, l6_lt, l6_eq, tI_m133, tI_m226, i_le, i_lt, i_eq, tI_m1, tI_0, tI_1, tI_8, tI_12, tI_16, tI_100, tI_10000] at c107); (try simp only [l_int, tL_0, tL_1, tL_2, tL_4, tL_5, tL_6, tL_7, tL_9, tL_10, tL_12, tL_15, tL_30, tL_40, tL_60, tL_99, tL_255, tL_1023, tL_m1, lc_lt, lc_gt, lc_ge, lc_le, lc_eq, l6_le, l6_lt, l6_eq, tI_m133, tI_m226, i_le, i_lt, i_eq, tI_m1, tI_0, tI_1, tI_8, tI_12, tI_16, tI_100, tI_10000]); omega)
    have him : i = m := by omega
    subst him
    have h9 : g = gF := hr
    subst h9
    exact WS.los [0, 1, 2, 3, 4, 5, 6, 7, 8] rfl (hC τ hE hT)
  | succ u ih =>
    intro i g τ hiu hE hT hg hr
    exact tn_X11_drawn V d τ κ n (hM.me hE) cs T lw (hL.me hE) zeal m N hz hm9 hN9 sd x b hxN hxm hxz i (by omega) g hT hg _ rfl ag own X hx (fun τ9 h1 h2 h3 => ih (i + 1) _ τ9 (by omega) (hE.tr h1) h2 h3 hr)
theorem own_t {b : Int32} {n : Nat} {ax : Ax} {z said : Int32} {P : Nat → Bool} (h0 : 0 ≤ b.toInt) (hb : b.toInt < n) (h : P (nn b) = true) : ownV b (z, said, axT P ax.2.2 n) = ownV b ax + 1 := by
  unfold ownV
  rw [if_pos h0, if_pos h0]
  have := nn_int h0
  exact if_pos ⟨by omega, h⟩
theorem own_f {b : Int32} {n : Nat} {ax : Ax} {z said : Int32} {P : Nat → Bool} (h : 0 ≤ b.toInt → P (nn b) = false) : ownV b (z, said, axT P ax.2.2 n) = ownV b ax + 0 := by
  rw [Int32.add_zero]
  unfold ownV
  by_cases h0 : 0 ≤ b.toInt
  · rw [if_pos h0, if_pos h0]
    exact if_neg (fun g => by rw [h h0] at g; exact absurd g.2 (by decide))
  · rw [if_neg h0, if_neg h0]
set_option maxHeartbeats 1000000 in
theorem to_X11_drawn (V : Vt) (d : Nat) (τ : Sg) (n : Nat) (hn : n ≤ 10) (sd x b : Int32) (hb : b.toInt = -1 ∨ (0 ≤ b.toInt ∧ b.toInt < n)) (m j : Nat) (ax : Ax) (G : Ag) (hT : MT τ n (agM G)) (X : Xt) (hx : Ok V RX11 cX11_drawn 10 (d + 6) X) (hC : WS layM V 10 X τ 81 [(7, .int (nI (j + 1))), (6, .int (ownV b (G.2.2.2.2.1, G.2.2.2.2.2, axT G.2.1 ax.2.2 n))), (5, .int G.2.2.2.2.2), (4, .int G.2.2.2.2.1), (0, rf V 0), (1, .int sd), (2, .int x), (3, .int b)] []) : WS layM V 10 X τ 216 [(8, .int (nI m)), (7, .int (nI j)), (6, .int (ownV b ax)), (5, .int G.2.2.2.2.2), (4, .int G.2.2.2.2.1), (0, rf V 0), (1, .int sd), (2, .int x), (3, .int b)] [] := by
  refine WS.iload hx dX11_drawn_216 2 rfl ?_
  refine WS.iload_n hx dX11_drawn_218 rfl 8 rfl ?_
  refine WS.if_lt (tgt := 235) hx dX11_drawn_219 (by decide) (fun c219 => ?_) (fun c219 => ?_)
  · skip
    show WS layM V 10 X τ 235 [(8, .int (nI m)), (7, .int (nI j)), (6, .int (ownV b ax)), (5, .int G.2.2.2.2.2), (4, .int G.2.2.2.2.1), (0, rf V 0), (1, .int sd), (2, .int x), (3, .int b)] [.int (ownV b ax)]
    refine WS.iconst (v := 0) hx dX11_drawn_235 (by decide) ?_
    refine WS.iadd hx dX11_drawn_236 ?_
    refine WS.as rfl rfl (congrArg (fun z => Value.int z :: _) (show (ownV b ax) + 0 = ownV b (G.2.2.2.2.1, G.2.2.2.2.2, axT G.2.1 ax.2.2 n) from by
    first | exact (own_t (by (try simp only [l_int, tL_0, tL_1, tL_2, tL_4, tL_5, tL_6, tL_7, tL_9, tL_10, tL_12, tL_15, tL_30, tL_40, tL_60, tL_99, tL_255, tL_1023, tL_m1, lc_lt, lc_gt, lc_ge, lc_le, lc_eq, l6_le, l6_lt, l6_eq, tI_m133, tI_m226, i_le, i_lt, i_eq, tI_m1, tI_0, tI_1, tI_8, tI_12, tI_16, tI_100, tI_10000] at c219); (try simp only [l_int, tL_0, tL_1, tL_2, tL_4, tL_5, tL_6, tL_7, tL_9, tL_10, tL_12, tL_15, tL_30, tL_40, tL_60, tL_99, tL_255, tL_1023, tL_m1, lc_lt, lc_gt, lc_ge, lc_le, lc_eq, l6_le, l6_lt, l6_eq, tI_m133, tI_m226, i_le, i_lt, i_eq, tI_m1, tI_0, tI_1, tI_8, tI_12, tI_16, tI_100, tI_10000]); omega) (by (try simp only [l_int, tL_0, tL_1, tL_2, tL_4, tL_5, tL_6, tL_7, tL_9, tL_10, tL_12, tL_15, tL_30, tL_40, tL_60, tL_99, tL_255, tL_1023, tL_m1, lc_lt, lc_gt, lc_ge, lc_le, lc_eq, l6_le, l6_lt, l6_eq, tI_m133, tI_m226, i_le, i_lt, i_eq, tI_m1, tI_0, tI_1, tI_8, tI_12, tI_16, tI_100, tI_10000] at c219); (try simp only [l_int, tL_0, tL_1, tL_2, tL_4, tL_5, tL_6, tL_7, tL_9, tL_10, tL_12, tL_15, tL_30, tL_40, tL_60, tL_99, tL_255, tL_1023, tL_m1, lc_lt, lc_gt, lc_ge, lc_le, lc_eq, l6_le, l6_lt, l6_eq, tI_m133, tI_m226, i_le, i_lt, i_eq, tI_m1, tI_0, tI_1, tI_8, tI_12, tI_16, tI_100, tI_10000]); omega) (by cases h9 : G.2.1 (nn b) with | true => rfl | false => rw [h9] at c228; exact absurd rfl c228)).symm | exact (own_f (fun _ => bI_0.mp c228)).symm | exact (own_f (fun h => by (try simp only [l_int, tL_0, tL_1, tL_2, tL_4, tL_5, tL_6, tL_7, tL_9, tL_10, tL_12, tL_15, tL_30, tL_40, tL_60, tL_99, tL_255, tL_1023, tL_m1, lc_lt, lc_gt, lc_ge, lc_le, lc_eq, l6_le, l6_lt, l6_eq, tI_m133, tI_m226, i_le, i_lt, i_eq, tI_m1, tI_0, tI_1, tI_8, tI_12, tI_16, tI_100, tI_10000] at c219); (try simp only [l_int, tL_0, tL_1, tL_2, tL_4, tL_5, tL_6, tL_7, tL_9, tL_10, tL_12, tL_15, tL_30, tL_40, tL_60, tL_99, tL_255, tL_1023, tL_m1, lc_lt, lc_gt, lc_ge, lc_le, lc_eq, l6_le, l6_lt, l6_eq, tI_m133, tI_m226, i_le, i_lt, i_eq, tI_m1, tI_0, tI_1, tI_8, tI_12, tI_16, tI_100, tI_10000]); omega)).symm)) ?_
    skip
    refine WS.istore (lo' := [(6, .int (ownV b (G.2.2.2.2.1, G.2.2.2.2.2, axT G.2.1 ax.2.2 n))), (8, .int (nI m)), (7, .int (nI j)), (5, .int G.2.2.2.2.2), (4, .int G.2.2.2.2.1), (0, rf V 0), (1, .int sd), (2, .int x), (3, .int b)]) hx dX11_drawn_237 (by decide) rfl ?_
    refine WS.iinc (v := nI (j + 1)) (lo' := [(7, .int (nI (j + 1))), (6, .int (ownV b (G.2.2.2.2.1, G.2.2.2.2.2, axT G.2.1 ax.2.2 n))), (8, .int (nI m)), (5, .int G.2.2.2.2.2), (4, .int G.2.2.2.2.1), (0, rf V 0), (1, .int sd), (2, .int x), (3, .int b)]) hx dX11_drawn_239 2 rfl (nI_1 j) (by decide) rfl ?_
    refine WS.goto (tgt := 81) hx dX11_drawn_242 (by decide) ?_
    exact WS.los [0, 1, 3, 4, 5, 6, 7, 8] rfl hC
  · skip
    show WS layM V 10 X τ 222 [(8, .int (nI m)), (7, .int (nI j)), (6, .int (ownV b ax)), (5, .int G.2.2.2.2.2), (4, .int G.2.2.2.2.1), (0, rf V 0), (1, .int sd), (2, .int x), (3, .int b)] [.int (ownV b ax)]
    refine WS.aload_n hx dX11_drawn_222 rfl 5 rfl ?_
    refine WS.getR hx okX11 lf11_52 rfl rfl dX11_drawn_223 ?_
    refine WS.iload_n hx dX11_drawn_226 rfl 8 rfl ?_
    refine WS.zald hx rfl (vp_in_iff.mpr (by (try simp only [l_int, tL_0, tL_1, tL_2, tL_4, tL_5, tL_6, tL_7, tL_9, tL_10, tL_12, tL_15, tL_30, tL_40, tL_60, tL_99, tL_255, tL_1023, tL_m1, lc_lt, lc_gt, lc_ge, lc_le, lc_eq, l6_le, l6_lt, l6_eq, tI_m133, tI_m226, i_le, i_lt, i_eq, tI_m1, tI_0, tI_1, tI_8, tI_12, tI_16, tI_100, tI_10000] at c219); omega)) dX11_drawn_227 ?_
    refine WS.as rfl rfl (congrArg (fun z => Value.int z :: _) (show τ.1 15 (nn b) = bI (G.2.1 (nn b)) from (hT.1 (nn b) (by have := nn_int (show 0 ≤ b.toInt by (try simp only [l_int, tL_0, tL_1, tL_2, tL_4, tL_5, tL_6, tL_7, tL_9, tL_10, tL_12, tL_15, tL_30, tL_40, tL_60, tL_99, tL_255, tL_1023, tL_m1, lc_lt, lc_gt, lc_ge, lc_le, lc_eq, l6_le, l6_lt, l6_eq, tI_m133, tI_m226, i_le, i_lt, i_eq, tI_m1, tI_0, tI_1, tI_8, tI_12, tI_16, tI_100, tI_10000] at c219); (try simp only [l_int, tL_0, tL_1, tL_2, tL_4, tL_5, tL_6, tL_7, tL_9, tL_10, tL_12, tL_15, tL_30, tL_40, tL_60, tL_99, tL_255, tL_1023, tL_m1, lc_lt, lc_gt, lc_ge, lc_le, lc_eq, l6_le, l6_lt, l6_eq, tI_m133, tI_m226, i_le, i_lt, i_eq, tI_m1, tI_0, tI_1, tI_8, tI_12, tI_16, tI_100, tI_10000]); omega); omega)).2.2)) ?_
    skip
    refine WS.if_eq (tgt := 235) hx dX11_drawn_228 (by decide) (fun c228 => ?_) (fun c228 => ?_)
    · skip
      show WS layM V 10 X τ 235 [(8, .int (nI m)), (7, .int (nI j)), (6, .int (ownV b ax)), (5, .int G.2.2.2.2.2), (4, .int G.2.2.2.2.1), (0, rf V 0), (1, .int sd), (2, .int x), (3, .int b)] [.int (ownV b ax)]
      refine WS.iconst (v := 0) hx dX11_drawn_235 (by decide) ?_
      refine WS.iadd hx dX11_drawn_236 ?_
      refine WS.as rfl rfl (congrArg (fun z => Value.int z :: _) (show (ownV b ax) + 0 = ownV b (G.2.2.2.2.1, G.2.2.2.2.2, axT G.2.1 ax.2.2 n) from by
    first | exact (own_t (by (try simp only [l_int, tL_0, tL_1, tL_2, tL_4, tL_5, tL_6, tL_7, tL_9, tL_10, tL_12, tL_15, tL_30, tL_40, tL_60, tL_99, tL_255, tL_1023, tL_m1, lc_lt, lc_gt, lc_ge, lc_le, lc_eq, l6_le, l6_lt, l6_eq, tI_m133, tI_m226, i_le, i_lt, i_eq, tI_m1, tI_0, tI_1, tI_8, tI_12, tI_16, tI_100, tI_10000] at c219); (try simp only [l_int, tL_0, tL_1, tL_2, tL_4, tL_5, tL_6, tL_7, tL_9, tL_10, tL_12, tL_15, tL_30, tL_40, tL_60, tL_99, tL_255, tL_1023, tL_m1, lc_lt, lc_gt, lc_ge, lc_le, lc_eq, l6_le, l6_lt, l6_eq, tI_m133, tI_m226, i_le, i_lt, i_eq, tI_m1, tI_0, tI_1, tI_8, tI_12, tI_16, tI_100, tI_10000] at c228); (try simp only [l_int, tL_0, tL_1, tL_2, tL_4, tL_5, tL_6, tL_7, tL_9, tL_10, tL_12, tL_15, tL_30, tL_40, tL_60, tL_99, tL_255, tL_1023, tL_m1, lc_lt, lc_gt, lc_ge, lc_le, lc_eq, l6_le, l6_lt, l6_eq, tI_m133, tI_m226, i_le, i_lt, i_eq, tI_m1, tI_0, tI_1, tI_8, tI_12, tI_16, tI_100, tI_10000]); omega) (by (try simp only [l_int, tL_0, tL_1, tL_2, tL_4, tL_5, tL_6, tL_7, tL_9, tL_10, tL_12, tL_15, tL_30, tL_40, tL_60, tL_99, tL_255, tL_1023, tL_m1, lc_lt, lc_gt, lc_ge, lc_le, lc_eq, l6_le, l6_lt, l6_eq, tI_m133, tI_m226, i_le, i_lt, i_eq, tI_m1, tI_0, tI_1, tI_8, tI_12, tI_16, tI_100, tI_10000] at c219); (try simp only [l_int, tL_0, tL_1, tL_2, tL_4, tL_5, tL_6, tL_7, tL_9, tL_10, tL_12, tL_15, tL_30, tL_40, tL_60, tL_99, tL_255, tL_1023, tL_m1, lc_lt, lc_gt, lc_ge, lc_le, lc_eq, l6_le, l6_lt, l6_eq, tI_m133, tI_m226, i_le, i_lt, i_eq, tI_m1, tI_0, tI_1, tI_8, tI_12, tI_16, tI_100, tI_10000] at c228); (try simp only [l_int, tL_0, tL_1, tL_2, tL_4, tL_5, tL_6, tL_7, tL_9, tL_10, tL_12, tL_15, tL_30, tL_40, tL_60, tL_99, tL_255, tL_1023, tL_m1, lc_lt, lc_gt, lc_ge, lc_le, lc_eq, l6_le, l6_lt, l6_eq, tI_m133, tI_m226, i_le, i_lt, i_eq, tI_m1, tI_0, tI_1, tI_8, tI_12, tI_16, tI_100, tI_10000]); omega) (by cases h9 : G.2.1 (nn b) with | true => rfl | false => rw [h9] at c228; exact absurd rfl c228)).symm | exact (own_f (fun _ => bI_0.mp c228)).symm | exact (own_f (fun h => by (try simp only [l_int, tL_0, tL_1, tL_2, tL_4, tL_5, tL_6, tL_7, tL_9, tL_10, tL_12, tL_15, tL_30, tL_40, tL_60, tL_99, tL_255, tL_1023, tL_m1, lc_lt, lc_gt, lc_ge, lc_le, lc_eq, l6_le, l6_lt, l6_eq, tI_m133, tI_m226, i_le, i_lt, i_eq, tI_m1, tI_0, tI_1, tI_8, tI_12, tI_16, tI_100, tI_10000] at c219); (try simp only [l_int, tL_0, tL_1, tL_2, tL_4, tL_5, tL_6, tL_7, tL_9, tL_10, tL_12, tL_15, tL_30, tL_40, tL_60, tL_99, tL_255, tL_1023, tL_m1, lc_lt, lc_gt, lc_ge, lc_le, lc_eq, l6_le, l6_lt, l6_eq, tI_m133, tI_m226, i_le, i_lt, i_eq, tI_m1, tI_0, tI_1, tI_8, tI_12, tI_16, tI_100, tI_10000] at c228); (try simp only [l_int, tL_0, tL_1, tL_2, tL_4, tL_5, tL_6, tL_7, tL_9, tL_10, tL_12, tL_15, tL_30, tL_40, tL_60, tL_99, tL_255, tL_1023, tL_m1, lc_lt, lc_gt, lc_ge, lc_le, lc_eq, l6_le, l6_lt, l6_eq, tI_m133, tI_m226, i_le, i_lt, i_eq, tI_m1, tI_0, tI_1, tI_8, tI_12, tI_16, tI_100, tI_10000]); omega)).symm)) ?_
      skip
      refine WS.istore (lo' := [(6, .int (ownV b (G.2.2.2.2.1, G.2.2.2.2.2, axT G.2.1 ax.2.2 n))), (8, .int (nI m)), (7, .int (nI j)), (5, .int G.2.2.2.2.2), (4, .int G.2.2.2.2.1), (0, rf V 0), (1, .int sd), (2, .int x), (3, .int b)]) hx dX11_drawn_237 (by decide) rfl ?_
      refine WS.iinc (v := nI (j + 1)) (lo' := [(7, .int (nI (j + 1))), (6, .int (ownV b (G.2.2.2.2.1, G.2.2.2.2.2, axT G.2.1 ax.2.2 n))), (8, .int (nI m)), (5, .int G.2.2.2.2.2), (4, .int G.2.2.2.2.1), (0, rf V 0), (1, .int sd), (2, .int x), (3, .int b)]) hx dX11_drawn_239 2 rfl (nI_1 j) (by decide) rfl ?_
      refine WS.goto (tgt := 81) hx dX11_drawn_242 (by decide) ?_
      exact WS.los [0, 1, 3, 4, 5, 6, 7, 8] rfl hC
    · skip
      show WS layM V 10 X τ 231 [(8, .int (nI m)), (7, .int (nI j)), (6, .int (ownV b ax)), (5, .int G.2.2.2.2.2), (4, .int G.2.2.2.2.1), (0, rf V 0), (1, .int sd), (2, .int x), (3, .int b)] [.int (ownV b ax)]
      refine WS.iconst (v := 1) hx dX11_drawn_231 (by decide) ?_
      refine WS.goto (tgt := 236) hx dX11_drawn_232 (by decide) ?_
      refine WS.iadd hx dX11_drawn_236 ?_
      refine WS.as rfl rfl (congrArg (fun z => Value.int z :: _) (show (ownV b ax) + 1 = ownV b (G.2.2.2.2.1, G.2.2.2.2.2, axT G.2.1 ax.2.2 n) from by
    first | exact (own_t (by (try simp only [l_int, tL_0, tL_1, tL_2, tL_4, tL_5, tL_6, tL_7, tL_9, tL_10, tL_12, tL_15, tL_30, tL_40, tL_60, tL_99, tL_255, tL_1023, tL_m1, lc_lt, lc_gt, lc_ge, lc_le, lc_eq, l6_le, l6_lt, l6_eq, tI_m133, tI_m226, i_le, i_lt, i_eq, tI_m1, tI_0, tI_1, tI_8, tI_12, tI_16, tI_100, tI_10000] at c219); (try simp only [l_int, tL_0, tL_1, tL_2, tL_4, tL_5, tL_6, tL_7, tL_9, tL_10, tL_12, tL_15, tL_30, tL_40, tL_60, tL_99, tL_255, tL_1023, tL_m1, lc_lt, lc_gt, lc_ge, lc_le, lc_eq, l6_le, l6_lt, l6_eq, tI_m133, tI_m226, i_le, i_lt, i_eq, tI_m1, tI_0, tI_1, tI_8, tI_12, tI_16, tI_100, tI_10000] at c228); (try simp only [l_int, tL_0, tL_1, tL_2, tL_4, tL_5, tL_6, tL_7, tL_9, tL_10, tL_12, tL_15, tL_30, tL_40, tL_60, tL_99, tL_255, tL_1023, tL_m1, lc_lt, lc_gt, lc_ge, lc_le, lc_eq, l6_le, l6_lt, l6_eq, tI_m133, tI_m226, i_le, i_lt, i_eq, tI_m1, tI_0, tI_1, tI_8, tI_12, tI_16, tI_100, tI_10000]); omega) (by (try simp only [l_int, tL_0, tL_1, tL_2, tL_4, tL_5, tL_6, tL_7, tL_9, tL_10, tL_12, tL_15, tL_30, tL_40, tL_60, tL_99, tL_255, tL_1023, tL_m1, lc_lt, lc_gt, lc_ge, lc_le, lc_eq, l6_le, l6_lt, l6_eq, tI_m133, tI_m226, i_le, i_lt, i_eq, tI_m1, tI_0, tI_1, tI_8, tI_12, tI_16, tI_100, tI_10000] at c219); (try simp only [l_int, tL_0, tL_1, tL_2, tL_4, tL_5, tL_6, tL_7, tL_9, tL_10, tL_12, tL_15, tL_30, tL_40, tL_60, tL_99, tL_255, tL_1023, tL_m1, lc_lt, lc_gt, lc_ge, lc_le, lc_eq, l6_le, l6_lt, l6_eq, tI_m133, tI_m226, i_le, i_lt, i_eq, tI_m1, tI_0, tI_1, tI_8, tI_12, tI_16, tI_100, tI_10000] at c228); (try simp only [l_int, tL_0, tL_1, tL_2, tL_4, tL_5, tL_6, tL_7, tL_9, tL_10, tL_12, tL_15, tL_30, tL_40, tL_60, tL_99, tL_255, tL_1023, tL_m1, lc_lt, lc_gt, lc_ge, lc_le, lc_eq, l6_le, l6_lt, l6_eq, tI_m133, tI_m226, i_le, i_lt, i_eq, tI_m1, tI_0, tI_1, tI_8, tI_12, tI_16, tI_100, tI_10000]); omega) (by cases h9 : G.2.1 (nn b) with | true => rfl | false => rw [h9] at c228; exact absurd rfl c228)).symm | exact (own_f (fun _ => bI_0.mp c228)).symm | exact (own_f (fun h => by (try simp only [l_int, tL_0, tL_1, tL_2, tL_4, tL_5, tL_6, tL_7, tL_9, tL_10, tL_12, tL_15, tL_30, tL_40, tL_60, tL_99, tL_255, tL_1023, tL_m1, lc_lt, lc_gt, lc_ge, lc_le, lc_eq, l6_le, l6_lt, l6_eq, tI_m133, tI_m226, i_le, i_lt, i_eq, tI_m1, tI_0, tI_1, tI_8, tI_12, tI_16, tI_100, tI_10000] at c219); (try simp only [l_int, tL_0, tL_1, tL_2, tL_4, tL_5, tL_6, tL_7, tL_9, tL_10, tL_12, tL_15, tL_30, tL_40, tL_60, tL_99, tL_255, tL_1023, tL_m1, lc_lt, lc_gt, lc_ge, lc_le, lc_eq, l6_le, l6_lt, l6_eq, tI_m133, tI_m226, i_le, i_lt, i_eq, tI_m1, tI_0, tI_1, tI_8, tI_12, tI_16, tI_100, tI_10000] at c228); (try simp only [l_int, tL_0, tL_1, tL_2, tL_4, tL_5, tL_6, tL_7, tL_9, tL_10, tL_12, tL_15, tL_30, tL_40, tL_60, tL_99, tL_255, tL_1023, tL_m1, lc_lt, lc_gt, lc_ge, lc_le, lc_eq, l6_le, l6_lt, l6_eq, tI_m133, tI_m226, i_le, i_lt, i_eq, tI_m1, tI_0, tI_1, tI_8, tI_12, tI_16, tI_100, tI_10000]); omega)).symm)) ?_
      skip
      refine WS.istore (lo' := [(6, .int (ownV b (G.2.2.2.2.1, G.2.2.2.2.2, axT G.2.1 ax.2.2 n))), (8, .int (nI m)), (7, .int (nI j)), (5, .int G.2.2.2.2.2), (4, .int G.2.2.2.2.1), (0, rf V 0), (1, .int sd), (2, .int x), (3, .int b)]) hx dX11_drawn_237 (by decide) rfl ?_
      refine WS.iinc (v := nI (j + 1)) (lo' := [(7, .int (nI (j + 1))), (6, .int (ownV b (G.2.2.2.2.1, G.2.2.2.2.2, axT G.2.1 ax.2.2 n))), (8, .int (nI m)), (5, .int G.2.2.2.2.2), (4, .int G.2.2.2.2.1), (0, rf V 0), (1, .int sd), (2, .int x), (3, .int b)]) hx dX11_drawn_239 2 rfl (nI_1 j) (by decide) rfl ?_
      refine WS.goto (tgt := 81) hx dX11_drawn_242 (by decide) ?_
      exact WS.los [0, 1, 3, 4, 5, 6, 7, 8] rfl hC
set_option maxHeartbeats 1000000 in
theorem la_X11_drawn (V : Vt) (d : Nat) (σ : Sg) (κ : Sg) (n : Nat) (hM : MR κ σ n) (cs : Nat → Int32) (T : Nat) (lw : Lw) (hL : ML σ cs T lw) (zeal m N : Nat) (hz : zeal ≤ 12) (hm9 : m ≤ 60) (hN9 : N ≤ 30) (sd x b : Int32) (hxN : x / 10000 = nI N) (hxm : (x / 100) - (x / 100) / 100 * 100 = nI m) (hxz : x - x / 100 * 100 = nI zeal) (hb : b.toInt = -1 ∨ (0 ≤ b.toInt ∧ b.toInt < n)) (aF : Ax) (P : Int32 → Sg → Prop) (X : Xt) (hx : Ok V RX11 cX11_drawn 10 (d + 6) X) (he : En layM V (some .int) (Ri P) X) (hP : (0 ≤ b → ∀ τ, ME σ τ → P (ownV b aF) τ) ∧ (¬ 0 ≤ b → ∀ τ, ME σ τ → P aF.2.1 τ)) : ∀ (U j : Nat) (ax : Ax) (τ : Sg), j + U = N → ME σ τ → axR (wdM κ n lw) n zeal m U ax = aF → WS layM V 10 X τ 81 [(7, .int (nI j)), (6, .int (ownV b ax)), (5, .int ax.2.1), (4, .int ax.1), (0, rf V 0), (1, .int sd), (2, .int x), (3, .int b)] [] := by
  have hn := hM.n
  intro U
  induction U with
  | zero =>
    intro j ax τ hju hE hr
    have hNI : (nI N).toInt = (N : Int) := nI_c (by omega)
    have hjI : (nI j).toInt = (j : Int) := nI_c (by omega)
    have h9 : ax = aF := hr
    subst h9
    refine WS.iload hx dX11_drawn_81 0 rfl ?_
    refine WS.iload_n hx dX11_drawn_83 rfl 6 rfl ?_
    refine WS.sipush (v := 10000) hx dX11_drawn_84 (by decide) ?_
    refine WS.idiv hx dX11_drawn_87 (by decide) ?_
    refine WS.as rfl rfl (congrArg (fun z => Value.int z :: _) (show x / 10000 = nI N from hxN)) ?_
    skip
    refine WS.icmp_ge (tgt := 245) hx dX11_drawn_88 (by decide) (fun c88 => ?_) (fun c88 => by exfalso; (try simp only [l_int, tL_0, tL_1, tL_2, tL_4, tL_5, tL_6, tL_7, tL_9, tL_10, tL_12, tL_15, tL_30, tL_40, tL_60, tL_99, tL_255, tL_1023, tL_m1, lc_lt, lc_gt, lc_ge, lc_le, lc_eq, l6_le, l6_lt, l6_eq, tI_m133, tI_m226, i_le, i_lt, i_eq, tI_m1, tI_0, tI_1, tI_8, tI_12, tI_16, tI_100, tI_10000] at c88); (try simp only [l_int, tL_0, tL_1, tL_2, tL_4, tL_5, tL_6, tL_7, tL_9, tL_10, tL_12, tL_15, tL_30, tL_40, tL_60, tL_99, tL_255, tL_1023, tL_m1, lc_lt, lc_gt, lc_ge, lc_le, lc_eq, l6_le, l6_lt, l6_eq, tI_m133, tI_m226, i_le, i_lt, i_eq, tI_m1, tI_0, tI_1, tI_8, tI_12, tI_16, tI_100, tI_10000]); omega)
    refine WS.iload_n hx dX11_drawn_245 rfl 7 rfl ?_
    refine WS.if_ge (tgt := 254) hx dX11_drawn_246 (by decide) (fun c246 => ?_) (fun c246 => ?_)
    · skip
      show WS layM V 10 X τ 254 [(7, .int (nI j)), (6, .int (ownV b ax)), (5, .int ax.2.1), (4, .int ax.1), (0, rf V 0), (1, .int sd), (2, .int x), (3, .int b)] []
      refine WS.iload hx dX11_drawn_254 1 rfl ?_
      exact WS.iret hx he dX11_drawn_256 ⟨_, rfl, hP.1 c246 τ hE⟩
    · skip
      show WS layM V 10 X τ 249 [(7, .int (nI j)), (6, .int (ownV b ax)), (5, .int ax.2.1), (4, .int ax.1), (0, rf V 0), (1, .int sd), (2, .int x), (3, .int b)] []
      refine WS.iload hx dX11_drawn_249 2 rfl ?_
      refine WS.goto (tgt := 256) hx dX11_drawn_251 (by decide) ?_
      exact WS.iret hx he dX11_drawn_256 ⟨_, rfl, hP.2 c246 τ hE⟩
  | succ U ih =>
    intro j ax τ hju hE hr
    have hNI : (nI N).toInt = (N : Int) := nI_c (by omega)
    have hjI : (nI j).toInt = (j : Int) := nI_c (by omega)
    refine WS.iload hx dX11_drawn_81 0 rfl ?_
    refine WS.iload_n hx dX11_drawn_83 rfl 6 rfl ?_
    refine WS.sipush (v := 10000) hx dX11_drawn_84 (by decide) ?_
    refine WS.idiv hx dX11_drawn_87 (by decide) ?_
    refine WS.as rfl rfl (congrArg (fun z => Value.int z :: _) (show x / 10000 = nI N from hxN)) ?_
    skip
    refine WS.icmp_ge (tgt := 245) hx dX11_drawn_88 (by decide) (fun c88 => by exfalso; (try simp only [l_int, tL_0, tL_1, tL_2, tL_4, tL_5, tL_6, tL_7, tL_9, tL_10, tL_12, tL_15, tL_30, tL_40, tL_60, tL_99, tL_255, tL_1023, tL_m1, lc_lt, lc_gt, lc_ge, lc_le, lc_eq, l6_le, l6_lt, l6_eq, tI_m133, tI_m226, i_le, i_lt, i_eq, tI_m1, tI_0, tI_1, tI_8, tI_12, tI_16, tI_100, tI_10000] at c88); (try simp only [l_int, tL_0, tL_1, tL_2, tL_4, tL_5, tL_6, tL_7, tL_9, tL_10, tL_12, tL_15, tL_30, tL_40, tL_60, tL_99, tL_255, tL_1023, tL_m1, lc_lt, lc_gt, lc_ge, lc_le, lc_eq, l6_le, l6_lt, l6_eq, tI_m133, tI_m226, i_le, i_lt, i_eq, tI_m1, tI_0, tI_1, tI_8, tI_12, tI_16, tI_100, tI_10000]); omega) (fun c88 => ?_)
    refine WS.aload_n hx dX11_drawn_91 rfl 4 rfl ?_
    refine WS.callVv (st := []) [] hx (c_X11_begins V (d + 5) τ κ n lw (hM.me hE)) okX11_begins lm11_231 rfl rfl rfl rfl (Nat.le_of_ble_eq_true rfl) dX11_drawn_92 (fun σ2 h3 => ?_)
    obtain ⟨me92, mt92⟩ := h3
    show WS layM V 10 X σ2 95 [(7, .int (nI j)), (6, .int (ownV b ax)), (5, .int ax.2.1), (4, .int ax.1), (0, rf V 0), (1, .int sd), (2, .int x), (3, .int b)] []
    refine WS.iconst (v := 0) hx dX11_drawn_95 (by decide) ?_
    refine WS.istore (lo' := [(8, .int 0), (7, .int (nI j)), (6, .int (ownV b ax)), (5, .int ax.2.1), (4, .int ax.1), (0, rf V 0), (1, .int sd), (2, .int x), (3, .int b)]) hx dX11_drawn_96 (by decide) rfl ?_
    exact WS.los [0, 1, 2, 3, 4, 5, 6, 7, 8] rfl (lm_X11_drawn V d τ κ n (hM.me hE) cs T lw (hL.me hE) zeal m N hz hm9 hN9 sd x b hxN hxm hxz _ _ (axE (wdM κ n lw) n zeal m ax) X hx (fun τ9 h1 h2 => to_X11_drawn V d τ9 n hn sd x b hb m j ax _ h2 X hx (ih (j + 1) (axA (wdM κ n lw) n zeal m ax) τ9 (by omega) (hE.tr h1) hr)) m 0 (ag0 (wdM κ n lw) n ax.1 ax.2.1) _ (by omega) me92 mt92 (cnt_B n (fun j hj => hM.q.2.2.2.2.2.1 j (by omega))) rfl)
set_option maxHeartbeats 1000000 in
theorem c_X11_drawn (V : Vt) (d : Nat) (σ : Sg) (κ : Sg) (n : Nat) (hM : MR κ σ n) (cs : Nat → Int32) (T : Nat) (lw : Lw) (hL : ML σ cs T lw) (sd x b : Int32) : CT layM V mX11_drawn (d + 6) [rf V 0, .int sd, .int x, .int b] σ (Ri fun v σ' => (if ¬ ((1 ≤ (x / 10000).toInt ∧ (x / 10000).toInt ≤ 30) ∧ (1 ≤ ((x / 100) - (x / 100) / 100 * 100).toInt ∧ ((x / 100) - (x / 100) / 100 * 100).toInt ≤ 60) ∧ (0 ≤ (x - x / 100 * 100).toInt ∧ (x - x / 100 * 100).toInt ≤ 12)) then v = -1 ∧ ME σ σ' else (if ¬ (b.toInt = -1 ∨ (0 ≤ b.toInt ∧ b.toInt < n)) then v = -1 ∧ ME σ σ' else (if b.toInt = -1 then v = (axR (wdM κ n lw) n (nn (x - x / 100 * 100)) (nn ((x / 100) - (x / 100) / 100 * 100)) (nn (x / 10000)) (sd, 0, fillF 10 0 (κ.1 28))).2.1 ∧ ME σ σ' else (v = (axR (wdM κ n lw) n (nn (x - x / 100 * 100)) (nn ((x / 100) - (x / 100) / 100 * 100)) (nn (x / 10000)) (sd, 0, fillF 10 0 (κ.1 28))).2.2 (nn b) ∧ ME σ σ'))))) := by
  refine CT.of (own := RX11) rfl (by decide) (Nat.le_of_ble_eq_true rfl) (fun X (hx : Ok V RX11 cX11_drawn 10 (d + 6) X) (he : En layM V (some .int) (Ri fun v σ' => (if ¬ ((1 ≤ (x / 10000).toInt ∧ (x / 10000).toInt ≤ 30) ∧ (1 ≤ ((x / 100) - (x / 100) / 100 * 100).toInt ∧ ((x / 100) - (x / 100) / 100 * 100).toInt ≤ 60) ∧ (0 ≤ (x - x / 100 * 100).toInt ∧ (x - x / 100 * 100).toInt ≤ 12)) then v = -1 ∧ ME σ σ' else (if ¬ (b.toInt = -1 ∨ (0 ≤ b.toInt ∧ b.toInt < n)) then v = -1 ∧ ME σ σ' else (if b.toInt = -1 then v = (axR (wdM κ n lw) n (nn (x - x / 100 * 100)) (nn ((x / 100) - (x / 100) / 100 * 100)) (nn (x / 10000)) (sd, 0, fillF 10 0 (κ.1 28))).2.1 ∧ ME σ σ' else (v = (axR (wdM κ n lw) n (nn (x - x / 100 * 100)) (nn ((x / 100) - (x / 100) / 100 * 100)) (nn (x / 10000)) (sd, 0, fillF 10 0 (κ.1 28))).2.2 (nn b) ∧ ME σ σ'))))) X) => ?_)
  change WS layM V 10 X σ 0 [(0, rf V 0), (1, .int sd), (2, .int x), (3, .int b)] []
  have hn := hM.n
  have hs := hM.s
  refine WS.iload_n hx dX11_drawn_0 rfl 2 rfl ?_
  refine WS.if_lt (tgt := 67) hx dX11_drawn_1 (by decide) (fun c1 => ?_) (fun c1 => ?_)
  · skip
    show WS layM V 10 X σ 67 [(0, rf V 0), (1, .int sd), (2, .int x), (3, .int b)] []
    have hneg : (x / 10000).toInt ≤ 0 := by
      have h9 : x.toInt < 0 := by (try simp only [l_int, tL_0, tL_1, tL_2, tL_4, tL_5, tL_6, tL_7, tL_9, tL_10, tL_12, tL_15, tL_30, tL_40, tL_60, tL_99, tL_255, tL_1023, tL_m1, lc_lt, lc_gt, lc_ge, lc_le, lc_eq, l6_le, l6_lt, l6_eq, tI_m133, tI_m226, i_le, i_lt, i_eq, tI_m1, tI_0, tI_1, tI_8, tI_12, tI_16, tI_100, tI_10000] at c1); (try simp only [l_int, tL_0, tL_1, tL_2, tL_4, tL_5, tL_6, tL_7, tL_9, tL_10, tL_12, tL_15, tL_30, tL_40, tL_60, tL_99, tL_255, tL_1023, tL_m1, lc_lt, lc_gt, lc_ge, lc_le, lc_eq, l6_le, l6_lt, l6_eq, tI_m133, tI_m226, i_le, i_lt, i_eq, tI_m1, tI_0, tI_1, tI_8, tI_12, tI_16, tI_100, tI_10000]); omega
      rw [dv_neg h9 (by decide), show (10000 : Int32).toInt = 10000 from by decide]
      omega
    refine WS.iconst (v := (-1)) hx dX11_drawn_67 (by decide) ?_
    exact WS.iret hx he dX11_drawn_68 ⟨_, rfl, by (try dsimp only); by_cases hc : ((1 ≤ (x / 10000).toInt ∧ (x / 10000).toInt ≤ 30) ∧ (1 ≤ ((x / 100) - (x / 100) / 100 * 100).toInt ∧ ((x / 100) - (x / 100) / 100 * 100).toInt ≤ 60) ∧ (0 ≤ (x - x / 100 * 100).toInt ∧ (x - x / 100 * 100).toInt ≤ 12)) <;> first | (rw [if_pos hc]; exact ⟨rfl, ME.rf⟩) | (rw [if_neg (fun h => h hc), if_pos (fun h => by (try simp only [l_int, tL_0, tL_1, tL_2, tL_4, tL_5, tL_6, tL_7, tL_9, tL_10, tL_12, tL_15, tL_30, tL_40, tL_60, tL_99, tL_255, tL_1023, tL_m1, lc_lt, lc_gt, lc_ge, lc_le, lc_eq, l6_le, l6_lt, l6_eq, tI_m133, tI_m226, i_le, i_lt, i_eq, tI_m1, tI_0, tI_1, tI_8, tI_12, tI_16, tI_100, tI_10000] at c1); (try simp only [l_int, tL_0, tL_1, tL_2, tL_4, tL_5, tL_6, tL_7, tL_9, tL_10, tL_12, tL_15, tL_30, tL_40, tL_60, tL_99, tL_255, tL_1023, tL_m1, lc_lt, lc_gt, lc_ge, lc_le, lc_eq, l6_le, l6_lt, l6_eq, tI_m133, tI_m226, i_le, i_lt, i_eq, tI_m1, tI_0, tI_1, tI_8, tI_12, tI_16, tI_100, tI_10000]); omega)]; exact ⟨rfl, ME.rf⟩)⟩
  · skip
    show WS layM V 10 X σ 4 [(0, rf V 0), (1, .int sd), (2, .int x), (3, .int b)] []
    refine WS.iload_n hx dX11_drawn_4 rfl 2 rfl ?_
    refine WS.sipush (v := 10000) hx dX11_drawn_5 (by decide) ?_
    refine WS.idiv hx dX11_drawn_8 (by decide) ?_
    refine WS.i2l hx dX11_drawn_9 ?_
    refine WS.lconst (v := 1) hx dX11_drawn_10 rfl ?_
    refine WS.ldc2 (v := 30) hx lc11_305 dX11_drawn_11 ?_
    refine WS.callSi (st := []) [.long (Int32.toInt64 (x / 10000)), .long 1, .long 30] hx (c_X11_within V (d + 5) σ (Int32.toInt64 (x / 10000)) 1 30) okX11_within lm11_100 rfl rfl (Nat.le_of_ble_eq_true rfl) dX11_drawn_14 (fun v1 σ2 h3 => ?_)
    rcases h3 with ⟨rfl, rfl, hb14⟩ | ⟨rfl, rfl, hb14⟩
    · skip
      show WS layM V 10 X σ 17 [(0, rf V 0), (1, .int sd), (2, .int x), (3, .int b)] [.int 1]
      refine WS.if_eq (tgt := 67) hx dX11_drawn_17 (by decide) (fun h => absurd h (by decide)) (fun _ => ?_)
      refine WS.iload_n hx dX11_drawn_20 rfl 2 rfl ?_
      refine WS.bipush (v := 100) hx dX11_drawn_21 (by decide) ?_
      refine WS.idiv hx dX11_drawn_23 (by decide) ?_
      refine WS.bipush (v := 100) hx dX11_drawn_24 (by decide) ?_
      refine WS.irem hx dX11_drawn_26 (by decide) ?_
      refine WS.i2l hx dX11_drawn_27 ?_
      refine WS.lconst (v := 1) hx dX11_drawn_28 rfl ?_
      refine WS.ldc2 (v := 60) hx lc11_237 dX11_drawn_29 ?_
      refine WS.callSi (st := []) [.long (Int32.toInt64 ((x / 100) - (x / 100) / 100 * 100)), .long 1, .long 60] hx (c_X11_within V (d + 5) σ (Int32.toInt64 ((x / 100) - (x / 100) / 100 * 100)) 1 60) okX11_within lm11_100 rfl rfl (Nat.le_of_ble_eq_true rfl) dX11_drawn_32 (fun v4 σ5 h6 => ?_)
      rcases h6 with ⟨rfl, rfl, hb32⟩ | ⟨rfl, rfl, hb32⟩
      · skip
        show WS layM V 10 X σ 35 [(0, rf V 0), (1, .int sd), (2, .int x), (3, .int b)] [.int 1]
        refine WS.if_eq (tgt := 67) hx dX11_drawn_35 (by decide) (fun h => absurd h (by decide)) (fun _ => ?_)
        refine WS.iload_n hx dX11_drawn_38 rfl 2 rfl ?_
        refine WS.bipush (v := 100) hx dX11_drawn_39 (by decide) ?_
        refine WS.irem hx dX11_drawn_41 (by decide) ?_
        refine WS.i2l hx dX11_drawn_42 ?_
        refine WS.lconst (v := 0) hx dX11_drawn_43 rfl ?_
        refine WS.ldc2 (v := 12) hx lc11_307 dX11_drawn_44 ?_
        refine WS.callSi (st := []) [.long (Int32.toInt64 (x - x / 100 * 100)), .long 0, .long 12] hx (c_X11_within V (d + 5) σ (Int32.toInt64 (x - x / 100 * 100)) 0 12) okX11_within lm11_100 rfl rfl (Nat.le_of_ble_eq_true rfl) dX11_drawn_47 (fun v7 σ8 h9 => ?_)
        rcases h9 with ⟨rfl, rfl, hb47⟩ | ⟨rfl, rfl, hb47⟩
        · skip
          show WS layM V 10 X σ 50 [(0, rf V 0), (1, .int sd), (2, .int x), (3, .int b)] [.int 1]
          refine WS.if_eq (tgt := 67) hx dX11_drawn_50 (by decide) (fun h => absurd h (by decide)) (fun _ => ?_)
          refine WS.iload_n hx dX11_drawn_53 rfl 3 rfl ?_
          refine WS.iconst (v := (-1)) hx dX11_drawn_54 (by decide) ?_
          refine WS.icmp_eq (tgt := 69) hx dX11_drawn_55 (by decide) (fun c55 => ?_) (fun c55 => ?_)
          · skip
            show WS layM V 10 X σ 69 [(0, rf V 0), (1, .int sd), (2, .int x), (3, .int b)] []
            refine WS.iload_n hx dX11_drawn_69 rfl 1 rfl ?_
            refine WS.istore (lo' := [(4, .int sd), (0, rf V 0), (1, .int sd), (2, .int x), (3, .int b)]) hx dX11_drawn_70 (by decide) rfl ?_
            refine WS.iconst (v := 0) hx dX11_drawn_72 (by decide) ?_
            refine WS.istore (lo' := [(5, .int 0), (4, .int sd), (0, rf V 0), (1, .int sd), (2, .int x), (3, .int b)]) hx dX11_drawn_73 (by decide) rfl ?_
            refine WS.iconst (v := 0) hx dX11_drawn_75 (by decide) ?_
            refine WS.istore (lo' := [(6, .int 0), (5, .int 0), (4, .int sd), (0, rf V 0), (1, .int sd), (2, .int x), (3, .int b)]) hx dX11_drawn_76 (by decide) rfl ?_
            refine WS.iconst (v := 0) hx dX11_drawn_78 (by decide) ?_
            refine WS.istore (lo' := [(7, .int 0), (6, .int 0), (5, .int 0), (4, .int sd), (0, rf V 0), (1, .int sd), (2, .int x), (3, .int b)]) hx dX11_drawn_79 (by decide) rfl ?_
            have hC1 : ((1 ≤ (x / 10000).toInt ∧ (x / 10000).toInt ≤ 30) ∧ (1 ≤ ((x / 100) - (x / 100) / 100 * 100).toInt ∧ ((x / 100) - (x / 100) / 100 * 100).toInt ≤ 60) ∧ (0 ≤ (x - x / 100 * 100).toInt ∧ (x - x / 100 * 100).toInt ≤ 12)) := by
              (try simp only [l_int, tL_0, tL_1, tL_2, tL_4, tL_5, tL_6, tL_7, tL_9, tL_10, tL_12, tL_15, tL_30, tL_40, tL_60, tL_99, tL_255, tL_1023, tL_m1, lc_lt, lc_gt, lc_ge, lc_le, lc_eq, l6_le, l6_lt, l6_eq, tI_m133, tI_m226, i_le, i_lt, i_eq, tI_m1, tI_0, tI_1, tI_8, tI_12, tI_16, tI_100, tI_10000] at c1); (try simp only [l_int, tL_0, tL_1, tL_2, tL_4, tL_5, tL_6, tL_7, tL_9, tL_10, tL_12, tL_15, tL_30, tL_40, tL_60, tL_99, tL_255, tL_1023, tL_m1, lc_lt, lc_gt, lc_ge, lc_le, lc_eq, l6_le, l6_lt, l6_eq, tI_m133, tI_m226, i_le, i_lt, i_eq, tI_m1, tI_0, tI_1, tI_8, tI_12, tI_16, tI_100, tI_10000] at hb14); (try simp only [l_int, tL_0, tL_1, tL_2, tL_4, tL_5, tL_6, tL_7, tL_9, tL_10, tL_12, tL_15, tL_30, tL_40, tL_60, tL_99, tL_255, tL_1023, tL_m1, lc_lt, lc_gt, lc_ge, lc_le, lc_eq, l6_le, l6_lt, l6_eq, tI_m133, tI_m226, i_le, i_lt, i_eq, tI_m1, tI_0, tI_1, tI_8, tI_12, tI_16, tI_100, tI_10000] at hb32); (try simp only [l_int, tL_0, tL_1, tL_2, tL_4, tL_5, tL_6, tL_7, tL_9, tL_10, tL_12, tL_15, tL_30, tL_40, tL_60, tL_99, tL_255, tL_1023, tL_m1, lc_lt, lc_gt, lc_ge, lc_le, lc_eq, l6_le, l6_lt, l6_eq, tI_m133, tI_m226, i_le, i_lt, i_eq, tI_m1, tI_0, tI_1, tI_8, tI_12, tI_16, tI_100, tI_10000] at hb47); (try simp only [l_int, tL_0, tL_1, tL_2, tL_4, tL_5, tL_6, tL_7, tL_9, tL_10, tL_12, tL_15, tL_30, tL_40, tL_60, tL_99, tL_255, tL_1023, tL_m1, lc_lt, lc_gt, lc_ge, lc_le, lc_eq, l6_le, l6_lt, l6_eq, tI_m133, tI_m226, i_le, i_lt, i_eq, tI_m1, tI_0, tI_1, tI_8, tI_12, tI_16, tI_100, tI_10000] at c55); omega
            have hC2 : (b.toInt = -1 ∨ (0 ≤ b.toInt ∧ b.toInt < n)) := by
              (try simp only [l_int, tL_0, tL_1, tL_2, tL_4, tL_5, tL_6, tL_7, tL_9, tL_10, tL_12, tL_15, tL_30, tL_40, tL_60, tL_99, tL_255, tL_1023, tL_m1, lc_lt, lc_gt, lc_ge, lc_le, lc_eq, l6_le, l6_lt, l6_eq, tI_m133, tI_m226, i_le, i_lt, i_eq, tI_m1, tI_0, tI_1, tI_8, tI_12, tI_16, tI_100, tI_10000] at c1); (try simp only [l_int, tL_0, tL_1, tL_2, tL_4, tL_5, tL_6, tL_7, tL_9, tL_10, tL_12, tL_15, tL_30, tL_40, tL_60, tL_99, tL_255, tL_1023, tL_m1, lc_lt, lc_gt, lc_ge, lc_le, lc_eq, l6_le, l6_lt, l6_eq, tI_m133, tI_m226, i_le, i_lt, i_eq, tI_m1, tI_0, tI_1, tI_8, tI_12, tI_16, tI_100, tI_10000] at hb14); (try simp only [l_int, tL_0, tL_1, tL_2, tL_4, tL_5, tL_6, tL_7, tL_9, tL_10, tL_12, tL_15, tL_30, tL_40, tL_60, tL_99, tL_255, tL_1023, tL_m1, lc_lt, lc_gt, lc_ge, lc_le, lc_eq, l6_le, l6_lt, l6_eq, tI_m133, tI_m226, i_le, i_lt, i_eq, tI_m1, tI_0, tI_1, tI_8, tI_12, tI_16, tI_100, tI_10000] at hb32); (try simp only [l_int, tL_0, tL_1, tL_2, tL_4, tL_5, tL_6, tL_7, tL_9, tL_10, tL_12, tL_15, tL_30, tL_40, tL_60, tL_99, tL_255, tL_1023, tL_m1, lc_lt, lc_gt, lc_ge, lc_le, lc_eq, l6_le, l6_lt, l6_eq, tI_m133, tI_m226, i_le, i_lt, i_eq, tI_m1, tI_0, tI_1, tI_8, tI_12, tI_16, tI_100, tI_10000] at hb47); (try simp only [l_int, tL_0, tL_1, tL_2, tL_4, tL_5, tL_6, tL_7, tL_9, tL_10, tL_12, tL_15, tL_30, tL_40, tL_60, tL_99, tL_255, tL_1023, tL_m1, lc_lt, lc_gt, lc_ge, lc_le, lc_eq, l6_le, l6_lt, l6_eq, tI_m133, tI_m226, i_le, i_lt, i_eq, tI_m1, tI_0, tI_1, tI_8, tI_12, tI_16, tI_100, tI_10000] at c55); omega
            have e0 : (0 : Int32) = ownV b (sd, 0, fillF 10 0 (κ.1 28)) := by
              unfold ownV
              by_cases h : 0 ≤ b.toInt
              · rw [if_pos h]
                have := nn_int h
                exact (if_pos (by omega)).symm
              · rw [if_neg h]
            have h9 := la_X11_drawn V d σ κ n hM cs T lw hL (nn (x - x / 100 * 100)) (nn ((x / 100) - (x / 100) / 100 * 100)) (nn (x / 10000)) (by have := nn_int hC1.2.2.1; omega) (by have := nn_int (show 0 ≤ ((x / 100) - (x / 100) / 100 * 100).toInt by omega); omega) (by have := nn_int (show 0 ≤ (x / 10000).toInt by omega); omega) sd x b (nI_nn (by omega)).symm (nI_nn (by omega)).symm (nI_nn (by omega)).symm hC2 (axR (wdM κ n lw) n (nn (x - x / 100 * 100)) (nn ((x / 100) - (x / 100) / 100 * 100)) (nn (x / 10000)) (sd, 0, fillF 10 0 (κ.1 28))) _ X hx he ⟨fun h τ h8 => ?_, fun h τ h8 => ?_⟩ (nn (x / 10000)) 0 (sd, 0, fillF 10 0 (κ.1 28)) σ (Nat.zero_add _) ME.rf rfl
            · rw [← e0] at h9
              exact WS.los [0, 1, 2, 3, 4, 5, 6, 7] rfl h9
            · rw [i_le, tI_0] at h
              (try dsimp only)
              rw [if_neg (fun g => g hC1), if_neg (fun g => g hC2), if_neg (by omega)]
              exact ⟨if_pos h, h8⟩
            · rw [i_le, tI_0] at h
              (try dsimp only)
              rw [if_neg (fun g => g hC1), if_neg (fun g => g hC2), if_pos (by omega)]
              exact ⟨rfl, h8⟩
          · skip
            show WS layM V 10 X σ 58 [(0, rf V 0), (1, .int sd), (2, .int x), (3, .int b)] []
            refine WS.aload_n hx dX11_drawn_58 rfl 0 rfl ?_
            refine WS.iload_n hx dX11_drawn_59 rfl 3 rfl ?_
            refine WS.i2l hx dX11_drawn_60 ?_
            refine WS.callVi (st := []) [.long (Int32.toInt64 b)] hx (c_X11_isBlock V (d + 4) σ n hs hn (Int32.toInt64 b)) okX11_isBlock lm11_127 rfl rfl rfl rfl (Nat.le_of_ble_eq_true rfl) dX11_drawn_61 (fun v10 σ11 h12 => ?_)
            rcases h12 with ⟨rfl, rfl, hb61⟩ | ⟨rfl, rfl, hb61⟩
            · skip
              show WS layM V 10 X σ 64 [(0, rf V 0), (1, .int sd), (2, .int x), (3, .int b)] [.int 1]
              refine WS.if_ne (tgt := 69) hx dX11_drawn_64 (by decide) (fun _ => ?_) (fun h => absurd h (by decide))
              refine WS.iload_n hx dX11_drawn_69 rfl 1 rfl ?_
              refine WS.istore (lo' := [(4, .int sd), (0, rf V 0), (1, .int sd), (2, .int x), (3, .int b)]) hx dX11_drawn_70 (by decide) rfl ?_
              refine WS.iconst (v := 0) hx dX11_drawn_72 (by decide) ?_
              refine WS.istore (lo' := [(5, .int 0), (4, .int sd), (0, rf V 0), (1, .int sd), (2, .int x), (3, .int b)]) hx dX11_drawn_73 (by decide) rfl ?_
              refine WS.iconst (v := 0) hx dX11_drawn_75 (by decide) ?_
              refine WS.istore (lo' := [(6, .int 0), (5, .int 0), (4, .int sd), (0, rf V 0), (1, .int sd), (2, .int x), (3, .int b)]) hx dX11_drawn_76 (by decide) rfl ?_
              refine WS.iconst (v := 0) hx dX11_drawn_78 (by decide) ?_
              refine WS.istore (lo' := [(7, .int 0), (6, .int 0), (5, .int 0), (4, .int sd), (0, rf V 0), (1, .int sd), (2, .int x), (3, .int b)]) hx dX11_drawn_79 (by decide) rfl ?_
              have hC1 : ((1 ≤ (x / 10000).toInt ∧ (x / 10000).toInt ≤ 30) ∧ (1 ≤ ((x / 100) - (x / 100) / 100 * 100).toInt ∧ ((x / 100) - (x / 100) / 100 * 100).toInt ≤ 60) ∧ (0 ≤ (x - x / 100 * 100).toInt ∧ (x - x / 100 * 100).toInt ≤ 12)) := by
                (try simp only [l_int, tL_0, tL_1, tL_2, tL_4, tL_5, tL_6, tL_7, tL_9, tL_10, tL_12, tL_15, tL_30, tL_40, tL_60, tL_99, tL_255, tL_1023, tL_m1, lc_lt, lc_gt, lc_ge, lc_le, lc_eq, l6_le, l6_lt, l6_eq, tI_m133, tI_m226, i_le, i_lt, i_eq, tI_m1, tI_0, tI_1, tI_8, tI_12, tI_16, tI_100, tI_10000] at c1); (try simp only [l_int, tL_0, tL_1, tL_2, tL_4, tL_5, tL_6, tL_7, tL_9, tL_10, tL_12, tL_15, tL_30, tL_40, tL_60, tL_99, tL_255, tL_1023, tL_m1, lc_lt, lc_gt, lc_ge, lc_le, lc_eq, l6_le, l6_lt, l6_eq, tI_m133, tI_m226, i_le, i_lt, i_eq, tI_m1, tI_0, tI_1, tI_8, tI_12, tI_16, tI_100, tI_10000] at hb14); (try simp only [l_int, tL_0, tL_1, tL_2, tL_4, tL_5, tL_6, tL_7, tL_9, tL_10, tL_12, tL_15, tL_30, tL_40, tL_60, tL_99, tL_255, tL_1023, tL_m1, lc_lt, lc_gt, lc_ge, lc_le, lc_eq, l6_le, l6_lt, l6_eq, tI_m133, tI_m226, i_le, i_lt, i_eq, tI_m1, tI_0, tI_1, tI_8, tI_12, tI_16, tI_100, tI_10000] at hb32); (try simp only [l_int, tL_0, tL_1, tL_2, tL_4, tL_5, tL_6, tL_7, tL_9, tL_10, tL_12, tL_15, tL_30, tL_40, tL_60, tL_99, tL_255, tL_1023, tL_m1, lc_lt, lc_gt, lc_ge, lc_le, lc_eq, l6_le, l6_lt, l6_eq, tI_m133, tI_m226, i_le, i_lt, i_eq, tI_m1, tI_0, tI_1, tI_8, tI_12, tI_16, tI_100, tI_10000] at hb47); (try simp only [l_int, tL_0, tL_1, tL_2, tL_4, tL_5, tL_6, tL_7, tL_9, tL_10, tL_12, tL_15, tL_30, tL_40, tL_60, tL_99, tL_255, tL_1023, tL_m1, lc_lt, lc_gt, lc_ge, lc_le, lc_eq, l6_le, l6_lt, l6_eq, tI_m133, tI_m226, i_le, i_lt, i_eq, tI_m1, tI_0, tI_1, tI_8, tI_12, tI_16, tI_100, tI_10000] at c55); (try simp only [l_int, tL_0, tL_1, tL_2, tL_4, tL_5, tL_6, tL_7, tL_9, tL_10, tL_12, tL_15, tL_30, tL_40, tL_60, tL_99, tL_255, tL_1023, tL_m1, lc_lt, lc_gt, lc_ge, lc_le, lc_eq, l6_le, l6_lt, l6_eq, tI_m133, tI_m226, i_le, i_lt, i_eq, tI_m1, tI_0, tI_1, tI_8, tI_12, tI_16, tI_100, tI_10000] at hb61); omega
              have hC2 : (b.toInt = -1 ∨ (0 ≤ b.toInt ∧ b.toInt < n)) := by
                (try simp only [l_int, tL_0, tL_1, tL_2, tL_4, tL_5, tL_6, tL_7, tL_9, tL_10, tL_12, tL_15, tL_30, tL_40, tL_60, tL_99, tL_255, tL_1023, tL_m1, lc_lt, lc_gt, lc_ge, lc_le, lc_eq, l6_le, l6_lt, l6_eq, tI_m133, tI_m226, i_le, i_lt, i_eq, tI_m1, tI_0, tI_1, tI_8, tI_12, tI_16, tI_100, tI_10000] at c1); (try simp only [l_int, tL_0, tL_1, tL_2, tL_4, tL_5, tL_6, tL_7, tL_9, tL_10, tL_12, tL_15, tL_30, tL_40, tL_60, tL_99, tL_255, tL_1023, tL_m1, lc_lt, lc_gt, lc_ge, lc_le, lc_eq, l6_le, l6_lt, l6_eq, tI_m133, tI_m226, i_le, i_lt, i_eq, tI_m1, tI_0, tI_1, tI_8, tI_12, tI_16, tI_100, tI_10000] at hb14); (try simp only [l_int, tL_0, tL_1, tL_2, tL_4, tL_5, tL_6, tL_7, tL_9, tL_10, tL_12, tL_15, tL_30, tL_40, tL_60, tL_99, tL_255, tL_1023, tL_m1, lc_lt, lc_gt, lc_ge, lc_le, lc_eq, l6_le, l6_lt, l6_eq, tI_m133, tI_m226, i_le, i_lt, i_eq, tI_m1, tI_0, tI_1, tI_8, tI_12, tI_16, tI_100, tI_10000] at hb32); (try simp only [l_int, tL_0, tL_1, tL_2, tL_4, tL_5, tL_6, tL_7, tL_9, tL_10, tL_12, tL_15, tL_30, tL_40, tL_60, tL_99, tL_255, tL_1023, tL_m1, lc_lt, lc_gt, lc_ge, lc_le, lc_eq, l6_le, l6_lt, l6_eq, tI_m133, tI_m226, i_le, i_lt, i_eq, tI_m1, tI_0, tI_1, tI_8, tI_12, tI_16, tI_100, tI_10000] at hb47); (try simp only [l_int, tL_0, tL_1, tL_2, tL_4, tL_5, tL_6, tL_7, tL_9, tL_10, tL_12, tL_15, tL_30, tL_40, tL_60, tL_99, tL_255, tL_1023, tL_m1, lc_lt, lc_gt, lc_ge, lc_le, lc_eq, l6_le, l6_lt, l6_eq, tI_m133, tI_m226, i_le, i_lt, i_eq, tI_m1, tI_0, tI_1, tI_8, tI_12, tI_16, tI_100, tI_10000] at c55); (try simp only [l_int, tL_0, tL_1, tL_2, tL_4, tL_5, tL_6, tL_7, tL_9, tL_10, tL_12, tL_15, tL_30, tL_40, tL_60, tL_99, tL_255, tL_1023, tL_m1, lc_lt, lc_gt, lc_ge, lc_le, lc_eq, l6_le, l6_lt, l6_eq, tI_m133, tI_m226, i_le, i_lt, i_eq, tI_m1, tI_0, tI_1, tI_8, tI_12, tI_16, tI_100, tI_10000] at hb61); omega
              have e0 : (0 : Int32) = ownV b (sd, 0, fillF 10 0 (κ.1 28)) := by
                unfold ownV
                by_cases h : 0 ≤ b.toInt
                · rw [if_pos h]
                  have := nn_int h
                  exact (if_pos (by omega)).symm
                · rw [if_neg h]
              have h9 := la_X11_drawn V d σ κ n hM cs T lw hL (nn (x - x / 100 * 100)) (nn ((x / 100) - (x / 100) / 100 * 100)) (nn (x / 10000)) (by have := nn_int hC1.2.2.1; omega) (by have := nn_int (show 0 ≤ ((x / 100) - (x / 100) / 100 * 100).toInt by omega); omega) (by have := nn_int (show 0 ≤ (x / 10000).toInt by omega); omega) sd x b (nI_nn (by omega)).symm (nI_nn (by omega)).symm (nI_nn (by omega)).symm hC2 (axR (wdM κ n lw) n (nn (x - x / 100 * 100)) (nn ((x / 100) - (x / 100) / 100 * 100)) (nn (x / 10000)) (sd, 0, fillF 10 0 (κ.1 28))) _ X hx he ⟨fun h τ h8 => ?_, fun h τ h8 => ?_⟩ (nn (x / 10000)) 0 (sd, 0, fillF 10 0 (κ.1 28)) σ (Nat.zero_add _) ME.rf rfl
              · rw [← e0] at h9
                exact WS.los [0, 1, 2, 3, 4, 5, 6, 7] rfl h9
              · rw [i_le, tI_0] at h
                (try dsimp only)
                rw [if_neg (fun g => g hC1), if_neg (fun g => g hC2), if_neg (by omega)]
                exact ⟨if_pos h, h8⟩
              · rw [i_le, tI_0] at h
                (try dsimp only)
                rw [if_neg (fun g => g hC1), if_neg (fun g => g hC2), if_pos (by omega)]
                exact ⟨rfl, h8⟩
            · skip
              show WS layM V 10 X σ 64 [(0, rf V 0), (1, .int sd), (2, .int x), (3, .int b)] [.int 0]
              refine WS.if_ne (tgt := 69) hx dX11_drawn_64 (by decide) (fun h => absurd (by decide) h) (fun _ => ?_)
              refine WS.iconst (v := (-1)) hx dX11_drawn_67 (by decide) ?_
              exact WS.iret hx he dX11_drawn_68 ⟨_, rfl, by (try dsimp only); by_cases hc : ((1 ≤ (x / 10000).toInt ∧ (x / 10000).toInt ≤ 30) ∧ (1 ≤ ((x / 100) - (x / 100) / 100 * 100).toInt ∧ ((x / 100) - (x / 100) / 100 * 100).toInt ≤ 60) ∧ (0 ≤ (x - x / 100 * 100).toInt ∧ (x - x / 100 * 100).toInt ≤ 12)) <;> first | (rw [if_pos hc]; exact ⟨rfl, ME.rf⟩) | (rw [if_neg (fun h => h hc), if_pos (fun h => by (try simp only [l_int, tL_0, tL_1, tL_2, tL_4, tL_5, tL_6, tL_7, tL_9, tL_10, tL_12, tL_15, tL_30, tL_40, tL_60, tL_99, tL_255, tL_1023, tL_m1, lc_lt, lc_gt, lc_ge, lc_le, lc_eq, l6_le, l6_lt, l6_eq, tI_m133, tI_m226, i_le, i_lt, i_eq, tI_m1, tI_0, tI_1, tI_8, tI_12, tI_16, tI_100, tI_10000] at c1); (try simp only [l_int, tL_0, tL_1, tL_2, tL_4, tL_5, tL_6, tL_7, tL_9, tL_10, tL_12, tL_15, tL_30, tL_40, tL_60, tL_99, tL_255, tL_1023, tL_m1, lc_lt, lc_gt, lc_ge, lc_le, lc_eq, l6_le, l6_lt, l6_eq, tI_m133, tI_m226, i_le, i_lt, i_eq, tI_m1, tI_0, tI_1, tI_8, tI_12, tI_16, tI_100, tI_10000] at hb14); (try simp only [l_int, tL_0, tL_1, tL_2, tL_4, tL_5, tL_6, tL_7, tL_9, tL_10, tL_12, tL_15, tL_30, tL_40, tL_60, tL_99, tL_255, tL_1023, tL_m1, lc_lt, lc_gt, lc_ge, lc_le, lc_eq, l6_le, l6_lt, l6_eq, tI_m133, tI_m226, i_le, i_lt, i_eq, tI_m1, tI_0, tI_1, tI_8, tI_12, tI_16, tI_100, tI_10000] at hb32); (try simp only [l_int, tL_0, tL_1, tL_2, tL_4, tL_5, tL_6, tL_7, tL_9, tL_10, tL_12, tL_15, tL_30, tL_40, tL_60, tL_99, tL_255, tL_1023, tL_m1, lc_lt, lc_gt, lc_ge, lc_le, lc_eq, l6_le, l6_lt, l6_eq, tI_m133, tI_m226, i_le, i_lt, i_eq, tI_m1, tI_0, tI_1, tI_8, tI_12, tI_16, tI_100, tI_10000] at hb47); (try simp only [l_int, tL_0, tL_1, tL_2, tL_4, tL_5, tL_6, tL_7, tL_9, tL_10, tL_12, tL_15, tL_30, tL_40, tL_60, tL_99, tL_255, tL_1023, tL_m1, lc_lt, lc_gt, lc_ge, lc_le, lc_eq, l6_le, l6_lt, l6_eq, tI_m133, tI_m226, i_le, i_lt, i_eq, tI_m1, tI_0, tI_1, tI_8, tI_12, tI_16, tI_100, tI_10000] at c55); (try simp only [l_int, tL_0, tL_1, tL_2, tL_4, tL_5, tL_6, tL_7, tL_9, tL_10, tL_12, tL_15, tL_30, tL_40, tL_60, tL_99, tL_255, tL_1023, tL_m1, lc_lt, lc_gt, lc_ge, lc_le, lc_eq, l6_le, l6_lt, l6_eq, tI_m133, tI_m226, i_le, i_lt, i_eq, tI_m1, tI_0, tI_1, tI_8, tI_12, tI_16, tI_100, tI_10000] at hb61); (try simp only [l_int, tL_0, tL_1, tL_2, tL_4, tL_5, tL_6, tL_7, tL_9, tL_10, tL_12, tL_15, tL_30, tL_40, tL_60, tL_99, tL_255, tL_1023, tL_m1, lc_lt, lc_gt, lc_ge, lc_le, lc_eq, l6_le, l6_lt, l6_eq, tI_m133, tI_m226, i_le, i_lt, i_eq, tI_m1, tI_0, tI_1, tI_8, tI_12, tI_16, tI_100, tI_10000]); omega)]; exact ⟨rfl, ME.rf⟩)⟩
        · skip
          show WS layM V 10 X σ 50 [(0, rf V 0), (1, .int sd), (2, .int x), (3, .int b)] [.int 0]
          refine WS.if_eq (tgt := 67) hx dX11_drawn_50 (by decide) (fun _ => ?_) (fun h => absurd (by decide) h)
          refine WS.iconst (v := (-1)) hx dX11_drawn_67 (by decide) ?_
          exact WS.iret hx he dX11_drawn_68 ⟨_, rfl, by (try dsimp only); by_cases hc : ((1 ≤ (x / 10000).toInt ∧ (x / 10000).toInt ≤ 30) ∧ (1 ≤ ((x / 100) - (x / 100) / 100 * 100).toInt ∧ ((x / 100) - (x / 100) / 100 * 100).toInt ≤ 60) ∧ (0 ≤ (x - x / 100 * 100).toInt ∧ (x - x / 100 * 100).toInt ≤ 12)) <;> first | (rw [if_pos hc]; exact ⟨rfl, ME.rf⟩) | (rw [if_neg (fun h => h hc), if_pos (fun h => by (try simp only [l_int, tL_0, tL_1, tL_2, tL_4, tL_5, tL_6, tL_7, tL_9, tL_10, tL_12, tL_15, tL_30, tL_40, tL_60, tL_99, tL_255, tL_1023, tL_m1, lc_lt, lc_gt, lc_ge, lc_le, lc_eq, l6_le, l6_lt, l6_eq, tI_m133, tI_m226, i_le, i_lt, i_eq, tI_m1, tI_0, tI_1, tI_8, tI_12, tI_16, tI_100, tI_10000] at c1); (try simp only [l_int, tL_0, tL_1, tL_2, tL_4, tL_5, tL_6, tL_7, tL_9, tL_10, tL_12, tL_15, tL_30, tL_40, tL_60, tL_99, tL_255, tL_1023, tL_m1, lc_lt, lc_gt, lc_ge, lc_le, lc_eq, l6_le, l6_lt, l6_eq, tI_m133, tI_m226, i_le, i_lt, i_eq, tI_m1, tI_0, tI_1, tI_8, tI_12, tI_16, tI_100, tI_10000] at hb14); (try simp only [l_int, tL_0, tL_1, tL_2, tL_4, tL_5, tL_6, tL_7, tL_9, tL_10, tL_12, tL_15, tL_30, tL_40, tL_60, tL_99, tL_255, tL_1023, tL_m1, lc_lt, lc_gt, lc_ge, lc_le, lc_eq, l6_le, l6_lt, l6_eq, tI_m133, tI_m226, i_le, i_lt, i_eq, tI_m1, tI_0, tI_1, tI_8, tI_12, tI_16, tI_100, tI_10000] at hb32); (try simp only [l_int, tL_0, tL_1, tL_2, tL_4, tL_5, tL_6, tL_7, tL_9, tL_10, tL_12, tL_15, tL_30, tL_40, tL_60, tL_99, tL_255, tL_1023, tL_m1, lc_lt, lc_gt, lc_ge, lc_le, lc_eq, l6_le, l6_lt, l6_eq, tI_m133, tI_m226, i_le, i_lt, i_eq, tI_m1, tI_0, tI_1, tI_8, tI_12, tI_16, tI_100, tI_10000] at hb47); (try simp only [l_int, tL_0, tL_1, tL_2, tL_4, tL_5, tL_6, tL_7, tL_9, tL_10, tL_12, tL_15, tL_30, tL_40, tL_60, tL_99, tL_255, tL_1023, tL_m1, lc_lt, lc_gt, lc_ge, lc_le, lc_eq, l6_le, l6_lt, l6_eq, tI_m133, tI_m226, i_le, i_lt, i_eq, tI_m1, tI_0, tI_1, tI_8, tI_12, tI_16, tI_100, tI_10000]); omega)]; exact ⟨rfl, ME.rf⟩)⟩
      · skip
        show WS layM V 10 X σ 35 [(0, rf V 0), (1, .int sd), (2, .int x), (3, .int b)] [.int 0]
        refine WS.if_eq (tgt := 67) hx dX11_drawn_35 (by decide) (fun _ => ?_) (fun h => absurd (by decide) h)
        refine WS.iconst (v := (-1)) hx dX11_drawn_67 (by decide) ?_
        exact WS.iret hx he dX11_drawn_68 ⟨_, rfl, by (try dsimp only); by_cases hc : ((1 ≤ (x / 10000).toInt ∧ (x / 10000).toInt ≤ 30) ∧ (1 ≤ ((x / 100) - (x / 100) / 100 * 100).toInt ∧ ((x / 100) - (x / 100) / 100 * 100).toInt ≤ 60) ∧ (0 ≤ (x - x / 100 * 100).toInt ∧ (x - x / 100 * 100).toInt ≤ 12)) <;> first | (rw [if_pos hc]; exact ⟨rfl, ME.rf⟩) | (rw [if_neg (fun h => h hc), if_pos (fun h => by (try simp only [l_int, tL_0, tL_1, tL_2, tL_4, tL_5, tL_6, tL_7, tL_9, tL_10, tL_12, tL_15, tL_30, tL_40, tL_60, tL_99, tL_255, tL_1023, tL_m1, lc_lt, lc_gt, lc_ge, lc_le, lc_eq, l6_le, l6_lt, l6_eq, tI_m133, tI_m226, i_le, i_lt, i_eq, tI_m1, tI_0, tI_1, tI_8, tI_12, tI_16, tI_100, tI_10000] at c1); (try simp only [l_int, tL_0, tL_1, tL_2, tL_4, tL_5, tL_6, tL_7, tL_9, tL_10, tL_12, tL_15, tL_30, tL_40, tL_60, tL_99, tL_255, tL_1023, tL_m1, lc_lt, lc_gt, lc_ge, lc_le, lc_eq, l6_le, l6_lt, l6_eq, tI_m133, tI_m226, i_le, i_lt, i_eq, tI_m1, tI_0, tI_1, tI_8, tI_12, tI_16, tI_100, tI_10000] at hb14); (try simp only [l_int, tL_0, tL_1, tL_2, tL_4, tL_5, tL_6, tL_7, tL_9, tL_10, tL_12, tL_15, tL_30, tL_40, tL_60, tL_99, tL_255, tL_1023, tL_m1, lc_lt, lc_gt, lc_ge, lc_le, lc_eq, l6_le, l6_lt, l6_eq, tI_m133, tI_m226, i_le, i_lt, i_eq, tI_m1, tI_0, tI_1, tI_8, tI_12, tI_16, tI_100, tI_10000] at hb32); (try simp only [l_int, tL_0, tL_1, tL_2, tL_4, tL_5, tL_6, tL_7, tL_9, tL_10, tL_12, tL_15, tL_30, tL_40, tL_60, tL_99, tL_255, tL_1023, tL_m1, lc_lt, lc_gt, lc_ge, lc_le, lc_eq, l6_le, l6_lt, l6_eq, tI_m133, tI_m226, i_le, i_lt, i_eq, tI_m1, tI_0, tI_1, tI_8, tI_12, tI_16, tI_100, tI_10000]); omega)]; exact ⟨rfl, ME.rf⟩)⟩
    · skip
      show WS layM V 10 X σ 17 [(0, rf V 0), (1, .int sd), (2, .int x), (3, .int b)] [.int 0]
      refine WS.if_eq (tgt := 67) hx dX11_drawn_17 (by decide) (fun _ => ?_) (fun h => absurd (by decide) h)
      refine WS.iconst (v := (-1)) hx dX11_drawn_67 (by decide) ?_
      exact WS.iret hx he dX11_drawn_68 ⟨_, rfl, by (try dsimp only); by_cases hc : ((1 ≤ (x / 10000).toInt ∧ (x / 10000).toInt ≤ 30) ∧ (1 ≤ ((x / 100) - (x / 100) / 100 * 100).toInt ∧ ((x / 100) - (x / 100) / 100 * 100).toInt ≤ 60) ∧ (0 ≤ (x - x / 100 * 100).toInt ∧ (x - x / 100 * 100).toInt ≤ 12)) <;> first | (rw [if_pos hc]; exact ⟨rfl, ME.rf⟩) | (rw [if_neg (fun h => h hc), if_pos (fun h => by (try simp only [l_int, tL_0, tL_1, tL_2, tL_4, tL_5, tL_6, tL_7, tL_9, tL_10, tL_12, tL_15, tL_30, tL_40, tL_60, tL_99, tL_255, tL_1023, tL_m1, lc_lt, lc_gt, lc_ge, lc_le, lc_eq, l6_le, l6_lt, l6_eq, tI_m133, tI_m226, i_le, i_lt, i_eq, tI_m1, tI_0, tI_1, tI_8, tI_12, tI_16, tI_100, tI_10000] at c1); (try simp only [l_int, tL_0, tL_1, tL_2, tL_4, tL_5, tL_6, tL_7, tL_9, tL_10, tL_12, tL_15, tL_30, tL_40, tL_60, tL_99, tL_255, tL_1023, tL_m1, lc_lt, lc_gt, lc_ge, lc_le, lc_eq, l6_le, l6_lt, l6_eq, tI_m133, tI_m226, i_le, i_lt, i_eq, tI_m1, tI_0, tI_1, tI_8, tI_12, tI_16, tI_100, tI_10000] at hb14); (try simp only [l_int, tL_0, tL_1, tL_2, tL_4, tL_5, tL_6, tL_7, tL_9, tL_10, tL_12, tL_15, tL_30, tL_40, tL_60, tL_99, tL_255, tL_1023, tL_m1, lc_lt, lc_gt, lc_ge, lc_le, lc_eq, l6_le, l6_lt, l6_eq, tI_m133, tI_m226, i_le, i_lt, i_eq, tI_m1, tI_0, tI_1, tI_8, tI_12, tI_16, tI_100, tI_10000]); omega)]; exact ⟨rfl, ME.rf⟩)⟩

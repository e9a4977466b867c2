set_option maxHeartbeats 1000000 in
theorem c_X11_closedMany (V : Vt) (d : Nat) (σ : Sg) (n : Nat) (hs : σ.1 0 6 = nI n) (hn : n ≤ 10) (o : Nat) (ho : σ.1 0 26 = nI o) (hon : o ≤ n) : CT layM V mX11_closedMany (d) [rf V 0] σ (Ro (nI (n - o)) σ) := by
  refine CT.of (own := RX11) rfl (by decide) (Nat.le_of_ble_eq_true rfl) (fun X (hx : Ok V RX11 cX11_closedMany 1 (d) X) (he : En layM V (some .int) (Ro (nI (n - o)) σ) X) => ?_)
  change WS layM V 1 X σ 0 [(0, rf V 0)] []
  refine WS.aload_n hx dX11_closedMany_0 rfl 0 rfl ?_
  refine WS.getI hx okX11 lf11_97 rfl rfl dX11_closedMany_1 ?_
  refine WS.as rfl rfl (congrArg (fun z => Value.int z :: _) (show σ.1 0 6 = nI n from hs)) ?_
  skip
  refine WS.aload_n hx dX11_closedMany_4 rfl 0 rfl ?_
  refine WS.getI hx okX11 lf11_213 rfl rfl dX11_closedMany_5 ?_
  refine WS.as rfl rfl (congrArg (fun z => Value.int z :: _) (show σ.1 0 26 = nI o from ho)) ?_
  skip
  refine WS.isub hx dX11_closedMany_8 ?_
  refine WS.as rfl rfl (congrArg (fun z => Value.int z :: _) (show (nI n) - (nI o) = nI (n - o) from pk_sub hon)) ?_
  skip
  exact WS.iret hx he dX11_closedMany_9 (Ro.i rfl)
set_option maxHeartbeats 1000000 in
theorem c_X11_goes (V : Vt) (d : Nat) (σ : Sg) (κ : Sg) (n : Nat) (hM : MR κ σ n) (cs : Nat → Int32) (T : Nat) (lw : Lw) (hL : ML σ cs T lw) (b : Int32) : CT layM V mX11_goes (d + 4) [rf V 0, .int b] σ (Ri fun v σ' => (if ¬ (0 ≤ b.toInt ∧ b.toInt < n) then v = -1 ∧ ME σ σ' else (v = (wdM κ n lw).1 (nI ((wdM κ n lw).2.2.2.1 (nn b))) (nI ((wdM κ n lw).s0 (nn b)).1) (κ.1 17 ((wdM κ n lw).s0 (nn b)).1) (nI (nn b)) (nI (wdM κ n lw).2.2.2.2.2.1) (nI ((wdM κ n lw).s0 (nn b)).2) ∧ ME σ σ'))) := by
  refine CT.of (own := RX11) rfl (by decide) (Nat.le_of_ble_eq_true rfl) (fun X (hx : Ok V RX11 cX11_goes 2 (d + 4) X) (he : En layM V (some .int) (Ri fun v σ' => (if ¬ (0 ≤ b.toInt ∧ b.toInt < n) then v = -1 ∧ ME σ σ' else (v = (wdM κ n lw).1 (nI ((wdM κ n lw).2.2.2.1 (nn b))) (nI ((wdM κ n lw).s0 (nn b)).1) (κ.1 17 ((wdM κ n lw).s0 (nn b)).1) (nI (nn b)) (nI (wdM κ n lw).2.2.2.2.2.1) (nI ((wdM κ n lw).s0 (nn b)).2) ∧ ME σ σ'))) X) => ?_)
  change WS layM V 2 X σ 0 [(0, rf V 0), (1, .int b)] []
  have hn := hM.n
  have hs := hM.s
  refine WS.aload_n hx dX11_goes_0 rfl 0 rfl ?_
  refine WS.iload_n hx dX11_goes_1 rfl 1 rfl ?_
  refine WS.i2l hx dX11_goes_2 ?_
  refine WS.callVi (st := []) [.long (Int32.toInt64 b)] hx (c_X11_isBlock V (d + 2) σ n hs hn (Int32.toInt64 b)) okX11_isBlock lm11_127 rfl rfl rfl rfl (Nat.le_of_ble_eq_true rfl) dX11_goes_3 (fun v1 σ2 h3 => ?_)
  rcases h3 with ⟨rfl, rfl, hb3⟩ | ⟨rfl, rfl, hb3⟩
  · skip
    show WS layM V 2 X σ 6 [(0, rf V 0), (1, .int b)] [.int 1]
    have hb9 : 0 ≤ b.toInt ∧ b.toInt < n := by have h9 := hb3; simp only [l_int] at h9; exact h9
    have hkn : nn b < n := by have := nn_int hb9.1; omega
    refine WS.if_ne (tgt := 11) hx dX11_goes_6 (by decide) (fun _ => ?_) (fun h => absurd h (by decide))
    refine WS.aload_n hx dX11_goes_11 rfl 0 rfl ?_
    refine WS.callVv (st := []) [] hx (c_X11_begins V (d + 3) σ κ n lw hM) okX11_begins lm11_231 rfl rfl rfl rfl (Nat.le_of_ble_eq_true rfl) dX11_goes_12 (fun σ5 h6 => ?_)
    obtain ⟨me12, mt12⟩ := h6
    show WS layM V 2 X σ5 15 [(0, rf V 0), (1, .int b)] []
    refine WS.aload_n hx dX11_goes_15 rfl 0 rfl ?_
    refine WS.iload_n hx dX11_goes_16 rfl 1 rfl ?_
    refine WS.as rfl rfl (congrArg (fun z => Value.int z :: _) (show b = nI (nn b) from (nI_nn hb9.1).symm)) ?_
    skip
    refine WS.callVi (st := []) [.int (nI (nn b))] hx (c_X11_goesOn V d σ5 κ n (hM.me me12) _ mt12 (nn b) hkn cs T lw (hL.me me12)) okX11_goesOn lm11_225 rfl rfl rfl rfl (Nat.le_of_ble_eq_true rfl) dX11_goes_17 (fun v7 σ8 h9 => ?_)
    obtain ⟨hv17, ne17, ns17⟩ := h9
    show WS layM V 2 X σ8 20 [(0, rf V 0), (1, .int b)] [.int v7]
    exact WS.iret hx he dX11_goes_20 ⟨_, rfl, by (try simp only [l_int, tL_0, tL_1, tL_2, tL_4, tL_5, tL_6, tL_7, tL_9, tL_10, tL_12, tL_15, tL_30, tL_40, tL_60, tL_99, tL_255, tL_1023, tL_m1, lc_lt, lc_gt, lc_ge, lc_le, lc_eq, l6_le, l6_lt, l6_eq, tI_m133, tI_m226, i_le, i_lt, i_eq, tI_m1, tI_0, tI_1] at hb3); (repeat' split) <;> first | (exfalso; omega) | exact ⟨rfl, ME.rf⟩ | exact ⟨hv17.symm, me12.tr ⟨fun q hq => ne17 q (by unfold msc at hq; omega) (by unfold msc at hq; omega), fun j _ _ _ => by rw [ne17 0 (by decide) (by decide)], ns17⟩⟩⟩
  · skip
    show WS layM V 2 X σ 6 [(0, rf V 0), (1, .int b)] [.int 0]
    refine WS.if_ne (tgt := 11) hx dX11_goes_6 (by decide) (fun h => absurd (by decide) h) (fun _ => ?_)
    refine WS.iconst (v := (-1)) hx dX11_goes_9 (by decide) ?_
    exact WS.iret hx he dX11_goes_10 ⟨_, rfl, by (try simp only [l_int, tL_0, tL_1, tL_2, tL_4, tL_5, tL_6, tL_7, tL_9, tL_10, tL_12, tL_15, tL_30, tL_40, tL_60, tL_99, tL_255, tL_1023, tL_m1, lc_lt, lc_gt, lc_ge, lc_le, lc_eq, l6_le, l6_lt, l6_eq, tI_m133, tI_m226, i_le, i_lt, i_eq, tI_m1, tI_0, tI_1] at hb3); (repeat' split) <;> first | (exfalso; omega) | exact ⟨rfl, ME.rf⟩ | exact ⟨hv17.symm, me12.tr ⟨fun q hq => ne17 q (by unfold msc at hq; omega) (by unfold msc at hq; omega), fun j _ _ _ => by rw [ne17 0 (by decide) (by decide)], ns17⟩⟩⟩
theorem mr_rep (W : Wd) (u k : Nat) : (msR W u (ms0 W)).1 k = (rep (W.cn k (W.bd k)) u (W.s0 k)).1 ∧ (msR W u (ms0 W)).2.2.1 = (rep (W.cn k (W.bd k)) u (W.s0 k)).2 := by
  have h := msR_rep W u (ms0 W) k rfl rfl
  have h2 : ((ms0 W).1 k, (ms0 W).2.2.1) = W.s0 k := rfl
  rw [h2] at h
  rw [h]
  exact ⟨rfl, rfl⟩
set_option maxHeartbeats 1000000 in
theorem c_X11_later (V : Vt) (d : Nat) (σ : Sg) (κ : Sg) (n : Nat) (hM : MR κ σ n) (cs : Nat → Int32) (T : Nat) (lw : Lw) (hL : ML σ cs T lw) (u b q : Int32) : CT layM V mX11_later (d + 7) [rf V 0, .int u, .int b, .int q] σ (Ri fun v σ' => (if ¬ (0 ≤ u.toInt ∧ u.toInt ≤ 60 ∧ 0 ≤ b.toInt ∧ b.toInt < n ∧ 0 ≤ q.toInt ∧ q.toInt ≤ 1) then v = -1 ∧ ME σ σ' else (if q.toInt = 0 then v = nI (rep ((wdM κ n lw).cn (nn b) ((wdM κ n lw).bd (nn b))) (nn u) ((wdM κ n lw).s0 (nn b))).1 ∧ ME σ σ' else (v = κ.1 17 (rep ((wdM κ n lw).cn (nn b) ((wdM κ n lw).bd (nn b))) (nn u) ((wdM κ n lw).s0 (nn b))).1 ∧ ME σ σ')))) := by
  refine CT.of (own := RX11) rfl (by decide) (Nat.le_of_ble_eq_true rfl) (fun X (hx : Ok V RX11 cX11_later 4 (d + 7) X) (he : En layM V (some .int) (Ri fun v σ' => (if ¬ (0 ≤ u.toInt ∧ u.toInt ≤ 60 ∧ 0 ≤ b.toInt ∧ b.toInt < n ∧ 0 ≤ q.toInt ∧ q.toInt ≤ 1) then v = -1 ∧ ME σ σ' else (if q.toInt = 0 then v = nI (rep ((wdM κ n lw).cn (nn b) ((wdM κ n lw).bd (nn b))) (nn u) ((wdM κ n lw).s0 (nn b))).1 ∧ ME σ σ' else (v = κ.1 17 (rep ((wdM κ n lw).cn (nn b) ((wdM κ n lw).bd (nn b))) (nn u) ((wdM κ n lw).s0 (nn b))).1 ∧ ME σ σ')))) X) => ?_)
  change WS layM V 4 X σ 0 [(0, rf V 0), (1, .int u), (2, .int b), (3, .int q)] []
  have hn := hM.n
  have hs := hM.s
  refine WS.iload_n hx dX11_later_0 rfl 1 rfl ?_
  refine WS.i2l hx dX11_later_1 ?_
  refine WS.lconst (v := 0) hx dX11_later_2 rfl ?_
  refine WS.ldc2 (v := 60) hx lc11_237 dX11_later_3 ?_
  refine WS.callSi (st := []) [.long (Int32.toInt64 u), .long 0, .long 60] hx (c_X11_within V (d + 6) σ (Int32.toInt64 u) 0 60) okX11_within lm11_100 rfl rfl (Nat.le_of_ble_eq_true rfl) dX11_later_6 (fun v1 σ2 h3 => ?_)
  rcases h3 with ⟨rfl, rfl, hb6⟩ | ⟨rfl, rfl, hb6⟩
  · skip
    show WS layM V 4 X σ 9 [(0, rf V 0), (1, .int u), (2, .int b), (3, .int q)] [.int 1]
    refine WS.if_eq (tgt := 31) hx dX11_later_9 (by decide) (fun h => absurd h (by decide)) (fun _ => ?_)
    refine WS.aload_n hx dX11_later_12 rfl 0 rfl ?_
    refine WS.iload_n hx dX11_later_13 rfl 2 rfl ?_
    refine WS.i2l hx dX11_later_14 ?_
    refine WS.callVi (st := []) [.long (Int32.toInt64 b)] hx (c_X11_isBlock V (d + 5) σ n hs hn (Int32.toInt64 b)) okX11_isBlock lm11_127 rfl rfl rfl rfl (Nat.le_of_ble_eq_true rfl) dX11_later_15 (fun v4 σ5 h6 => ?_)
    rcases h6 with ⟨rfl, rfl, hb15⟩ | ⟨rfl, rfl, hb15⟩
    · skip
      show WS layM V 4 X σ 18 [(0, rf V 0), (1, .int u), (2, .int b), (3, .int q)] [.int 1]
      have hb9 : 0 ≤ b.toInt ∧ b.toInt < n := by have h9 := hb15; simp only [l_int] at h9; exact h9
      have hkn : nn b < n := by have := nn_int hb9.1; omega
      refine WS.if_eq (tgt := 31) hx dX11_later_18 (by decide) (fun h => absurd h (by decide)) (fun _ => ?_)
      refine WS.iload_n hx dX11_later_21 rfl 3 rfl ?_
      refine WS.i2l hx dX11_later_22 ?_
      refine WS.lconst (v := 0) hx dX11_later_23 rfl ?_
      refine WS.lconst (v := 1) hx dX11_later_24 rfl ?_
      refine WS.callSi (st := []) [.long (Int32.toInt64 q), .long 0, .long 1] hx (c_X11_within V (d + 6) σ (Int32.toInt64 q) 0 1) okX11_within lm11_100 rfl rfl (Nat.le_of_ble_eq_true rfl) dX11_later_25 (fun v7 σ8 h9 => ?_)
      rcases h9 with ⟨rfl, rfl, hb25⟩ | ⟨rfl, rfl, hb25⟩
      · skip
        show WS layM V 4 X σ 28 [(0, rf V 0), (1, .int u), (2, .int b), (3, .int q)] [.int 1]
        have hu0 : 0 ≤ u.toInt ∧ u.toInt ≤ 60 := by have h9 := hb6; simp only [l_int, tL_0, tL_60] at h9; exact h9
        have hu1 := nn_int hu0.1
        refine WS.if_ne (tgt := 33) hx dX11_later_28 (by decide) (fun _ => ?_) (fun h => absurd h (by decide))
        refine WS.aload_n hx dX11_later_33 rfl 0 rfl ?_
        refine WS.iload_n hx dX11_later_34 rfl 1 rfl ?_
        refine WS.as rfl rfl (congrArg (fun z => Value.int z :: _) (show u = nI (nn u) from (nI_nn hu0.1).symm)) ?_
        skip
        refine WS.callVv (st := []) [.int (nI (nn u))] hx (c_X11_goesCenturies V d σ κ n hM cs T lw hL (nn u) (by omega)) okX11_goesCenturies lm11_239 rfl rfl rfl rfl (Nat.le_of_ble_eq_true rfl) dX11_later_35 (fun σ11 h12 => ?_)
        obtain ⟨me35, mt35⟩ := h12
        have hmk := mt35.1 (nn b) hkn
        show WS layM V 4 X σ11 38 [(0, rf V 0), (1, .int u), (2, .int b), (3, .int q)] []
        refine WS.iload_n hx dX11_later_38 rfl 3 rfl ?_
        refine WS.if_ne (tgt := 51) hx dX11_later_39 (by decide) (fun c39 => ?_) (fun c39 => ?_)
        · skip
          show WS layM V 4 X σ11 51 [(0, rf V 0), (1, .int u), (2, .int b), (3, .int q)] []
          refine WS.aload_n hx dX11_later_51 rfl 0 rfl ?_
          refine WS.iload_n hx dX11_later_52 rfl 2 rfl ?_
          refine WS.as rfl rfl (congrArg (fun z => Value.int z :: _) (show b = nI (nn b) from (nI_nn hb9.1).symm)) ?_
          skip
          refine WS.callVi (st := []) [.int (nI (nn b))] hx (c_X11_wordOf V (d + 6) σ11 κ n (hM.me me35) _ mt35 (nn b) hkn) okX11_wordOf lm11_219 rfl rfl rfl rfl (Nat.le_of_ble_eq_true rfl) dX11_later_53 (fun v13 σ14 h15 => ?_)
          obtain ⟨rfl, rfl⟩ := h15
          show WS layM V 4 X σ11 56 [(0, rf V 0), (1, .int u), (2, .int b), (3, .int q)] [.int (κ.1 17 ((msR (wdM κ n lw) (nn u) (ms0 (wdM κ n lw))).1 (nn b)))]
          exact WS.iret hx he dX11_later_56 ⟨_, rfl, by (try simp only [l_int, tL_0, tL_1, tL_2, tL_4, tL_5, tL_6, tL_7, tL_9, tL_10, tL_12, tL_15, tL_30, tL_40, tL_60, tL_99, tL_255, tL_1023, tL_m1, lc_lt, lc_gt, lc_ge, lc_le, lc_eq, l6_le, l6_lt, l6_eq, tI_m133, tI_m226, i_le, i_lt, i_eq, tI_m1, tI_0, tI_1] at hb6); (try simp only [l_int, tL_0, tL_1, tL_2, tL_4, tL_5, tL_6, tL_7, tL_9, tL_10, tL_12, tL_15, tL_30, tL_40, tL_60, tL_99, tL_255, tL_1023, tL_m1, lc_lt, lc_gt, lc_ge, lc_le, lc_eq, l6_le, l6_lt, l6_eq, tI_m133, tI_m226, i_le, i_lt, i_eq, tI_m1, tI_0, tI_1] at hb15); (try simp only [l_int, tL_0, tL_1, tL_2, tL_4, tL_5, tL_6, tL_7, tL_9, tL_10, tL_12, tL_15, tL_30, tL_40, tL_60, tL_99, tL_255, tL_1023, tL_m1, lc_lt, lc_gt, lc_ge, lc_le, lc_eq, l6_le, l6_lt, l6_eq, tI_m133, tI_m226, i_le, i_lt, i_eq, tI_m1, tI_0, tI_1] at hb25); (try simp only [l_int, tL_0, tL_1, tL_2, tL_4, tL_5, tL_6, tL_7, tL_9, tL_10, tL_12, tL_15, tL_30, tL_40, tL_60, tL_99, tL_255, tL_1023, tL_m1, lc_lt, lc_gt, lc_ge, lc_le, lc_eq, l6_le, l6_lt, l6_eq, tI_m133, tI_m226, i_le, i_lt, i_eq, tI_m1, tI_0, tI_1] at c39); (repeat' split) <;> first | (exfalso; omega) | exact ⟨rfl, ME.rf⟩ | exact ⟨by rw [(mr_rep _ _ _).1], me35⟩⟩
        · skip
          show WS layM V 4 X σ11 42 [(0, rf V 0), (1, .int u), (2, .int b), (3, .int q)] []
          refine WS.aload_n hx dX11_later_42 rfl 0 rfl ?_
          refine WS.getR hx okX11 lf11_49 rfl rfl dX11_later_43 ?_
          refine WS.iload_n hx dX11_later_46 rfl 2 rfl ?_
          refine WS.as rfl rfl (congrArg (fun z => Value.int z :: _) (show b = nI (nn b) from (nI_nn hb9.1).symm)) ?_
          skip
          refine WS.iald hx rfl (vp_in_nI (by omega) (by decide)) dX11_later_47 ?_
          refine WS.as rfl rfl (congrArg (fun z => Value.int z :: _) (show σ11.1 14 (nn (nI (nn b))) = nI ((msR (wdM κ n lw) (nn u) (ms0 (wdM κ n lw))).1 (nn b)) from by rw [nn_nI (by omega)]; exact hmk.1)) ?_
          skip
          refine WS.goto (tgt := 56) hx dX11_later_48 (by decide) ?_
          exact WS.iret hx he dX11_later_56 ⟨_, rfl, by (try simp only [l_int, tL_0, tL_1, tL_2, tL_4, tL_5, tL_6, tL_7, tL_9, tL_10, tL_12, tL_15, tL_30, tL_40, tL_60, tL_99, tL_255, tL_1023, tL_m1, lc_lt, lc_gt, lc_ge, lc_le, lc_eq, l6_le, l6_lt, l6_eq, tI_m133, tI_m226, i_le, i_lt, i_eq, tI_m1, tI_0, tI_1] at hb6); (try simp only [l_int, tL_0, tL_1, tL_2, tL_4, tL_5, tL_6, tL_7, tL_9, tL_10, tL_12, tL_15, tL_30, tL_40, tL_60, tL_99, tL_255, tL_1023, tL_m1, lc_lt, lc_gt, lc_ge, lc_le, lc_eq, l6_le, l6_lt, l6_eq, tI_m133, tI_m226, i_le, i_lt, i_eq, tI_m1, tI_0, tI_1] at hb15); (try simp only [l_int, tL_0, tL_1, tL_2, tL_4, tL_5, tL_6, tL_7, tL_9, tL_10, tL_12, tL_15, tL_30, tL_40, tL_60, tL_99, tL_255, tL_1023, tL_m1, lc_lt, lc_gt, lc_ge, lc_le, lc_eq, l6_le, l6_lt, l6_eq, tI_m133, tI_m226, i_le, i_lt, i_eq, tI_m1, tI_0, tI_1] at hb25); (try simp only [l_int, tL_0, tL_1, tL_2, tL_4, tL_5, tL_6, tL_7, tL_9, tL_10, tL_12, tL_15, tL_30, tL_40, tL_60, tL_99, tL_255, tL_1023, tL_m1, lc_lt, lc_gt, lc_ge, lc_le, lc_eq, l6_le, l6_lt, l6_eq, tI_m133, tI_m226, i_le, i_lt, i_eq, tI_m1, tI_0, tI_1] at c39); (repeat' split) <;> first | (exfalso; omega) | exact ⟨rfl, ME.rf⟩ | exact ⟨by rw [(mr_rep _ _ _).1], me35⟩⟩
      · skip
        show WS layM V 4 X σ 28 [(0, rf V 0), (1, .int u), (2, .int b), (3, .int q)] [.int 0]
        refine WS.if_ne (tgt := 33) hx dX11_later_28 (by decide) (fun h => absurd (by decide) h) (fun _ => ?_)
        refine WS.iconst (v := (-1)) hx dX11_later_31 (by decide) ?_
        exact WS.iret hx he dX11_later_32 ⟨_, rfl, by (try simp only [l_int, tL_0, tL_1, tL_2, tL_4, tL_5, tL_6, tL_7, tL_9, tL_10, tL_12, tL_15, tL_30, tL_40, tL_60, tL_99, tL_255, tL_1023, tL_m1, lc_lt, lc_gt, lc_ge, lc_le, lc_eq, l6_le, l6_lt, l6_eq, tI_m133, tI_m226, i_le, i_lt, i_eq, tI_m1, tI_0, tI_1] at hb6); (try simp only [l_int, tL_0, tL_1, tL_2, tL_4, tL_5, tL_6, tL_7, tL_9, tL_10, tL_12, tL_15, tL_30, tL_40, tL_60, tL_99, tL_255, tL_1023, tL_m1, lc_lt, lc_gt, lc_ge, lc_le, lc_eq, l6_le, l6_lt, l6_eq, tI_m133, tI_m226, i_le, i_lt, i_eq, tI_m1, tI_0, tI_1] at hb15); (try simp only [l_int, tL_0, tL_1, tL_2, tL_4, tL_5, tL_6, tL_7, tL_9, tL_10, tL_12, tL_15, tL_30, tL_40, tL_60, tL_99, tL_255, tL_1023, tL_m1, lc_lt, lc_gt, lc_ge, lc_le, lc_eq, l6_le, l6_lt, l6_eq, tI_m133, tI_m226, i_le, i_lt, i_eq, tI_m1, tI_0, tI_1] at hb25); (repeat' split) <;> first | (exfalso; omega) | exact ⟨rfl, ME.rf⟩ | exact ⟨by rw [(mr_rep _ _ _).1], me35⟩⟩
    · skip
      show WS layM V 4 X σ 18 [(0, rf V 0), (1, .int u), (2, .int b), (3, .int q)] [.int 0]
      refine WS.if_eq (tgt := 31) hx dX11_later_18 (by decide) (fun _ => ?_) (fun h => absurd (by decide) h)
      refine WS.iconst (v := (-1)) hx dX11_later_31 (by decide) ?_
      exact WS.iret hx he dX11_later_32 ⟨_, rfl, by (try simp only [l_int, tL_0, tL_1, tL_2, tL_4, tL_5, tL_6, tL_7, tL_9, tL_10, tL_12, tL_15, tL_30, tL_40, tL_60, tL_99, tL_255, tL_1023, tL_m1, lc_lt, lc_gt, lc_ge, lc_le, lc_eq, l6_le, l6_lt, l6_eq, tI_m133, tI_m226, i_le, i_lt, i_eq, tI_m1, tI_0, tI_1] at hb6); (try simp only [l_int, tL_0, tL_1, tL_2, tL_4, tL_5, tL_6, tL_7, tL_9, tL_10, tL_12, tL_15, tL_30, tL_40, tL_60, tL_99, tL_255, tL_1023, tL_m1, lc_lt, lc_gt, lc_ge, lc_le, lc_eq, l6_le, l6_lt, l6_eq, tI_m133, tI_m226, i_le, i_lt, i_eq, tI_m1, tI_0, tI_1] at hb15); (repeat' split) <;> first | (exfalso; omega) | exact ⟨rfl, ME.rf⟩ | exact ⟨by rw [(mr_rep _ _ _).1], me35⟩⟩
  · skip
    show WS layM V 4 X σ 9 [(0, rf V 0), (1, .int u), (2, .int b), (3, .int q)] [.int 0]
    refine WS.if_eq (tgt := 31) hx dX11_later_9 (by decide) (fun _ => ?_) (fun h => absurd (by decide) h)
    refine WS.iconst (v := (-1)) hx dX11_later_31 (by decide) ?_
    exact WS.iret hx he dX11_later_32 ⟨_, rfl, by (try simp only [l_int, tL_0, tL_1, tL_2, tL_4, tL_5, tL_6, tL_7, tL_9, tL_10, tL_12, tL_15, tL_30, tL_40, tL_60, tL_99, tL_255, tL_1023, tL_m1, lc_lt, lc_gt, lc_ge, lc_le, lc_eq, l6_le, l6_lt, l6_eq, tI_m133, tI_m226, i_le, i_lt, i_eq, tI_m1, tI_0, tI_1] at hb6); (repeat' split) <;> first | (exfalso; omega) | exact ⟨rfl, ME.rf⟩ | exact ⟨by rw [(mr_rep _ _ _).1], me35⟩⟩
theorem orW_cg {p p' : Nat → Bool} {v v' : Nat → Int32} : ∀ n, (∀ k, k < n → p k = p' k ∧ (p k = true → v k = v' k)) → orW p v n = orW p' v' n
  | 0, _ => rfl
  | n + 1, h => by
    unfold orW
    rw [orW_cg n (fun k hk => h k (by omega)), (h n (by omega)).1]
    by_cases e : p' n = true
    · rw [if_pos e, if_pos e, (h n (by omega)).2 (by rw [(h n (by omega)).1]; exact e)]
    · rw [if_neg e, if_neg e]
set_option maxHeartbeats 1000000 in
theorem c_X11_wall (V : Vt) (d : Nat) (σ : Sg) (κ : Sg) (n : Nat) (hM : MR κ σ n) (cs : Nat → Int32) (T : Nat) (lw : Lw) (hL : ML σ cs T lw) (u q : Int32) : CT layM V mX11_wall (d + 7) [rf V 0, .int u, .int q] σ (Ri fun v σ' => (if ¬ (0 ≤ u.toInt ∧ u.toInt ≤ 60 ∧ 0 ≤ q.toInt ∧ q.toInt ≤ 1) then v = -1 ∧ ME σ σ' else (if q.toInt = 0 then v = orW (fun k => !((wdM κ n lw).2.2.2.2.2.2.1 k)) (fun k => κ.1 17 (rep ((wdM κ n lw).cn k ((wdM κ n lw).bd k)) (nn u) ((wdM κ n lw).s0 k)).1) n ∧ ME σ σ' else (v = btM (orW (fun k => !((wdM κ n lw).2.2.2.2.2.2.1 k)) (fun k => nI (rep ((wdM κ n lw).cn k ((wdM κ n lw).bd k)) (nn u) ((wdM κ n lw).s0 k)).1) n) 16 ∧ ME σ σ')))) := by
  refine CT.of (own := RX11) rfl (by decide) (Nat.le_of_ble_eq_true rfl) (fun X (hx : Ok V RX11 cX11_wall 3 (d + 7) X) (he : En layM V (some .int) (Ri fun v σ' => (if ¬ (0 ≤ u.toInt ∧ u.toInt ≤ 60 ∧ 0 ≤ q.toInt ∧ q.toInt ≤ 1) then v = -1 ∧ ME σ σ' else (if q.toInt = 0 then v = orW (fun k => !((wdM κ n lw).2.2.2.2.2.2.1 k)) (fun k => κ.1 17 (rep ((wdM κ n lw).cn k ((wdM κ n lw).bd k)) (nn u) ((wdM κ n lw).s0 k)).1) n ∧ ME σ σ' else (v = btM (orW (fun k => !((wdM κ n lw).2.2.2.2.2.2.1 k)) (fun k => nI (rep ((wdM κ n lw).cn k ((wdM κ n lw).bd k)) (nn u) ((wdM κ n lw).s0 k)).1) n) 16 ∧ ME σ σ')))) X) => ?_)
  change WS layM V 3 X σ 0 [(0, rf V 0), (1, .int u), (2, .int q)] []
  have hn := hM.n
  have hs := hM.s
  refine WS.iload_n hx dX11_wall_0 rfl 1 rfl ?_
  refine WS.i2l hx dX11_wall_1 ?_
  refine WS.lconst (v := 0) hx dX11_wall_2 rfl ?_
  refine WS.ldc2 (v := 60) hx lc11_237 dX11_wall_3 ?_
  refine WS.callSi (st := []) [.long (Int32.toInt64 u), .long 0, .long 60] hx (c_X11_within V (d + 6) σ (Int32.toInt64 u) 0 60) okX11_within lm11_100 rfl rfl (Nat.le_of_ble_eq_true rfl) dX11_wall_6 (fun v1 σ2 h3 => ?_)
  rcases h3 with ⟨rfl, rfl, hb6⟩ | ⟨rfl, rfl, hb6⟩
  · skip
    show WS layM V 3 X σ 9 [(0, rf V 0), (1, .int u), (2, .int q)] [.int 1]
    refine WS.if_eq (tgt := 22) hx dX11_wall_9 (by decide) (fun h => absurd h (by decide)) (fun _ => ?_)
    refine WS.iload_n hx dX11_wall_12 rfl 2 rfl ?_
    refine WS.i2l hx dX11_wall_13 ?_
    refine WS.lconst (v := 0) hx dX11_wall_14 rfl ?_
    refine WS.lconst (v := 1) hx dX11_wall_15 rfl ?_
    refine WS.callSi (st := []) [.long (Int32.toInt64 q), .long 0, .long 1] hx (c_X11_within V (d + 6) σ (Int32.toInt64 q) 0 1) okX11_within lm11_100 rfl rfl (Nat.le_of_ble_eq_true rfl) dX11_wall_16 (fun v4 σ5 h6 => ?_)
    rcases h6 with ⟨rfl, rfl, hb16⟩ | ⟨rfl, rfl, hb16⟩
    · skip
      show WS layM V 3 X σ 19 [(0, rf V 0), (1, .int u), (2, .int q)] [.int 1]
      have hu0 : 0 ≤ u.toInt ∧ u.toInt ≤ 60 := by have h9 := hb6; simp only [l_int, tL_0, tL_60] at h9; exact h9
      have hu1 := nn_int hu0.1
      refine WS.if_ne (tgt := 24) hx dX11_wall_19 (by decide) (fun _ => ?_) (fun h => absurd h (by decide))
      refine WS.aload_n hx dX11_wall_24 rfl 0 rfl ?_
      refine WS.iload_n hx dX11_wall_25 rfl 1 rfl ?_
      refine WS.as rfl rfl (congrArg (fun z => Value.int z :: _) (show u = nI (nn u) from (nI_nn hu0.1).symm)) ?_
      skip
      refine WS.callVv (st := []) [.int (nI (nn u))] hx (c_X11_goesCenturies V d σ κ n hM cs T lw hL (nn u) (by omega)) okX11_goesCenturies lm11_239 rfl rfl rfl rfl (Nat.le_of_ble_eq_true rfl) dX11_wall_26 (fun σ8 h9 => ?_)
      obtain ⟨me26, mt26⟩ := h9
      show WS layM V 3 X σ8 29 [(0, rf V 0), (1, .int u), (2, .int q)] []
      refine WS.iload_n hx dX11_wall_29 rfl 2 rfl ?_
      refine WS.if_ne (tgt := 40) hx dX11_wall_30 (by decide) (fun c30 => ?_) (fun c30 => ?_)
      · skip
        show WS layM V 3 X σ8 40 [(0, rf V 0), (1, .int u), (2, .int q)] []
        refine WS.aload_n hx dX11_wall_40 rfl 0 rfl ?_
        refine WS.callVi (st := []) [] hx (c_X11_mindsSet V (d + 5) σ8 κ n (hM.me me26) _ mt26) okX11_mindsSet lm11_245 rfl rfl rfl rfl (Nat.le_of_ble_eq_true rfl) dX11_wall_41 (fun v10 σ11 h12 => ?_)
        obtain ⟨hv41, rfl⟩ := h12
        show WS layM V 3 X σ8 44 [(0, rf V 0), (1, .int u), (2, .int q)] [.int v10]
        refine WS.callSi (st := []) [.int v10] hx (c_X11_bitsOf V (d + 6) σ8 v10) okX11_bitsOf lm11_248 rfl rfl (Nat.le_of_ble_eq_true rfl) dX11_wall_44 (fun v13 σ14 h15 => ?_)
        obtain ⟨rfl, rfl⟩ := h15
        show WS layM V 3 X σ8 47 [(0, rf V 0), (1, .int u), (2, .int q)] [.int (btM v10 16)]
        exact WS.iret hx he dX11_wall_47 ⟨_, rfl, by (try simp only [l_int, tL_0, tL_1, tL_2, tL_4, tL_5, tL_6, tL_7, tL_9, tL_10, tL_12, tL_15, tL_30, tL_40, tL_60, tL_99, tL_255, tL_1023, tL_m1, lc_lt, lc_gt, lc_ge, lc_le, lc_eq, l6_le, l6_lt, l6_eq, tI_m133, tI_m226, i_le, i_lt, i_eq, tI_m1, tI_0, tI_1] at hb6); (try simp only [l_int, tL_0, tL_1, tL_2, tL_4, tL_5, tL_6, tL_7, tL_9, tL_10, tL_12, tL_15, tL_30, tL_40, tL_60, tL_99, tL_255, tL_1023, tL_m1, lc_lt, lc_gt, lc_ge, lc_le, lc_eq, l6_le, l6_lt, l6_eq, tI_m133, tI_m226, i_le, i_lt, i_eq, tI_m1, tI_0, tI_1] at hb16); (try simp only [l_int, tL_0, tL_1, tL_2, tL_4, tL_5, tL_6, tL_7, tL_9, tL_10, tL_12, tL_15, tL_30, tL_40, tL_60, tL_99, tL_255, tL_1023, tL_m1, lc_lt, lc_gt, lc_ge, lc_le, lc_eq, l6_le, l6_lt, l6_eq, tI_m133, tI_m226, i_le, i_lt, i_eq, tI_m1, tI_0, tI_1] at c30); rw [if_neg (by omega), if_neg (by omega)]; exact ⟨by rw [← hv41]; exact congrArg (fun z => btM z 16) (orW_cg n (fun k hk => ⟨by rw [(msR_o _ _ _).1]; rfl, fun _ => by (try dsimp only); rw [(mr_rep _ _ _).1]⟩)), me26⟩⟩
      · skip
        show WS layM V 3 X σ8 33 [(0, rf V 0), (1, .int u), (2, .int q)] []
        refine WS.aload_n hx dX11_wall_33 rfl 0 rfl ?_
        refine WS.callVi (st := []) [] hx (c_X11_wordsSet V (d + 5) σ8 κ n (hM.me me26) _ mt26) okX11_wordsSet lm11_242 rfl rfl rfl rfl (Nat.le_of_ble_eq_true rfl) dX11_wall_34 (fun v16 σ17 h18 => ?_)
        obtain ⟨hv34, rfl⟩ := h18
        show WS layM V 3 X σ8 37 [(0, rf V 0), (1, .int u), (2, .int q)] [.int v16]
        refine WS.goto (tgt := 47) hx dX11_wall_37 (by decide) ?_
        exact WS.iret hx he dX11_wall_47 ⟨_, rfl, by (try simp only [l_int, tL_0, tL_1, tL_2, tL_4, tL_5, tL_6, tL_7, tL_9, tL_10, tL_12, tL_15, tL_30, tL_40, tL_60, tL_99, tL_255, tL_1023, tL_m1, lc_lt, lc_gt, lc_ge, lc_le, lc_eq, l6_le, l6_lt, l6_eq, tI_m133, tI_m226, i_le, i_lt, i_eq, tI_m1, tI_0, tI_1] at hb6); (try simp only [l_int, tL_0, tL_1, tL_2, tL_4, tL_5, tL_6, tL_7, tL_9, tL_10, tL_12, tL_15, tL_30, tL_40, tL_60, tL_99, tL_255, tL_1023, tL_m1, lc_lt, lc_gt, lc_ge, lc_le, lc_eq, l6_le, l6_lt, l6_eq, tI_m133, tI_m226, i_le, i_lt, i_eq, tI_m1, tI_0, tI_1] at hb16); (try simp only [l_int, tL_0, tL_1, tL_2, tL_4, tL_5, tL_6, tL_7, tL_9, tL_10, tL_12, tL_15, tL_30, tL_40, tL_60, tL_99, tL_255, tL_1023, tL_m1, lc_lt, lc_gt, lc_ge, lc_le, lc_eq, l6_le, l6_lt, l6_eq, tI_m133, tI_m226, i_le, i_lt, i_eq, tI_m1, tI_0, tI_1] at c30); rw [if_neg (by omega), if_pos (by omega)]; exact ⟨by rw [← hv34]; exact orW_cg n (fun k hk => ⟨by rw [(msR_o _ _ _).1]; rfl, fun _ => by (try dsimp only); rw [(mr_rep _ _ _).1]⟩), me26⟩⟩
    · skip
      show WS layM V 3 X σ 19 [(0, rf V 0), (1, .int u), (2, .int q)] [.int 0]
      refine WS.if_ne (tgt := 24) hx dX11_wall_19 (by decide) (fun h => absurd (by decide) h) (fun _ => ?_)
      refine WS.iconst (v := (-1)) hx dX11_wall_22 (by decide) ?_
      exact WS.iret hx he dX11_wall_23 ⟨_, rfl, by (try simp only [l_int, tL_0, tL_1, tL_2, tL_4, tL_5, tL_6, tL_7, tL_9, tL_10, tL_12, tL_15, tL_30, tL_40, tL_60, tL_99, tL_255, tL_1023, tL_m1, lc_lt, lc_gt, lc_ge, lc_le, lc_eq, l6_le, l6_lt, l6_eq, tI_m133, tI_m226, i_le, i_lt, i_eq, tI_m1, tI_0, tI_1] at hb6); (try simp only [l_int, tL_0, tL_1, tL_2, tL_4, tL_5, tL_6, tL_7, tL_9, tL_10, tL_12, tL_15, tL_30, tL_40, tL_60, tL_99, tL_255, tL_1023, tL_m1, lc_lt, lc_gt, lc_ge, lc_le, lc_eq, l6_le, l6_lt, l6_eq, tI_m133, tI_m226, i_le, i_lt, i_eq, tI_m1, tI_0, tI_1] at hb16); (repeat' split) <;> first | (exfalso; omega) | exact ⟨rfl, ME.rf⟩⟩
  · skip
    show WS layM V 3 X σ 9 [(0, rf V 0), (1, .int u), (2, .int q)] [.int 0]
    refine WS.if_eq (tgt := 22) hx dX11_wall_9 (by decide) (fun _ => ?_) (fun h => absurd (by decide) h)
    refine WS.iconst (v := (-1)) hx dX11_wall_22 (by decide) ?_
    exact WS.iret hx he dX11_wall_23 ⟨_, rfl, by (try simp only [l_int, tL_0, tL_1, tL_2, tL_4, tL_5, tL_6, tL_7, tL_9, tL_10, tL_12, tL_15, tL_30, tL_40, tL_60, tL_99, tL_255, tL_1023, tL_m1, lc_lt, lc_gt, lc_ge, lc_le, lc_eq, l6_le, l6_lt, l6_eq, tI_m133, tI_m226, i_le, i_lt, i_eq, tI_m1, tI_0, tI_1] at hb6); (repeat' split) <;> first | (exfalso; omega) | exact ⟨rfl, ME.rf⟩⟩
set_option maxHeartbeats 1000000 in
theorem lp_X11_when (V : Vt) (d : Nat) (σ : Sg) (κ : Sg) (n : Nat) (hM : MR κ σ n) (cs : Nat → Int32) (T : Nat) (lw : Lw) (hL : ML σ cs T lw) (k : Nat) (hk : k < n) (th : Nat) (hth : th < 16) (b x : Int32) (hb9 : b = nI k) (hx9 : x = nI th) (r : Option Nat) (P : Int32 → Sg → Prop) (X : Xt) (hx : Ok V RX11 cX11_when 4 (d + 6) X) (he : En layM V (some .int) (Ri P) X) (hP : ∀ σ', ME σ σ' → P (oN r) σ') : ∀ (u i : Nat) (s : Ms) (τ : Sg), i + u = 61 → ME σ τ → MT τ n s → s.2.1 = (wdM κ n lw).2.2.2.2.2.2.1 → s.2.2.2 = (wdM κ n lw).2.2.2.2.2.1 → fsA ((wdM κ n lw).cn k ((wdM κ n lw).bd k)) th u i (s.1 k, s.2.2.1) = r → WS layM V 4 X τ 25 [(3, .int (nI i)), (0, rf V 0), (1, .int b), (2, .int x)] [] := by
  have hn := hM.n
  intro u
  induction u with
  | zero =>
    intro i s τ hiu hE hT ho1 ho2 hr
    have hiI : (nI i).toInt = (i : Int) := nI_c (by omega)
    refine WS.iload_n hx dX11_when_25 rfl 0 rfl ?_
    refine WS.bipush (v := 60) hx dX11_when_26 (by decide) ?_
    refine WS.icmp_gt (tgt := 53) hx dX11_when_28 (by decide) (fun c28 => ?_) (fun c28 => by exfalso; (try simp only [l_int, tL_0, tL_1, tL_2, tL_4, tL_5, tL_6, tL_7, tL_9, tL_10, tL_12, tL_15, tL_30, tL_40, tL_60, tL_99, tL_255, tL_1023, tL_m1, lc_lt, lc_gt, lc_ge, lc_le, lc_eq, l6_le, l6_lt, l6_eq, tI_m133, tI_m226, i_le, i_lt, i_eq, tI_m2, tI_m1, tI_0, tI_1, tI_60] at c28); (try simp only [l_int, tL_0, tL_1, tL_2, tL_4, tL_5, tL_6, tL_7, tL_9, tL_10, tL_12, tL_15, tL_30, tL_40, tL_60, tL_99, tL_255, tL_1023, tL_m1, lc_lt, lc_gt, lc_ge, lc_le, lc_eq, l6_le, l6_lt, l6_eq, tI_m133, tI_m226, i_le, i_lt, i_eq, tI_m2, tI_m1, tI_0, tI_1, tI_60]); omega)
    refine WS.bipush (v := (-2)) hx dX11_when_53 (by decide) ?_
    exact WS.iret hx he dX11_when_55 ⟨_, rfl, by rw [show (-2 : Int32) = oN none from rfl, show (none : Option Nat) = r from hr]; exact hP τ hE⟩
  | succ u ih =>
    intro i s τ hiu hE hT ho1 ho2 hr
    have hiI : (nI i).toInt = (i : Int) := nI_c (by omega)
    have hmk := hT.1 k hk
    have hthI : (nI th).toInt = (th : Int) := nI_c (by omega)
    have haI : (nI (s.1 k)).toInt = ((s.1 k : Nat) : Int) := nI_c (by have := hmk.2.1; omega)
    unfold fsA at hr
    refine WS.iload_n hx dX11_when_25 rfl 0 rfl ?_
    refine WS.bipush (v := 60) hx dX11_when_26 (by decide) ?_
    refine WS.icmp_gt (tgt := 53) hx dX11_when_28 (by decide) (fun c28 => by exfalso; (try simp only [l_int, tL_0, tL_1, tL_2, tL_4, tL_5, tL_6, tL_7, tL_9, tL_10, tL_12, tL_15, tL_30, tL_40, tL_60, tL_99, tL_255, tL_1023, tL_m1, lc_lt, lc_gt, lc_ge, lc_le, lc_eq, l6_le, l6_lt, l6_eq, tI_m133, tI_m226, i_le, i_lt, i_eq, tI_m2, tI_m1, tI_0, tI_1, tI_60] at c28); (try simp only [l_int, tL_0, tL_1, tL_2, tL_4, tL_5, tL_6, tL_7, tL_9, tL_10, tL_12, tL_15, tL_30, tL_40, tL_60, tL_99, tL_255, tL_1023, tL_m1, lc_lt, lc_gt, lc_ge, lc_le, lc_eq, l6_le, l6_lt, l6_eq, tI_m133, tI_m226, i_le, i_lt, i_eq, tI_m2, tI_m1, tI_0, tI_1, tI_60]); omega) (fun c28 => ?_)
    refine WS.aload_n hx dX11_when_31 rfl 1 rfl ?_
    refine WS.getR hx okX11 lf11_49 rfl rfl dX11_when_32 ?_
    refine WS.iload_n hx dX11_when_35 rfl 2 rfl ?_
    refine WS.as rfl rfl (congrArg (fun z => Value.int z :: _) (show b = nI k from hb9)) ?_
    skip
    refine WS.iald hx rfl (vp_in_nI (by omega) (by decide)) dX11_when_36 ?_
    refine WS.as rfl rfl (congrArg (fun z => Value.int z :: _) (show τ.1 14 (nn (nI k)) = nI (s.1 k) from by rw [nn_nI (by omega)]; exact hmk.1)) ?_
    skip
    refine WS.iload_n hx dX11_when_37 rfl 3 rfl ?_
    refine WS.as rfl rfl (congrArg (fun z => Value.int z :: _) (show x = nI th from hx9)) ?_
    skip
    refine WS.icmp_ne (tgt := 43) hx dX11_when_38 (by decide) (fun c38 => ?_) (fun c38 => ?_)
    · skip
      show WS layM V 4 X τ 43 [(3, .int (nI i)), (0, rf V 0), (1, .int b), (2, .int x)] []
      rw [if_neg (show ¬ s.1 k = th by (try simp only [l_int, tL_0, tL_1, tL_2, tL_4, tL_5, tL_6, tL_7, tL_9, tL_10, tL_12, tL_15, tL_30, tL_40, tL_60, tL_99, tL_255, tL_1023, tL_m1, lc_lt, lc_gt, lc_ge, lc_le, lc_eq, l6_le, l6_lt, l6_eq, tI_m133, tI_m226, i_le, i_lt, i_eq, tI_m2, tI_m1, tI_0, tI_1, tI_60] at c28); (try simp only [l_int, tL_0, tL_1, tL_2, tL_4, tL_5, tL_6, tL_7, tL_9, tL_10, tL_12, tL_15, tL_30, tL_40, tL_60, tL_99, tL_255, tL_1023, tL_m1, lc_lt, lc_gt, lc_ge, lc_le, lc_eq, l6_le, l6_lt, l6_eq, tI_m133, tI_m226, i_le, i_lt, i_eq, tI_m2, tI_m1, tI_0, tI_1, tI_60] at c38); (try simp only [l_int, tL_0, tL_1, tL_2, tL_4, tL_5, tL_6, tL_7, tL_9, tL_10, tL_12, tL_15, tL_30, tL_40, tL_60, tL_99, tL_255, tL_1023, tL_m1, lc_lt, lc_gt, lc_ge, lc_le, lc_eq, l6_le, l6_lt, l6_eq, tI_m133, tI_m226, i_le, i_lt, i_eq, tI_m2, tI_m1, tI_0, tI_1, tI_60]); omega), cn_ms _ s k (by rw [ho1]) ho2] at hr
      refine WS.aload_n hx dX11_when_43 rfl 1 rfl ?_
      refine WS.callVv (st := []) [] hx (c_X11_goesCentury V d τ κ n (hM.me hE) s hT cs T lw (hL.me hE)) okX11_goesCentury lm11_234 rfl rfl rfl rfl (Nat.le_of_ble_eq_true rfl) dX11_when_44 (fun σ2 h3 => ?_)
      obtain ⟨me44, mt44⟩ := h3
      show WS layM V 4 X σ2 47 [(3, .int (nI i)), (0, rf V 0), (1, .int b), (2, .int x)] []
      refine WS.iinc (v := nI (i + 1)) (lo' := [(3, .int (nI (i + 1))), (0, rf V 0), (1, .int b), (2, .int x)]) hx dX11_when_47 0 rfl (nI_1 i) (by decide) rfl ?_
      refine WS.goto (tgt := 25) hx dX11_when_50 (by decide) ?_
      exact WS.los [0, 1, 2, 3] rfl (ih (i + 1) _ _ (by omega) (hE.tr me44) mt44 ho1 ho2 hr)
    · skip
      show WS layM V 4 X τ 41 [(3, .int (nI i)), (0, rf V 0), (1, .int b), (2, .int x)] []
      rw [if_pos (show s.1 k = th by (try simp only [l_int, tL_0, tL_1, tL_2, tL_4, tL_5, tL_6, tL_7, tL_9, tL_10, tL_12, tL_15, tL_30, tL_40, tL_60, tL_99, tL_255, tL_1023, tL_m1, lc_lt, lc_gt, lc_ge, lc_le, lc_eq, l6_le, l6_lt, l6_eq, tI_m133, tI_m226, i_le, i_lt, i_eq, tI_m2, tI_m1, tI_0, tI_1, tI_60] at c28); (try simp only [l_int, tL_0, tL_1, tL_2, tL_4, tL_5, tL_6, tL_7, tL_9, tL_10, tL_12, tL_15, tL_30, tL_40, tL_60, tL_99, tL_255, tL_1023, tL_m1, lc_lt, lc_gt, lc_ge, lc_le, lc_eq, l6_le, l6_lt, l6_eq, tI_m133, tI_m226, i_le, i_lt, i_eq, tI_m2, tI_m1, tI_0, tI_1, tI_60] at c38); (try simp only [l_int, tL_0, tL_1, tL_2, tL_4, tL_5, tL_6, tL_7, tL_9, tL_10, tL_12, tL_15, tL_30, tL_40, tL_60, tL_99, tL_255, tL_1023, tL_m1, lc_lt, lc_gt, lc_ge, lc_le, lc_eq, l6_le, l6_lt, l6_eq, tI_m133, tI_m226, i_le, i_lt, i_eq, tI_m2, tI_m1, tI_0, tI_1, tI_60]); omega)] at hr
      refine WS.iload_n hx dX11_when_41 rfl 0 rfl ?_
      exact WS.iret hx he dX11_when_42 ⟨_, rfl, by rw [show nI i = oN (some i) from rfl, show some i = r from hr]; exact hP τ hE⟩
set_option maxHeartbeats 1000000 in
theorem c_X11_when (V : Vt) (d : Nat) (σ : Sg) (κ : Sg) (n : Nat) (hM : MR κ σ n) (cs : Nat → Int32) (T : Nat) (lw : Lw) (hL : ML σ cs T lw) (b x : Int32) : CT layM V mX11_when (d + 6) [rf V 0, .int b, .int x] σ (Ri fun v σ' => if ¬ (0 ≤ b.toInt ∧ b.toInt < n ∧ 0 ≤ x.toInt ∧ x.toInt ≤ 15) then v = -1 ∧ ME σ σ' else v = oN (fsA ((wdM κ n lw).cn (nn b) ((wdM κ n lw).bd (nn b))) (nn x) 61 0 ((wdM κ n lw).s0 (nn b))) ∧ ME σ σ') := by
  refine CT.of (own := RX11) rfl (by decide) (Nat.le_of_ble_eq_true rfl) (fun X (hx : Ok V RX11 cX11_when 4 (d + 6) X) (he : En layM V (some .int) (Ri fun v σ' => if ¬ (0 ≤ b.toInt ∧ b.toInt < n ∧ 0 ≤ x.toInt ∧ x.toInt ≤ 15) then v = -1 ∧ ME σ σ' else v = oN (fsA ((wdM κ n lw).cn (nn b) ((wdM κ n lw).bd (nn b))) (nn x) 61 0 ((wdM κ n lw).s0 (nn b))) ∧ ME σ σ') X) => ?_)
  change WS layM V 4 X σ 0 [(0, rf V 0), (1, .int b), (2, .int x)] []
  have hn := hM.n
  have hs := hM.s
  refine WS.aload_n hx dX11_when_0 rfl 0 rfl ?_
  refine WS.iload_n hx dX11_when_1 rfl 1 rfl ?_
  refine WS.i2l hx dX11_when_2 ?_
  refine WS.callVi (st := []) [.long (Int32.toInt64 b)] hx (c_X11_isBlock V (d + 4) σ n hs hn (Int32.toInt64 b)) okX11_isBlock lm11_127 rfl rfl rfl rfl (Nat.le_of_ble_eq_true rfl) dX11_when_3 (fun v1 σ2 h3 => ?_)
  rcases h3 with ⟨rfl, rfl, hb3⟩ | ⟨rfl, rfl, hb3⟩
  · skip
    show WS layM V 4 X σ 6 [(0, rf V 0), (1, .int b), (2, .int x)] [.int 1]
    have hb9 : 0 ≤ b.toInt ∧ b.toInt < n := by have h9 := hb3; simp only [l_int] at h9; exact h9
    have hkn : nn b < n := by have := nn_int hb9.1; omega
    refine WS.if_eq (tgt := 17) hx dX11_when_6 (by decide) (fun h => absurd h (by decide)) (fun _ => ?_)
    refine WS.iload_n hx dX11_when_9 rfl 2 rfl ?_
    refine WS.i2l hx dX11_when_10 ?_
    refine WS.callSi (st := []) [.long (Int32.toInt64 x)] hx (c_X11_isThought V (d + 4) σ (Int32.toInt64 x)) okX11_isThought lm11_108 rfl rfl (Nat.le_of_ble_eq_true rfl) dX11_when_11 (fun v4 σ5 h6 => ?_)
    rcases h6 with ⟨rfl, rfl, hb11⟩ | ⟨rfl, rfl, hb11⟩
    · skip
      show WS layM V 4 X σ 14 [(0, rf V 0), (1, .int b), (2, .int x)] [.int 1]
      have hx9 : 0 ≤ x.toInt ∧ x.toInt ≤ 15 := by have h9 := hb11; simp only [l_int] at h9; exact h9
      have hxn := nn_int hx9.1
      refine WS.if_ne (tgt := 19) hx dX11_when_14 (by decide) (fun _ => ?_) (fun h => absurd h (by decide))
      refine WS.aload_n hx dX11_when_19 rfl 0 rfl ?_
      refine WS.callVv (st := []) [] hx (c_X11_begins V (d + 5) σ κ n lw hM) okX11_begins lm11_231 rfl rfl rfl rfl (Nat.le_of_ble_eq_true rfl) dX11_when_20 (fun σ8 h9 => ?_)
      obtain ⟨me20, mt20⟩ := h9
      show WS layM V 4 X σ8 23 [(0, rf V 0), (1, .int b), (2, .int x)] []
      refine WS.iconst (v := 0) hx dX11_when_23 (by decide) ?_
      refine WS.istore_n (lo' := [(3, .int 0), (0, rf V 0), (1, .int b), (2, .int x)]) hx dX11_when_24 rfl (by decide) rfl ?_
      exact WS.los [0, 1, 2, 3] rfl (lp_X11_when V d σ κ n hM cs T lw hL (nn b) hkn (nn x) (by omega) b x (nI_nn hb9.1).symm (nI_nn hx9.1).symm _ _ X hx he (fun τ h => by (try dsimp only); rw [if_neg (by omega)]; exact ⟨rfl, h⟩) 61 0 _ _ rfl me20 mt20 rfl rfl rfl)
    · skip
      show WS layM V 4 X σ 14 [(0, rf V 0), (1, .int b), (2, .int x)] [.int 0]
      refine WS.if_ne (tgt := 19) hx dX11_when_14 (by decide) (fun h => absurd (by decide) h) (fun _ => ?_)
      refine WS.iconst (v := (-1)) hx dX11_when_17 (by decide) ?_
      exact WS.iret hx he dX11_when_18 ⟨_, rfl, by (try simp only [l_int, tL_0, tL_1, tL_2, tL_4, tL_5, tL_6, tL_7, tL_9, tL_10, tL_12, tL_15, tL_30, tL_40, tL_60, tL_99, tL_255, tL_1023, tL_m1, lc_lt, lc_gt, lc_ge, lc_le, lc_eq, l6_le, l6_lt, l6_eq, tI_m133, tI_m226, i_le, i_lt, i_eq, tI_m2, tI_m1, tI_0, tI_1, tI_60] at hb3); (try simp only [l_int, tL_0, tL_1, tL_2, tL_4, tL_5, tL_6, tL_7, tL_9, tL_10, tL_12, tL_15, tL_30, tL_40, tL_60, tL_99, tL_255, tL_1023, tL_m1, lc_lt, lc_gt, lc_ge, lc_le, lc_eq, l6_le, l6_lt, l6_eq, tI_m133, tI_m226, i_le, i_lt, i_eq, tI_m2, tI_m1, tI_0, tI_1, tI_60] at hb11); (repeat' split) <;> first | (exfalso; omega) | exact ⟨rfl, ME.rf⟩⟩
  · skip
    show WS layM V 4 X σ 6 [(0, rf V 0), (1, .int b), (2, .int x)] [.int 0]
    refine WS.if_eq (tgt := 17) hx dX11_when_6 (by decide) (fun _ => ?_) (fun h => absurd (by decide) h)
    refine WS.iconst (v := (-1)) hx dX11_when_17 (by decide) ?_
    exact WS.iret hx he dX11_when_18 ⟨_, rfl, by (try simp only [l_int, tL_0, tL_1, tL_2, tL_4, tL_5, tL_6, tL_7, tL_9, tL_10, tL_12, tL_15, tL_30, tL_40, tL_60, tL_99, tL_255, tL_1023, tL_m1, lc_lt, lc_gt, lc_ge, lc_le, lc_eq, l6_le, l6_lt, l6_eq, tI_m133, tI_m226, i_le, i_lt, i_eq, tI_m2, tI_m1, tI_0, tI_1, tI_60] at hb3); (repeat' split) <;> first | (exfalso; omega) | exact ⟨rfl, ME.rf⟩⟩
set_option maxHeartbeats 1000000 in
theorem lp_X11_meet (V : Vt) (d : Nat) (σ : Sg) (κ : Sg) (n : Nat) (hM : MR κ σ n) (cs : Nat → Int32) (T : Nat) (lw : Lw) (hL : ML σ cs T lw) (k : Nat) (hk : k < n) (q : Nat) (hq : q < n) (x : Int32) (hb9 : (x / 10) = nI k) (hx9 : (x - x / 10 * 10) = nI q) (r : Option Nat) (P : Int32 → Sg → Prop) (X : Xt) (hx : Ok V RX11 cX11_meet 3 (d + 6) X) (he : En layM V (some .int) (Ri P) X) (hP : ∀ σ', ME σ σ' → P (oN r) σ') : ∀ (u i : Nat) (s : Ms) (τ : Sg), i + u = 61 → ME σ τ → MT τ n s → s.2.1 = (wdM κ n lw).2.2.2.2.2.2.1 → s.2.2.2 = (wdM κ n lw).2.2.2.2.2.1 → fsT ((wdM κ n lw).cn k ((wdM κ n lw).bd k)) ((wdM κ n lw).cn q ((wdM κ n lw).bd q)) u i (s.1 k, s.2.2.1) (s.1 q, s.2.2.1) = r → WS layM V 3 X τ 47 [(2, .int (nI i)), (0, rf V 0), (1, .int x)] [] := by
  have hn := hM.n
  intro u
  induction u with
  | zero =>
    intro i s τ hiu hE hT ho1 ho2 hr
    have hiI : (nI i).toInt = (i : Int) := nI_c (by omega)
    refine WS.iload_n hx dX11_meet_47 rfl 0 rfl ?_
    refine WS.bipush (v := 60) hx dX11_meet_48 (by decide) ?_
    refine WS.icmp_gt (tgt := 86) hx dX11_meet_50 (by decide) (fun c50 => ?_) (fun c50 => by exfalso; (try simp only [l_int, tL_0, tL_1, tL_2, tL_4, tL_5, tL_6, tL_7, tL_9, tL_10, tL_12, tL_15, tL_30, tL_40, tL_60, tL_99, tL_255, tL_1023, tL_m1, lc_lt, lc_gt, lc_ge, lc_le, lc_eq, l6_le, l6_lt, l6_eq, tI_m133, tI_m226, i_le, i_lt, i_eq, tI_m2, tI_m1, tI_0, tI_1, tI_10, tI_60] at c50); (try simp only [l_int, tL_0, tL_1, tL_2, tL_4, tL_5, tL_6, tL_7, tL_9, tL_10, tL_12, tL_15, tL_30, tL_40, tL_60, tL_99, tL_255, tL_1023, tL_m1, lc_lt, lc_gt, lc_ge, lc_le, lc_eq, l6_le, l6_lt, l6_eq, tI_m133, tI_m226, i_le, i_lt, i_eq, tI_m2, tI_m1, tI_0, tI_1, tI_10, tI_60]); omega)
    refine WS.bipush (v := (-2)) hx dX11_meet_86 (by decide) ?_
    exact WS.iret hx he dX11_meet_88 ⟨_, rfl, by rw [show (-2 : Int32) = oN none from rfl, show (none : Option Nat) = r from hr]; exact hP τ hE⟩
  | succ u ih =>
    intro i s τ hiu hE hT ho1 ho2 hr
    have hiI : (nI i).toInt = (i : Int) := nI_c (by omega)
    have hmk := hT.1 k hk
    have hmq := hT.1 q hq
    have hqI : (nI (s.1 q)).toInt = ((s.1 q : Nat) : Int) := nI_c (by have := hmq.2.1; omega)
    have haI : (nI (s.1 k)).toInt = ((s.1 k : Nat) : Int) := nI_c (by have := hmk.2.1; omega)
    unfold fsT at hr
    refine WS.iload_n hx dX11_meet_47 rfl 0 rfl ?_
    refine WS.bipush (v := 60) hx dX11_meet_48 (by decide) ?_
    refine WS.icmp_gt (tgt := 86) hx dX11_meet_50 (by decide) (fun c50 => by exfalso; (try simp only [l_int, tL_0, tL_1, tL_2, tL_4, tL_5, tL_6, tL_7, tL_9, tL_10, tL_12, tL_15, tL_30, tL_40, tL_60, tL_99, tL_255, tL_1023, tL_m1, lc_lt, lc_gt, lc_ge, lc_le, lc_eq, l6_le, l6_lt, l6_eq, tI_m133, tI_m226, i_le, i_lt, i_eq, tI_m2, tI_m1, tI_0, tI_1, tI_10, tI_60] at c50); (try simp only [l_int, tL_0, tL_1, tL_2, tL_4, tL_5, tL_6, tL_7, tL_9, tL_10, tL_12, tL_15, tL_30, tL_40, tL_60, tL_99, tL_255, tL_1023, tL_m1, lc_lt, lc_gt, lc_ge, lc_le, lc_eq, l6_le, l6_lt, l6_eq, tI_m133, tI_m226, i_le, i_lt, i_eq, tI_m2, tI_m1, tI_0, tI_1, tI_10, tI_60]); omega) (fun c50 => ?_)
    refine WS.aload_n hx dX11_meet_53 rfl 1 rfl ?_
    refine WS.getR hx okX11 lf11_49 rfl rfl dX11_meet_54 ?_
    refine WS.iload_n hx dX11_meet_57 rfl 2 rfl ?_
    refine WS.bipush (v := 10) hx dX11_meet_58 (by decide) ?_
    refine WS.idiv hx dX11_meet_60 (by decide) ?_
    refine WS.as rfl rfl (congrArg (fun z => Value.int z :: _) (show x / 10 = nI k from hb9)) ?_
    skip
    refine WS.iald hx rfl (vp_in_nI (by omega) (by decide)) dX11_meet_61 ?_
    refine WS.as rfl rfl (congrArg (fun z => Value.int z :: _) (show τ.1 14 (nn (nI k)) = nI (s.1 k) from by rw [nn_nI (by omega)]; exact hmk.1)) ?_
    skip
    refine WS.aload_n hx dX11_meet_62 rfl 1 rfl ?_
    refine WS.getR hx okX11 lf11_49 rfl rfl dX11_meet_63 ?_
    refine WS.iload_n hx dX11_meet_66 rfl 2 rfl ?_
    refine WS.bipush (v := 10) hx dX11_meet_67 (by decide) ?_
    refine WS.irem hx dX11_meet_69 (by decide) ?_
    refine WS.as rfl rfl (congrArg (fun z => Value.int z :: _) (show x - x / 10 * 10 = nI q from hx9)) ?_
    skip
    refine WS.iald hx rfl (vp_in_nI (by omega) (by decide)) dX11_meet_70 ?_
    refine WS.as rfl rfl (congrArg (fun z => Value.int z :: _) (show τ.1 14 (nn (nI q)) = nI (s.1 q) from by rw [nn_nI (by omega)]; exact hmq.1)) ?_
    skip
    refine WS.icmp_ne (tgt := 76) hx dX11_meet_71 (by decide) (fun c71 => ?_) (fun c71 => ?_)
    · skip
      show WS layM V 3 X τ 76 [(2, .int (nI i)), (0, rf V 0), (1, .int x)] []
      rw [if_neg (show ¬ s.1 k = s.1 q by (try simp only [l_int, tL_0, tL_1, tL_2, tL_4, tL_5, tL_6, tL_7, tL_9, tL_10, tL_12, tL_15, tL_30, tL_40, tL_60, tL_99, tL_255, tL_1023, tL_m1, lc_lt, lc_gt, lc_ge, lc_le, lc_eq, l6_le, l6_lt, l6_eq, tI_m133, tI_m226, i_le, i_lt, i_eq, tI_m2, tI_m1, tI_0, tI_1, tI_10, tI_60] at c50); (try simp only [l_int, tL_0, tL_1, tL_2, tL_4, tL_5, tL_6, tL_7, tL_9, tL_10, tL_12, tL_15, tL_30, tL_40, tL_60, tL_99, tL_255, tL_1023, tL_m1, lc_lt, lc_gt, lc_ge, lc_le, lc_eq, l6_le, l6_lt, l6_eq, tI_m133, tI_m226, i_le, i_lt, i_eq, tI_m2, tI_m1, tI_0, tI_1, tI_10, tI_60] at c71); (try simp only [l_int, tL_0, tL_1, tL_2, tL_4, tL_5, tL_6, tL_7, tL_9, tL_10, tL_12, tL_15, tL_30, tL_40, tL_60, tL_99, tL_255, tL_1023, tL_m1, lc_lt, lc_gt, lc_ge, lc_le, lc_eq, l6_le, l6_lt, l6_eq, tI_m133, tI_m226, i_le, i_lt, i_eq, tI_m2, tI_m1, tI_0, tI_1, tI_10, tI_60]); omega), cn_ms _ s k (by rw [ho1]) ho2, cn_ms _ s q (by rw [ho1]) ho2] at hr
      refine WS.aload_n hx dX11_meet_76 rfl 1 rfl ?_
      refine WS.callVv (st := []) [] hx (c_X11_goesCentury V d τ κ n (hM.me hE) s hT cs T lw (hL.me hE)) okX11_goesCentury lm11_234 rfl rfl rfl rfl (Nat.le_of_ble_eq_true rfl) dX11_meet_77 (fun σ2 h3 => ?_)
      obtain ⟨me77, mt77⟩ := h3
      show WS layM V 3 X σ2 80 [(2, .int (nI i)), (0, rf V 0), (1, .int x)] []
      refine WS.iinc (v := nI (i + 1)) (lo' := [(2, .int (nI (i + 1))), (0, rf V 0), (1, .int x)]) hx dX11_meet_80 0 rfl (nI_1 i) (by decide) rfl ?_
      refine WS.goto (tgt := 47) hx dX11_meet_83 (by decide) ?_
      exact WS.los [0, 1, 2] rfl (ih (i + 1) _ _ (by omega) (hE.tr me77) mt77 ho1 ho2 hr)
    · skip
      show WS layM V 3 X τ 74 [(2, .int (nI i)), (0, rf V 0), (1, .int x)] []
      rw [if_pos (show s.1 k = s.1 q by (try simp only [l_int, tL_0, tL_1, tL_2, tL_4, tL_5, tL_6, tL_7, tL_9, tL_10, tL_12, tL_15, tL_30, tL_40, tL_60, tL_99, tL_255, tL_1023, tL_m1, lc_lt, lc_gt, lc_ge, lc_le, lc_eq, l6_le, l6_lt, l6_eq, tI_m133, tI_m226, i_le, i_lt, i_eq, tI_m2, tI_m1, tI_0, tI_1, tI_10, tI_60] at c50); (try simp only [l_int, tL_0, tL_1, tL_2, tL_4, tL_5, tL_6, tL_7, tL_9, tL_10, tL_12, tL_15, tL_30, tL_40, tL_60, tL_99, tL_255, tL_1023, tL_m1, lc_lt, lc_gt, lc_ge, lc_le, lc_eq, l6_le, l6_lt, l6_eq, tI_m133, tI_m226, i_le, i_lt, i_eq, tI_m2, tI_m1, tI_0, tI_1, tI_10, tI_60] at c71); (try simp only [l_int, tL_0, tL_1, tL_2, tL_4, tL_5, tL_6, tL_7, tL_9, tL_10, tL_12, tL_15, tL_30, tL_40, tL_60, tL_99, tL_255, tL_1023, tL_m1, lc_lt, lc_gt, lc_ge, lc_le, lc_eq, l6_le, l6_lt, l6_eq, tI_m133, tI_m226, i_le, i_lt, i_eq, tI_m2, tI_m1, tI_0, tI_1, tI_10, tI_60]); omega)] at hr
      refine WS.iload_n hx dX11_meet_74 rfl 0 rfl ?_
      exact WS.iret hx he dX11_meet_75 ⟨_, rfl, by rw [show nI i = oN (some i) from rfl, show some i = r from hr]; exact hP τ hE⟩
theorem dv_neg {x c : Int32} (h : x.toInt < 0) (hc : 0 < c.toInt) : (x / c).toInt = -((-x.toInt) / c.toInt) := by
  rw [Int32.toInt_div_of_ne_right x c (by intro e; rw [e] at hc; exact absurd hc (by decide))]
  rw [show x.toInt = -(-x.toInt) by omega, Int.neg_tdiv, Int.tdiv_eq_ediv_of_nonneg (by omega)]
  simp
theorem d10_neg {x : Int32} (h : x.toInt < 0) : (x / 10).toInt ≤ 0 ∧ (x - x / 10 * 10).toInt ≤ 0 ∧ ((x / 10).toInt = 0 → (x - x / 10 * 10).toInt < 0) := by
  have hl := x.le_toInt
  have hu := x.toInt_lt
  have e1 : (x / 10).toInt = -((-x.toInt) / 10) := by rw [dv_neg h (by decide), tI_10]
  have h3 : (x / 10 * 10).toInt = -((-x.toInt) / 10) * 10 := by rw [i_mul (by rw [e1, tI_10]; omega) (by rw [e1, tI_10]; omega), e1, tI_10]
  have e2 : (x - x / 10 * 10).toInt = x.toInt - -((-x.toInt) / 10) * 10 := by
    rw [i_sub (by rw [h3]; omega) (by rw [h3]; omega), h3]
  rw [e1, e2]
  omega
set_option maxHeartbeats 1000000 in
theorem c_X11_meet (V : Vt) (d : Nat) (σ : Sg) (κ : Sg) (n : Nat) (hM : MR κ σ n) (cs : Nat → Int32) (T : Nat) (lw : Lw) (hL : ML σ cs T lw) (x : Int32) : CT layM V mX11_meet (d + 6) [rf V 0, .int x] σ (Ri fun v σ' => if ¬ (0 ≤ (x / 10).toInt ∧ (x / 10).toInt < n ∧ 0 ≤ (x - x / 10 * 10).toInt ∧ (x - x / 10 * 10).toInt < n ∧ ¬ (x / 10).toInt = (x - x / 10 * 10).toInt) then v = -1 ∧ ME σ σ' else v = oN (fsT ((wdM κ n lw).cn (nn (x / 10)) ((wdM κ n lw).bd (nn (x / 10)))) ((wdM κ n lw).cn (nn (x - x / 10 * 10)) ((wdM κ n lw).bd (nn (x - x / 10 * 10)))) 61 0 ((wdM κ n lw).s0 (nn (x / 10))) ((wdM κ n lw).s0 (nn (x - x / 10 * 10)))) ∧ ME σ σ') := by
  refine CT.of (own := RX11) rfl (by decide) (Nat.le_of_ble_eq_true rfl) (fun X (hx : Ok V RX11 cX11_meet 3 (d + 6) X) (he : En layM V (some .int) (Ri fun v σ' => if ¬ (0 ≤ (x / 10).toInt ∧ (x / 10).toInt < n ∧ 0 ≤ (x - x / 10 * 10).toInt ∧ (x - x / 10 * 10).toInt < n ∧ ¬ (x / 10).toInt = (x - x / 10 * 10).toInt) then v = -1 ∧ ME σ σ' else v = oN (fsT ((wdM κ n lw).cn (nn (x / 10)) ((wdM κ n lw).bd (nn (x / 10)))) ((wdM κ n lw).cn (nn (x - x / 10 * 10)) ((wdM κ n lw).bd (nn (x - x / 10 * 10)))) 61 0 ((wdM κ n lw).s0 (nn (x / 10))) ((wdM κ n lw).s0 (nn (x - x / 10 * 10)))) ∧ ME σ σ') X) => ?_)
  change WS layM V 3 X σ 0 [(0, rf V 0), (1, .int x)] []
  have hn := hM.n
  have hs := hM.s
  refine WS.iload_n hx dX11_meet_0 rfl 1 rfl ?_
  refine WS.if_lt (tgt := 39) hx dX11_meet_1 (by decide) (fun c1 => ?_) (fun c1 => ?_)
  · skip
    show WS layM V 3 X σ 39 [(0, rf V 0), (1, .int x)] []
    have hng := d10_neg (x := x) (by (try simp only [l_int, tL_0, tL_1, tL_2, tL_4, tL_5, tL_6, tL_7, tL_9, tL_10, tL_12, tL_15, tL_30, tL_40, tL_60, tL_99, tL_255, tL_1023, tL_m1, lc_lt, lc_gt, lc_ge, lc_le, lc_eq, l6_le, l6_lt, l6_eq, tI_m133, tI_m226, i_le, i_lt, i_eq, tI_m2, tI_m1, tI_0, tI_1, tI_10, tI_60] at c1); (try simp only [l_int, tL_0, tL_1, tL_2, tL_4, tL_5, tL_6, tL_7, tL_9, tL_10, tL_12, tL_15, tL_30, tL_40, tL_60, tL_99, tL_255, tL_1023, tL_m1, lc_lt, lc_gt, lc_ge, lc_le, lc_eq, l6_le, l6_lt, l6_eq, tI_m133, tI_m226, i_le, i_lt, i_eq, tI_m2, tI_m1, tI_0, tI_1, tI_10, tI_60]); omega)
    refine WS.iconst (v := (-1)) hx dX11_meet_39 (by decide) ?_
    exact WS.iret hx he dX11_meet_40 ⟨_, rfl, by (try simp only [l_int, tL_0, tL_1, tL_2, tL_4, tL_5, tL_6, tL_7, tL_9, tL_10, tL_12, tL_15, tL_30, tL_40, tL_60, tL_99, tL_255, tL_1023, tL_m1, lc_lt, lc_gt, lc_ge, lc_le, lc_eq, l6_le, l6_lt, l6_eq, tI_m133, tI_m226, i_le, i_lt, i_eq, tI_m2, tI_m1, tI_0, tI_1, tI_10, tI_60] at c1); (repeat' split) <;> first | (exfalso; omega) | exact ⟨rfl, ME.rf⟩⟩
  · skip
    show WS layM V 3 X σ 4 [(0, rf V 0), (1, .int x)] []
    refine WS.aload_n hx dX11_meet_4 rfl 0 rfl ?_
    refine WS.iload_n hx dX11_meet_5 rfl 1 rfl ?_
    refine WS.bipush (v := 10) hx dX11_meet_6 (by decide) ?_
    refine WS.idiv hx dX11_meet_8 (by decide) ?_
    refine WS.i2l hx dX11_meet_9 ?_
    refine WS.callVi (st := []) [.long (Int32.toInt64 (x / 10))] hx (c_X11_isBlock V (d + 4) σ n hs hn (Int32.toInt64 (x / 10))) okX11_isBlock lm11_127 rfl rfl rfl rfl (Nat.le_of_ble_eq_true rfl) dX11_meet_10 (fun v1 σ2 h3 => ?_)
    rcases h3 with ⟨rfl, rfl, hb10⟩ | ⟨rfl, rfl, hb10⟩
    · skip
      show WS layM V 3 X σ 13 [(0, rf V 0), (1, .int x)] [.int 1]
      have hb9 : 0 ≤ (x / 10).toInt ∧ (x / 10).toInt < n := by have h9 := hb10; simp only [l_int] at h9; exact h9
      have hkn : nn (x / 10) < n := by have := nn_int hb9.1; omega
      refine WS.if_eq (tgt := 39) hx dX11_meet_13 (by decide) (fun h => absurd h (by decide)) (fun _ => ?_)
      refine WS.aload_n hx dX11_meet_16 rfl 0 rfl ?_
      refine WS.iload_n hx dX11_meet_17 rfl 1 rfl ?_
      refine WS.bipush (v := 10) hx dX11_meet_18 (by decide) ?_
      refine WS.irem hx dX11_meet_20 (by decide) ?_
      refine WS.i2l hx dX11_meet_21 ?_
      refine WS.callVi (st := []) [.long (Int32.toInt64 (x - x / 10 * 10))] hx (c_X11_isBlock V (d + 4) σ n hs hn (Int32.toInt64 (x - x / 10 * 10))) okX11_isBlock lm11_127 rfl rfl rfl rfl (Nat.le_of_ble_eq_true rfl) dX11_meet_22 (fun v4 σ5 h6 => ?_)
      rcases h6 with ⟨rfl, rfl, hb22⟩ | ⟨rfl, rfl, hb22⟩
      · skip
        show WS layM V 3 X σ 25 [(0, rf V 0), (1, .int x)] [.int 1]
        have hc9 : 0 ≤ (x - x / 10 * 10).toInt ∧ (x - x / 10 * 10).toInt < n := by have h9 := hb22; simp only [l_int] at h9; exact h9
        have hqn : nn (x - x / 10 * 10) < n := by have := nn_int hc9.1; omega
        refine WS.if_eq (tgt := 39) hx dX11_meet_25 (by decide) (fun h => absurd h (by decide)) (fun _ => ?_)
        refine WS.iload_n hx dX11_meet_28 rfl 1 rfl ?_
        refine WS.bipush (v := 10) hx dX11_meet_29 (by decide) ?_
        refine WS.idiv hx dX11_meet_31 (by decide) ?_
        refine WS.iload_n hx dX11_meet_32 rfl 1 rfl ?_
        refine WS.bipush (v := 10) hx dX11_meet_33 (by decide) ?_
        refine WS.irem hx dX11_meet_35 (by decide) ?_
        refine WS.icmp_ne (tgt := 41) hx dX11_meet_36 (by decide) (fun c36 => ?_) (fun c36 => ?_)
        · skip
          show WS layM V 3 X σ 41 [(0, rf V 0), (1, .int x)] []
          refine WS.aload_n hx dX11_meet_41 rfl 0 rfl ?_
          refine WS.callVv (st := []) [] hx (c_X11_begins V (d + 5) σ κ n lw hM) okX11_begins lm11_231 rfl rfl rfl rfl (Nat.le_of_ble_eq_true rfl) dX11_meet_42 (fun σ8 h9 => ?_)
          obtain ⟨me42, mt42⟩ := h9
          show WS layM V 3 X σ8 45 [(0, rf V 0), (1, .int x)] []
          refine WS.iconst (v := 0) hx dX11_meet_45 (by decide) ?_
          refine WS.istore_n (lo' := [(2, .int 0), (0, rf V 0), (1, .int x)]) hx dX11_meet_46 rfl (by decide) rfl ?_
          exact WS.los [0, 1, 2] rfl (lp_X11_meet V d σ κ n hM cs T lw hL (nn (x / 10)) hkn (nn (x - x / 10 * 10)) hqn x (nI_nn hb9.1).symm (nI_nn hc9.1).symm _ _ X hx he (fun τ h => by (try dsimp only); (try simp only [l_int, tL_0, tL_1, tL_2, tL_4, tL_5, tL_6, tL_7, tL_9, tL_10, tL_12, tL_15, tL_30, tL_40, tL_60, tL_99, tL_255, tL_1023, tL_m1, lc_lt, lc_gt, lc_ge, lc_le, lc_eq, l6_le, l6_lt, l6_eq, tI_m133, tI_m226, i_le, i_lt, i_eq, tI_m2, tI_m1, tI_0, tI_1, tI_10, tI_60] at c1); (try simp only [l_int, tL_0, tL_1, tL_2, tL_4, tL_5, tL_6, tL_7, tL_9, tL_10, tL_12, tL_15, tL_30, tL_40, tL_60, tL_99, tL_255, tL_1023, tL_m1, lc_lt, lc_gt, lc_ge, lc_le, lc_eq, l6_le, l6_lt, l6_eq, tI_m133, tI_m226, i_le, i_lt, i_eq, tI_m2, tI_m1, tI_0, tI_1, tI_10, tI_60] at hb10); (try simp only [l_int, tL_0, tL_1, tL_2, tL_4, tL_5, tL_6, tL_7, tL_9, tL_10, tL_12, tL_15, tL_30, tL_40, tL_60, tL_99, tL_255, tL_1023, tL_m1, lc_lt, lc_gt, lc_ge, lc_le, lc_eq, l6_le, l6_lt, l6_eq, tI_m133, tI_m226, i_le, i_lt, i_eq, tI_m2, tI_m1, tI_0, tI_1, tI_10, tI_60] at hb22); (try simp only [l_int, tL_0, tL_1, tL_2, tL_4, tL_5, tL_6, tL_7, tL_9, tL_10, tL_12, tL_15, tL_30, tL_40, tL_60, tL_99, tL_255, tL_1023, tL_m1, lc_lt, lc_gt, lc_ge, lc_le, lc_eq, l6_le, l6_lt, l6_eq, tI_m133, tI_m226, i_le, i_lt, i_eq, tI_m2, tI_m1, tI_0, tI_1, tI_10, tI_60] at c36); rw [if_neg (by omega)]; exact ⟨rfl, h⟩) 61 0 _ _ rfl me42 mt42 rfl rfl rfl)
        · skip
          show WS layM V 3 X σ 39 [(0, rf V 0), (1, .int x)] []
          refine WS.iconst (v := (-1)) hx dX11_meet_39 (by decide) ?_
          exact WS.iret hx he dX11_meet_40 ⟨_, rfl, by (try simp only [l_int, tL_0, tL_1, tL_2, tL_4, tL_5, tL_6, tL_7, tL_9, tL_10, tL_12, tL_15, tL_30, tL_40, tL_60, tL_99, tL_255, tL_1023, tL_m1, lc_lt, lc_gt, lc_ge, lc_le, lc_eq, l6_le, l6_lt, l6_eq, tI_m133, tI_m226, i_le, i_lt, i_eq, tI_m2, tI_m1, tI_0, tI_1, tI_10, tI_60] at c1); (try simp only [l_int, tL_0, tL_1, tL_2, tL_4, tL_5, tL_6, tL_7, tL_9, tL_10, tL_12, tL_15, tL_30, tL_40, tL_60, tL_99, tL_255, tL_1023, tL_m1, lc_lt, lc_gt, lc_ge, lc_le, lc_eq, l6_le, l6_lt, l6_eq, tI_m133, tI_m226, i_le, i_lt, i_eq, tI_m2, tI_m1, tI_0, tI_1, tI_10, tI_60] at hb10); (try simp only [l_int, tL_0, tL_1, tL_2, tL_4, tL_5, tL_6, tL_7, tL_9, tL_10, tL_12, tL_15, tL_30, tL_40, tL_60, tL_99, tL_255, tL_1023, tL_m1, lc_lt, lc_gt, lc_ge, lc_le, lc_eq, l6_le, l6_lt, l6_eq, tI_m133, tI_m226, i_le, i_lt, i_eq, tI_m2, tI_m1, tI_0, tI_1, tI_10, tI_60] at hb22); (try simp only [l_int, tL_0, tL_1, tL_2, tL_4, tL_5, tL_6, tL_7, tL_9, tL_10, tL_12, tL_15, tL_30, tL_40, tL_60, tL_99, tL_255, tL_1023, tL_m1, lc_lt, lc_gt, lc_ge, lc_le, lc_eq, l6_le, l6_lt, l6_eq, tI_m133, tI_m226, i_le, i_lt, i_eq, tI_m2, tI_m1, tI_0, tI_1, tI_10, tI_60] at c36); (repeat' split) <;> first | (exfalso; omega) | exact ⟨rfl, ME.rf⟩⟩
      · skip
        show WS layM V 3 X σ 25 [(0, rf V 0), (1, .int x)] [.int 0]
        refine WS.if_eq (tgt := 39) hx dX11_meet_25 (by decide) (fun _ => ?_) (fun h => absurd (by decide) h)
        refine WS.iconst (v := (-1)) hx dX11_meet_39 (by decide) ?_
        exact WS.iret hx he dX11_meet_40 ⟨_, rfl, by (try simp only [l_int, tL_0, tL_1, tL_2, tL_4, tL_5, tL_6, tL_7, tL_9, tL_10, tL_12, tL_15, tL_30, tL_40, tL_60, tL_99, tL_255, tL_1023, tL_m1, lc_lt, lc_gt, lc_ge, lc_le, lc_eq, l6_le, l6_lt, l6_eq, tI_m133, tI_m226, i_le, i_lt, i_eq, tI_m2, tI_m1, tI_0, tI_1, tI_10, tI_60] at c1); (try simp only [l_int, tL_0, tL_1, tL_2, tL_4, tL_5, tL_6, tL_7, tL_9, tL_10, tL_12, tL_15, tL_30, tL_40, tL_60, tL_99, tL_255, tL_1023, tL_m1, lc_lt, lc_gt, lc_ge, lc_le, lc_eq, l6_le, l6_lt, l6_eq, tI_m133, tI_m226, i_le, i_lt, i_eq, tI_m2, tI_m1, tI_0, tI_1, tI_10, tI_60] at hb10); (try simp only [l_int, tL_0, tL_1, tL_2, tL_4, tL_5, tL_6, tL_7, tL_9, tL_10, tL_12, tL_15, tL_30, tL_40, tL_60, tL_99, tL_255, tL_1023, tL_m1, lc_lt, lc_gt, lc_ge, lc_le, lc_eq, l6_le, l6_lt, l6_eq, tI_m133, tI_m226, i_le, i_lt, i_eq, tI_m2, tI_m1, tI_0, tI_1, tI_10, tI_60] at hb22); (repeat' split) <;> first | (exfalso; omega) | exact ⟨rfl, ME.rf⟩⟩
    · skip
      show WS layM V 3 X σ 13 [(0, rf V 0), (1, .int x)] [.int 0]
      refine WS.if_eq (tgt := 39) hx dX11_meet_13 (by decide) (fun _ => ?_) (fun h => absurd (by decide) h)
      refine WS.iconst (v := (-1)) hx dX11_meet_39 (by decide) ?_
      exact WS.iret hx he dX11_meet_40 ⟨_, rfl, by (try simp only [l_int, tL_0, tL_1, tL_2, tL_4, tL_5, tL_6, tL_7, tL_9, tL_10, tL_12, tL_15, tL_30, tL_40, tL_60, tL_99, tL_255, tL_1023, tL_m1, lc_lt, lc_gt, lc_ge, lc_le, lc_eq, l6_le, l6_lt, l6_eq, tI_m133, tI_m226, i_le, i_lt, i_eq, tI_m2, tI_m1, tI_0, tI_1, tI_10, tI_60] at c1); (try simp only [l_int, tL_0, tL_1, tL_2, tL_4, tL_5, tL_6, tL_7, tL_9, tL_10, tL_12, tL_15, tL_30, tL_40, tL_60, tL_99, tL_255, tL_1023, tL_m1, lc_lt, lc_gt, lc_ge, lc_le, lc_eq, l6_le, l6_lt, l6_eq, tI_m133, tI_m226, i_le, i_lt, i_eq, tI_m2, tI_m1, tI_0, tI_1, tI_10, tI_60] at hb10); (repeat' split) <;> first | (exfalso; omega) | exact ⟨rfl, ME.rf⟩⟩

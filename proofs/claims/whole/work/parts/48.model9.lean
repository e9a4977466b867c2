theorem stI_id (σ : Sg) (o k : Nat) : stI σ o k (σ.1 o k) = σ := by
  unfold stI
  refine Prod.ext ?_ rfl
  funext q j
  (try dsimp only)
  unfold va_up upd
  by_cases e : q = o
  · subst e
    rw [if_pos rfl]
    by_cases g : j = k
    · subst g; rw [if_pos rfl]
    · rw [if_neg g]
  · rw [if_neg e]
theorem stI_2x (σ : Sg) (o k : Nat) (v u : Int32) : stI (stI σ o k v) o k u = stI σ o k u := by
  unfold stI
  refine Prod.ext ?_ rfl
  funext q j
  (try dsimp only)
  unfold va_up upd
  by_cases e : q = o
  · subst e
    simp only [if_true]
    by_cases g : j = k
    · simp only [if_pos g]
    · simp only [if_neg g]
  · rw [if_neg e, if_neg e, if_neg e]
theorem ME.s1 {σ τ : Sg} (h : ME σ τ) {k : Nat} {v : Int32} : ME (stI σ 1 k v) (stI τ 1 k v) := by
  refine ⟨fun q hq => ?_, fun j a b c => ?_, h.2.2⟩
  · by_cases e : q = 1
    · subst e
      show upd (τ.1 1) k v = upd (σ.1 1) k v
      rw [h.1 1 hq]
    · rw [stI_o _ _ _ _ e, stI_o _ _ _ _ e]
      exact h.1 q hq
  · rw [stI_o _ _ _ _ (by decide), stI_o _ _ _ _ (by decide)]
    exact h.2.1 j a b c
theorem ML.s1 {σ : Sg} {cs : Nat → Int32} {T : Nat} {lw : Lw} {k : Nat} {v u : Int32} (h : ML (stI σ 1 k v) cs T lw) : ML (stI σ 1 k u) cs T lw := h
theorem wd_cn {κ : Sg} {n : Nat} {lw : Lw} {c j : Nat} {x : Int32} (h : c = 11 ∨ c = 12) (k b : Nat) : (wdM (stI κ c j x) n lw).cn k b = (wdM κ n lw).cn k b := by
  funext s
  show cen (lwN lw) (Lc (stI κ c j x)) ((stI κ c j x).1 17) k b (cnt ((stI κ c j x).1 14) n) (decide ((stI κ c j x).1 14 k = 1)) s = cen (lwN lw) (Lc κ) (κ.1 17) k b (cnt (κ.1 14) n) (decide (κ.1 14 k = 1)) s
  unfold Lc
  rw [stI_o _ _ _ _ (show 16 ≠ c by omega), stI_o _ _ _ _ (show 17 ≠ c by omega), stI_o _ _ _ _ (show 14 ≠ c by omega)]
theorem wd_a {κ : Sg} {n : Nat} {lw : Lw} {j v : Nat} (hv : v < 2 ^ 31) : (wdM (stI κ 12 j (nI v)) n lw).s0 j = (v, ((wdM κ n lw).s0 j).2) ∧ (wdM (stI κ 12 j (nI v)) n lw).bd j = (wdM κ n lw).bd j := by
  constructor
  · show (nn ((stI κ 12 j (nI v)).1 12 j), nn ((stI κ 12 j (nI v)).1 18 0)) = (v, nn (κ.1 18 0))
    rw [stI_1, nn_nI hv, stI_o _ _ _ _ (by decide)]
  · show nn ((stI κ 12 j (nI v)).1 11 j) = nn (κ.1 11 j)
    rw [stI_o _ _ _ _ (by decide)]
theorem wd_b {κ : Sg} {n : Nat} {lw : Lw} {j v : Nat} (hv : v < 2 ^ 31) : (wdM (stI κ 11 j (nI v)) n lw).s0 j = (wdM κ n lw).s0 j ∧ (wdM (stI κ 11 j (nI v)) n lw).bd j = v := by
  constructor
  · show (nn ((stI κ 11 j (nI v)).1 12 j), nn ((stI κ 11 j (nI v)).1 18 0)) = (nn (κ.1 12 j), nn (κ.1 18 0))
    rw [stI_o _ _ _ _ (by decide), stI_o _ _ _ _ (by decide)]
  · show nn ((stI κ 11 j (nI v)).1 11 j) = v
    rw [stI_1, nn_nI hv]
set_option maxHeartbeats 1000000 in
theorem lp_X11_fits (V : Vt) (d : Nat) (σ : Sg) (κ : Sg) (n : Nat) (hM : MR κ σ n) (cs : Nat → Int32) (T : Nat) (lw : Lw) (hL : ML σ cs T lw) (k : Nat) (hk : k < n) (s9 : Nat) (hs9 : s9 < 6) (z : Nat) (hz : σ.1 24 s9 = nI z) (hz2 : z ≤ 60) (bk : Nat → Int64) (hb : ∀ i, i < z → σ.2.1 25 (60 * s9 + i) = bk i) (w N : Nat) (hw : w < 83) (was : Int32) (hwas : σ.1 1 w = was) (κf : Nat → Sg) (hK : ∀ v, v < N → ∀ τ, MR κ (stI τ 1 w was) n → MR (κf v) (stI τ 1 w (nI v)) n) (p : Nat → Bool) (hp : ∀ v, v < N → p v = decide (oN (fsB ((wdM (κf v) n lw).cn k ((wdM (κf v) n lw).bd k)) ((κf v).1 17) bk (min z 41) 0 ((wdM (κf v) n lw).s0 k)) = -2)) (f b q : Int32) (hf : f = nI s9) (hbk : b = nI k) (hN : (q = 0 → N = 16) ∧ (¬ q = 0 → N = 10)) (P : Int32 → Sg → Prop) (X : Xt) (hx : Ok V RX11 cX11_fits 8 (d + 7) X) (he : En layM V (some .int) (Ri P) X) (hP : ∀ σ', ME σ σ' → P (orW p nI N) σ') : ∀ (i : Nat) (τ : Sg), i ≤ N → ME σ (stI τ 1 w was) → WS layM V 8 X τ 73 [(7, .int (nI i)), (6, .int (orW p nI i)), (5, .int was), (4, .int (nI w)), (0, rf V 0), (1, .int f), (2, .int b), (3, .int q)] [] := by
  have hn := hM.n
  intro i
  induction hm : N - i using Nat.strongRecOn generalizing i with
  | _ m9 ih =>
    intro τ hi hE
    have hN16 : N ≤ 16 := by by_cases e : q = 0; exact (hN.1 e).symm ▸ Nat.le_refl _; rw [hN.2 e]; decide
    have hiI : (nI i).toInt = (i : Int) := nI_c (by omega)
    refine WS.iload hx dX11_fits_73 0 rfl ?_
    refine WS.iload_n hx dX11_fits_75 rfl 7 rfl ?_
    refine WS.if_ne (tgt := 84) hx dX11_fits_76 (by decide) (fun c76 => ?_) (fun c76 => ?_)
    · skip
      show WS layM V 8 X τ 84 [(7, .int (nI i)), (6, .int (orW p nI i)), (5, .int was), (4, .int (nI w)), (0, rf V 0), (1, .int f), (2, .int b), (3, .int q)] [.int (nI i)]
      have hN9 := hN.2 c76
      refine WS.bipush (v := 10) hx dX11_fits_84 (by decide) ?_
      refine WS.icmp_ge (tgt := 128) hx dX11_fits_86 (by decide) (fun c86 => ?_) (fun c86 => ?_)
      · skip
        show WS layM V 8 X τ 128 [(7, .int (nI i)), (6, .int (orW p nI i)), (5, .int was), (4, .int (nI w)), (0, rf V 0), (1, .int f), (2, .int b), (3, .int q)] []
        refine WS.aload_n hx dX11_fits_128 rfl 4 rfl ?_
        refine WS.getR hx okX11 lf11_9 rfl rfl dX11_fits_129 ?_
        refine WS.iload hx dX11_fits_132 3 rfl ?_
        refine WS.iload hx dX11_fits_134 2 rfl ?_
        refine WS.iast hx rfl (vp_in_nI (by omega) (by decide)) dX11_fits_136 ?_
        refine WS.iload hx dX11_fits_137 1 rfl ?_
        exact WS.iret hx he dX11_fits_139 ⟨_, rfl, by (try simp only [nn_nI (show w < 2 ^ 31 by omega), nI_clamp (show w < 2 ^ 31 by omega)]); rw [show i = N by (try simp only [l_int, tL_0, tL_1, tL_2, tL_4, tL_5, tL_6, tL_7, tL_9, tL_10, tL_12, tL_15, tL_30, tL_40, tL_60, tL_99, tL_255, tL_1023, tL_m1, lc_lt, lc_gt, lc_ge, lc_le, lc_eq, l6_le, l6_lt, l6_eq, tI_m133, tI_m226, i_le, i_lt, i_eq, tI_m2, tI_m1, tI_0, tI_1, tI_10, tI_16] at c76); (try simp only [l_int, tL_0, tL_1, tL_2, tL_4, tL_5, tL_6, tL_7, tL_9, tL_10, tL_12, tL_15, tL_30, tL_40, tL_60, tL_99, tL_255, tL_1023, tL_m1, lc_lt, lc_gt, lc_ge, lc_le, lc_eq, l6_le, l6_lt, l6_eq, tI_m133, tI_m226, i_le, i_lt, i_eq, tI_m2, tI_m1, tI_0, tI_1, tI_10, tI_16] at c86); (try simp only [l_int, tL_0, tL_1, tL_2, tL_4, tL_5, tL_6, tL_7, tL_9, tL_10, tL_12, tL_15, tL_30, tL_40, tL_60, tL_99, tL_255, tL_1023, tL_m1, lc_lt, lc_gt, lc_ge, lc_le, lc_eq, l6_le, l6_lt, l6_eq, tI_m133, tI_m226, i_le, i_lt, i_eq, tI_m2, tI_m1, tI_0, tI_1, tI_10, tI_16]); omega]; exact hP _ hE⟩
      · skip
        show WS layM V 8 X τ 89 [(7, .int (nI i)), (6, .int (orW p nI i)), (5, .int was), (4, .int (nI w)), (0, rf V 0), (1, .int f), (2, .int b), (3, .int q)] []
        have hi9 : i < N := by (try simp only [l_int, tL_0, tL_1, tL_2, tL_4, tL_5, tL_6, tL_7, tL_9, tL_10, tL_12, tL_15, tL_30, tL_40, tL_60, tL_99, tL_255, tL_1023, tL_m1, lc_lt, lc_gt, lc_ge, lc_le, lc_eq, l6_le, l6_lt, l6_eq, tI_m133, tI_m226, i_le, i_lt, i_eq, tI_m2, tI_m1, tI_0, tI_1, tI_10, tI_16] at c76); (try simp only [l_int, tL_0, tL_1, tL_2, tL_4, tL_5, tL_6, tL_7, tL_9, tL_10, tL_12, tL_15, tL_30, tL_40, tL_60, tL_99, tL_255, tL_1023, tL_m1, lc_lt, lc_gt, lc_ge, lc_le, lc_eq, l6_le, l6_lt, l6_eq, tI_m133, tI_m226, i_le, i_lt, i_eq, tI_m2, tI_m1, tI_0, tI_1, tI_10, tI_16] at c86); (try simp only [l_int, tL_0, tL_1, tL_2, tL_4, tL_5, tL_6, tL_7, tL_9, tL_10, tL_12, tL_15, tL_30, tL_40, tL_60, tL_99, tL_255, tL_1023, tL_m1, lc_lt, lc_gt, lc_ge, lc_le, lc_eq, l6_le, l6_lt, l6_eq, tI_m133, tI_m226, i_le, i_lt, i_eq, tI_m2, tI_m1, tI_0, tI_1, tI_10, tI_16]); omega
        refine WS.aload_n hx dX11_fits_89 rfl 4 rfl ?_
        refine WS.getR hx okX11 lf11_9 rfl rfl dX11_fits_90 ?_
        refine WS.iload hx dX11_fits_93 3 rfl ?_
        refine WS.iload hx dX11_fits_95 0 rfl ?_
        refine WS.iast hx rfl (vp_in_nI (by omega) (by decide)) dX11_fits_97 ?_
        refine WS.sg (fun υ eυ => ?_)
        have eu : υ = stI τ 1 w (nI i) := by rw [eυ]; simp only [nn_nI (show w < 2 ^ 31 by omega), nI_clamp (show w < 2 ^ 31 by omega)]
        refine WS.iload hx dX11_fits_98 1 rfl ?_
        refine WS.aload_n hx dX11_fits_100 rfl 4 rfl ?_
        refine WS.iload_n hx dX11_fits_101 rfl 5 rfl ?_
        refine WS.as rfl rfl (congrArg (fun z => Value.int z :: _) (show f = nI s9 from hf)) ?_
        skip
        refine WS.iload_n hx dX11_fits_102 rfl 6 rfl ?_
        refine WS.as rfl rfl (congrArg (fun z => Value.int z :: _) (show b = nI k from hbk)) ?_
        skip
        refine WS.callVi (st := [.int (orW p nI i)]) [.int (nI s9), .int (nI k)] hx (c_X11_firstFalse V d υ (κf i) n (by rw [eu]; exact hK i hi9 τ (hM.me hE)) cs T lw (by rw [eu]; exact ML.s1 (hL.me hE)) k hk s9 hs9 z (by rw [eu]; exact (congrFun (hE.1 24 (nmsc (by decide))) s9).trans hz) hz2 bk (fun j hj => by rw [eu, show (stI τ 1 w (nI i)).2.1 = (stI τ 1 w was).2.1 from rfl, hE.2.2]; exact hb j hj)) okX11_firstFalse lm11_290 rfl rfl rfl rfl (Nat.le_of_ble_eq_true rfl) dX11_fits_103 (fun v1 σ2 h3 => ?_)
        obtain ⟨hv103, me103⟩ := h3
        show WS layM V 8 X σ2 106 [(7, .int (nI i)), (6, .int (orW p nI i)), (5, .int was), (4, .int (nI w)), (0, rf V 0), (1, .int f), (2, .int b), (3, .int q)] [.int v1, .int (orW p nI i)]
        refine WS.bipush (v := (-2)) hx dX11_fits_106 (by decide) ?_
        refine WS.icmp_ne (tgt := 118) hx dX11_fits_108 (by decide) (fun c108 => ?_) (fun c108 => ?_)
        · skip
          show WS layM V 8 X σ2 118 [(7, .int (nI i)), (6, .int (orW p nI i)), (5, .int was), (4, .int (nI w)), (0, rf V 0), (1, .int f), (2, .int b), (3, .int q)] [.int (orW p nI i)]
          refine WS.iconst (v := 0) hx dX11_fits_118 (by decide) ?_
          refine WS.ior hx dX11_fits_119 ?_
          refine WS.as rfl rfl (congrArg (fun z => Value.int z :: _) (show (orW p nI i) ||| 0 = orW p nI (i + 1) from by
    have hp9 := hp i (by (try simp only [l_int, tL_0, tL_1, tL_2, tL_4, tL_5, tL_6, tL_7, tL_9, tL_10, tL_12, tL_15, tL_30, tL_40, tL_60, tL_99, tL_255, tL_1023, tL_m1, lc_lt, lc_gt, lc_ge, lc_le, lc_eq, l6_le, l6_lt, l6_eq, tI_m133, tI_m226, i_le, i_lt, i_eq, tI_m2, tI_m1, tI_0, tI_1, tI_10, tI_16] at c76); (try simp only [l_int, tL_0, tL_1, tL_2, tL_4, tL_5, tL_6, tL_7, tL_9, tL_10, tL_12, tL_15, tL_30, tL_40, tL_60, tL_99, tL_255, tL_1023, tL_m1, lc_lt, lc_gt, lc_ge, lc_le, lc_eq, l6_le, l6_lt, l6_eq, tI_m133, tI_m226, i_le, i_lt, i_eq, tI_m2, tI_m1, tI_0, tI_1, tI_10, tI_16] at c86); (try simp only [l_int, tL_0, tL_1, tL_2, tL_4, tL_5, tL_6, tL_7, tL_9, tL_10, tL_12, tL_15, tL_30, tL_40, tL_60, tL_99, tL_255, tL_1023, tL_m1, lc_lt, lc_gt, lc_ge, lc_le, lc_eq, l6_le, l6_lt, l6_eq, tI_m133, tI_m226, i_le, i_lt, i_eq, tI_m2, tI_m1, tI_0, tI_1, tI_10, tI_16] at c108); (try simp only [l_int, tL_0, tL_1, tL_2, tL_4, tL_5, tL_6, tL_7, tL_9, tL_10, tL_12, tL_15, tL_30, tL_40, tL_60, tL_99, tL_255, tL_1023, tL_m1, lc_lt, lc_gt, lc_ge, lc_le, lc_eq, l6_le, l6_lt, l6_eq, tI_m133, tI_m226, i_le, i_lt, i_eq, tI_m2, tI_m1, tI_0, tI_1, tI_10, tI_16]); omega)
    rw [hv103] at hp9
    show _ = (if p i = true then orW p nI i ||| ((1 : Int32) <<< (nI i &&& 31)) else orW p nI i)
    rw [hp9]
    first | rw [if_pos (decide_eq_true (by first | exact c108 | exact k108))] | (rw [if_neg (fun h => c108 (of_decide_eq_true h))]; exact Int32.or_zero))) ?_
          skip
          refine WS.istore (lo' := [(6, .int (orW p nI (i + 1))), (7, .int (nI i)), (5, .int was), (4, .int (nI w)), (0, rf V 0), (1, .int f), (2, .int b), (3, .int q)]) hx dX11_fits_120 (by decide) rfl ?_
          refine WS.iinc (v := nI (i + 1)) (lo' := [(7, .int (nI (i + 1))), (6, .int (orW p nI (i + 1))), (5, .int was), (4, .int (nI w)), (0, rf V 0), (1, .int f), (2, .int b), (3, .int q)]) hx dX11_fits_122 1 rfl (nI_1 i) (by decide) rfl ?_
          refine WS.goto (tgt := 73) hx dX11_fits_125 (by decide) ?_
          exact WS.los [0, 1, 2, 3, 4, 5, 6, 7] rfl (ih _ (by (try simp only [l_int, tL_0, tL_1, tL_2, tL_4, tL_5, tL_6, tL_7, tL_9, tL_10, tL_12, tL_15, tL_30, tL_40, tL_60, tL_99, tL_255, tL_1023, tL_m1, lc_lt, lc_gt, lc_ge, lc_le, lc_eq, l6_le, l6_lt, l6_eq, tI_m133, tI_m226, i_le, i_lt, i_eq, tI_m2, tI_m1, tI_0, tI_1, tI_10, tI_16] at c76); (try simp only [l_int, tL_0, tL_1, tL_2, tL_4, tL_5, tL_6, tL_7, tL_9, tL_10, tL_12, tL_15, tL_30, tL_40, tL_60, tL_99, tL_255, tL_1023, tL_m1, lc_lt, lc_gt, lc_ge, lc_le, lc_eq, l6_le, l6_lt, l6_eq, tI_m133, tI_m226, i_le, i_lt, i_eq, tI_m2, tI_m1, tI_0, tI_1, tI_10, tI_16] at c86); (try simp only [l_int, tL_0, tL_1, tL_2, tL_4, tL_5, tL_6, tL_7, tL_9, tL_10, tL_12, tL_15, tL_30, tL_40, tL_60, tL_99, tL_255, tL_1023, tL_m1, lc_lt, lc_gt, lc_ge, lc_le, lc_eq, l6_le, l6_lt, l6_eq, tI_m133, tI_m226, i_le, i_lt, i_eq, tI_m2, tI_m1, tI_0, tI_1, tI_10, tI_16] at c108); (try simp only [l_int, tL_0, tL_1, tL_2, tL_4, tL_5, tL_6, tL_7, tL_9, tL_10, tL_12, tL_15, tL_30, tL_40, tL_60, tL_99, tL_255, tL_1023, tL_m1, lc_lt, lc_gt, lc_ge, lc_le, lc_eq, l6_le, l6_lt, l6_eq, tI_m133, tI_m226, i_le, i_lt, i_eq, tI_m2, tI_m1, tI_0, tI_1, tI_10, tI_16]); omega) (i + 1) rfl _ (by (try simp only [l_int, tL_0, tL_1, tL_2, tL_4, tL_5, tL_6, tL_7, tL_9, tL_10, tL_12, tL_15, tL_30, tL_40, tL_60, tL_99, tL_255, tL_1023, tL_m1, lc_lt, lc_gt, lc_ge, lc_le, lc_eq, l6_le, l6_lt, l6_eq, tI_m133, tI_m226, i_le, i_lt, i_eq, tI_m2, tI_m1, tI_0, tI_1, tI_10, tI_16] at c76); (try simp only [l_int, tL_0, tL_1, tL_2, tL_4, tL_5, tL_6, tL_7, tL_9, tL_10, tL_12, tL_15, tL_30, tL_40, tL_60, tL_99, tL_255, tL_1023, tL_m1, lc_lt, lc_gt, lc_ge, lc_le, lc_eq, l6_le, l6_lt, l6_eq, tI_m133, tI_m226, i_le, i_lt, i_eq, tI_m2, tI_m1, tI_0, tI_1, tI_10, tI_16] at c86); (try simp only [l_int, tL_0, tL_1, tL_2, tL_4, tL_5, tL_6, tL_7, tL_9, tL_10, tL_12, tL_15, tL_30, tL_40, tL_60, tL_99, tL_255, tL_1023, tL_m1, lc_lt, lc_gt, lc_ge, lc_le, lc_eq, l6_le, l6_lt, l6_eq, tI_m133, tI_m226, i_le, i_lt, i_eq, tI_m2, tI_m1, tI_0, tI_1, tI_10, tI_16] at c108); (try simp only [l_int, tL_0, tL_1, tL_2, tL_4, tL_5, tL_6, tL_7, tL_9, tL_10, tL_12, tL_15, tL_30, tL_40, tL_60, tL_99, tL_255, tL_1023, tL_m1, lc_lt, lc_gt, lc_ge, lc_le, lc_eq, l6_le, l6_lt, l6_eq, tI_m133, tI_m226, i_le, i_lt, i_eq, tI_m2, tI_m1, tI_0, tI_1, tI_10, tI_16]); omega) (by
              have h9 := me103.s1 (k := w) (v := was)
              rw [eu, stI_2x] at h9
              exact hE.tr h9))
        · skip
          show WS layM V 8 X σ2 111 [(7, .int (nI i)), (6, .int (orW p nI i)), (5, .int was), (4, .int (nI w)), (0, rf V 0), (1, .int f), (2, .int b), (3, .int q)] [.int (orW p nI i)]
          refine WS.iconst (v := 1) hx dX11_fits_111 (by decide) ?_
          refine WS.iload hx dX11_fits_112 0 rfl ?_
          refine WS.ishl hx dX11_fits_114 ?_
          refine WS.goto (tgt := 119) hx dX11_fits_115 (by decide) ?_
          refine WS.ior hx dX11_fits_119 ?_
          refine WS.as rfl rfl (congrArg (fun z => Value.int z :: _) (show (orW p nI i) ||| (1 <<< ((nI i) &&& 31)) = orW p nI (i + 1) from by
    have hp9 := hp i (by (try simp only [l_int, tL_0, tL_1, tL_2, tL_4, tL_5, tL_6, tL_7, tL_9, tL_10, tL_12, tL_15, tL_30, tL_40, tL_60, tL_99, tL_255, tL_1023, tL_m1, lc_lt, lc_gt, lc_ge, lc_le, lc_eq, l6_le, l6_lt, l6_eq, tI_m133, tI_m226, i_le, i_lt, i_eq, tI_m2, tI_m1, tI_0, tI_1, tI_10, tI_16] at c76); (try simp only [l_int, tL_0, tL_1, tL_2, tL_4, tL_5, tL_6, tL_7, tL_9, tL_10, tL_12, tL_15, tL_30, tL_40, tL_60, tL_99, tL_255, tL_1023, tL_m1, lc_lt, lc_gt, lc_ge, lc_le, lc_eq, l6_le, l6_lt, l6_eq, tI_m133, tI_m226, i_le, i_lt, i_eq, tI_m2, tI_m1, tI_0, tI_1, tI_10, tI_16] at c86); (try simp only [l_int, tL_0, tL_1, tL_2, tL_4, tL_5, tL_6, tL_7, tL_9, tL_10, tL_12, tL_15, tL_30, tL_40, tL_60, tL_99, tL_255, tL_1023, tL_m1, lc_lt, lc_gt, lc_ge, lc_le, lc_eq, l6_le, l6_lt, l6_eq, tI_m133, tI_m226, i_le, i_lt, i_eq, tI_m2, tI_m1, tI_0, tI_1, tI_10, tI_16] at c108); (try simp only [l_int, tL_0, tL_1, tL_2, tL_4, tL_5, tL_6, tL_7, tL_9, tL_10, tL_12, tL_15, tL_30, tL_40, tL_60, tL_99, tL_255, tL_1023, tL_m1, lc_lt, lc_gt, lc_ge, lc_le, lc_eq, l6_le, l6_lt, l6_eq, tI_m133, tI_m226, i_le, i_lt, i_eq, tI_m2, tI_m1, tI_0, tI_1, tI_10, tI_16]); omega)
    rw [hv103] at hp9
    show _ = (if p i = true then orW p nI i ||| ((1 : Int32) <<< (nI i &&& 31)) else orW p nI i)
    rw [hp9]
    first | rw [if_pos (decide_eq_true (by first | exact c108 | exact k108))] | (rw [if_neg (fun h => c108 (of_decide_eq_true h))]; exact Int32.or_zero))) ?_
          skip
          refine WS.istore (lo' := [(6, .int (orW p nI (i + 1))), (7, .int (nI i)), (5, .int was), (4, .int (nI w)), (0, rf V 0), (1, .int f), (2, .int b), (3, .int q)]) hx dX11_fits_120 (by decide) rfl ?_
          refine WS.iinc (v := nI (i + 1)) (lo' := [(7, .int (nI (i + 1))), (6, .int (orW p nI (i + 1))), (5, .int was), (4, .int (nI w)), (0, rf V 0), (1, .int f), (2, .int b), (3, .int q)]) hx dX11_fits_122 1 rfl (nI_1 i) (by decide) rfl ?_
          refine WS.goto (tgt := 73) hx dX11_fits_125 (by decide) ?_
          exact WS.los [0, 1, 2, 3, 4, 5, 6, 7] rfl (ih _ (by (try simp only [l_int, tL_0, tL_1, tL_2, tL_4, tL_5, tL_6, tL_7, tL_9, tL_10, tL_12, tL_15, tL_30, tL_40, tL_60, tL_99, tL_255, tL_1023, tL_m1, lc_lt, lc_gt, lc_ge, lc_le, lc_eq, l6_le, l6_lt, l6_eq, tI_m133, tI_m226, i_le, i_lt, i_eq, tI_m2, tI_m1, tI_0, tI_1, tI_10, tI_16] at c76); (try simp only [l_int, tL_0, tL_1, tL_2, tL_4, tL_5, tL_6, tL_7, tL_9, tL_10, tL_12, tL_15, tL_30, tL_40, tL_60, tL_99, tL_255, tL_1023, tL_m1, lc_lt, lc_gt, lc_ge, lc_le, lc_eq, l6_le, l6_lt, l6_eq, tI_m133, tI_m226, i_le, i_lt, i_eq, tI_m2, tI_m1, tI_0, tI_1, tI_10, tI_16] at c86); (try simp only [l_int, tL_0, tL_1, tL_2, tL_4, tL_5, tL_6, tL_7, tL_9, tL_10, tL_12, tL_15, tL_30, tL_40, tL_60, tL_99, tL_255, tL_1023, tL_m1, lc_lt, lc_gt, lc_ge, lc_le, lc_eq, l6_le, l6_lt, l6_eq, tI_m133, tI_m226, i_le, i_lt, i_eq, tI_m2, tI_m1, tI_0, tI_1, tI_10, tI_16] at c108); (try simp only [l_int, tL_0, tL_1, tL_2, tL_4, tL_5, tL_6, tL_7, tL_9, tL_10, tL_12, tL_15, tL_30, tL_40, tL_60, tL_99, tL_255, tL_1023, tL_m1, lc_lt, lc_gt, lc_ge, lc_le, lc_eq, l6_le, l6_lt, l6_eq, tI_m133, tI_m226, i_le, i_lt, i_eq, tI_m2, tI_m1, tI_0, tI_1, tI_10, tI_16]); omega) (i + 1) rfl _ (by (try simp only [l_int, tL_0, tL_1, tL_2, tL_4, tL_5, tL_6, tL_7, tL_9, tL_10, tL_12, tL_15, tL_30, tL_40, tL_60, tL_99, tL_255, tL_1023, tL_m1, lc_lt, lc_gt, lc_ge, lc_le, lc_eq, l6_le, l6_lt, l6_eq, tI_m133, tI_m226, i_le, i_lt, i_eq, tI_m2, tI_m1, tI_0, tI_1, tI_10, tI_16] at c76); (try simp only [l_int, tL_0, tL_1, tL_2, tL_4, tL_5, tL_6, tL_7, tL_9, tL_10, tL_12, tL_15, tL_30, tL_40, tL_60, tL_99, tL_255, tL_1023, tL_m1, lc_lt, lc_gt, lc_ge, lc_le, lc_eq, l6_le, l6_lt, l6_eq, tI_m133, tI_m226, i_le, i_lt, i_eq, tI_m2, tI_m1, tI_0, tI_1, tI_10, tI_16] at c86); (try simp only [l_int, tL_0, tL_1, tL_2, tL_4, tL_5, tL_6, tL_7, tL_9, tL_10, tL_12, tL_15, tL_30, tL_40, tL_60, tL_99, tL_255, tL_1023, tL_m1, lc_lt, lc_gt, lc_ge, lc_le, lc_eq, l6_le, l6_lt, l6_eq, tI_m133, tI_m226, i_le, i_lt, i_eq, tI_m2, tI_m1, tI_0, tI_1, tI_10, tI_16] at c108); (try simp only [l_int, tL_0, tL_1, tL_2, tL_4, tL_5, tL_6, tL_7, tL_9, tL_10, tL_12, tL_15, tL_30, tL_40, tL_60, tL_99, tL_255, tL_1023, tL_m1, lc_lt, lc_gt, lc_ge, lc_le, lc_eq, l6_le, l6_lt, l6_eq, tI_m133, tI_m226, i_le, i_lt, i_eq, tI_m2, tI_m1, tI_0, tI_1, tI_10, tI_16]); omega) (by
              have h9 := me103.s1 (k := w) (v := was)
              rw [eu, stI_2x] at h9
              exact hE.tr h9))
    · skip
      show WS layM V 8 X τ 79 [(7, .int (nI i)), (6, .int (orW p nI i)), (5, .int was), (4, .int (nI w)), (0, rf V 0), (1, .int f), (2, .int b), (3, .int q)] [.int (nI i)]
      have hN9 := hN.1 c76
      refine WS.bipush (v := 16) hx dX11_fits_79 (by decide) ?_
      refine WS.goto (tgt := 86) hx dX11_fits_81 (by decide) ?_
      refine WS.icmp_ge (tgt := 128) hx dX11_fits_86 (by decide) (fun c86 => ?_) (fun c86 => ?_)
      · skip
        show WS layM V 8 X τ 128 [(7, .int (nI i)), (6, .int (orW p nI i)), (5, .int was), (4, .int (nI w)), (0, rf V 0), (1, .int f), (2, .int b), (3, .int q)] []
        refine WS.aload_n hx dX11_fits_128 rfl 4 rfl ?_
        refine WS.getR hx okX11 lf11_9 rfl rfl dX11_fits_129 ?_
        refine WS.iload hx dX11_fits_132 3 rfl ?_
        refine WS.iload hx dX11_fits_134 2 rfl ?_
        refine WS.iast hx rfl (vp_in_nI (by omega) (by decide)) dX11_fits_136 ?_
        refine WS.iload hx dX11_fits_137 1 rfl ?_
        exact WS.iret hx he dX11_fits_139 ⟨_, rfl, by (try simp only [nn_nI (show w < 2 ^ 31 by omega), nI_clamp (show w < 2 ^ 31 by omega)]); rw [show i = N by (try simp only [l_int, tL_0, tL_1, tL_2, tL_4, tL_5, tL_6, tL_7, tL_9, tL_10, tL_12, tL_15, tL_30, tL_40, tL_60, tL_99, tL_255, tL_1023, tL_m1, lc_lt, lc_gt, lc_ge, lc_le, lc_eq, l6_le, l6_lt, l6_eq, tI_m133, tI_m226, i_le, i_lt, i_eq, tI_m2, tI_m1, tI_0, tI_1, tI_10, tI_16] at c76); (try simp only [l_int, tL_0, tL_1, tL_2, tL_4, tL_5, tL_6, tL_7, tL_9, tL_10, tL_12, tL_15, tL_30, tL_40, tL_60, tL_99, tL_255, tL_1023, tL_m1, lc_lt, lc_gt, lc_ge, lc_le, lc_eq, l6_le, l6_lt, l6_eq, tI_m133, tI_m226, i_le, i_lt, i_eq, tI_m2, tI_m1, tI_0, tI_1, tI_10, tI_16] at c86); (try simp only [l_int, tL_0, tL_1, tL_2, tL_4, tL_5, tL_6, tL_7, tL_9, tL_10, tL_12, tL_15, tL_30, tL_40, tL_60, tL_99, tL_255, tL_1023, tL_m1, lc_lt, lc_gt, lc_ge, lc_le, lc_eq, l6_le, l6_lt, l6_eq, tI_m133, tI_m226, i_le, i_lt, i_eq, tI_m2, tI_m1, tI_0, tI_1, tI_10, tI_16]); omega]; exact hP _ hE⟩
      · skip
        show WS layM V 8 X τ 89 [(7, .int (nI i)), (6, .int (orW p nI i)), (5, .int was), (4, .int (nI w)), (0, rf V 0), (1, .int f), (2, .int b), (3, .int q)] []
        have hi9 : i < N := by (try simp only [l_int, tL_0, tL_1, tL_2, tL_4, tL_5, tL_6, tL_7, tL_9, tL_10, tL_12, tL_15, tL_30, tL_40, tL_60, tL_99, tL_255, tL_1023, tL_m1, lc_lt, lc_gt, lc_ge, lc_le, lc_eq, l6_le, l6_lt, l6_eq, tI_m133, tI_m226, i_le, i_lt, i_eq, tI_m2, tI_m1, tI_0, tI_1, tI_10, tI_16] at c76); (try simp only [l_int, tL_0, tL_1, tL_2, tL_4, tL_5, tL_6, tL_7, tL_9, tL_10, tL_12, tL_15, tL_30, tL_40, tL_60, tL_99, tL_255, tL_1023, tL_m1, lc_lt, lc_gt, lc_ge, lc_le, lc_eq, l6_le, l6_lt, l6_eq, tI_m133, tI_m226, i_le, i_lt, i_eq, tI_m2, tI_m1, tI_0, tI_1, tI_10, tI_16] at c86); (try simp only [l_int, tL_0, tL_1, tL_2, tL_4, tL_5, tL_6, tL_7, tL_9, tL_10, tL_12, tL_15, tL_30, tL_40, tL_60, tL_99, tL_255, tL_1023, tL_m1, lc_lt, lc_gt, lc_ge, lc_le, lc_eq, l6_le, l6_lt, l6_eq, tI_m133, tI_m226, i_le, i_lt, i_eq, tI_m2, tI_m1, tI_0, tI_1, tI_10, tI_16]); omega
        refine WS.aload_n hx dX11_fits_89 rfl 4 rfl ?_
        refine WS.getR hx okX11 lf11_9 rfl rfl dX11_fits_90 ?_
        refine WS.iload hx dX11_fits_93 3 rfl ?_
        refine WS.iload hx dX11_fits_95 0 rfl ?_
        refine WS.iast hx rfl (vp_in_nI (by omega) (by decide)) dX11_fits_97 ?_
        refine WS.sg (fun υ eυ => ?_)
        have eu : υ = stI τ 1 w (nI i) := by rw [eυ]; simp only [nn_nI (show w < 2 ^ 31 by omega), nI_clamp (show w < 2 ^ 31 by omega)]
        refine WS.iload hx dX11_fits_98 1 rfl ?_
        refine WS.aload_n hx dX11_fits_100 rfl 4 rfl ?_
        refine WS.iload_n hx dX11_fits_101 rfl 5 rfl ?_
        refine WS.as rfl rfl (congrArg (fun z => Value.int z :: _) (show f = nI s9 from hf)) ?_
        skip
        refine WS.iload_n hx dX11_fits_102 rfl 6 rfl ?_
        refine WS.as rfl rfl (congrArg (fun z => Value.int z :: _) (show b = nI k from hbk)) ?_
        skip
        refine WS.callVi (st := [.int (orW p nI i)]) [.int (nI s9), .int (nI k)] hx (c_X11_firstFalse V d υ (κf i) n (by rw [eu]; exact hK i hi9 τ (hM.me hE)) cs T lw (by rw [eu]; exact ML.s1 (hL.me hE)) k hk s9 hs9 z (by rw [eu]; exact (congrFun (hE.1 24 (nmsc (by decide))) s9).trans hz) hz2 bk (fun j hj => by rw [eu, show (stI τ 1 w (nI i)).2.1 = (stI τ 1 w was).2.1 from rfl, hE.2.2]; exact hb j hj)) okX11_firstFalse lm11_290 rfl rfl rfl rfl (Nat.le_of_ble_eq_true rfl) dX11_fits_103 (fun v4 σ5 h6 => ?_)
        obtain ⟨hv103, me103⟩ := h6
        show WS layM V 8 X σ5 106 [(7, .int (nI i)), (6, .int (orW p nI i)), (5, .int was), (4, .int (nI w)), (0, rf V 0), (1, .int f), (2, .int b), (3, .int q)] [.int v4, .int (orW p nI i)]
        refine WS.bipush (v := (-2)) hx dX11_fits_106 (by decide) ?_
        refine WS.icmp_ne (tgt := 118) hx dX11_fits_108 (by decide) (fun c108 => ?_) (fun c108 => ?_)
        · skip
          show WS layM V 8 X σ5 118 [(7, .int (nI i)), (6, .int (orW p nI i)), (5, .int was), (4, .int (nI w)), (0, rf V 0), (1, .int f), (2, .int b), (3, .int q)] [.int (orW p nI i)]
          refine WS.iconst (v := 0) hx dX11_fits_118 (by decide) ?_
          refine WS.ior hx dX11_fits_119 ?_
          refine WS.as rfl rfl (congrArg (fun z => Value.int z :: _) (show (orW p nI i) ||| 0 = orW p nI (i + 1) from by
    have hp9 := hp i (by (try simp only [l_int, tL_0, tL_1, tL_2, tL_4, tL_5, tL_6, tL_7, tL_9, tL_10, tL_12, tL_15, tL_30, tL_40, tL_60, tL_99, tL_255, tL_1023, tL_m1, lc_lt, lc_gt, lc_ge, lc_le, lc_eq, l6_le, l6_lt, l6_eq, tI_m133, tI_m226, i_le, i_lt, i_eq, tI_m2, tI_m1, tI_0, tI_1, tI_10, tI_16] at c76); (try simp only [l_int, tL_0, tL_1, tL_2, tL_4, tL_5, tL_6, tL_7, tL_9, tL_10, tL_12, tL_15, tL_30, tL_40, tL_60, tL_99, tL_255, tL_1023, tL_m1, lc_lt, lc_gt, lc_ge, lc_le, lc_eq, l6_le, l6_lt, l6_eq, tI_m133, tI_m226, i_le, i_lt, i_eq, tI_m2, tI_m1, tI_0, tI_1, tI_10, tI_16] at c86); (try simp only [l_int, tL_0, tL_1, tL_2, tL_4, tL_5, tL_6, tL_7, tL_9, tL_10, tL_12, tL_15, tL_30, tL_40, tL_60, tL_99, tL_255, tL_1023, tL_m1, lc_lt, lc_gt, lc_ge, lc_le, lc_eq, l6_le, l6_lt, l6_eq, tI_m133, tI_m226, i_le, i_lt, i_eq, tI_m2, tI_m1, tI_0, tI_1, tI_10, tI_16] at c108); (try simp only [l_int, tL_0, tL_1, tL_2, tL_4, tL_5, tL_6, tL_7, tL_9, tL_10, tL_12, tL_15, tL_30, tL_40, tL_60, tL_99, tL_255, tL_1023, tL_m1, lc_lt, lc_gt, lc_ge, lc_le, lc_eq, l6_le, l6_lt, l6_eq, tI_m133, tI_m226, i_le, i_lt, i_eq, tI_m2, tI_m1, tI_0, tI_1, tI_10, tI_16]); omega)
    rw [hv103] at hp9
    show _ = (if p i = true then orW p nI i ||| ((1 : Int32) <<< (nI i &&& 31)) else orW p nI i)
    rw [hp9]
    first | rw [if_pos (decide_eq_true (by first | exact c108 | exact k108))] | (rw [if_neg (fun h => c108 (of_decide_eq_true h))]; exact Int32.or_zero))) ?_
          skip
          refine WS.istore (lo' := [(6, .int (orW p nI (i + 1))), (7, .int (nI i)), (5, .int was), (4, .int (nI w)), (0, rf V 0), (1, .int f), (2, .int b), (3, .int q)]) hx dX11_fits_120 (by decide) rfl ?_
          refine WS.iinc (v := nI (i + 1)) (lo' := [(7, .int (nI (i + 1))), (6, .int (orW p nI (i + 1))), (5, .int was), (4, .int (nI w)), (0, rf V 0), (1, .int f), (2, .int b), (3, .int q)]) hx dX11_fits_122 1 rfl (nI_1 i) (by decide) rfl ?_
          refine WS.goto (tgt := 73) hx dX11_fits_125 (by decide) ?_
          exact WS.los [0, 1, 2, 3, 4, 5, 6, 7] rfl (ih _ (by (try simp only [l_int, tL_0, tL_1, tL_2, tL_4, tL_5, tL_6, tL_7, tL_9, tL_10, tL_12, tL_15, tL_30, tL_40, tL_60, tL_99, tL_255, tL_1023, tL_m1, lc_lt, lc_gt, lc_ge, lc_le, lc_eq, l6_le, l6_lt, l6_eq, tI_m133, tI_m226, i_le, i_lt, i_eq, tI_m2, tI_m1, tI_0, tI_1, tI_10, tI_16] at c76); (try simp only [l_int, tL_0, tL_1, tL_2, tL_4, tL_5, tL_6, tL_7, tL_9, tL_10, tL_12, tL_15, tL_30, tL_40, tL_60, tL_99, tL_255, tL_1023, tL_m1, lc_lt, lc_gt, lc_ge, lc_le, lc_eq, l6_le, l6_lt, l6_eq, tI_m133, tI_m226, i_le, i_lt, i_eq, tI_m2, tI_m1, tI_0, tI_1, tI_10, tI_16] at c86); (try simp only [l_int, tL_0, tL_1, tL_2, tL_4, tL_5, tL_6, tL_7, tL_9, tL_10, tL_12, tL_15, tL_30, tL_40, tL_60, tL_99, tL_255, tL_1023, tL_m1, lc_lt, lc_gt, lc_ge, lc_le, lc_eq, l6_le, l6_lt, l6_eq, tI_m133, tI_m226, i_le, i_lt, i_eq, tI_m2, tI_m1, tI_0, tI_1, tI_10, tI_16] at c108); (try simp only [l_int, tL_0, tL_1, tL_2, tL_4, tL_5, tL_6, tL_7, tL_9, tL_10, tL_12, tL_15, tL_30, tL_40, tL_60, tL_99, tL_255, tL_1023, tL_m1, lc_lt, lc_gt, lc_ge, lc_le, lc_eq, l6_le, l6_lt, l6_eq, tI_m133, tI_m226, i_le, i_lt, i_eq, tI_m2, tI_m1, tI_0, tI_1, tI_10, tI_16]); omega) (i + 1) rfl _ (by (try simp only [l_int, tL_0, tL_1, tL_2, tL_4, tL_5, tL_6, tL_7, tL_9, tL_10, tL_12, tL_15, tL_30, tL_40, tL_60, tL_99, tL_255, tL_1023, tL_m1, lc_lt, lc_gt, lc_ge, lc_le, lc_eq, l6_le, l6_lt, l6_eq, tI_m133, tI_m226, i_le, i_lt, i_eq, tI_m2, tI_m1, tI_0, tI_1, tI_10, tI_16] at c76); (try simp only [l_int, tL_0, tL_1, tL_2, tL_4, tL_5, tL_6, tL_7, tL_9, tL_10, tL_12, tL_15, tL_30, tL_40, tL_60, tL_99, tL_255, tL_1023, tL_m1, lc_lt, lc_gt, lc_ge, lc_le, lc_eq, l6_le, l6_lt, l6_eq, tI_m133, tI_m226, i_le, i_lt, i_eq, tI_m2, tI_m1, tI_0, tI_1, tI_10, tI_16] at c86); (try simp only [l_int, tL_0, tL_1, tL_2, tL_4, tL_5, tL_6, tL_7, tL_9, tL_10, tL_12, tL_15, tL_30, tL_40, tL_60, tL_99, tL_255, tL_1023, tL_m1, lc_lt, lc_gt, lc_ge, lc_le, lc_eq, l6_le, l6_lt, l6_eq, tI_m133, tI_m226, i_le, i_lt, i_eq, tI_m2, tI_m1, tI_0, tI_1, tI_10, tI_16] at c108); (try simp only [l_int, tL_0, tL_1, tL_2, tL_4, tL_5, tL_6, tL_7, tL_9, tL_10, tL_12, tL_15, tL_30, tL_40, tL_60, tL_99, tL_255, tL_1023, tL_m1, lc_lt, lc_gt, lc_ge, lc_le, lc_eq, l6_le, l6_lt, l6_eq, tI_m133, tI_m226, i_le, i_lt, i_eq, tI_m2, tI_m1, tI_0, tI_1, tI_10, tI_16]); omega) (by
              have h9 := me103.s1 (k := w) (v := was)
              rw [eu, stI_2x] at h9
              exact hE.tr h9))
        · skip
          show WS layM V 8 X σ5 111 [(7, .int (nI i)), (6, .int (orW p nI i)), (5, .int was), (4, .int (nI w)), (0, rf V 0), (1, .int f), (2, .int b), (3, .int q)] [.int (orW p nI i)]
          refine WS.iconst (v := 1) hx dX11_fits_111 (by decide) ?_
          refine WS.iload hx dX11_fits_112 0 rfl ?_
          refine WS.ishl hx dX11_fits_114 ?_
          refine WS.goto (tgt := 119) hx dX11_fits_115 (by decide) ?_
          refine WS.ior hx dX11_fits_119 ?_
          refine WS.as rfl rfl (congrArg (fun z => Value.int z :: _) (show (orW p nI i) ||| (1 <<< ((nI i) &&& 31)) = orW p nI (i + 1) from by
    have hp9 := hp i (by (try simp only [l_int, tL_0, tL_1, tL_2, tL_4, tL_5, tL_6, tL_7, tL_9, tL_10, tL_12, tL_15, tL_30, tL_40, tL_60, tL_99, tL_255, tL_1023, tL_m1, lc_lt, lc_gt, lc_ge, lc_le, lc_eq, l6_le, l6_lt, l6_eq, tI_m133, tI_m226, i_le, i_lt, i_eq, tI_m2, tI_m1, tI_0, tI_1, tI_10, tI_16] at c76); (try simp only [l_int, tL_0, tL_1, tL_2, tL_4, tL_5, tL_6, tL_7, tL_9, tL_10, tL_12, tL_15, tL_30, tL_40, tL_60, tL_99, tL_255, tL_1023, tL_m1, lc_lt, lc_gt, lc_ge, lc_le, lc_eq, l6_le, l6_lt, l6_eq, tI_m133, tI_m226, i_le, i_lt, i_eq, tI_m2, tI_m1, tI_0, tI_1, tI_10, tI_16] at c86); (try simp only [l_int, tL_0, tL_1, tL_2, tL_4, tL_5, tL_6, tL_7, tL_9, tL_10, tL_12, tL_15, tL_30, tL_40, tL_60, tL_99, tL_255, tL_1023, tL_m1, lc_lt, lc_gt, lc_ge, lc_le, lc_eq, l6_le, l6_lt, l6_eq, tI_m133, tI_m226, i_le, i_lt, i_eq, tI_m2, tI_m1, tI_0, tI_1, tI_10, tI_16] at c108); (try simp only [l_int, tL_0, tL_1, tL_2, tL_4, tL_5, tL_6, tL_7, tL_9, tL_10, tL_12, tL_15, tL_30, tL_40, tL_60, tL_99, tL_255, tL_1023, tL_m1, lc_lt, lc_gt, lc_ge, lc_le, lc_eq, l6_le, l6_lt, l6_eq, tI_m133, tI_m226, i_le, i_lt, i_eq, tI_m2, tI_m1, tI_0, tI_1, tI_10, tI_16]); omega)
    rw [hv103] at hp9
    show _ = (if p i = true then orW p nI i ||| ((1 : Int32) <<< (nI i &&& 31)) else orW p nI i)
    rw [hp9]
    first | rw [if_pos (decide_eq_true (by first | exact c108 | exact k108))] | (rw [if_neg (fun h => c108 (of_decide_eq_true h))]; exact Int32.or_zero))) ?_
          skip
          refine WS.istore (lo' := [(6, .int (orW p nI (i + 1))), (7, .int (nI i)), (5, .int was), (4, .int (nI w)), (0, rf V 0), (1, .int f), (2, .int b), (3, .int q)]) hx dX11_fits_120 (by decide) rfl ?_
          refine WS.iinc (v := nI (i + 1)) (lo' := [(7, .int (nI (i + 1))), (6, .int (orW p nI (i + 1))), (5, .int was), (4, .int (nI w)), (0, rf V 0), (1, .int f), (2, .int b), (3, .int q)]) hx dX11_fits_122 1 rfl (nI_1 i) (by decide) rfl ?_
          refine WS.goto (tgt := 73) hx dX11_fits_125 (by decide) ?_
          exact WS.los [0, 1, 2, 3, 4, 5, 6, 7] rfl (ih _ (by (try simp only [l_int, tL_0, tL_1, tL_2, tL_4, tL_5, tL_6, tL_7, tL_9, tL_10, tL_12, tL_15, tL_30, tL_40, tL_60, tL_99, tL_255, tL_1023, tL_m1, lc_lt, lc_gt, lc_ge, lc_le, lc_eq, l6_le, l6_lt, l6_eq, tI_m133, tI_m226, i_le, i_lt, i_eq, tI_m2, tI_m1, tI_0, tI_1, tI_10, tI_16] at c76); (try simp only [l_int, tL_0, tL_1, tL_2, tL_4, tL_5, tL_6, tL_7, tL_9, tL_10, tL_12, tL_15, tL_30, tL_40, tL_60, tL_99, tL_255, tL_1023, tL_m1, lc_lt, lc_gt, lc_ge, lc_le, lc_eq, l6_le, l6_lt, l6_eq, tI_m133, tI_m226, i_le, i_lt, i_eq, tI_m2, tI_m1, tI_0, tI_1, tI_10, tI_16] at c86); (try simp only [l_int, tL_0, tL_1, tL_2, tL_4, tL_5, tL_6, tL_7, tL_9, tL_10, tL_12, tL_15, tL_30, tL_40, tL_60, tL_99, tL_255, tL_1023, tL_m1, lc_lt, lc_gt, lc_ge, lc_le, lc_eq, l6_le, l6_lt, l6_eq, tI_m133, tI_m226, i_le, i_lt, i_eq, tI_m2, tI_m1, tI_0, tI_1, tI_10, tI_16] at c108); (try simp only [l_int, tL_0, tL_1, tL_2, tL_4, tL_5, tL_6, tL_7, tL_9, tL_10, tL_12, tL_15, tL_30, tL_40, tL_60, tL_99, tL_255, tL_1023, tL_m1, lc_lt, lc_gt, lc_ge, lc_le, lc_eq, l6_le, l6_lt, l6_eq, tI_m133, tI_m226, i_le, i_lt, i_eq, tI_m2, tI_m1, tI_0, tI_1, tI_10, tI_16]); omega) (i + 1) rfl _ (by (try simp only [l_int, tL_0, tL_1, tL_2, tL_4, tL_5, tL_6, tL_7, tL_9, tL_10, tL_12, tL_15, tL_30, tL_40, tL_60, tL_99, tL_255, tL_1023, tL_m1, lc_lt, lc_gt, lc_ge, lc_le, lc_eq, l6_le, l6_lt, l6_eq, tI_m133, tI_m226, i_le, i_lt, i_eq, tI_m2, tI_m1, tI_0, tI_1, tI_10, tI_16] at c76); (try simp only [l_int, tL_0, tL_1, tL_2, tL_4, tL_5, tL_6, tL_7, tL_9, tL_10, tL_12, tL_15, tL_30, tL_40, tL_60, tL_99, tL_255, tL_1023, tL_m1, lc_lt, lc_gt, lc_ge, lc_le, lc_eq, l6_le, l6_lt, l6_eq, tI_m133, tI_m226, i_le, i_lt, i_eq, tI_m2, tI_m1, tI_0, tI_1, tI_10, tI_16] at c86); (try simp only [l_int, tL_0, tL_1, tL_2, tL_4, tL_5, tL_6, tL_7, tL_9, tL_10, tL_12, tL_15, tL_30, tL_40, tL_60, tL_99, tL_255, tL_1023, tL_m1, lc_lt, lc_gt, lc_ge, lc_le, lc_eq, l6_le, l6_lt, l6_eq, tI_m133, tI_m226, i_le, i_lt, i_eq, tI_m2, tI_m1, tI_0, tI_1, tI_10, tI_16] at c108); (try simp only [l_int, tL_0, tL_1, tL_2, tL_4, tL_5, tL_6, tL_7, tL_9, tL_10, tL_12, tL_15, tL_30, tL_40, tL_60, tL_99, tL_255, tL_1023, tL_m1, lc_lt, lc_gt, lc_ge, lc_le, lc_eq, l6_le, l6_lt, l6_eq, tI_m133, tI_m226, i_le, i_lt, i_eq, tI_m2, tI_m1, tI_0, tI_1, tI_10, tI_16]); omega) (by
              have h9 := me103.s1 (k := w) (v := was)
              rw [eu, stI_2x] at h9
              exact hE.tr h9))
set_option maxHeartbeats 1000000 in
theorem c_X11_fits (V : Vt) (d : Nat) (σ : Sg) (κ : Sg) (n : Nat) (hM : MR κ σ n) (cs : Nat → Int32) (T : Nat) (lw : Lw) (hL : ML σ cs T lw) (z9 : Nat) (hz9 : z9 ≤ 50) (hS : SR κ σ z9) (f b q : Int32) : CT layM V mX11_fits (d + 7) [rf V 0, .int f, .int b, .int q] σ (Ri fun v σ' => (if ¬ (0 ≤ q.toInt ∧ q.toInt ≤ 1) then v = -1 ∧ ME σ σ' else (if ¬ ((0 ≤ f.toInt ∧ f.toInt ≤ 5) ∧ (0 ≤ b.toInt ∧ b.toInt < n)) then v = -1 ∧ ME σ σ' else (if κ.1 (52 + nn f) 1 = 0 then v = -11 ∧ ME σ σ' else (if ¬ (κ.1 (52 + nn f) 1 = 2 ∧ κ.1 (52 + nn f) 3 = 0) then v = -12 ∧ ME σ σ' else (if q.toInt = 0 then v = orW (fun j => decide (oN (fsB ((wdM κ n lw).cn (nn b) ((wdM κ n lw).bd (nn b))) (κ.1 17) (κ.2.1 (58 + nn f)) (min (nn (κ.1 (52 + nn f) 4)) 41) 0 (j, ((wdM κ n lw).s0 (nn b)).2)) = -2)) nI 16 ∧ ME σ σ' else (v = orW (fun j => decide (oN (fsB ((wdM κ n lw).cn (nn b) j) (κ.1 17) (κ.2.1 (58 + nn f)) (min (nn (κ.1 (52 + nn f) 4)) 41) 0 ((wdM κ n lw).s0 (nn b))) = -2)) nI 10 ∧ ME σ σ'))))))) := by
  refine CT.of (own := RX11) rfl (by decide) (Nat.le_of_ble_eq_true rfl) (fun X (hx : Ok V RX11 cX11_fits 8 (d + 7) X) (he : En layM V (some .int) (Ri fun v σ' => (if ¬ (0 ≤ q.toInt ∧ q.toInt ≤ 1) then v = -1 ∧ ME σ σ' else (if ¬ ((0 ≤ f.toInt ∧ f.toInt ≤ 5) ∧ (0 ≤ b.toInt ∧ b.toInt < n)) then v = -1 ∧ ME σ σ' else (if κ.1 (52 + nn f) 1 = 0 then v = -11 ∧ ME σ σ' else (if ¬ (κ.1 (52 + nn f) 1 = 2 ∧ κ.1 (52 + nn f) 3 = 0) then v = -12 ∧ ME σ σ' else (if q.toInt = 0 then v = orW (fun j => decide (oN (fsB ((wdM κ n lw).cn (nn b) ((wdM κ n lw).bd (nn b))) (κ.1 17) (κ.2.1 (58 + nn f)) (min (nn (κ.1 (52 + nn f) 4)) 41) 0 (j, ((wdM κ n lw).s0 (nn b)).2)) = -2)) nI 16 ∧ ME σ σ' else (v = orW (fun j => decide (oN (fsB ((wdM κ n lw).cn (nn b) j) (κ.1 17) (κ.2.1 (58 + nn f)) (min (nn (κ.1 (52 + nn f) 4)) 41) 0 ((wdM κ n lw).s0 (nn b))) = -2)) nI 10 ∧ ME σ σ'))))))) X) => ?_)
  change WS layM V 8 X σ 0 [(0, rf V 0), (1, .int f), (2, .int b), (3, .int q)] []
  have hn := hM.n
  have hs := hM.s
  refine WS.aload_n hx dX11_fits_0 rfl 0 rfl ?_
  refine WS.iload_n hx dX11_fits_1 rfl 1 rfl ?_
  refine WS.callVi (st := []) [.int f] hx (c_X11_bytesIs V (d + 4) σ κ z9 hz9 hS f) okX11_bytesIs lm11_287 rfl rfl rfl rfl (Nat.le_of_ble_eq_true rfl) dX11_fits_2 (fun v1 σ2 h3 => ?_)
  rcases h3 with ⟨hr2, rfl, rfl⟩ | ⟨hr2, ha2, rfl, rfl⟩ | ⟨hr2, ha2, hc2, rfl, rfl⟩ | ⟨hr2, ha2, hc2, rfl, rfl⟩
  · show WS layM V 8 X σ 5 [(0, rf V 0), (1, .int f), (2, .int b), (3, .int q)] [.int (-1)]
    refine WS.iconst (v := (-1)) hx dX11_fits_5 (by decide) ?_
    refine WS.icmp_eq (tgt := 28) hx dX11_fits_6 (by decide) (fun _ => ?_) (fun h => absurd (by decide) h)
    refine WS.iconst (v := (-1)) hx dX11_fits_28 (by decide) ?_
    exact WS.iret hx he dX11_fits_29 ⟨_, rfl, by (try dsimp only); first | (rw [if_pos hq9]; exact ⟨rfl, ME.rf⟩) | (by_cases hqq : (0 ≤ q.toInt ∧ q.toInt ≤ 1) <;> first | (rw [if_pos hqq]; exact ⟨rfl, ME.rf⟩) | (rw [if_neg (fun h => h hqq), if_pos (fun h => by first | exact absurd h.1 hr2 | exact absurd h.2 hb9)]; exact ⟨rfl, ME.rf⟩))⟩
  · show WS layM V 8 X σ 5 [(0, rf V 0), (1, .int f), (2, .int b), (3, .int q)] [.int (-11)]
    refine WS.iconst (v := (-1)) hx dX11_fits_5 (by decide) ?_
    refine WS.icmp_eq (tgt := 28) hx dX11_fits_6 (by decide) (fun h => absurd h (by decide)) (fun _ => ?_)
    refine WS.aload_n hx dX11_fits_9 rfl 0 rfl ?_
    refine WS.iload_n hx dX11_fits_10 rfl 2 rfl ?_
    refine WS.i2l hx dX11_fits_11 ?_
    refine WS.callVi (st := []) [.long (Int32.toInt64 b)] hx (c_X11_isBlock V (d + 5) σ n hs hn (Int32.toInt64 b)) okX11_isBlock lm11_127 rfl rfl rfl rfl (Nat.le_of_ble_eq_true rfl) dX11_fits_12 (fun v1 σ2 h3 => ?_)
    rcases h3 with ⟨rfl, rfl, hb12⟩ | ⟨rfl, rfl, hb12⟩
    · skip
      show WS layM V 8 X σ 15 [(0, rf V 0), (1, .int f), (2, .int b), (3, .int q)] [.int 1]
      have hb9 : 0 ≤ b.toInt ∧ b.toInt < n := by have h9 := hb12; simp only [l_int] at h9; exact h9
      have hkn : nn b < n := by have := nn_int hb9.1; omega
      refine WS.if_eq (tgt := 28) hx dX11_fits_15 (by decide) (fun h => absurd h (by decide)) (fun _ => ?_)
      refine WS.iload_n hx dX11_fits_18 rfl 3 rfl ?_
      refine WS.i2l hx dX11_fits_19 ?_
      refine WS.lconst (v := 0) hx dX11_fits_20 rfl ?_
      refine WS.lconst (v := 1) hx dX11_fits_21 rfl ?_
      refine WS.callSi (st := []) [.long (Int32.toInt64 q), .long 0, .long 1] hx (c_X11_within V (d + 6) σ (Int32.toInt64 q) 0 1) okX11_within lm11_100 rfl rfl (Nat.le_of_ble_eq_true rfl) dX11_fits_22 (fun v4 σ5 h6 => ?_)
      rcases h6 with ⟨rfl, rfl, hb22⟩ | ⟨rfl, rfl, hb22⟩
      · skip
        show WS layM V 8 X σ 25 [(0, rf V 0), (1, .int f), (2, .int b), (3, .int q)] [.int 1]
        have hq9 : 0 ≤ q.toInt ∧ q.toInt ≤ 1 := by have h9 := hb22; simp only [l_int, tL_0, tL_1] at h9; exact h9
        refine WS.if_ne (tgt := 30) hx dX11_fits_25 (by decide) (fun _ => ?_) (fun h => absurd h (by decide))
        refine WS.aload_n hx dX11_fits_30 rfl 0 rfl ?_
        refine WS.iload_n hx dX11_fits_31 rfl 1 rfl ?_
        refine WS.callVi (st := []) [.int f] hx (c2_X11_bytesIs V (d + 4) σ κ z9 hz9 hS f (-11) (Or.inl ⟨rfl, hr2, ha2⟩)) okX11_bytesIs lm11_287 rfl rfl rfl rfl (Nat.le_of_ble_eq_true rfl) dX11_fits_32 (fun v7 σ8 h9 => ?_)
        obtain ⟨rfl, rfl⟩ := h9
        show WS layM V 8 X σ 35 [(0, rf V 0), (1, .int f), (2, .int b), (3, .int q)] [.int (-11)]
        refine WS.if_ge (tgt := 44) hx dX11_fits_35 (by decide) (fun h => absurd h (by decide)) (fun _ => ?_)
        refine WS.aload_n hx dX11_fits_38 rfl 0 rfl ?_
        refine WS.iload_n hx dX11_fits_39 rfl 1 rfl ?_
        refine WS.callVi (st := []) [.int f] hx (c2_X11_bytesIs V (d + 4) σ κ z9 hz9 hS f (-11) (Or.inl ⟨rfl, hr2, ha2⟩)) okX11_bytesIs lm11_287 rfl rfl rfl rfl (Nat.le_of_ble_eq_true rfl) dX11_fits_40 (fun v10 σ11 h12 => ?_)
        obtain ⟨rfl, rfl⟩ := h12
        show WS layM V 8 X σ 43 [(0, rf V 0), (1, .int f), (2, .int b), (3, .int q)] [.int (-11)]
        exact WS.iret hx he dX11_fits_43 ⟨_, rfl, by (try dsimp only); rw [if_neg (fun h => h hq9), if_neg (fun h => h ⟨hr2, hb9⟩), if_pos ha2]; exact ⟨rfl, ME.rf⟩⟩
      · skip
        show WS layM V 8 X σ 25 [(0, rf V 0), (1, .int f), (2, .int b), (3, .int q)] [.int 0]
        have hq9 : ¬ (0 ≤ q.toInt ∧ q.toInt ≤ 1) := by have h9 := hb22; simp only [l_int, tL_0, tL_1] at h9; exact h9
        refine WS.if_ne (tgt := 30) hx dX11_fits_25 (by decide) (fun h => absurd (by decide) h) (fun _ => ?_)
        refine WS.iconst (v := (-1)) hx dX11_fits_28 (by decide) ?_
        exact WS.iret hx he dX11_fits_29 ⟨_, rfl, by (try dsimp only); first | (rw [if_pos hq9]; exact ⟨rfl, ME.rf⟩) | (by_cases hqq : (0 ≤ q.toInt ∧ q.toInt ≤ 1) <;> first | (rw [if_pos hqq]; exact ⟨rfl, ME.rf⟩) | (rw [if_neg (fun h => h hqq), if_pos (fun h => by first | exact absurd h.1 hr2 | exact absurd h.2 hb9)]; exact ⟨rfl, ME.rf⟩))⟩
    · skip
      show WS layM V 8 X σ 15 [(0, rf V 0), (1, .int f), (2, .int b), (3, .int q)] [.int 0]
      have hb9 : ¬ (0 ≤ b.toInt ∧ b.toInt < n) := by have h9 := hb12; simp only [l_int] at h9; exact h9
      refine WS.if_eq (tgt := 28) hx dX11_fits_15 (by decide) (fun _ => ?_) (fun h => absurd (by decide) h)
      refine WS.iconst (v := (-1)) hx dX11_fits_28 (by decide) ?_
      exact WS.iret hx he dX11_fits_29 ⟨_, rfl, by (try dsimp only); first | (rw [if_pos hq9]; exact ⟨rfl, ME.rf⟩) | (by_cases hqq : (0 ≤ q.toInt ∧ q.toInt ≤ 1) <;> first | (rw [if_pos hqq]; exact ⟨rfl, ME.rf⟩) | (rw [if_neg (fun h => h hqq), if_pos (fun h => by first | exact absurd h.1 hr2 | exact absurd h.2 hb9)]; exact ⟨rfl, ME.rf⟩))⟩
  · show WS layM V 8 X σ 5 [(0, rf V 0), (1, .int f), (2, .int b), (3, .int q)] [.int (-12)]
    refine WS.iconst (v := (-1)) hx dX11_fits_5 (by decide) ?_
    refine WS.icmp_eq (tgt := 28) hx dX11_fits_6 (by decide) (fun h => absurd h (by decide)) (fun _ => ?_)
    refine WS.aload_n hx dX11_fits_9 rfl 0 rfl ?_
    refine WS.iload_n hx dX11_fits_10 rfl 2 rfl ?_
    refine WS.i2l hx dX11_fits_11 ?_
    refine WS.callVi (st := []) [.long (Int32.toInt64 b)] hx (c_X11_isBlock V (d + 5) σ n hs hn (Int32.toInt64 b)) okX11_isBlock lm11_127 rfl rfl rfl rfl (Nat.le_of_ble_eq_true rfl) dX11_fits_12 (fun v1 σ2 h3 => ?_)
    rcases h3 with ⟨rfl, rfl, hb12⟩ | ⟨rfl, rfl, hb12⟩
    · skip
      show WS layM V 8 X σ 15 [(0, rf V 0), (1, .int f), (2, .int b), (3, .int q)] [.int 1]
      have hb9 : 0 ≤ b.toInt ∧ b.toInt < n := by have h9 := hb12; simp only [l_int] at h9; exact h9
      have hkn : nn b < n := by have := nn_int hb9.1; omega
      refine WS.if_eq (tgt := 28) hx dX11_fits_15 (by decide) (fun h => absurd h (by decide)) (fun _ => ?_)
      refine WS.iload_n hx dX11_fits_18 rfl 3 rfl ?_
      refine WS.i2l hx dX11_fits_19 ?_
      refine WS.lconst (v := 0) hx dX11_fits_20 rfl ?_
      refine WS.lconst (v := 1) hx dX11_fits_21 rfl ?_
      refine WS.callSi (st := []) [.long (Int32.toInt64 q), .long 0, .long 1] hx (c_X11_within V (d + 6) σ (Int32.toInt64 q) 0 1) okX11_within lm11_100 rfl rfl (Nat.le_of_ble_eq_true rfl) dX11_fits_22 (fun v4 σ5 h6 => ?_)
      rcases h6 with ⟨rfl, rfl, hb22⟩ | ⟨rfl, rfl, hb22⟩
      · skip
        show WS layM V 8 X σ 25 [(0, rf V 0), (1, .int f), (2, .int b), (3, .int q)] [.int 1]
        have hq9 : 0 ≤ q.toInt ∧ q.toInt ≤ 1 := by have h9 := hb22; simp only [l_int, tL_0, tL_1] at h9; exact h9
        refine WS.if_ne (tgt := 30) hx dX11_fits_25 (by decide) (fun _ => ?_) (fun h => absurd h (by decide))
        refine WS.aload_n hx dX11_fits_30 rfl 0 rfl ?_
        refine WS.iload_n hx dX11_fits_31 rfl 1 rfl ?_
        refine WS.callVi (st := []) [.int f] hx (c2_X11_bytesIs V (d + 4) σ κ z9 hz9 hS f (-12) (Or.inr (Or.inl ⟨rfl, hr2, ha2, hc2⟩))) okX11_bytesIs lm11_287 rfl rfl rfl rfl (Nat.le_of_ble_eq_true rfl) dX11_fits_32 (fun v7 σ8 h9 => ?_)
        obtain ⟨rfl, rfl⟩ := h9
        show WS layM V 8 X σ 35 [(0, rf V 0), (1, .int f), (2, .int b), (3, .int q)] [.int (-12)]
        refine WS.if_ge (tgt := 44) hx dX11_fits_35 (by decide) (fun h => absurd h (by decide)) (fun _ => ?_)
        refine WS.aload_n hx dX11_fits_38 rfl 0 rfl ?_
        refine WS.iload_n hx dX11_fits_39 rfl 1 rfl ?_
        refine WS.callVi (st := []) [.int f] hx (c2_X11_bytesIs V (d + 4) σ κ z9 hz9 hS f (-12) (Or.inr (Or.inl ⟨rfl, hr2, ha2, hc2⟩))) okX11_bytesIs lm11_287 rfl rfl rfl rfl (Nat.le_of_ble_eq_true rfl) dX11_fits_40 (fun v10 σ11 h12 => ?_)
        obtain ⟨rfl, rfl⟩ := h12
        show WS layM V 8 X σ 43 [(0, rf V 0), (1, .int f), (2, .int b), (3, .int q)] [.int (-12)]
        exact WS.iret hx he dX11_fits_43 ⟨_, rfl, by (try dsimp only); rw [if_neg (fun h => h hq9), if_neg (fun h => h ⟨hr2, hb9⟩), if_neg ha2, if_pos hc2]; exact ⟨rfl, ME.rf⟩⟩
      · skip
        show WS layM V 8 X σ 25 [(0, rf V 0), (1, .int f), (2, .int b), (3, .int q)] [.int 0]
        have hq9 : ¬ (0 ≤ q.toInt ∧ q.toInt ≤ 1) := by have h9 := hb22; simp only [l_int, tL_0, tL_1] at h9; exact h9
        refine WS.if_ne (tgt := 30) hx dX11_fits_25 (by decide) (fun h => absurd (by decide) h) (fun _ => ?_)
        refine WS.iconst (v := (-1)) hx dX11_fits_28 (by decide) ?_
        exact WS.iret hx he dX11_fits_29 ⟨_, rfl, by (try dsimp only); first | (rw [if_pos hq9]; exact ⟨rfl, ME.rf⟩) | (by_cases hqq : (0 ≤ q.toInt ∧ q.toInt ≤ 1) <;> first | (rw [if_pos hqq]; exact ⟨rfl, ME.rf⟩) | (rw [if_neg (fun h => h hqq), if_pos (fun h => by first | exact absurd h.1 hr2 | exact absurd h.2 hb9)]; exact ⟨rfl, ME.rf⟩))⟩
    · skip
      show WS layM V 8 X σ 15 [(0, rf V 0), (1, .int f), (2, .int b), (3, .int q)] [.int 0]
      have hb9 : ¬ (0 ≤ b.toInt ∧ b.toInt < n) := by have h9 := hb12; simp only [l_int] at h9; exact h9
      refine WS.if_eq (tgt := 28) hx dX11_fits_15 (by decide) (fun _ => ?_) (fun h => absurd (by decide) h)
      refine WS.iconst (v := (-1)) hx dX11_fits_28 (by decide) ?_
      exact WS.iret hx he dX11_fits_29 ⟨_, rfl, by (try dsimp only); first | (rw [if_pos hq9]; exact ⟨rfl, ME.rf⟩) | (by_cases hqq : (0 ≤ q.toInt ∧ q.toInt ≤ 1) <;> first | (rw [if_pos hqq]; exact ⟨rfl, ME.rf⟩) | (rw [if_neg (fun h => h hqq), if_pos (fun h => by first | exact absurd h.1 hr2 | exact absurd h.2 hb9)]; exact ⟨rfl, ME.rf⟩))⟩
  · show WS layM V 8 X σ 5 [(0, rf V 0), (1, .int f), (2, .int b), (3, .int q)] [.int 1]
    have hsh := sh_nn hr2
    have hrow : rg (κ.1 (52 + nn f) 4) 60 ∧ σ.1 24 (nn f) = κ.1 (52 + nn f) 4 ∧ ∀ i, i < 60 → σ.2.1 25 (60 * nn f + i) = κ.2.1 (58 + nn f) i := by
      obtain ⟨g0, g | g | g⟩ := hS (nn f) hsh
      · exact absurd g.1 ha2
      · rw [g.1] at hc2; exact absurd hc2.1 (by decide)
      · exact ⟨g0, g.2.2.2.1, g.2.2.2.2.1⟩
    have hzz := (nI_nn hrow.1.1)
    have hz2 : nn (κ.1 (52 + nn f) 4) ≤ 60 := by have h9 := hrow.1; have := nn_int h9.1; unfold rg at h9; omega
    refine WS.iconst (v := (-1)) hx dX11_fits_5 (by decide) ?_
    refine WS.icmp_eq (tgt := 28) hx dX11_fits_6 (by decide) (fun h => absurd h (by decide)) (fun _ => ?_)
    refine WS.aload_n hx dX11_fits_9 rfl 0 rfl ?_
    refine WS.iload_n hx dX11_fits_10 rfl 2 rfl ?_
    refine WS.i2l hx dX11_fits_11 ?_
    refine WS.callVi (st := []) [.long (Int32.toInt64 b)] hx (c_X11_isBlock V (d + 5) σ n hs hn (Int32.toInt64 b)) okX11_isBlock lm11_127 rfl rfl rfl rfl (Nat.le_of_ble_eq_true rfl) dX11_fits_12 (fun v1 σ2 h3 => ?_)
    rcases h3 with ⟨rfl, rfl, hb12⟩ | ⟨rfl, rfl, hb12⟩
    · skip
      show WS layM V 8 X σ 15 [(0, rf V 0), (1, .int f), (2, .int b), (3, .int q)] [.int 1]
      have hb9 : 0 ≤ b.toInt ∧ b.toInt < n := by have h9 := hb12; simp only [l_int] at h9; exact h9
      have hkn : nn b < n := by have := nn_int hb9.1; omega
      refine WS.if_eq (tgt := 28) hx dX11_fits_15 (by decide) (fun h => absurd h (by decide)) (fun _ => ?_)
      refine WS.iload_n hx dX11_fits_18 rfl 3 rfl ?_
      refine WS.i2l hx dX11_fits_19 ?_
      refine WS.lconst (v := 0) hx dX11_fits_20 rfl ?_
      refine WS.lconst (v := 1) hx dX11_fits_21 rfl ?_
      refine WS.callSi (st := []) [.long (Int32.toInt64 q), .long 0, .long 1] hx (c_X11_within V (d + 6) σ (Int32.toInt64 q) 0 1) okX11_within lm11_100 rfl rfl (Nat.le_of_ble_eq_true rfl) dX11_fits_22 (fun v4 σ5 h6 => ?_)
      rcases h6 with ⟨rfl, rfl, hb22⟩ | ⟨rfl, rfl, hb22⟩
      · skip
        show WS layM V 8 X σ 25 [(0, rf V 0), (1, .int f), (2, .int b), (3, .int q)] [.int 1]
        have hq9 : 0 ≤ q.toInt ∧ q.toInt ≤ 1 := by have h9 := hb22; simp only [l_int, tL_0, tL_1] at h9; exact h9
        refine WS.if_ne (tgt := 30) hx dX11_fits_25 (by decide) (fun _ => ?_) (fun h => absurd h (by decide))
        refine WS.aload_n hx dX11_fits_30 rfl 0 rfl ?_
        refine WS.iload_n hx dX11_fits_31 rfl 1 rfl ?_
        refine WS.callVi (st := []) [.int f] hx (c2_X11_bytesIs V (d + 4) σ κ z9 hz9 hS f 1 (Or.inr (Or.inr ⟨rfl, hr2, ha2, hc2⟩))) okX11_bytesIs lm11_287 rfl rfl rfl rfl (Nat.le_of_ble_eq_true rfl) dX11_fits_32 (fun v7 σ8 h9 => ?_)
        obtain ⟨rfl, rfl⟩ := h9
        show WS layM V 8 X σ 35 [(0, rf V 0), (1, .int f), (2, .int b), (3, .int q)] [.int 1]
        refine WS.if_ge (tgt := 44) hx dX11_fits_35 (by decide) (fun _ => ?_) (fun h => absurd (by decide) h)
        refine WS.iload_n hx dX11_fits_44 rfl 3 rfl ?_
        refine WS.if_ne (tgt := 55) hx dX11_fits_45 (by decide) (fun c45 => ?_) (fun c45 => ?_)
        · skip
          show WS layM V 8 X σ 55 [(0, rf V 0), (1, .int f), (2, .int b), (3, .int q)] []
          refine WS.iload_n hx dX11_fits_55 rfl 2 rfl ?_
          refine WS.as rfl rfl (congrArg (fun z => Value.int z :: _) (show b = nI (nn b) from (nI_nn hb9.1).symm)) ?_
          skip
          refine WS.istore (lo' := [(4, .int (nI (nn b))), (0, rf V 0), (1, .int f), (2, .int b), (3, .int q)]) hx dX11_fits_56 (by decide) rfl ?_
          refine WS.aload_n hx dX11_fits_58 rfl 1 rfl ?_
          refine WS.getR hx okX11 lf11_9 rfl rfl dX11_fits_59 ?_
          refine WS.iload hx dX11_fits_62 0 rfl ?_
          refine WS.iald hx rfl (vp_in_nI (by omega) (by decide)) dX11_fits_64 ?_
          refine WS.topi (fun was ewas => ?_)
          refine WS.istore (lo' := [(5, .int was), (4, .int (nI (nn b))), (0, rf V 0), (1, .int f), (2, .int b), (3, .int q)]) hx dX11_fits_65 (by decide) rfl ?_
          refine WS.iconst (v := 0) hx dX11_fits_67 (by decide) ?_
          refine WS.istore (lo' := [(6, .int 0), (5, .int was), (4, .int (nI (nn b))), (0, rf V 0), (1, .int f), (2, .int b), (3, .int q)]) hx dX11_fits_68 (by decide) rfl ?_
          refine WS.iconst (v := 0) hx dX11_fits_70 (by decide) ?_
          refine WS.istore (lo' := [(7, .int 0), (6, .int 0), (5, .int was), (4, .int (nI (nn b))), (0, rf V 0), (1, .int f), (2, .int b), (3, .int q)]) hx dX11_fits_71 (by decide) rfl ?_
          have hhc : hasC n b 0 := ⟨by decide, by decide, hb9.1, fun _ => hb9.2, fun h => absurd h (by decide), fun h => absurd h (by decide)⟩
          have hpm : pm b 0 = (nn b) := by
            show pN (nn 0) (nn b) = nn b; rw [show nn 0 = 0 from by decide]; show 10 * 0 + nn b = nn b; omega
          refine WS.los [0, 1, 2, 3, 4, 5, 6, 7] rfl (lp_X11_fits V d σ κ n hM cs T lw hL (nn b) hkn (nn f) hsh (nn (κ.1 (52 + nn f) 4)) (by rw [hzz]; exact hrow.2.1) hz2 (κ.2.1 (58 + nn f)) (fun i hi => hrow.2.2 i (by omega)) (nn b) 10 (by omega) was (by rw [ewas]; (try simp only [nn_nI (show (nn b) < 2 ^ 31 by omega), nI_clamp (show (nn b) < 2 ^ 31 by omega)])) (fun v => stI κ 11 (nn b) (nI v)) (fun v hv τ h9 => ?_) (fun j => decide (oN (fsB ((wdM κ n lw).cn (nn b) j) (κ.1 17) (κ.2.1 (58 + nn f)) (min (nn (κ.1 (52 + nn f) 4)) 41) 0 ((wdM κ n lw).s0 (nn b))) = -2)) (fun v hv => ?_) f b q (nI_nn hr2.1).symm (nI_nn hb9.1).symm ⟨fun h => by first | rfl | exact absurd h c45, fun h => by first | rfl | exact absurd c45 h⟩ _ X hx he (fun τ h9 => ?_) 0 σ (Nat.zero_le _) ?_)
          · have h8 := MR_bec (b := b) (q := 0) (x := nI v) h9 hhc ((iso_k (m := 9) rfl (by decide) (by decide) (by decide)).mpr ⟨by rw [nI_c (by omega)]; omega, by rw [nI_c (by omega)]; omega⟩)
            rw [show numId 0 = 11 from by decide, hpm, stI_2x] at h8
            exact h8
          · (try dsimp only)
            rw [wd_cn (by decide), (wd_b (show v < 2 ^ 31 by omega)).1, (wd_b (show v < 2 ^ 31 by omega)).2, stI_o _ _ _ _ (show 17 ≠ 11 by decide)]
          · (try dsimp only)
            rw [if_neg (fun h => h hq9), if_neg (fun h => h ⟨hr2, hb9⟩), if_neg ha2, if_neg (fun h => h hc2)]
            rw [if_neg (show ¬ q.toInt = 0 from fun h => c45 (i_eq.mpr h))]
            exact ⟨rfl, h9⟩
          · rw [ewas]
            (try simp only [nn_nI (show (nn b) < 2 ^ 31 by omega), nI_clamp (show (nn b) < 2 ^ 31 by omega)])
            rw [stI_id]
            exact ME.rf
        · skip
          show WS layM V 8 X σ 48 [(0, rf V 0), (1, .int f), (2, .int b), (3, .int q)] []
          refine WS.bipush (v := 10) hx dX11_fits_48 (by decide) ?_
          refine WS.iload_n hx dX11_fits_50 rfl 2 rfl ?_
          refine WS.iadd hx dX11_fits_51 ?_
          refine WS.as rfl rfl (congrArg (fun z => Value.int z :: _) (show 10 + b = nI (10 + nn b) from by rw [← nI_add, nI_nn hb9.1]; rfl)) ?_
          skip
          refine WS.goto (tgt := 56) hx dX11_fits_52 (by decide) ?_
          refine WS.istore (lo' := [(4, .int (nI (10 + nn b))), (0, rf V 0), (1, .int f), (2, .int b), (3, .int q)]) hx dX11_fits_56 (by decide) rfl ?_
          refine WS.aload_n hx dX11_fits_58 rfl 1 rfl ?_
          refine WS.getR hx okX11 lf11_9 rfl rfl dX11_fits_59 ?_
          refine WS.iload hx dX11_fits_62 0 rfl ?_
          refine WS.iald hx rfl (vp_in_nI (by omega) (by decide)) dX11_fits_64 ?_
          refine WS.topi (fun was ewas => ?_)
          refine WS.istore (lo' := [(5, .int was), (4, .int (nI (10 + nn b))), (0, rf V 0), (1, .int f), (2, .int b), (3, .int q)]) hx dX11_fits_65 (by decide) rfl ?_
          refine WS.iconst (v := 0) hx dX11_fits_67 (by decide) ?_
          refine WS.istore (lo' := [(6, .int 0), (5, .int was), (4, .int (nI (10 + nn b))), (0, rf V 0), (1, .int f), (2, .int b), (3, .int q)]) hx dX11_fits_68 (by decide) rfl ?_
          refine WS.iconst (v := 0) hx dX11_fits_70 (by decide) ?_
          refine WS.istore (lo' := [(7, .int 0), (6, .int 0), (5, .int was), (4, .int (nI (10 + nn b))), (0, rf V 0), (1, .int f), (2, .int b), (3, .int q)]) hx dX11_fits_71 (by decide) rfl ?_
          have hhc : hasC n b 1 := ⟨by decide, by decide, hb9.1, fun _ => hb9.2, fun h => absurd h (by decide), fun h => absurd h (by decide)⟩
          have hpm : pm b 1 = (10 + nn b) := by
            show pN (nn 1) (nn b) = 10 + nn b; rw [show nn 1 = 1 from by decide]; rfl
          refine WS.los [0, 1, 2, 3, 4, 5, 6, 7] rfl (lp_X11_fits V d σ κ n hM cs T lw hL (nn b) hkn (nn f) hsh (nn (κ.1 (52 + nn f) 4)) (by rw [hzz]; exact hrow.2.1) hz2 (κ.2.1 (58 + nn f)) (fun i hi => hrow.2.2 i (by omega)) (10 + nn b) 16 (by omega) was (by rw [ewas]; (try simp only [nn_nI (show (10 + nn b) < 2 ^ 31 by omega), nI_clamp (show (10 + nn b) < 2 ^ 31 by omega)])) (fun v => stI κ 12 (nn b) (nI v)) (fun v hv τ h9 => ?_) (fun j => decide (oN (fsB ((wdM κ n lw).cn (nn b) ((wdM κ n lw).bd (nn b))) (κ.1 17) (κ.2.1 (58 + nn f)) (min (nn (κ.1 (52 + nn f) 4)) 41) 0 (j, ((wdM κ n lw).s0 (nn b)).2)) = -2)) (fun v hv => ?_) f b q (nI_nn hr2.1).symm (nI_nn hb9.1).symm ⟨fun h => by first | rfl | exact absurd h c45, fun h => by first | rfl | exact absurd c45 h⟩ _ X hx he (fun τ h9 => ?_) 0 σ (Nat.zero_le _) ?_)
          · have h8 := MR_bec (b := b) (q := 1) (x := nI v) h9 hhc ((iso_k (m := 15) rfl (by decide) (by decide) (by decide)).mpr ⟨by rw [nI_c (by omega)]; omega, by rw [nI_c (by omega)]; omega⟩)
            rw [show numId 1 = 12 from by decide, hpm, stI_2x] at h8
            exact h8
          · (try dsimp only)
            rw [wd_cn (by decide), (wd_a (show v < 2 ^ 31 by omega)).1, (wd_a (show v < 2 ^ 31 by omega)).2, stI_o _ _ _ _ (show 17 ≠ 12 by decide)]
          · (try dsimp only)
            rw [if_neg (fun h => h hq9), if_neg (fun h => h ⟨hr2, hb9⟩), if_neg ha2, if_neg (fun h => h hc2)]
            rw [if_pos (show q.toInt = 0 by rw [c45]; rfl)]
            exact ⟨rfl, h9⟩
          · rw [ewas]
            (try simp only [nn_nI (show (10 + nn b) < 2 ^ 31 by omega), nI_clamp (show (10 + nn b) < 2 ^ 31 by omega)])
            rw [stI_id]
            exact ME.rf
      · skip
        show WS layM V 8 X σ 25 [(0, rf V 0), (1, .int f), (2, .int b), (3, .int q)] [.int 0]
        have hq9 : ¬ (0 ≤ q.toInt ∧ q.toInt ≤ 1) := by have h9 := hb22; simp only [l_int, tL_0, tL_1] at h9; exact h9
        refine WS.if_ne (tgt := 30) hx dX11_fits_25 (by decide) (fun h => absurd (by decide) h) (fun _ => ?_)
        refine WS.iconst (v := (-1)) hx dX11_fits_28 (by decide) ?_
        exact WS.iret hx he dX11_fits_29 ⟨_, rfl, by (try dsimp only); first | (rw [if_pos hq9]; exact ⟨rfl, ME.rf⟩) | (by_cases hqq : (0 ≤ q.toInt ∧ q.toInt ≤ 1) <;> first | (rw [if_pos hqq]; exact ⟨rfl, ME.rf⟩) | (rw [if_neg (fun h => h hqq), if_pos (fun h => by first | exact absurd h.1 hr2 | exact absurd h.2 hb9)]; exact ⟨rfl, ME.rf⟩))⟩
    · skip
      show WS layM V 8 X σ 15 [(0, rf V 0), (1, .int f), (2, .int b), (3, .int q)] [.int 0]
      have hb9 : ¬ (0 ≤ b.toInt ∧ b.toInt < n) := by have h9 := hb12; simp only [l_int] at h9; exact h9
      refine WS.if_eq (tgt := 28) hx dX11_fits_15 (by decide) (fun _ => ?_) (fun h => absurd (by decide) h)
      refine WS.iconst (v := (-1)) hx dX11_fits_28 (by decide) ?_
      exact WS.iret hx he dX11_fits_29 ⟨_, rfl, by (try dsimp only); first | (rw [if_pos hq9]; exact ⟨rfl, ME.rf⟩) | (by_cases hqq : (0 ≤ q.toInt ∧ q.toInt ≤ 1) <;> first | (rw [if_pos hqq]; exact ⟨rfl, ME.rf⟩) | (rw [if_neg (fun h => h hqq), if_pos (fun h => by first | exact absurd h.1 hr2 | exact absurd h.2 hb9)]; exact ⟨rfl, ME.rf⟩))⟩

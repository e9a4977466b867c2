theorem MT.y {μ : Sg} {n y : Nat} {s : Ms} (h : MT μ n s) (hy : y ≤ 99) : MT (stI μ 0 25 (nI y)) n (s.1, s.2.1, y, s.2.2.2) := ⟨h.1, rfl, hy, h.2.2.2.1, h.2.2.2.2⟩
theorem y_min {y : Nat} (h : y ≤ 99) : ((nI y = 99) → (99 : Int32) = nI (min (y + 1) 99)) ∧ (¬ nI y = 99 → nI (y + 1) = nI (min (y + 1) 99)) := by
  refine ⟨fun h9 => ?_, fun h9 => ?_⟩
  · rw [i_eq, nI_c (by omega), show (99 : Int32).toInt = 99 from by decide] at h9
    rw [show min (y + 1) 99 = 99 by omega]; rfl
  · rw [i_eq, nI_c (by omega), show (99 : Int32).toInt = 99 from by decide] at h9
    rw [show min (y + 1) 99 = y + 1 by omega]
set_option maxHeartbeats 1000000 in
theorem lp_X11_comesTo (V : Vt) (d : Nat) (σ : Sg) (κ : Sg) (n : Nat) (hM : MR κ σ n) (cs : Nat → Int32) (T : Nat) (lw : Lw) (hL : ML σ cs T lw) (k : Nat) (hk : k < n) (N : Nat) (hN : N ≤ 100) (th : Nat) (hth : th < 16) (R : Nat × Nat) (P : Int32 → Sg → Prop) (X : Xt) (hx : Ok V RX11 cX11_comesTo 5 (d + 5) X) (he : En layM V (some .boolean) (Ri P) X) (hP : ∀ σ', ME σ σ' → P (if R.1 = th then 1 else 0) σ') : ∀ (u i : Nat) (s : Ms) (τ : Sg), i + u = N → ME σ τ → MT τ n s → s.2.1 = (wdM κ n lw).2.2.2.2.2.2.1 → s.2.2.2 = (wdM κ n lw).2.2.2.2.2.1 → rep ((wdM κ n lw).cn k ((wdM κ n lw).bd k)) u (s.1 k, s.2.2.1) = R → WS layM V 5 X τ 7 [(4, .int (nI i)), (0, rf V 0), (1, .int (nI k)), (2, .int (nI N)), (3, .int (nI th))] [] := by
  have hn := hM.n
  intro u
  induction u with
  | zero =>
    intro i s τ hiu hE hT ho1 ho2 hr
    have hiI : (nI i).toInt = (i : Int) := nI_c (by omega)
    have hNI : (nI N).toInt = (N : Int) := nI_c (by omega)
    have hm9 := hT.1 k hk
    have hr9 : R.1 = s.1 k := by rw [← hr]; rfl
    refine WS.iload hx dX11_comesTo_7 0 rfl ?_
    refine WS.iload_n hx dX11_comesTo_9 rfl 3 rfl ?_
    refine WS.icmp_ge (tgt := 48) hx dX11_comesTo_10 (by decide) (fun c10 => ?_) (fun c10 => by exfalso; (try simp only [l_int, tL_0, tL_1, tL_2, tL_4, tL_5, tL_6, tL_7, tL_9, tL_10, tL_12, tL_15, tL_30, tL_40, tL_60, tL_99, tL_255, tL_1023, tL_m1, lc_lt, lc_gt, lc_ge, lc_le, lc_eq, l6_le, l6_lt, l6_eq, tI_m133, tI_m226, i_le, i_lt, i_eq, tI_0, tI_1, tI_99] at c10); (try simp only [l_int, tL_0, tL_1, tL_2, tL_4, tL_5, tL_6, tL_7, tL_9, tL_10, tL_12, tL_15, tL_30, tL_40, tL_60, tL_99, tL_255, tL_1023, tL_m1, lc_lt, lc_gt, lc_ge, lc_le, lc_eq, l6_le, l6_lt, l6_eq, tI_m133, tI_m226, i_le, i_lt, i_eq, tI_0, tI_1, tI_99]); omega)
    refine WS.aload_n hx dX11_comesTo_48 rfl 1 rfl ?_
    refine WS.getR hx okX11 lf11_49 rfl rfl dX11_comesTo_49 ?_
    refine WS.iload_n hx dX11_comesTo_52 rfl 2 rfl ?_
    refine WS.iald hx rfl (vp_in_nI (by omega) (by decide)) dX11_comesTo_53 ?_
    refine WS.as rfl rfl (congrArg (fun z => Value.int z :: _) (show τ.1 14 (nn (nI k)) = nI (s.1 k) from by rw [nn_nI (by omega)]; exact hm9.1)) ?_
    skip
    refine WS.iload_n hx dX11_comesTo_54 rfl 4 rfl ?_
    refine WS.icmp_ne (tgt := 62) hx dX11_comesTo_55 (by decide) (fun c55 => ?_) (fun c55 => ?_)
    · skip
      show WS layM V 5 X τ 62 [(4, .int (nI i)), (0, rf V 0), (1, .int (nI k)), (2, .int (nI N)), (3, .int (nI th))] []
      have k55 : ¬ R.1 = th := fun h => c55 (by rw [← hr9, h])
      refine WS.iconst (v := 0) hx dX11_comesTo_62 (by decide) ?_
      exact WS.zret hx he dX11_comesTo_63 (Or.inl rfl) ⟨_, rfl, by have h9 := hP τ hE; rwa [if_neg k55] at h9⟩
    · skip
      show WS layM V 5 X τ 58 [(4, .int (nI i)), (0, rf V 0), (1, .int (nI k)), (2, .int (nI N)), (3, .int (nI th))] []
      have k55 : R.1 = th := by rw [hr9]; exact (nI_eq (by omega) (by omega)).mp c55
      refine WS.iconst (v := 1) hx dX11_comesTo_58 (by decide) ?_
      refine WS.goto (tgt := 63) hx dX11_comesTo_59 (by decide) ?_
      exact WS.zret hx he dX11_comesTo_63 (Or.inr rfl) ⟨_, rfl, by have h9 := hP τ hE; rwa [if_pos k55] at h9⟩
  | succ u ih =>
    intro i s τ hiu hE hT ho1 ho2 hr
    have hiI : (nI i).toInt = (i : Int) := nI_c (by omega)
    have hNI : (nI N).toInt = (N : Int) := nI_c (by omega)
    have hm9 := hT.1 k hk
    have hym := y_min hT.2.2.1
    unfold rep at hr
    rw [cn_ms _ s k (by rw [ho1]) ho2] at hr
    refine WS.iload hx dX11_comesTo_7 0 rfl ?_
    refine WS.iload_n hx dX11_comesTo_9 rfl 3 rfl ?_
    refine WS.icmp_ge (tgt := 48) hx dX11_comesTo_10 (by decide) (fun c10 => by exfalso; (try simp only [l_int, tL_0, tL_1, tL_2, tL_4, tL_5, tL_6, tL_7, tL_9, tL_10, tL_12, tL_15, tL_30, tL_40, tL_60, tL_99, tL_255, tL_1023, tL_m1, lc_lt, lc_gt, lc_ge, lc_le, lc_eq, l6_le, l6_lt, l6_eq, tI_m133, tI_m226, i_le, i_lt, i_eq, tI_0, tI_1, tI_99] at c10); (try simp only [l_int, tL_0, tL_1, tL_2, tL_4, tL_5, tL_6, tL_7, tL_9, tL_10, tL_12, tL_15, tL_30, tL_40, tL_60, tL_99, tL_255, tL_1023, tL_m1, lc_lt, lc_gt, lc_ge, lc_le, lc_eq, l6_le, l6_lt, l6_eq, tI_m133, tI_m226, i_le, i_lt, i_eq, tI_0, tI_1, tI_99]); omega) (fun c10 => ?_)
    refine WS.aload_n hx dX11_comesTo_13 rfl 1 rfl ?_
    refine WS.iload_n hx dX11_comesTo_14 rfl 2 rfl ?_
    refine WS.callVv (st := []) [.int (nI k)] hx (c_X11_thinks V d τ κ n (hM.me hE) s hT k hk cs T lw (hL.me hE)) okX11_thinks lm11_228 rfl rfl rfl rfl (Nat.le_of_ble_eq_true rfl) dX11_comesTo_15 (fun σ2 h3 => ?_)
    obtain ⟨me15, mt15⟩ := h3
    show WS layM V 5 X σ2 18 [(4, .int (nI i)), (0, rf V 0), (1, .int (nI k)), (2, .int (nI N)), (3, .int (nI th))] []
    refine WS.aload_n hx dX11_comesTo_18 rfl 1 rfl ?_
    refine WS.aload_n hx dX11_comesTo_19 rfl 1 rfl ?_
    refine WS.getI hx okX11 lf11_216 rfl rfl dX11_comesTo_20 ?_
    refine WS.as rfl rfl (congrArg (fun z => Value.int z :: _) (show σ2.1 0 25 = nI s.2.2.1 from mt15.2.1)) ?_
    skip
    refine WS.bipush (v := 99) hx dX11_comesTo_23 (by decide) ?_
    refine WS.icmp_ne (tgt := 33) hx dX11_comesTo_25 (by decide) (fun c25 => ?_) (fun c25 => ?_)
    · skip
      show WS layM V 5 X σ2 33 [(4, .int (nI i)), (0, rf V 0), (1, .int (nI k)), (2, .int (nI N)), (3, .int (nI th))] [rf V 0]
      have k25 := hym.2 c25
      refine WS.aload_n hx dX11_comesTo_33 rfl 1 rfl ?_
      refine WS.getI hx okX11 lf11_216 rfl rfl dX11_comesTo_34 ?_
      refine WS.as rfl rfl (congrArg (fun z => Value.int z :: _) (show σ2.1 0 25 = nI s.2.2.1 from mt15.2.1)) ?_
      skip
      refine WS.iconst (v := 1) hx dX11_comesTo_37 (by decide) ?_
      refine WS.iadd hx dX11_comesTo_38 ?_
      refine WS.as rfl rfl (congrArg (fun z => Value.int z :: _) (show (nI s.2.2.1) + 1 = nI (s.2.2.1 + 1) from nI_1 _)) ?_
      skip
      refine WS.putI hx okX11 lf11_216 rfl rfl rfl rfl dX11_comesTo_39 ?_
      refine WS.iinc (v := nI (i + 1)) (lo' := [(4, .int (nI (i + 1))), (0, rf V 0), (1, .int (nI k)), (2, .int (nI N)), (3, .int (nI th))]) hx dX11_comesTo_42 0 rfl (nI_1 i) (by decide) rfl ?_
      refine WS.goto (tgt := 7) hx dX11_comesTo_45 (by decide) ?_
      exact WS.los [0, 1, 2, 3, 4] rfl (ih (i + 1) (fun j => if j = k then msP (wdM κ n lw) s k else s.1 j, s.2.1, min (s.2.2.1 + 1) 99, s.2.2.2) _ (by omega) ((hE.tr me15).tr (ME.s0 (by decide))) (by rw [k25]; exact mt15.y (Nat.min_le_right _ _)) ho1 ho2 (by (try dsimp only); rw [if_pos rfl]; exact hr))
    · skip
      show WS layM V 5 X σ2 28 [(4, .int (nI i)), (0, rf V 0), (1, .int (nI k)), (2, .int (nI N)), (3, .int (nI th))] [rf V 0]
      have k25 := hym.1 c25
      refine WS.bipush (v := 99) hx dX11_comesTo_28 (by decide) ?_
      refine WS.goto (tgt := 39) hx dX11_comesTo_30 (by decide) ?_
      refine WS.putI hx okX11 lf11_216 rfl rfl rfl rfl dX11_comesTo_39 ?_
      refine WS.iinc (v := nI (i + 1)) (lo' := [(4, .int (nI (i + 1))), (0, rf V 0), (1, .int (nI k)), (2, .int (nI N)), (3, .int (nI th))]) hx dX11_comesTo_42 0 rfl (nI_1 i) (by decide) rfl ?_
      refine WS.goto (tgt := 7) hx dX11_comesTo_45 (by decide) ?_
      exact WS.los [0, 1, 2, 3, 4] rfl (ih (i + 1) (fun j => if j = k then msP (wdM κ n lw) s k else s.1 j, s.2.1, min (s.2.2.1 + 1) 99, s.2.2.2) _ (by omega) ((hE.tr me15).tr (ME.s0 (by decide))) (by rw [k25]; exact mt15.y (Nat.min_le_right _ _)) ho1 ho2 (by (try dsimp only); rw [if_pos rfl]; exact hr))
set_option maxHeartbeats 1000000 in
theorem c_X11_comesTo (V : Vt) (d : Nat) (σ : Sg) (κ : Sg) (n : Nat) (hM : MR κ σ n) (cs : Nat → Int32) (T : Nat) (lw : Lw) (hL : ML σ cs T lw) (k : Nat) (hk : k < n) (N : Nat) (hN : N ≤ 100) (th : Nat) (hth : th < 16) : CT layM V mX11_comesTo (d + 5) [rf V 0, .int (nI k), .int (nI N), .int (nI th)] σ (Ri fun v σ' => ((rep ((wdM κ n lw).cn k ((wdM κ n lw).bd k)) N ((wdM κ n lw).s0 k)).1 = th ∧ 1 = v ∧ ME σ σ') ∨ (¬ (rep ((wdM κ n lw).cn k ((wdM κ n lw).bd k)) N ((wdM κ n lw).s0 k)).1 = th ∧ 0 = v ∧ ME σ σ')) := by
  refine CT.of (own := RX11) rfl (by decide) (Nat.le_of_ble_eq_true rfl) (fun X (hx : Ok V RX11 cX11_comesTo 5 (d + 5) X) (he : En layM V (some .boolean) (Ri fun v σ' => ((rep ((wdM κ n lw).cn k ((wdM κ n lw).bd k)) N ((wdM κ n lw).s0 k)).1 = th ∧ 1 = v ∧ ME σ σ') ∨ (¬ (rep ((wdM κ n lw).cn k ((wdM κ n lw).bd k)) N ((wdM κ n lw).s0 k)).1 = th ∧ 0 = v ∧ ME σ σ')) X) => ?_)
  change WS layM V 5 X σ 0 [(0, rf V 0), (1, .int (nI k)), (2, .int (nI N)), (3, .int (nI th))] []
  refine WS.aload_n hx dX11_comesTo_0 rfl 0 rfl ?_
  refine WS.callVv (st := []) [] hx (c_X11_begins V (d + 4) σ κ n lw hM) okX11_begins lm11_231 rfl rfl rfl rfl (Nat.le_of_ble_eq_true rfl) dX11_comesTo_1 (fun σ2 h3 => ?_)
  obtain ⟨me1, mt1⟩ := h3
  show WS layM V 5 X σ2 4 [(0, rf V 0), (1, .int (nI k)), (2, .int (nI N)), (3, .int (nI th))] []
  refine WS.iconst (v := 0) hx dX11_comesTo_4 (by decide) ?_
  refine WS.istore (lo' := [(4, .int 0), (0, rf V 0), (1, .int (nI k)), (2, .int (nI N)), (3, .int (nI th))]) hx dX11_comesTo_5 (by decide) rfl ?_
  exact WS.los [0, 1, 2, 3, 4] rfl (lp_X11_comesTo V d σ κ n hM cs T lw hL k hk N hN th hth _ _ X hx he (fun τ h => by (try dsimp only); split; exact Or.inl ⟨by assumption, rfl, h⟩; exact Or.inr ⟨by assumption, rfl, h⟩) N 0 _ _ (by omega) me1 mt1 rfl rfl rfl)
theorem x_dv {x : Int32} (h : 0 ≤ x.toInt) (d : Nat) (h0 : 0 < d) (hd : d < 2 ^ 31) : x / nI d = nI (nn x / d) := by
  have h1 := i_rng x
  have h2 := nn_int h
  have := pk_div (a := nn x) (d := d) (by omega) h0 hd
  rwa [nI_nn h] at this
theorem x_rm {x : Int32} (h : 0 ≤ x.toInt) (d : Nat) (h0 : 0 < d) (hd : d < 2 ^ 31) : x - x / nI d * nI d = nI (nn x % d) := by
  have h1 := i_rng x
  have h2 := nn_int h
  have := pk_rem (a := nn x) (d := d) (by omega) h0 hd
  rwa [nI_nn h] at this
def cgV (q : Int32) (r : Option Nat) : Int32 := match r with
  | none => -2
  | some p => if q = 0 then 1 else nI p
theorem lcP_v {W : Wd} {k u th f g : Nat} (hg : g < 16) : (lcP W k u th (16 * f + g) = true) ↔ (¬ g = W.2.1 f ∧ (rep (W.ci f g k) u (W.s0 k)).1 = th) := by
  unfold lcP
  rw [show (16 * f + g) % 16 = g by omega, show (16 * f + g) / 16 = f by omega]
  exact ⟨of_decide_eq_true, decide_eq_true⟩
theorem wd_ci {κ : Sg} {n : Nat} {lw : Lw} {f g k : Nat} (hg : g < 2 ^ 31) : (wdM (stI κ 16 f (nI g)) n lw).cn k ((wdM (stI κ 16 f (nI g)) n lw).bd k) = (wdM κ n lw).ci f g k ∧ (wdM (stI κ 16 f (nI g)) n lw).s0 k = (wdM κ n lw).s0 k := by
  have e : Lc (stI κ 16 f (nI g)) = fun a => if a = f then g else Lc κ a := by
    funext a
    unfold Lc
    by_cases h : a = f
    · rw [h, stI_1, nn_nI hg, if_pos rfl]
    · rw [stI_k _ _ _ _ h, if_neg h]
  constructor
  · funext s
    show cen (lwN lw) (Lc (stI κ 16 f (nI g))) ((stI κ 16 f (nI g)).1 17) k (nn ((stI κ 16 f (nI g)).1 11 k)) (cnt ((stI κ 16 f (nI g)).1 14) n) (decide ((stI κ 16 f (nI g)).1 14 k = 1)) s = cen (lwN lw) (fun a => if a = f then g else Lc κ a) (κ.1 17) k (nn (κ.1 11 k)) (cnt (κ.1 14) n) (decide (κ.1 14 k = 1)) s
    rw [e, stI_o _ _ _ _ (show 17 ≠ 16 by decide), stI_o _ _ _ _ (show 11 ≠ 16 by decide), stI_o _ _ _ _ (show 14 ≠ 16 by decide)]
  · show (nn ((stI κ 16 f (nI g)).1 12 k), nn ((stI κ 16 f (nI g)).1 18 0)) = (nn (κ.1 12 k), nn (κ.1 18 0))
    rw [stI_o _ _ _ _ (show 12 ≠ 16 by decide), stI_o _ _ _ _ (show 18 ≠ 16 by decide)]
theorem MR_ci {κ τ : Sg} {n f g : Nat} (h : MR κ τ n) (hf : f < 16) (hg : g < 16) : MR (stI κ 16 f (nI g)) (stI τ 1 (50 + f) (nI g)) n := by
  have hfI : (nI f).toInt = (f : Int) := nI_c (by omega)
  have h8 := MR_bec (b := nI f) (q := 5) (x := nI g) h ⟨by decide, by decide, by omega, fun h => absurd h (by decide), fun _ => by omega, fun h => absurd h (by decide)⟩ ((iso_k (m := 15) rfl (by decide) (by decide) (by decide)).mpr ⟨by rw [nI_c (by omega)]; omega, by rw [nI_c (by omega)]; omega⟩)
  rw [show numId 5 = 16 from by decide, show pm (nI f) 5 = 50 + f from by unfold pm; rw [show nn 5 = 5 from by decide, nn_nI (by omega)]; rfl, nn_nI (by omega)] at h8
  exact h8
set_option maxHeartbeats 1000000 in
theorem lp_X11_changed (V : Vt) (d : Nat) (σ : Sg) (κ : Sg) (n : Nat) (hM : MR κ σ n) (cs : Nat → Int32) (T : Nat) (lw : Lw) (hL : ML σ cs T lw) (k : Nat) (hk : k < n) (u : Nat) (hu : u ≤ 100) (th : Nat) (hth : th < 16) (b x q : Int32) (hb : b = nI k) (r : Option Nat) (P : Int32 → Sg → Prop) (X : Xt) (hx : Ok V RX11 cX11_changed 10 (d + 6) X) (he : En layM V (some .int) (Ri P) X) (hP : ∀ σ', ME σ σ' → P (cgV q r) σ') : ∀ (f g : Nat) (τ : Sg), f < 16 → g ≤ 16 → ME σ τ → fst1 (lcP (wdM κ n lw) k u th) (256 - (16 * f + g)) (16 * f + g) = r → WS layM V 10 X τ 101 [(8, .int (nI g)), (7, .int (nI (Lc κ f))), (6, .int (nI f)), (5, .int (nI th)), (4, .int (nI u)), (0, rf V 0), (1, .int b), (2, .int x), (3, .int q)] [] := by
  have hn := hM.n
  intro f g
  induction hm : 300 - (17 * f + g) using Nat.strongRecOn generalizing f g with
  | _ m9 ih =>
    intro τ hf hg hE hr
    have hM9 := hM.me hE
    have hfI : (nI f).toInt = (f : Int) := nI_c (by omega)
    have hgI : (nI g).toInt = (g : Int) := nI_c (by omega)
    have hf1I : (nI (f + 1)).toInt = (f : Int) + 1 := nI_c (by omega)
    have hL9 := hM.q.L hf
    have hwas : τ.1 1 (50 + f) = nI (Lc κ f) := by rw [hM9.L hf]; exact hL9.1
    refine WS.iload hx dX11_changed_101 0 rfl ?_
    refine WS.bipush (v := 16) hx dX11_changed_103 (by decide) ?_
    refine WS.icmp_ge (tgt := 186) hx dX11_changed_105 (by decide) (fun c105 => ?_) (fun c105 => ?_)
    · skip
      show WS layM V 10 X τ 186 [(8, .int (nI g)), (7, .int (nI (Lc κ f))), (6, .int (nI f)), (5, .int (nI th)), (4, .int (nI u)), (0, rf V 0), (1, .int b), (2, .int x), (3, .int q)] []
      refine WS.iinc (v := nI (f + 1)) (lo' := [(6, .int (nI (f + 1))), (8, .int (nI g)), (7, .int (nI (Lc κ f))), (5, .int (nI th)), (4, .int (nI u)), (0, rf V 0), (1, .int b), (2, .int x), (3, .int q)]) hx dX11_changed_186 2 rfl (nI_1 f) (by decide) rfl ?_
      refine WS.goto (tgt := 79) hx dX11_changed_189 (by decide) ?_
      refine WS.iload hx dX11_changed_79 0 rfl ?_
      refine WS.bipush (v := 16) hx dX11_changed_81 (by decide) ?_
      refine WS.icmp_ge (tgt := 192) hx dX11_changed_83 (by decide) (fun c83 => ?_) (fun c83 => ?_)
      · skip
        show WS layM V 10 X τ 192 [(6, .int (nI (f + 1))), (8, .int (nI g)), (7, .int (nI (Lc κ f))), (5, .int (nI th)), (4, .int (nI u)), (0, rf V 0), (1, .int b), (2, .int x), (3, .int q)] []
        refine WS.bipush (v := (-2)) hx dX11_changed_192 (by decide) ?_
        exact WS.iret hx he dX11_changed_194 ⟨_, rfl, by have h9 := hP τ hE; rw [← hr, show 256 - (16 * f + g) = 0 by (try simp only [l_int, tL_0, tL_1, tL_2, tL_4, tL_5, tL_6, tL_7, tL_9, tL_10, tL_12, tL_15, tL_30, tL_40, tL_60, tL_99, tL_255, tL_1023, tL_m1, lc_lt, lc_gt, lc_ge, lc_le, lc_eq, l6_le, l6_lt, l6_eq, tI_m133, tI_m226, i_le, i_lt, i_eq, tI_m2, tI_m1, tI_0, tI_1, tI_16, tI_50, tI_256] at c105); (try simp only [l_int, tL_0, tL_1, tL_2, tL_4, tL_5, tL_6, tL_7, tL_9, tL_10, tL_12, tL_15, tL_30, tL_40, tL_60, tL_99, tL_255, tL_1023, tL_m1, lc_lt, lc_gt, lc_ge, lc_le, lc_eq, l6_le, l6_lt, l6_eq, tI_m133, tI_m226, i_le, i_lt, i_eq, tI_m2, tI_m1, tI_0, tI_1, tI_16, tI_50, tI_256] at c83); (try simp only [l_int, tL_0, tL_1, tL_2, tL_4, tL_5, tL_6, tL_7, tL_9, tL_10, tL_12, tL_15, tL_30, tL_40, tL_60, tL_99, tL_255, tL_1023, tL_m1, lc_lt, lc_gt, lc_ge, lc_le, lc_eq, l6_le, l6_lt, l6_eq, tI_m133, tI_m226, i_le, i_lt, i_eq, tI_m2, tI_m1, tI_0, tI_1, tI_16, tI_50, tI_256]); omega] at h9; exact h9⟩
      · skip
        show WS layM V 10 X τ 86 [(6, .int (nI (f + 1))), (8, .int (nI g)), (7, .int (nI (Lc κ f))), (5, .int (nI th)), (4, .int (nI u)), (0, rf V 0), (1, .int b), (2, .int x), (3, .int q)] []
        refine WS.aload_n hx dX11_changed_86 rfl 5 rfl ?_
        refine WS.getR hx okX11 lf11_9 rfl rfl dX11_changed_87 ?_
        refine WS.bipush (v := 50) hx dX11_changed_90 (by decide) ?_
        refine WS.iload hx dX11_changed_92 0 rfl ?_
        refine WS.iadd hx dX11_changed_94 ?_
        refine WS.as rfl rfl (congrArg (fun z => Value.int z :: _) (show 50 + (nI (f + 1)) = nI (50 + (f + 1)) from nI_add 50 (f + 1))) ?_
        skip
        refine WS.iald hx rfl (vp_in_nI (by (try simp only [l_int, tL_0, tL_1, tL_2, tL_4, tL_5, tL_6, tL_7, tL_9, tL_10, tL_12, tL_15, tL_30, tL_40, tL_60, tL_99, tL_255, tL_1023, tL_m1, lc_lt, lc_gt, lc_ge, lc_le, lc_eq, l6_le, l6_lt, l6_eq, tI_m133, tI_m226, i_le, i_lt, i_eq, tI_m2, tI_m1, tI_0, tI_1, tI_16, tI_50, tI_256] at c105); (try simp only [l_int, tL_0, tL_1, tL_2, tL_4, tL_5, tL_6, tL_7, tL_9, tL_10, tL_12, tL_15, tL_30, tL_40, tL_60, tL_99, tL_255, tL_1023, tL_m1, lc_lt, lc_gt, lc_ge, lc_le, lc_eq, l6_le, l6_lt, l6_eq, tI_m133, tI_m226, i_le, i_lt, i_eq, tI_m2, tI_m1, tI_0, tI_1, tI_16, tI_50, tI_256] at c83); (try simp only [l_int, tL_0, tL_1, tL_2, tL_4, tL_5, tL_6, tL_7, tL_9, tL_10, tL_12, tL_15, tL_30, tL_40, tL_60, tL_99, tL_255, tL_1023, tL_m1, lc_lt, lc_gt, lc_ge, lc_le, lc_eq, l6_le, l6_lt, l6_eq, tI_m133, tI_m226, i_le, i_lt, i_eq, tI_m2, tI_m1, tI_0, tI_1, tI_16, tI_50, tI_256]); omega) (by decide)) dX11_changed_95 ?_
        refine WS.as rfl rfl (congrArg (fun z => Value.int z :: _) (show τ.1 1 (nn (nI (50 + (f + 1)))) = nI (Lc κ (f + 1)) from by rw [nn_nI (by omega), hM9.L (by (try simp only [l_int, tL_0, tL_1, tL_2, tL_4, tL_5, tL_6, tL_7, tL_9, tL_10, tL_12, tL_15, tL_30, tL_40, tL_60, tL_99, tL_255, tL_1023, tL_m1, lc_lt, lc_gt, lc_ge, lc_le, lc_eq, l6_le, l6_lt, l6_eq, tI_m133, tI_m226, i_le, i_lt, i_eq, tI_m2, tI_m1, tI_0, tI_1, tI_16, tI_50, tI_256] at c105); (try simp only [l_int, tL_0, tL_1, tL_2, tL_4, tL_5, tL_6, tL_7, tL_9, tL_10, tL_12, tL_15, tL_30, tL_40, tL_60, tL_99, tL_255, tL_1023, tL_m1, lc_lt, lc_gt, lc_ge, lc_le, lc_eq, l6_le, l6_lt, l6_eq, tI_m133, tI_m226, i_le, i_lt, i_eq, tI_m2, tI_m1, tI_0, tI_1, tI_16, tI_50, tI_256] at c83); (try simp only [l_int, tL_0, tL_1, tL_2, tL_4, tL_5, tL_6, tL_7, tL_9, tL_10, tL_12, tL_15, tL_30, tL_40, tL_60, tL_99, tL_255, tL_1023, tL_m1, lc_lt, lc_gt, lc_ge, lc_le, lc_eq, l6_le, l6_lt, l6_eq, tI_m133, tI_m226, i_le, i_lt, i_eq, tI_m2, tI_m1, tI_0, tI_1, tI_16, tI_50, tI_256]); omega)]; exact (hM.q.L (by (try simp only [l_int, tL_0, tL_1, tL_2, tL_4, tL_5, tL_6, tL_7, tL_9, tL_10, tL_12, tL_15, tL_30, tL_40, tL_60, tL_99, tL_255, tL_1023, tL_m1, lc_lt, lc_gt, lc_ge, lc_le, lc_eq, l6_le, l6_lt, l6_eq, tI_m133, tI_m226, i_le, i_lt, i_eq, tI_m2, tI_m1, tI_0, tI_1, tI_16, tI_50, tI_256] at c105); (try simp only [l_int, tL_0, tL_1, tL_2, tL_4, tL_5, tL_6, tL_7, tL_9, tL_10, tL_12, tL_15, tL_30, tL_40, tL_60, tL_99, tL_255, tL_1023, tL_m1, lc_lt, lc_gt, lc_ge, lc_le, lc_eq, l6_le, l6_lt, l6_eq, tI_m133, tI_m226, i_le, i_lt, i_eq, tI_m2, tI_m1, tI_0, tI_1, tI_16, tI_50, tI_256] at c83); (try simp only [l_int, tL_0, tL_1, tL_2, tL_4, tL_5, tL_6, tL_7, tL_9, tL_10, tL_12, tL_15, tL_30, tL_40, tL_60, tL_99, tL_255, tL_1023, tL_m1, lc_lt, lc_gt, lc_ge, lc_le, lc_eq, l6_le, l6_lt, l6_eq, tI_m133, tI_m226, i_le, i_lt, i_eq, tI_m2, tI_m1, tI_0, tI_1, tI_16, tI_50, tI_256]); omega)).1)) ?_
        skip
        refine WS.istore (lo' := [(7, .int (nI (Lc κ (f + 1)))), (6, .int (nI (f + 1))), (8, .int (nI g)), (5, .int (nI th)), (4, .int (nI u)), (0, rf V 0), (1, .int b), (2, .int x), (3, .int q)]) hx dX11_changed_96 (by decide) rfl ?_
        refine WS.iconst (v := 0) hx dX11_changed_98 (by decide) ?_
        refine WS.istore (lo' := [(8, .int 0), (7, .int (nI (Lc κ (f + 1)))), (6, .int (nI (f + 1))), (5, .int (nI th)), (4, .int (nI u)), (0, rf V 0), (1, .int b), (2, .int x), (3, .int q)]) hx dX11_changed_99 (by decide) rfl ?_
        exact WS.los [0, 1, 2, 3, 4, 5, 6, 7, 8] rfl (ih _ (by (try simp only [l_int, tL_0, tL_1, tL_2, tL_4, tL_5, tL_6, tL_7, tL_9, tL_10, tL_12, tL_15, tL_30, tL_40, tL_60, tL_99, tL_255, tL_1023, tL_m1, lc_lt, lc_gt, lc_ge, lc_le, lc_eq, l6_le, l6_lt, l6_eq, tI_m133, tI_m226, i_le, i_lt, i_eq, tI_m2, tI_m1, tI_0, tI_1, tI_16, tI_50, tI_256] at c105); (try simp only [l_int, tL_0, tL_1, tL_2, tL_4, tL_5, tL_6, tL_7, tL_9, tL_10, tL_12, tL_15, tL_30, tL_40, tL_60, tL_99, tL_255, tL_1023, tL_m1, lc_lt, lc_gt, lc_ge, lc_le, lc_eq, l6_le, l6_lt, l6_eq, tI_m133, tI_m226, i_le, i_lt, i_eq, tI_m2, tI_m1, tI_0, tI_1, tI_16, tI_50, tI_256] at c83); (try simp only [l_int, tL_0, tL_1, tL_2, tL_4, tL_5, tL_6, tL_7, tL_9, tL_10, tL_12, tL_15, tL_30, tL_40, tL_60, tL_99, tL_255, tL_1023, tL_m1, lc_lt, lc_gt, lc_ge, lc_le, lc_eq, l6_le, l6_lt, l6_eq, tI_m133, tI_m226, i_le, i_lt, i_eq, tI_m2, tI_m1, tI_0, tI_1, tI_16, tI_50, tI_256]); omega) (f + 1) 0 rfl τ (by (try simp only [l_int, tL_0, tL_1, tL_2, tL_4, tL_5, tL_6, tL_7, tL_9, tL_10, tL_12, tL_15, tL_30, tL_40, tL_60, tL_99, tL_255, tL_1023, tL_m1, lc_lt, lc_gt, lc_ge, lc_le, lc_eq, l6_le, l6_lt, l6_eq, tI_m133, tI_m226, i_le, i_lt, i_eq, tI_m2, tI_m1, tI_0, tI_1, tI_16, tI_50, tI_256] at c105); (try simp only [l_int, tL_0, tL_1, tL_2, tL_4, tL_5, tL_6, tL_7, tL_9, tL_10, tL_12, tL_15, tL_30, tL_40, tL_60, tL_99, tL_255, tL_1023, tL_m1, lc_lt, lc_gt, lc_ge, lc_le, lc_eq, l6_le, l6_lt, l6_eq, tI_m133, tI_m226, i_le, i_lt, i_eq, tI_m2, tI_m1, tI_0, tI_1, tI_16, tI_50, tI_256] at c83); (try simp only [l_int, tL_0, tL_1, tL_2, tL_4, tL_5, tL_6, tL_7, tL_9, tL_10, tL_12, tL_15, tL_30, tL_40, tL_60, tL_99, tL_255, tL_1023, tL_m1, lc_lt, lc_gt, lc_ge, lc_le, lc_eq, l6_le, l6_lt, l6_eq, tI_m133, tI_m226, i_le, i_lt, i_eq, tI_m2, tI_m1, tI_0, tI_1, tI_16, tI_50, tI_256]); omega) (by decide) hE (by rw [← hr, show g = 16 by (try simp only [l_int, tL_0, tL_1, tL_2, tL_4, tL_5, tL_6, tL_7, tL_9, tL_10, tL_12, tL_15, tL_30, tL_40, tL_60, tL_99, tL_255, tL_1023, tL_m1, lc_lt, lc_gt, lc_ge, lc_le, lc_eq, l6_le, l6_lt, l6_eq, tI_m133, tI_m226, i_le, i_lt, i_eq, tI_m2, tI_m1, tI_0, tI_1, tI_16, tI_50, tI_256] at c105); (try simp only [l_int, tL_0, tL_1, tL_2, tL_4, tL_5, tL_6, tL_7, tL_9, tL_10, tL_12, tL_15, tL_30, tL_40, tL_60, tL_99, tL_255, tL_1023, tL_m1, lc_lt, lc_gt, lc_ge, lc_le, lc_eq, l6_le, l6_lt, l6_eq, tI_m133, tI_m226, i_le, i_lt, i_eq, tI_m2, tI_m1, tI_0, tI_1, tI_16, tI_50, tI_256] at c83); (try simp only [l_int, tL_0, tL_1, tL_2, tL_4, tL_5, tL_6, tL_7, tL_9, tL_10, tL_12, tL_15, tL_30, tL_40, tL_60, tL_99, tL_255, tL_1023, tL_m1, lc_lt, lc_gt, lc_ge, lc_le, lc_eq, l6_le, l6_lt, l6_eq, tI_m133, tI_m226, i_le, i_lt, i_eq, tI_m2, tI_m1, tI_0, tI_1, tI_16, tI_50, tI_256]); omega]; rfl))
    · skip
      show WS layM V 10 X τ 108 [(8, .int (nI g)), (7, .int (nI (Lc κ f))), (6, .int (nI f)), (5, .int (nI th)), (4, .int (nI u)), (0, rf V 0), (1, .int b), (2, .int x), (3, .int q)] []
      have hg9 : g < 16 := by (try simp only [l_int, tL_0, tL_1, tL_2, tL_4, tL_5, tL_6, tL_7, tL_9, tL_10, tL_12, tL_15, tL_30, tL_40, tL_60, tL_99, tL_255, tL_1023, tL_m1, lc_lt, lc_gt, lc_ge, lc_le, lc_eq, l6_le, l6_lt, l6_eq, tI_m133, tI_m226, i_le, i_lt, i_eq, tI_m2, tI_m1, tI_0, tI_1, tI_16, tI_50, tI_256] at c105); (try simp only [l_int, tL_0, tL_1, tL_2, tL_4, tL_5, tL_6, tL_7, tL_9, tL_10, tL_12, tL_15, tL_30, tL_40, tL_60, tL_99, tL_255, tL_1023, tL_m1, lc_lt, lc_gt, lc_ge, lc_le, lc_eq, l6_le, l6_lt, l6_eq, tI_m133, tI_m226, i_le, i_lt, i_eq, tI_m2, tI_m1, tI_0, tI_1, tI_16, tI_50, tI_256]); omega
      have e9 : fst1 (lcP (wdM κ n lw) k u th) (256 - (16 * f + g)) (16 * f + g) = if lcP (wdM κ n lw) k u th (16 * f + g) = true then some (16 * f + g) else fst1 (lcP (wdM κ n lw) k u th) (255 - (16 * f + g)) (16 * f + g + 1) := by rw [show 256 - (16 * f + g) = (255 - (16 * f + g)) + 1 by omega]; rfl
      refine WS.aload_n hx dX11_changed_108 rfl 5 rfl ?_
      refine WS.getR hx okX11 lf11_9 rfl rfl dX11_changed_109 ?_
      refine WS.bipush (v := 50) hx dX11_changed_112 (by decide) ?_
      refine WS.iload hx dX11_changed_114 2 rfl ?_
      refine WS.iadd hx dX11_changed_116 ?_
      refine WS.as rfl rfl (congrArg (fun z => Value.int z :: _) (show 50 + (nI f) = nI (50 + f) from nI_add 50 f)) ?_
      skip
      refine WS.iload hx dX11_changed_117 0 rfl ?_
      refine WS.iast hx rfl (vp_in_nI (by omega) (by decide)) dX11_changed_119 ?_
      refine WS.sg (fun υ eυ => ?_)
      have eu : υ = stI τ 1 (50 + f) (nI g) := by rw [eυ]; simp only [nn_nI (show 50 + f < 2 ^ 31 by omega), nI_clamp (show 50 + f < 2 ^ 31 by omega)]
      refine WS.iload hx dX11_changed_120 0 rfl ?_
      refine WS.iload hx dX11_changed_122 1 rfl ?_
      refine WS.icmp_eq (tgt := 143) hx dX11_changed_124 (by decide) (fun c124 => ?_) (fun c124 => ?_)
      · skip
        show WS layM V 10 X υ 143 [(8, .int (nI g)), (7, .int (nI (Lc κ f))), (6, .int (nI f)), (5, .int (nI th)), (4, .int (nI u)), (0, rf V 0), (1, .int b), (2, .int x), (3, .int q)] []
        refine WS.iconst (v := 0) hx dX11_changed_143 (by decide) ?_
        refine WS.istore (lo' := [(9, .int 0), (8, .int (nI g)), (7, .int (nI (Lc κ f))), (6, .int (nI f)), (5, .int (nI th)), (4, .int (nI u)), (0, rf V 0), (1, .int b), (2, .int x), (3, .int q)]) hx dX11_changed_144 (by decide) rfl ?_
        refine WS.aload_n hx dX11_changed_146 rfl 6 rfl ?_
        refine WS.getR hx okX11 lf11_9 rfl rfl dX11_changed_147 ?_
        refine WS.bipush (v := 50) hx dX11_changed_150 (by decide) ?_
        refine WS.iload hx dX11_changed_152 3 rfl ?_
        refine WS.iadd hx dX11_changed_154 ?_
        refine WS.as rfl rfl (congrArg (fun z => Value.int z :: _) (show 50 + (nI f) = nI (50 + f) from nI_add 50 f)) ?_
        skip
        refine WS.iload hx dX11_changed_155 2 rfl ?_
        refine WS.iast hx rfl (vp_in_nI (by omega) (by decide)) dX11_changed_157 ?_
        refine WS.sg (fun ω eω => ?_)
        have hω : ME σ ω := by
          rw [eω]
          (try simp only [nn_nI (show 50 + f < 2 ^ 31 by omega), nI_clamp (show 50 + f < 2 ^ 31 by omega)])
          first | (have h9 := me133.s1 (k := 50 + f) (v := nI (Lc κ f)); rw [eu, stI_2x, show stI τ 1 (50 + f) (nI (Lc κ f)) = τ from by rw [← hwas, stI_id]] at h9; exact hE.tr h9) | (rw [eu, stI_2x, ← hwas, stI_id]; exact hE)
        refine WS.iload hx dX11_changed_158 0 rfl ?_
        refine WS.if_eq (tgt := 180) hx dX11_changed_160 (by decide) (fun _ => ?_) (fun h => absurd (by decide) h)
        refine WS.iinc (v := nI (g + 1)) (lo' := [(8, .int (nI (g + 1))), (9, .int 0), (7, .int (nI (Lc κ f))), (6, .int (nI f)), (5, .int (nI th)), (4, .int (nI u)), (0, rf V 0), (1, .int b), (2, .int x), (3, .int q)]) hx dX11_changed_180 1 rfl (nI_1 g) (by decide) rfl ?_
        refine WS.goto (tgt := 101) hx dX11_changed_183 (by decide) ?_
        exact WS.los [0, 2, 3, 4, 5, 6, 7, 8, 9] rfl (ih _ (by (try simp only [l_int, tL_0, tL_1, tL_2, tL_4, tL_5, tL_6, tL_7, tL_9, tL_10, tL_12, tL_15, tL_30, tL_40, tL_60, tL_99, tL_255, tL_1023, tL_m1, lc_lt, lc_gt, lc_ge, lc_le, lc_eq, l6_le, l6_lt, l6_eq, tI_m133, tI_m226, i_le, i_lt, i_eq, tI_m2, tI_m1, tI_0, tI_1, tI_16, tI_50, tI_256] at c105); (try simp only [l_int, tL_0, tL_1, tL_2, tL_4, tL_5, tL_6, tL_7, tL_9, tL_10, tL_12, tL_15, tL_30, tL_40, tL_60, tL_99, tL_255, tL_1023, tL_m1, lc_lt, lc_gt, lc_ge, lc_le, lc_eq, l6_le, l6_lt, l6_eq, tI_m133, tI_m226, i_le, i_lt, i_eq, tI_m2, tI_m1, tI_0, tI_1, tI_16, tI_50, tI_256] at c124); (try simp only [l_int, tL_0, tL_1, tL_2, tL_4, tL_5, tL_6, tL_7, tL_9, tL_10, tL_12, tL_15, tL_30, tL_40, tL_60, tL_99, tL_255, tL_1023, tL_m1, lc_lt, lc_gt, lc_ge, lc_le, lc_eq, l6_le, l6_lt, l6_eq, tI_m133, tI_m226, i_le, i_lt, i_eq, tI_m2, tI_m1, tI_0, tI_1, tI_16, tI_50, tI_256]); omega) f (g + 1) rfl _ hf (by (try simp only [l_int, tL_0, tL_1, tL_2, tL_4, tL_5, tL_6, tL_7, tL_9, tL_10, tL_12, tL_15, tL_30, tL_40, tL_60, tL_99, tL_255, tL_1023, tL_m1, lc_lt, lc_gt, lc_ge, lc_le, lc_eq, l6_le, l6_lt, l6_eq, tI_m133, tI_m226, i_le, i_lt, i_eq, tI_m2, tI_m1, tI_0, tI_1, tI_16, tI_50, tI_256] at c105); (try simp only [l_int, tL_0, tL_1, tL_2, tL_4, tL_5, tL_6, tL_7, tL_9, tL_10, tL_12, tL_15, tL_30, tL_40, tL_60, tL_99, tL_255, tL_1023, tL_m1, lc_lt, lc_gt, lc_ge, lc_le, lc_eq, l6_le, l6_lt, l6_eq, tI_m133, tI_m226, i_le, i_lt, i_eq, tI_m2, tI_m1, tI_0, tI_1, tI_16, tI_50, tI_256] at c124); (try simp only [l_int, tL_0, tL_1, tL_2, tL_4, tL_5, tL_6, tL_7, tL_9, tL_10, tL_12, tL_15, tL_30, tL_40, tL_60, tL_99, tL_255, tL_1023, tL_m1, lc_lt, lc_gt, lc_ge, lc_le, lc_eq, l6_le, l6_lt, l6_eq, tI_m133, tI_m226, i_le, i_lt, i_eq, tI_m2, tI_m1, tI_0, tI_1, tI_16, tI_50, tI_256]); omega) hω (by rw [← hr, e9, if_neg (fun h => ((lcP_v hg9).mp h).1 ((nI_eq (show g < 2 ^ 31 by omega) (show Lc κ f < 2 ^ 31 by omega)).mp c124))]; rw [show 256 - (16 * f + (g + 1)) = 255 - (16 * f + g) by omega]; rfl))
      · skip
        show WS layM V 10 X υ 127 [(8, .int (nI g)), (7, .int (nI (Lc κ f))), (6, .int (nI f)), (5, .int (nI th)), (4, .int (nI u)), (0, rf V 0), (1, .int b), (2, .int x), (3, .int q)] []
        refine WS.aload_n hx dX11_changed_127 rfl 5 rfl ?_
        refine WS.iload_n hx dX11_changed_128 rfl 6 rfl ?_
        refine WS.as rfl rfl (congrArg (fun z => Value.int z :: _) (show b = nI k from hb)) ?_
        skip
        refine WS.iload hx dX11_changed_129 4 rfl ?_
        refine WS.iload hx dX11_changed_131 3 rfl ?_
        refine WS.callVi (st := []) [.int (nI k), .int (nI u), .int (nI th)] hx (c_X11_comesTo V d υ (stI κ 16 f (nI g)) n (by rw [eu]; exact MR_ci hM9 hf hg9) cs T lw (by rw [eu]; have h8 := hL.me hE; exact h8) k hk u hu th hth) okX11_comesTo lm11_295 rfl rfl rfl rfl (Nat.le_of_ble_eq_true rfl) dX11_changed_133 (fun v1 σ2 h3 => ?_)
        rcases h3 with ⟨hb133, rfl, me133⟩ | ⟨hb133, rfl, me133⟩
        · skip
          show WS layM V 10 X σ2 136 [(8, .int (nI g)), (7, .int (nI (Lc κ f))), (6, .int (nI f)), (5, .int (nI th)), (4, .int (nI u)), (0, rf V 0), (1, .int b), (2, .int x), (3, .int q)] [.int 1]
          refine WS.if_eq (tgt := 143) hx dX11_changed_136 (by decide) (fun h => absurd h (by decide)) (fun _ => ?_)
          refine WS.iconst (v := 1) hx dX11_changed_139 (by decide) ?_
          refine WS.goto (tgt := 144) hx dX11_changed_140 (by decide) ?_
          refine WS.istore (lo' := [(9, .int 1), (8, .int (nI g)), (7, .int (nI (Lc κ f))), (6, .int (nI f)), (5, .int (nI th)), (4, .int (nI u)), (0, rf V 0), (1, .int b), (2, .int x), (3, .int q)]) hx dX11_changed_144 (by decide) rfl ?_
          refine WS.aload_n hx dX11_changed_146 rfl 6 rfl ?_
          refine WS.getR hx okX11 lf11_9 rfl rfl dX11_changed_147 ?_
          refine WS.bipush (v := 50) hx dX11_changed_150 (by decide) ?_
          refine WS.iload hx dX11_changed_152 3 rfl ?_
          refine WS.iadd hx dX11_changed_154 ?_
          refine WS.as rfl rfl (congrArg (fun z => Value.int z :: _) (show 50 + (nI f) = nI (50 + f) from nI_add 50 f)) ?_
          skip
          refine WS.iload hx dX11_changed_155 2 rfl ?_
          refine WS.iast hx rfl (vp_in_nI (by omega) (by decide)) dX11_changed_157 ?_
          refine WS.sg (fun ω eω => ?_)
          have hω : ME σ ω := by
            rw [eω]
            (try simp only [nn_nI (show 50 + f < 2 ^ 31 by omega), nI_clamp (show 50 + f < 2 ^ 31 by omega)])
            first | (have h9 := me133.s1 (k := 50 + f) (v := nI (Lc κ f)); rw [eu, stI_2x, show stI τ 1 (50 + f) (nI (Lc κ f)) = τ from by rw [← hwas, stI_id]] at h9; exact hE.tr h9) | (rw [eu, stI_2x, ← hwas, stI_id]; exact hE)
          refine WS.iload hx dX11_changed_158 0 rfl ?_
          refine WS.if_eq (tgt := 180) hx dX11_changed_160 (by decide) (fun h => absurd h (by decide)) (fun _ => ?_)
          refine WS.iload_n hx dX11_changed_163 rfl 9 rfl ?_
          refine WS.if_ne (tgt := 171) hx dX11_changed_164 (by decide) (fun c164 => ?_) (fun c164 => ?_)
          · skip
            show WS layM V 10 X ω 171 [(9, .int 1), (8, .int (nI g)), (7, .int (nI (Lc κ f))), (6, .int (nI f)), (5, .int (nI th)), (4, .int (nI u)), (0, rf V 0), (1, .int b), (2, .int x), (3, .int q)] []
            have k164 : ¬ q = 0 := c164
            refine WS.bipush (v := 16) hx dX11_changed_171 (by decide) ?_
            refine WS.iload hx dX11_changed_173 3 rfl ?_
            refine WS.imul hx dX11_changed_175 ?_
            refine WS.as rfl rfl (congrArg (fun z => Value.int z :: _) (show 16 * (nI f) = nI (16 * f) from pk_mul 16 f)) ?_
            skip
            refine WS.iload hx dX11_changed_176 1 rfl ?_
            refine WS.iadd hx dX11_changed_178 ?_
            refine WS.as rfl rfl (congrArg (fun z => Value.int z :: _) (show (nI (16 * f)) + (nI g) = nI (16 * f + g) from nI_add _ _)) ?_
            skip
            exact WS.iret hx he dX11_changed_179 ⟨_, rfl, by have h9 := hP _ hω; rw [← hr, e9, if_pos ((lcP_v hg9).mpr ⟨fun h => c124 (by rw [h]; rfl), by have h7 := hb133; rw [(wd_ci (show g < 2 ^ 31 by omega)).1, (wd_ci (show g < 2 ^ 31 by omega)).2] at h7; exact h7⟩)] at h9; unfold cgV at h9; (try dsimp only at h9); rw [if_neg k164] at h9; exact h9⟩
          · skip
            show WS layM V 10 X ω 167 [(9, .int 1), (8, .int (nI g)), (7, .int (nI (Lc κ f))), (6, .int (nI f)), (5, .int (nI th)), (4, .int (nI u)), (0, rf V 0), (1, .int b), (2, .int x), (3, .int q)] []
            have k164 : q = 0 := c164
            refine WS.iconst (v := 1) hx dX11_changed_167 (by decide) ?_
            refine WS.goto (tgt := 179) hx dX11_changed_168 (by decide) ?_
            exact WS.iret hx he dX11_changed_179 ⟨_, rfl, by have h9 := hP _ hω; rw [← hr, e9, if_pos ((lcP_v hg9).mpr ⟨fun h => c124 (by rw [h]; rfl), by have h7 := hb133; rw [(wd_ci (show g < 2 ^ 31 by omega)).1, (wd_ci (show g < 2 ^ 31 by omega)).2] at h7; exact h7⟩)] at h9; unfold cgV at h9; (try dsimp only at h9); rw [if_pos k164] at h9; exact h9⟩
        · skip
          show WS layM V 10 X σ2 136 [(8, .int (nI g)), (7, .int (nI (Lc κ f))), (6, .int (nI f)), (5, .int (nI th)), (4, .int (nI u)), (0, rf V 0), (1, .int b), (2, .int x), (3, .int q)] [.int 0]
          refine WS.if_eq (tgt := 143) hx dX11_changed_136 (by decide) (fun _ => ?_) (fun h => absurd (by decide) h)
          refine WS.iconst (v := 0) hx dX11_changed_143 (by decide) ?_
          refine WS.istore (lo' := [(9, .int 0), (8, .int (nI g)), (7, .int (nI (Lc κ f))), (6, .int (nI f)), (5, .int (nI th)), (4, .int (nI u)), (0, rf V 0), (1, .int b), (2, .int x), (3, .int q)]) hx dX11_changed_144 (by decide) rfl ?_
          refine WS.aload_n hx dX11_changed_146 rfl 6 rfl ?_
          refine WS.getR hx okX11 lf11_9 rfl rfl dX11_changed_147 ?_
          refine WS.bipush (v := 50) hx dX11_changed_150 (by decide) ?_
          refine WS.iload hx dX11_changed_152 3 rfl ?_
          refine WS.iadd hx dX11_changed_154 ?_
          refine WS.as rfl rfl (congrArg (fun z => Value.int z :: _) (show 50 + (nI f) = nI (50 + f) from nI_add 50 f)) ?_
          skip
          refine WS.iload hx dX11_changed_155 2 rfl ?_
          refine WS.iast hx rfl (vp_in_nI (by omega) (by decide)) dX11_changed_157 ?_
          refine WS.sg (fun ω eω => ?_)
          have hω : ME σ ω := by
            rw [eω]
            (try simp only [nn_nI (show 50 + f < 2 ^ 31 by omega), nI_clamp (show 50 + f < 2 ^ 31 by omega)])
            first | (have h9 := me133.s1 (k := 50 + f) (v := nI (Lc κ f)); rw [eu, stI_2x, show stI τ 1 (50 + f) (nI (Lc κ f)) = τ from by rw [← hwas, stI_id]] at h9; exact hE.tr h9) | (rw [eu, stI_2x, ← hwas, stI_id]; exact hE)
          refine WS.iload hx dX11_changed_158 0 rfl ?_
          refine WS.if_eq (tgt := 180) hx dX11_changed_160 (by decide) (fun _ => ?_) (fun h => absurd (by decide) h)
          refine WS.iinc (v := nI (g + 1)) (lo' := [(8, .int (nI (g + 1))), (9, .int 0), (7, .int (nI (Lc κ f))), (6, .int (nI f)), (5, .int (nI th)), (4, .int (nI u)), (0, rf V 0), (1, .int b), (2, .int x), (3, .int q)]) hx dX11_changed_180 1 rfl (nI_1 g) (by decide) rfl ?_
          refine WS.goto (tgt := 101) hx dX11_changed_183 (by decide) ?_
          exact WS.los [0, 2, 3, 4, 5, 6, 7, 8, 9] rfl (ih _ (by (try simp only [l_int, tL_0, tL_1, tL_2, tL_4, tL_5, tL_6, tL_7, tL_9, tL_10, tL_12, tL_15, tL_30, tL_40, tL_60, tL_99, tL_255, tL_1023, tL_m1, lc_lt, lc_gt, lc_ge, lc_le, lc_eq, l6_le, l6_lt, l6_eq, tI_m133, tI_m226, i_le, i_lt, i_eq, tI_m2, tI_m1, tI_0, tI_1, tI_16, tI_50, tI_256] at c105); (try simp only [l_int, tL_0, tL_1, tL_2, tL_4, tL_5, tL_6, tL_7, tL_9, tL_10, tL_12, tL_15, tL_30, tL_40, tL_60, tL_99, tL_255, tL_1023, tL_m1, lc_lt, lc_gt, lc_ge, lc_le, lc_eq, l6_le, l6_lt, l6_eq, tI_m133, tI_m226, i_le, i_lt, i_eq, tI_m2, tI_m1, tI_0, tI_1, tI_16, tI_50, tI_256] at c124); (try simp only [l_int, tL_0, tL_1, tL_2, tL_4, tL_5, tL_6, tL_7, tL_9, tL_10, tL_12, tL_15, tL_30, tL_40, tL_60, tL_99, tL_255, tL_1023, tL_m1, lc_lt, lc_gt, lc_ge, lc_le, lc_eq, l6_le, l6_lt, l6_eq, tI_m133, tI_m226, i_le, i_lt, i_eq, tI_m2, tI_m1, tI_0, tI_1, tI_16, tI_50, tI_256] at hb133); (try simp only [l_int, tL_0, tL_1, tL_2, tL_4, tL_5, tL_6, tL_7, tL_9, tL_10, tL_12, tL_15, tL_30, tL_40, tL_60, tL_99, tL_255, tL_1023, tL_m1, lc_lt, lc_gt, lc_ge, lc_le, lc_eq, l6_le, l6_lt, l6_eq, tI_m133, tI_m226, i_le, i_lt, i_eq, tI_m2, tI_m1, tI_0, tI_1, tI_16, tI_50, tI_256]); omega) f (g + 1) rfl _ hf (by (try simp only [l_int, tL_0, tL_1, tL_2, tL_4, tL_5, tL_6, tL_7, tL_9, tL_10, tL_12, tL_15, tL_30, tL_40, tL_60, tL_99, tL_255, tL_1023, tL_m1, lc_lt, lc_gt, lc_ge, lc_le, lc_eq, l6_le, l6_lt, l6_eq, tI_m133, tI_m226, i_le, i_lt, i_eq, tI_m2, tI_m1, tI_0, tI_1, tI_16, tI_50, tI_256] at c105); (try simp only [l_int, tL_0, tL_1, tL_2, tL_4, tL_5, tL_6, tL_7, tL_9, tL_10, tL_12, tL_15, tL_30, tL_40, tL_60, tL_99, tL_255, tL_1023, tL_m1, lc_lt, lc_gt, lc_ge, lc_le, lc_eq, l6_le, l6_lt, l6_eq, tI_m133, tI_m226, i_le, i_lt, i_eq, tI_m2, tI_m1, tI_0, tI_1, tI_16, tI_50, tI_256] at c124); (try simp only [l_int, tL_0, tL_1, tL_2, tL_4, tL_5, tL_6, tL_7, tL_9, tL_10, tL_12, tL_15, tL_30, tL_40, tL_60, tL_99, tL_255, tL_1023, tL_m1, lc_lt, lc_gt, lc_ge, lc_le, lc_eq, l6_le, l6_lt, l6_eq, tI_m133, tI_m226, i_le, i_lt, i_eq, tI_m2, tI_m1, tI_0, tI_1, tI_16, tI_50, tI_256] at hb133); (try simp only [l_int, tL_0, tL_1, tL_2, tL_4, tL_5, tL_6, tL_7, tL_9, tL_10, tL_12, tL_15, tL_30, tL_40, tL_60, tL_99, tL_255, tL_1023, tL_m1, lc_lt, lc_gt, lc_ge, lc_le, lc_eq, l6_le, l6_lt, l6_eq, tI_m133, tI_m226, i_le, i_lt, i_eq, tI_m2, tI_m1, tI_0, tI_1, tI_16, tI_50, tI_256]); omega) hω (by rw [← hr, e9, if_neg (fun h => hb133 (by rw [(wd_ci (show g < 2 ^ 31 by omega)).1, (wd_ci (show g < 2 ^ 31 by omega)).2]; exact ((lcP_v hg9).mp h).2))]; rw [show 256 - (16 * f + (g + 1)) = 255 - (16 * f + g) by omega]; rfl))
theorem fst1_lt {P : Nat → Bool} : ∀ (u i p : Nat), fst1 P u i = some p → p < i + u
  | 0, _, _, h => by cases h
  | u + 1, i, p, h => by
    unfold fst1 at h
    by_cases e : P i = true
    · rw [if_pos e] at h; injection h with h; omega
    · rw [if_neg e] at h; have := fst1_lt u (i + 1) p h; omega
theorem cg_post {W : Wd} {k u th : Nat} {q : Int32} {A : Prop} (hq : 0 ≤ q.toInt ∧ q.toInt ≤ 1) (h : ¬ (rep (W.cn k (W.bd k)) u (W.s0 k)).1 = th) (a : A) : if (lcF W k u th).toInt < 0 then cgV q (fst1 (lcP W k u th) 256 0) = -2 ∧ A else (if q.toInt = 1 then cgV q (fst1 (lcP W k u th) 256 0) = lcF W k u th ∧ A else (if lcF W k u th = 256 then cgV q (fst1 (lcP W k u th) 256 0) = 0 ∧ A else (cgV q (fst1 (lcP W k u th) 256 0) = 1 ∧ A))) := by
  have e : lcF W k u th = oN (fst1 (lcP W k u th) 256 0) := if_neg h
  rw [e]
  cases h9 : fst1 (lcP W k u th) 256 0 with
  | none => rw [if_pos (show (oN none).toInt < 0 from by decide)]; exact ⟨rfl, a⟩
  | some p =>
    have hp := fst1_lt 256 0 p h9
    have hpI : (nI p).toInt = (p : Int) := nI_c (by omega)
    rw [if_neg (show ¬ (oN (some p)).toInt < 0 from by show ¬ (nI p).toInt < 0; omega)]
    unfold cgV
    by_cases h1 : q.toInt = 1
    · rw [if_pos h1]; (try dsimp only); rw [if_neg (by rw [i_eq, tI_0]; omega)]; exact ⟨rfl, a⟩
    · rw [if_neg h1]; (try dsimp only); rw [if_neg (show ¬ oN (some p) = 256 from by show ¬ nI p = 256; rw [i_eq, hpI]; show ¬ (p : Int) = 256; omega), if_pos (by rw [i_eq, tI_0]; omega)]; exact ⟨rfl, a⟩
set_option maxHeartbeats 1000000 in
theorem c_X11_changed (V : Vt) (d : Nat) (σ : Sg) (κ : Sg) (n : Nat) (hM : MR κ σ n) (cs : Nat → Int32) (T : Nat) (lw : Lw) (hL : ML σ cs T lw) (b x q : Int32) : CT layM V mX11_changed (d + 6) [rf V 0, .int b, .int x, .int q] σ (Ri fun v σ' => (if ¬ (0 ≤ b.toInt ∧ b.toInt < n ∧ 1 ≤ x.toInt / 16 ∧ x.toInt / 16 ≤ 40 ∧ 0 ≤ q.toInt ∧ q.toInt ≤ 1) then v = -1 ∧ ME σ σ' else (if (lcF (wdM κ n lw) (nn b) (nn x / 16) (nn x % 16)).toInt < 0 then v = -2 ∧ ME σ σ' else (if q.toInt = 1 then v = lcF (wdM κ n lw) (nn b) (nn x / 16) (nn x % 16) ∧ ME σ σ' else (if lcF (wdM κ n lw) (nn b) (nn x / 16) (nn x % 16) = 256 then v = 0 ∧ ME σ σ' else (v = 1 ∧ ME σ σ')))))) := by
  refine CT.of (own := RX11) rfl (by decide) (Nat.le_of_ble_eq_true rfl) (fun X (hx : Ok V RX11 cX11_changed 10 (d + 6) X) (he : En layM V (some .int) (Ri fun v σ' => (if ¬ (0 ≤ b.toInt ∧ b.toInt < n ∧ 1 ≤ x.toInt / 16 ∧ x.toInt / 16 ≤ 40 ∧ 0 ≤ q.toInt ∧ q.toInt ≤ 1) then v = -1 ∧ ME σ σ' else (if (lcF (wdM κ n lw) (nn b) (nn x / 16) (nn x % 16)).toInt < 0 then v = -2 ∧ ME σ σ' else (if q.toInt = 1 then v = lcF (wdM κ n lw) (nn b) (nn x / 16) (nn x % 16) ∧ ME σ σ' else (if lcF (wdM κ n lw) (nn b) (nn x / 16) (nn x % 16) = 256 then v = 0 ∧ ME σ σ' else (v = 1 ∧ ME σ σ')))))) X) => ?_)
  change WS layM V 10 X σ 0 [(0, rf V 0), (1, .int b), (2, .int x), (3, .int q)] []
  have hn := hM.n
  have hs := hM.s
  refine WS.aload_n hx dX11_changed_0 rfl 0 rfl ?_
  refine WS.iload_n hx dX11_changed_1 rfl 1 rfl ?_
  refine WS.i2l hx dX11_changed_2 ?_
  refine WS.callVi (st := []) [.long (Int32.toInt64 b)] hx (c_X11_isBlock V (d + 4) σ n hs hn (Int32.toInt64 b)) okX11_isBlock lm11_127 rfl rfl rfl rfl (Nat.le_of_ble_eq_true rfl) dX11_changed_3 (fun v1 σ2 h3 => ?_)
  rcases h3 with ⟨rfl, rfl, hb3⟩ | ⟨rfl, rfl, hb3⟩
  · skip
    show WS layM V 10 X σ 6 [(0, rf V 0), (1, .int b), (2, .int x), (3, .int q)] [.int 1]
    have hb0 : 0 ≤ b.toInt := by have h9 := hb3; simp only [l_int] at h9; exact h9.1
    have hbn := nn_int hb0
    refine WS.if_eq (tgt := 38) hx dX11_changed_6 (by decide) (fun h => absurd h (by decide)) (fun _ => ?_)
    refine WS.iload_n hx dX11_changed_9 rfl 2 rfl ?_
    refine WS.if_lt (tgt := 38) hx dX11_changed_10 (by decide) (fun c10 => ?_) (fun c10 => ?_)
    · skip
      show WS layM V 10 X σ 38 [(0, rf V 0), (1, .int b), (2, .int x), (3, .int q)] []
      refine WS.iconst (v := (-1)) hx dX11_changed_38 (by decide) ?_
      exact WS.iret hx he dX11_changed_39 ⟨_, rfl, by (try dsimp only); rw [if_pos (fun h => by (try simp only [l_int, tL_0, tL_1, tL_2, tL_4, tL_5, tL_6, tL_7, tL_9, tL_10, tL_12, tL_15, tL_30, tL_40, tL_60, tL_99, tL_255, tL_1023, tL_m1, lc_lt, lc_gt, lc_ge, lc_le, lc_eq, l6_le, l6_lt, l6_eq, tI_m133, tI_m226, i_le, i_lt, i_eq, tI_m2, tI_m1, tI_0, tI_1, tI_16, tI_50, tI_256] at hb3); (try simp only [l_int, tL_0, tL_1, tL_2, tL_4, tL_5, tL_6, tL_7, tL_9, tL_10, tL_12, tL_15, tL_30, tL_40, tL_60, tL_99, tL_255, tL_1023, tL_m1, lc_lt, lc_gt, lc_ge, lc_le, lc_eq, l6_le, l6_lt, l6_eq, tI_m133, tI_m226, i_le, i_lt, i_eq, tI_m2, tI_m1, tI_0, tI_1, tI_16, tI_50, tI_256] at c10); (try simp only [l_int, tL_0, tL_1, tL_2, tL_4, tL_5, tL_6, tL_7, tL_9, tL_10, tL_12, tL_15, tL_30, tL_40, tL_60, tL_99, tL_255, tL_1023, tL_m1, lc_lt, lc_gt, lc_ge, lc_le, lc_eq, l6_le, l6_lt, l6_eq, tI_m133, tI_m226, i_le, i_lt, i_eq, tI_m2, tI_m1, tI_0, tI_1, tI_16, tI_50, tI_256]); omega)]; exact ⟨rfl, ME.rf⟩⟩
    · skip
      show WS layM V 10 X σ 13 [(0, rf V 0), (1, .int b), (2, .int x), (3, .int q)] []
      have hx0 : 0 ≤ x.toInt := by (try simp only [l_int, tL_0, tL_1, tL_2, tL_4, tL_5, tL_6, tL_7, tL_9, tL_10, tL_12, tL_15, tL_30, tL_40, tL_60, tL_99, tL_255, tL_1023, tL_m1, lc_lt, lc_gt, lc_ge, lc_le, lc_eq, l6_le, l6_lt, l6_eq, tI_m133, tI_m226, i_le, i_lt, i_eq, tI_m2, tI_m1, tI_0, tI_1, tI_16, tI_50, tI_256] at hb3); (try simp only [l_int, tL_0, tL_1, tL_2, tL_4, tL_5, tL_6, tL_7, tL_9, tL_10, tL_12, tL_15, tL_30, tL_40, tL_60, tL_99, tL_255, tL_1023, tL_m1, lc_lt, lc_gt, lc_ge, lc_le, lc_eq, l6_le, l6_lt, l6_eq, tI_m133, tI_m226, i_le, i_lt, i_eq, tI_m2, tI_m1, tI_0, tI_1, tI_16, tI_50, tI_256] at c10); (try simp only [l_int, tL_0, tL_1, tL_2, tL_4, tL_5, tL_6, tL_7, tL_9, tL_10, tL_12, tL_15, tL_30, tL_40, tL_60, tL_99, tL_255, tL_1023, tL_m1, lc_lt, lc_gt, lc_ge, lc_le, lc_eq, l6_le, l6_lt, l6_eq, tI_m133, tI_m226, i_le, i_lt, i_eq, tI_m2, tI_m1, tI_0, tI_1, tI_16, tI_50, tI_256]); omega
      have hxn := nn_int hx0
      have hxr := i_rng x
      have hxd : (nI (nn x / 16)).toInt = ((nn x / 16 : Nat) : Int) := nI_c (by omega)
      refine WS.iload_n hx dX11_changed_13 rfl 2 rfl ?_
      refine WS.bipush (v := 16) hx dX11_changed_14 (by decide) ?_
      refine WS.idiv hx dX11_changed_16 (by decide) ?_
      refine WS.as rfl rfl (congrArg (fun z => Value.int z :: _) (show x / 16 = nI (nn x / 16) from x_dv hx0 16 (by decide) (by decide))) ?_
      skip
      refine WS.i2l hx dX11_changed_17 ?_
      refine WS.lconst (v := 1) hx dX11_changed_18 rfl ?_
      refine WS.ldc2 (v := 40) hx lc11_293 dX11_changed_19 ?_
      refine WS.callSi (st := []) [.long (Int32.toInt64 (nI (nn x / 16))), .long 1, .long 40] hx (c_X11_within V (d + 5) σ (Int32.toInt64 (nI (nn x / 16))) 1 40) okX11_within lm11_100 rfl rfl (Nat.le_of_ble_eq_true rfl) dX11_changed_22 (fun v4 σ5 h6 => ?_)
      rcases h6 with ⟨rfl, rfl, hb22⟩ | ⟨rfl, rfl, hb22⟩
      · skip
        show WS layM V 10 X σ 25 [(0, rf V 0), (1, .int b), (2, .int x), (3, .int q)] [.int 1]
        refine WS.if_eq (tgt := 38) hx dX11_changed_25 (by decide) (fun h => absurd h (by decide)) (fun _ => ?_)
        refine WS.iload_n hx dX11_changed_28 rfl 3 rfl ?_
        refine WS.i2l hx dX11_changed_29 ?_
        refine WS.lconst (v := 0) hx dX11_changed_30 rfl ?_
        refine WS.lconst (v := 1) hx dX11_changed_31 rfl ?_
        refine WS.callSi (st := []) [.long (Int32.toInt64 q), .long 0, .long 1] hx (c_X11_within V (d + 5) σ (Int32.toInt64 q) 0 1) okX11_within lm11_100 rfl rfl (Nat.le_of_ble_eq_true rfl) dX11_changed_32 (fun v7 σ8 h9 => ?_)
        rcases h9 with ⟨rfl, rfl, hb32⟩ | ⟨rfl, rfl, hb32⟩
        · skip
          show WS layM V 10 X σ 35 [(0, rf V 0), (1, .int b), (2, .int x), (3, .int q)] [.int 1]
          have hq9 : 0 ≤ q.toInt ∧ q.toInt ≤ 1 := by have h9 := hb32; simp only [l_int, tL_0, tL_1] at h9; exact h9
          have hA : (0 ≤ b.toInt ∧ b.toInt < n ∧ 1 ≤ x.toInt / 16 ∧ x.toInt / 16 ≤ 40 ∧ 0 ≤ q.toInt ∧ q.toInt ≤ 1) := by
            (try simp only [l_int, tL_0, tL_1, tL_2, tL_4, tL_5, tL_6, tL_7, tL_9, tL_10, tL_12, tL_15, tL_30, tL_40, tL_60, tL_99, tL_255, tL_1023, tL_m1, lc_lt, lc_gt, lc_ge, lc_le, lc_eq, l6_le, l6_lt, l6_eq, tI_m133, tI_m226, i_le, i_lt, i_eq, tI_m2, tI_m1, tI_0, tI_1, tI_16, tI_50, tI_256] at hb3); (try simp only [l_int, tL_0, tL_1, tL_2, tL_4, tL_5, tL_6, tL_7, tL_9, tL_10, tL_12, tL_15, tL_30, tL_40, tL_60, tL_99, tL_255, tL_1023, tL_m1, lc_lt, lc_gt, lc_ge, lc_le, lc_eq, l6_le, l6_lt, l6_eq, tI_m133, tI_m226, i_le, i_lt, i_eq, tI_m2, tI_m1, tI_0, tI_1, tI_16, tI_50, tI_256] at c10); (try simp only [l_int, tL_0, tL_1, tL_2, tL_4, tL_5, tL_6, tL_7, tL_9, tL_10, tL_12, tL_15, tL_30, tL_40, tL_60, tL_99, tL_255, tL_1023, tL_m1, lc_lt, lc_gt, lc_ge, lc_le, lc_eq, l6_le, l6_lt, l6_eq, tI_m133, tI_m226, i_le, i_lt, i_eq, tI_m2, tI_m1, tI_0, tI_1, tI_16, tI_50, tI_256] at hb22); omega
          have hkn : nn b < n := by omega
          refine WS.if_ne (tgt := 40) hx dX11_changed_35 (by decide) (fun _ => ?_) (fun h => absurd h (by decide))
          refine WS.iload_n hx dX11_changed_40 rfl 2 rfl ?_
          refine WS.bipush (v := 16) hx dX11_changed_41 (by decide) ?_
          refine WS.idiv hx dX11_changed_43 (by decide) ?_
          refine WS.as rfl rfl (congrArg (fun z => Value.int z :: _) (show x / 16 = nI (nn x / 16) from x_dv hx0 16 (by decide) (by decide))) ?_
          skip
          refine WS.istore (lo' := [(4, .int (nI (nn x / 16))), (0, rf V 0), (1, .int b), (2, .int x), (3, .int q)]) hx dX11_changed_44 (by decide) rfl ?_
          refine WS.iload_n hx dX11_changed_46 rfl 3 rfl ?_
          refine WS.bipush (v := 16) hx dX11_changed_47 (by decide) ?_
          refine WS.irem hx dX11_changed_49 (by decide) ?_
          refine WS.as rfl rfl (congrArg (fun z => Value.int z :: _) (show x - x / 16 * 16 = nI (nn x % 16) from x_rm hx0 16 (by decide) (by decide))) ?_
          skip
          refine WS.istore (lo' := [(5, .int (nI (nn x % 16))), (4, .int (nI (nn x / 16))), (0, rf V 0), (1, .int b), (2, .int x), (3, .int q)]) hx dX11_changed_50 (by decide) rfl ?_
          refine WS.aload_n hx dX11_changed_52 rfl 2 rfl ?_
          refine WS.iload_n hx dX11_changed_53 rfl 3 rfl ?_
          refine WS.as rfl rfl (congrArg (fun z => Value.int z :: _) (show b = nI (nn b) from (nI_nn hb0).symm)) ?_
          skip
          refine WS.iload hx dX11_changed_54 1 rfl ?_
          refine WS.iload hx dX11_changed_56 0 rfl ?_
          refine WS.callVi (st := []) [.int (nI (nn b)), .int (nI (nn x / 16)), .int (nI (nn x % 16))] hx (c_X11_comesTo V d σ κ n hM cs T lw hL (nn b) hkn (nn x / 16) (by omega) (nn x % 16) (by omega)) okX11_comesTo lm11_295 rfl rfl rfl rfl (Nat.le_of_ble_eq_true rfl) dX11_changed_58 (fun v10 σ11 h12 => ?_)
          rcases h12 with ⟨hb58, rfl, me58⟩ | ⟨hb58, rfl, me58⟩
          · skip
            show WS layM V 10 X σ11 61 [(5, .int (nI (nn x % 16))), (4, .int (nI (nn x / 16))), (0, rf V 0), (1, .int b), (2, .int x), (3, .int q)] [.int 1]
            refine WS.if_eq (tgt := 76) hx dX11_changed_61 (by decide) (fun h => absurd h (by decide)) (fun _ => ?_)
            refine WS.iload_n hx dX11_changed_64 rfl 5 rfl ?_
            refine WS.if_ne (tgt := 72) hx dX11_changed_65 (by decide) (fun c65 => ?_) (fun c65 => ?_)
            · skip
              show WS layM V 10 X σ11 72 [(5, .int (nI (nn x % 16))), (4, .int (nI (nn x / 16))), (0, rf V 0), (1, .int b), (2, .int x), (3, .int q)] []
              refine WS.sipush (v := 256) hx dX11_changed_72 (by decide) ?_
              exact WS.iret hx he dX11_changed_75 ⟨_, rfl, by (try dsimp only); rw [if_neg (fun h => h hA), show lcF (wdM κ n lw) (nn b) (nn x / 16) (nn x % 16) = 256 from if_pos hb58, if_neg (by decide)]; rw [if_pos (show q.toInt = 1 by have h9 : ¬ q.toInt = 0 := fun h => c65 (i_eq.mpr h); omega)]; exact ⟨rfl, me58⟩⟩
            · skip
              show WS layM V 10 X σ11 68 [(5, .int (nI (nn x % 16))), (4, .int (nI (nn x / 16))), (0, rf V 0), (1, .int b), (2, .int x), (3, .int q)] []
              refine WS.iconst (v := 0) hx dX11_changed_68 (by decide) ?_
              refine WS.goto (tgt := 75) hx dX11_changed_69 (by decide) ?_
              exact WS.iret hx he dX11_changed_75 ⟨_, rfl, by (try dsimp only); rw [if_neg (fun h => h hA), show lcF (wdM κ n lw) (nn b) (nn x / 16) (nn x % 16) = 256 from if_pos hb58, if_neg (by decide)]; rw [if_neg (show ¬ q.toInt = 1 by rw [c65]; decide), if_pos rfl]; exact ⟨rfl, me58⟩⟩
          · skip
            show WS layM V 10 X σ11 61 [(5, .int (nI (nn x % 16))), (4, .int (nI (nn x / 16))), (0, rf V 0), (1, .int b), (2, .int x), (3, .int q)] [.int 0]
            refine WS.if_eq (tgt := 76) hx dX11_changed_61 (by decide) (fun _ => ?_) (fun h => absurd (by decide) h)
            refine WS.iconst (v := 0) hx dX11_changed_76 (by decide) ?_
            refine WS.istore (lo' := [(6, .int 0), (5, .int (nI (nn x % 16))), (4, .int (nI (nn x / 16))), (0, rf V 0), (1, .int b), (2, .int x), (3, .int q)]) hx dX11_changed_77 (by decide) rfl ?_
            refine WS.iload hx dX11_changed_79 0 rfl ?_
            refine WS.bipush (v := 16) hx dX11_changed_81 (by decide) ?_
            refine WS.icmp_ge (tgt := 192) hx dX11_changed_83 (by decide) (fun h => absurd h (by decide)) (fun _ => ?_)
            refine WS.aload_n hx dX11_changed_86 rfl 3 rfl ?_
            refine WS.getR hx okX11 lf11_9 rfl rfl dX11_changed_87 ?_
            refine WS.bipush (v := 50) hx dX11_changed_90 (by decide) ?_
            refine WS.iload hx dX11_changed_92 0 rfl ?_
            refine WS.iadd hx dX11_changed_94 ?_
            refine WS.as rfl rfl (congrArg (fun z => Value.int z :: _) (show (50 + 0 : Int32) = 50 from by decide)) ?_
            refine WS.iald hx rfl (vp_dec (by decide)) dX11_changed_95 ?_
            refine WS.as rfl rfl (congrArg (fun z => Value.int z :: _) (show σ11.1 1 50 = nI (Lc κ 0) from by rw [show (50 : Nat) = 50 + 0 from rfl, (hM.me me58).L (by decide)]; exact (hM.q.L (by decide)).1)) ?_
            skip
            refine WS.istore (lo' := [(7, .int (nI (Lc κ 0))), (6, .int 0), (5, .int (nI (nn x % 16))), (4, .int (nI (nn x / 16))), (0, rf V 0), (1, .int b), (2, .int x), (3, .int q)]) hx dX11_changed_96 (by decide) rfl ?_
            refine WS.iconst (v := 0) hx dX11_changed_98 (by decide) ?_
            refine WS.istore (lo' := [(8, .int 0), (7, .int (nI (Lc κ 0))), (6, .int 0), (5, .int (nI (nn x % 16))), (4, .int (nI (nn x / 16))), (0, rf V 0), (1, .int b), (2, .int x), (3, .int q)]) hx dX11_changed_99 (by decide) rfl ?_
            exact WS.los [0, 1, 2, 3, 4, 5, 6, 7, 8] rfl (lp_X11_changed V d σ κ n hM cs T lw hL (nn b) hkn (nn x / 16) (by omega) (nn x % 16) (by omega) b x q (nI_nn hb0).symm _ _ X hx he (fun τ h9 => by (try dsimp only); rw [if_neg (fun h => h hA)]; exact cg_post ⟨hA.2.2.2.2.1, hA.2.2.2.2.2⟩ hb58 h9) 0 0 _ (by decide) (by decide) me58 rfl)
        · skip
          show WS layM V 10 X σ 35 [(0, rf V 0), (1, .int b), (2, .int x), (3, .int q)] [.int 0]
          refine WS.if_ne (tgt := 40) hx dX11_changed_35 (by decide) (fun h => absurd (by decide) h) (fun _ => ?_)
          refine WS.iconst (v := (-1)) hx dX11_changed_38 (by decide) ?_
          exact WS.iret hx he dX11_changed_39 ⟨_, rfl, by (try dsimp only); rw [if_pos (fun h => by (try simp only [l_int, tL_0, tL_1, tL_2, tL_4, tL_5, tL_6, tL_7, tL_9, tL_10, tL_12, tL_15, tL_30, tL_40, tL_60, tL_99, tL_255, tL_1023, tL_m1, lc_lt, lc_gt, lc_ge, lc_le, lc_eq, l6_le, l6_lt, l6_eq, tI_m133, tI_m226, i_le, i_lt, i_eq, tI_m2, tI_m1, tI_0, tI_1, tI_16, tI_50, tI_256] at hb3); (try simp only [l_int, tL_0, tL_1, tL_2, tL_4, tL_5, tL_6, tL_7, tL_9, tL_10, tL_12, tL_15, tL_30, tL_40, tL_60, tL_99, tL_255, tL_1023, tL_m1, lc_lt, lc_gt, lc_ge, lc_le, lc_eq, l6_le, l6_lt, l6_eq, tI_m133, tI_m226, i_le, i_lt, i_eq, tI_m2, tI_m1, tI_0, tI_1, tI_16, tI_50, tI_256] at c10); (try simp only [l_int, tL_0, tL_1, tL_2, tL_4, tL_5, tL_6, tL_7, tL_9, tL_10, tL_12, tL_15, tL_30, tL_40, tL_60, tL_99, tL_255, tL_1023, tL_m1, lc_lt, lc_gt, lc_ge, lc_le, lc_eq, l6_le, l6_lt, l6_eq, tI_m133, tI_m226, i_le, i_lt, i_eq, tI_m2, tI_m1, tI_0, tI_1, tI_16, tI_50, tI_256] at hb22); (try simp only [l_int, tL_0, tL_1, tL_2, tL_4, tL_5, tL_6, tL_7, tL_9, tL_10, tL_12, tL_15, tL_30, tL_40, tL_60, tL_99, tL_255, tL_1023, tL_m1, lc_lt, lc_gt, lc_ge, lc_le, lc_eq, l6_le, l6_lt, l6_eq, tI_m133, tI_m226, i_le, i_lt, i_eq, tI_m2, tI_m1, tI_0, tI_1, tI_16, tI_50, tI_256] at hb32); (try simp only [l_int, tL_0, tL_1, tL_2, tL_4, tL_5, tL_6, tL_7, tL_9, tL_10, tL_12, tL_15, tL_30, tL_40, tL_60, tL_99, tL_255, tL_1023, tL_m1, lc_lt, lc_gt, lc_ge, lc_le, lc_eq, l6_le, l6_lt, l6_eq, tI_m133, tI_m226, i_le, i_lt, i_eq, tI_m2, tI_m1, tI_0, tI_1, tI_16, tI_50, tI_256]); omega)]; exact ⟨rfl, ME.rf⟩⟩
      · skip
        show WS layM V 10 X σ 25 [(0, rf V 0), (1, .int b), (2, .int x), (3, .int q)] [.int 0]
        refine WS.if_eq (tgt := 38) hx dX11_changed_25 (by decide) (fun _ => ?_) (fun h => absurd (by decide) h)
        refine WS.iconst (v := (-1)) hx dX11_changed_38 (by decide) ?_
        exact WS.iret hx he dX11_changed_39 ⟨_, rfl, by (try dsimp only); rw [if_pos (fun h => by (try simp only [l_int, tL_0, tL_1, tL_2, tL_4, tL_5, tL_6, tL_7, tL_9, tL_10, tL_12, tL_15, tL_30, tL_40, tL_60, tL_99, tL_255, tL_1023, tL_m1, lc_lt, lc_gt, lc_ge, lc_le, lc_eq, l6_le, l6_lt, l6_eq, tI_m133, tI_m226, i_le, i_lt, i_eq, tI_m2, tI_m1, tI_0, tI_1, tI_16, tI_50, tI_256] at hb3); (try simp only [l_int, tL_0, tL_1, tL_2, tL_4, tL_5, tL_6, tL_7, tL_9, tL_10, tL_12, tL_15, tL_30, tL_40, tL_60, tL_99, tL_255, tL_1023, tL_m1, lc_lt, lc_gt, lc_ge, lc_le, lc_eq, l6_le, l6_lt, l6_eq, tI_m133, tI_m226, i_le, i_lt, i_eq, tI_m2, tI_m1, tI_0, tI_1, tI_16, tI_50, tI_256] at c10); (try simp only [l_int, tL_0, tL_1, tL_2, tL_4, tL_5, tL_6, tL_7, tL_9, tL_10, tL_12, tL_15, tL_30, tL_40, tL_60, tL_99, tL_255, tL_1023, tL_m1, lc_lt, lc_gt, lc_ge, lc_le, lc_eq, l6_le, l6_lt, l6_eq, tI_m133, tI_m226, i_le, i_lt, i_eq, tI_m2, tI_m1, tI_0, tI_1, tI_16, tI_50, tI_256] at hb22); (try simp only [l_int, tL_0, tL_1, tL_2, tL_4, tL_5, tL_6, tL_7, tL_9, tL_10, tL_12, tL_15, tL_30, tL_40, tL_60, tL_99, tL_255, tL_1023, tL_m1, lc_lt, lc_gt, lc_ge, lc_le, lc_eq, l6_le, l6_lt, l6_eq, tI_m133, tI_m226, i_le, i_lt, i_eq, tI_m2, tI_m1, tI_0, tI_1, tI_16, tI_50, tI_256]); omega)]; exact ⟨rfl, ME.rf⟩⟩
  · skip
    show WS layM V 10 X σ 6 [(0, rf V 0), (1, .int b), (2, .int x), (3, .int q)] [.int 0]
    refine WS.if_eq (tgt := 38) hx dX11_changed_6 (by decide) (fun _ => ?_) (fun h => absurd (by decide) h)
    refine WS.iconst (v := (-1)) hx dX11_changed_38 (by decide) ?_
    exact WS.iret hx he dX11_changed_39 ⟨_, rfl, by (try dsimp only); rw [if_pos (fun h => by (try simp only [l_int, tL_0, tL_1, tL_2, tL_4, tL_5, tL_6, tL_7, tL_9, tL_10, tL_12, tL_15, tL_30, tL_40, tL_60, tL_99, tL_255, tL_1023, tL_m1, lc_lt, lc_gt, lc_ge, lc_le, lc_eq, l6_le, l6_lt, l6_eq, tI_m133, tI_m226, i_le, i_lt, i_eq, tI_m2, tI_m1, tI_0, tI_1, tI_16, tI_50, tI_256] at hb3); (try simp only [l_int, tL_0, tL_1, tL_2, tL_4, tL_5, tL_6, tL_7, tL_9, tL_10, tL_12, tL_15, tL_30, tL_40, tL_60, tL_99, tL_255, tL_1023, tL_m1, lc_lt, lc_gt, lc_ge, lc_le, lc_eq, l6_le, l6_lt, l6_eq, tI_m133, tI_m226, i_le, i_lt, i_eq, tI_m2, tI_m1, tI_0, tI_1, tI_16, tI_50, tI_256]); omega)]; exact ⟨rfl, ME.rf⟩⟩

def TG (σ τ : Sg) (k x : Nat) : Prop := (∀ q, q ≠ 12 → q ≠ 13 → q ≠ 14 → τ.1 q = σ.1 q) ∧ τ.2 = σ.2 ∧ τ.1 14 k = nI x ∧ (∀ j, j ≠ k → τ.1 14 j = σ.1 14 j) ∧ x < 16
theorem TG.me {σ τ : Sg} {k x : Nat} (h : TG σ τ k x) : ME σ τ := ⟨fun q hq => h.1 q (by unfold msc at hq; omega) (by unfold msc at hq; omega) (by unfold msc at hq; omega), fun j _ _ _ => by rw [h.1 0 (by decide) (by decide) (by decide)], h.2.1⟩
theorem TG.mt {σ τ : Sg} {n k x : Nat} {s : Ms} (h : TG σ τ k x) (hT : MT σ n s) : MT τ n (fun j => if j = k then x else s.1 j, s.2) := by
  obtain ⟨h1, h2, h3, h4, h5⟩ := h
  obtain ⟨t1, t2, t3, t4, t5⟩ := hT
  have e0 := h1 0 (by decide) (by decide) (by decide)
  refine ⟨fun j hj => ?_, by rw [e0]; exact t2, t3, by rw [e0]; exact t4, t5⟩
  rw [h1 15 (by decide) (by decide) (by decide)]
  by_cases e : j = k
  · subst e
    simp only [if_true]
    exact ⟨h3, h5, (t1 j hj).2.2⟩
  · simp only [if_neg e]
    rw [h4 j e]
    exact t1 j hj
theorem TG.st {σ τ : Sg} {k x y : Nat} (h : TG σ τ k x) (hy : y < 16) : TG σ (stI τ 14 k (nI y)) k y := by
  obtain ⟨h1, h2, h3, h4, h5⟩ := h
  refine ⟨fun q a b c => by rw [stI_o _ _ _ _ c]; exact h1 q a b c, h2, stI_1 _ _ _ _, fun j hj => by rw [stI_k _ _ _ _ hj]; exact h4 j hj, hy⟩
theorem MT.cg {μ : Sg} {n : Nat} {s s' : Ms} (h : MT μ n s) (e1 : ∀ k, k < n → s'.1 k = s.1 k ∧ s'.2.1 k = s.2.1 k) (e2 : s'.2.2 = s.2.2) : MT μ n s' := by
  obtain ⟨t1, t2, t3, t4, t5⟩ := h
  refine ⟨fun k hk => by rw [(e1 k hk).1, (e1 k hk).2]; exact t1 k hk, by rw [e2]; exact t2, by rw [e2]; exact t3, by rw [e2]; exact t4, by rw [e2]; exact t5⟩
theorem Lc_lt {κ : Sg} {n : Nat} (hQ : QI κ n) : ∀ a, a < 16 → Lc κ a < 16 := fun a ha => (hQ.L ha).2
set_option maxHeartbeats 1000000 in
theorem lp_X11_thinks (V : Vt) (d : Nat) (σ κ : Sg) (n : Nat) (hM : MR κ σ n) (k : Nat) (hk : k < n) (a : Nat) (ha : a < 16) (v : Int32) (N : Nat) (hN : N ≤ 9) (hv : v.toInt = N) (P : Sg → Prop) (X : Xt) (hx : Ok V RX11 cX11_thinks 4 (d + 4) X) (he : En layM V none (Rv P) X) (hP : ∀ τ, TG σ τ k (itr (Lc κ) N a) → P τ) : ∀ (i : Nat) (τ : Sg), i ≤ N → TG σ τ k (itr (Lc κ) i a) → WS layM V 4 X τ 21 [(3, .int (nI i)), (2, .int v), (0, rf V 0), (1, .int (nI k))] [] := by
  have hn := hM.n
  intro i
  induction hm : N - i using Nat.strongRecOn generalizing i with
  | _ m9 ih =>
    intro τ hi hG
    have hM9 := hM.me hG.me
    have hiI : (nI i).toInt = (i : Int) := nI_c (by omega)
    have hl := hG.2.2.2.2
    have hL9 := hM.q.L hl
    refine WS.iload_n hx dX11_thinks_21 rfl 0 rfl ?_
    refine WS.iload_n hx dX11_thinks_22 rfl 1 rfl ?_
    refine WS.icmp_ge (tgt := 52) hx dX11_thinks_23 (by decide) (fun c23 => ?_) (fun c23 => ?_)
    · skip
      show WS layM V 4 X τ 52 [(3, .int (nI i)), (2, .int v), (0, rf V 0), (1, .int (nI k))] []
      exact WS.vret hx he dX11_thinks_52 ⟨rfl, hP τ (by rw [show N = i by (try simp only [l_int, tL_0, tL_1, tL_2, tL_4, tL_5, tL_6, tL_7, tL_9, tL_10, tL_12, tL_15, tL_30, tL_40, tL_60, tL_99, tL_255, tL_1023, tL_m1, lc_lt, lc_gt, lc_ge, lc_le, lc_eq, l6_le, l6_lt, l6_eq, tI_m133, tI_m226, i_le, i_lt, i_eq, tI_0, tI_1, tI_50] at c23); (try simp only [l_int, tL_0, tL_1, tL_2, tL_4, tL_5, tL_6, tL_7, tL_9, tL_10, tL_12, tL_15, tL_30, tL_40, tL_60, tL_99, tL_255, tL_1023, tL_m1, lc_lt, lc_gt, lc_ge, lc_le, lc_eq, l6_le, l6_lt, l6_eq, tI_m133, tI_m226, i_le, i_lt, i_eq, tI_0, tI_1, tI_50]); omega]; exact hG)⟩
    · skip
      show WS layM V 4 X τ 26 [(3, .int (nI i)), (2, .int v), (0, rf V 0), (1, .int (nI k))] []
      refine WS.aload_n hx dX11_thinks_26 rfl 2 rfl ?_
      refine WS.getR hx okX11 lf11_49 rfl rfl dX11_thinks_27 ?_
      refine WS.iload_n hx dX11_thinks_30 rfl 3 rfl ?_
      refine WS.aload_n hx dX11_thinks_31 rfl 2 rfl ?_
      refine WS.getR hx okX11 lf11_9 rfl rfl dX11_thinks_32 ?_
      refine WS.bipush (v := 50) hx dX11_thinks_35 (by decide) ?_
      refine WS.aload_n hx dX11_thinks_37 rfl 2 rfl ?_
      refine WS.getR hx okX11 lf11_49 rfl rfl dX11_thinks_38 ?_
      refine WS.iload_n hx dX11_thinks_41 rfl 3 rfl ?_
      refine WS.iald hx rfl (vp_in_nI (by omega) (by decide)) dX11_thinks_42 ?_
      refine WS.as rfl rfl (congrArg (fun z => Value.int z :: _) (show τ.1 14 (nn (nI k)) = nI (itr (Lc κ) i a) from by rw [nn_nI (by omega)]; exact hG.2.2.1)) ?_
      skip
      refine WS.iadd hx dX11_thinks_43 ?_
      refine WS.as rfl rfl (congrArg (fun z => Value.int z :: _) (show 50 + (nI (itr (Lc κ) i a)) = nI (50 + itr (Lc κ) i a) from nI_add 50 _)) ?_
      skip
      refine WS.iald hx rfl (vp_in_nI (by omega) (by decide)) dX11_thinks_44 ?_
      refine WS.as rfl rfl (congrArg (fun z => Value.int z :: _) (show τ.1 1 (nn (nI (50 + itr (Lc κ) i a))) = nI (itr (Lc κ) (i + 1) a) from by rw [nn_nI (by omega), itr_s, hM9.L hl]; exact hL9.1)) ?_
      skip
      refine WS.iast hx rfl (vp_in_nI (by omega) (by decide)) dX11_thinks_45 ?_
      refine WS.iinc (v := nI (i + 1)) (lo' := [(3, .int (nI (i + 1))), (2, .int v), (0, rf V 0), (1, .int (nI k))]) hx dX11_thinks_46 0 rfl (nI_1 i) (by decide) rfl ?_
      refine WS.goto (tgt := 21) hx dX11_thinks_49 (by decide) ?_
      (try rw [nI_clamp (show k < 2 ^ 31 by omega)])
      exact WS.los [0, 1, 2, 3] rfl (ih _ (by (try simp only [l_int, tL_0, tL_1, tL_2, tL_4, tL_5, tL_6, tL_7, tL_9, tL_10, tL_12, tL_15, tL_30, tL_40, tL_60, tL_99, tL_255, tL_1023, tL_m1, lc_lt, lc_gt, lc_ge, lc_le, lc_eq, l6_le, l6_lt, l6_eq, tI_m133, tI_m226, i_le, i_lt, i_eq, tI_0, tI_1, tI_50] at c23); (try simp only [l_int, tL_0, tL_1, tL_2, tL_4, tL_5, tL_6, tL_7, tL_9, tL_10, tL_12, tL_15, tL_30, tL_40, tL_60, tL_99, tL_255, tL_1023, tL_m1, lc_lt, lc_gt, lc_ge, lc_le, lc_eq, l6_le, l6_lt, l6_eq, tI_m133, tI_m226, i_le, i_lt, i_eq, tI_0, tI_1, tI_50]); omega) (i + 1) rfl _ (by (try simp only [l_int, tL_0, tL_1, tL_2, tL_4, tL_5, tL_6, tL_7, tL_9, tL_10, tL_12, tL_15, tL_30, tL_40, tL_60, tL_99, tL_255, tL_1023, tL_m1, lc_lt, lc_gt, lc_ge, lc_le, lc_eq, l6_le, l6_lt, l6_eq, tI_m133, tI_m226, i_le, i_lt, i_eq, tI_0, tI_1, tI_50] at c23); (try simp only [l_int, tL_0, tL_1, tL_2, tL_4, tL_5, tL_6, tL_7, tL_9, tL_10, tL_12, tL_15, tL_30, tL_40, tL_60, tL_99, tL_255, tL_1023, tL_m1, lc_lt, lc_gt, lc_ge, lc_le, lc_eq, l6_le, l6_lt, l6_eq, tI_m133, tI_m226, i_le, i_lt, i_eq, tI_0, tI_1, tI_50]); omega) (hG.st (by rw [itr_s]; exact hL9.2)))
theorem MT.ne {σ τ : Sg} {n : Nat} {s : Ms} (h : MT σ n s) (e : ∀ q, q ≠ 12 → q ≠ 13 → τ.1 q = σ.1 q) : MT τ n s := by
  unfold MT
  rw [e 14 (by decide) (by decide), e 15 (by decide) (by decide), e 0 (by decide) (by decide)]
  exact h
set_option maxHeartbeats 1000000 in
theorem c_X11_thinks (V : Vt) (d : Nat) (σ : Sg) (κ : Sg) (n : Nat) (hM : MR κ σ n) (s : Ms) (hT : MT σ n s) (k : Nat) (hk : k < n) (cs : Nat → Int32) (T : Nat) (lw : Lw) (hL : ML σ cs T lw) : CT layM V mX11_thinks (d + 4) [rf V 0, .int (nI k)] σ (Rv fun σ' => ME σ σ' ∧ MT σ' n (fun j => if j = k then msP (wdM κ n lw) s k else s.1 j, s.2)) := by
  refine CT.of (own := RX11) rfl (by decide) (Nat.le_of_ble_eq_true rfl) (fun X (hx : Ok V RX11 cX11_thinks 4 (d + 4) X) (he : En layM V none (Rv fun σ' => ME σ σ' ∧ MT σ' n (fun j => if j = k then msP (wdM κ n lw) s k else s.1 j, s.2)) X) => ?_)
  change WS layM V 4 X σ 0 [(0, rf V 0), (1, .int (nI k))] []
  have hn := hM.n
  have hmk := hT.1 k hk
  have hbr := hM.q.2.2.1 k (by omega)
  refine WS.aload_n hx dX11_thinks_0 rfl 0 rfl ?_
  refine WS.getR hx okX11 lf11_52 rfl rfl dX11_thinks_1 ?_
  refine WS.iload_n hx dX11_thinks_4 rfl 1 rfl ?_
  refine WS.zald hx rfl (vp_in_nI (by omega) (by decide)) dX11_thinks_5 ?_
  refine WS.as rfl rfl (congrArg (fun z => Value.int z :: _) (show σ.1 15 (nn (nI k)) = bI (s.2.1 k) from by rw [nn_nI (by omega)]; exact hmk.2.2)) ?_
  skip
  refine WS.if_eq (tgt := 13) hx dX11_thinks_6 (by decide) (fun c6 => ?_) (fun c6 => ?_)
  · skip
    show WS layM V 4 X σ 13 [(0, rf V 0), (1, .int (nI k))] []
    refine WS.aload_n hx dX11_thinks_13 rfl 0 rfl ?_
    refine WS.iload_n hx dX11_thinks_14 rfl 1 rfl ?_
    refine WS.callVi (st := []) [.int (nI k)] hx (c_X11_goesOn V d σ κ n hM s hT k hk cs T lw hL) okX11_goesOn lm11_225 rfl rfl rfl rfl (Nat.le_of_ble_eq_true rfl) dX11_thinks_15 (fun v1 σ2 h3 => ?_)
    obtain ⟨hv15, ne15, ns15⟩ := h3
    show WS layM V 4 X σ2 18 [(0, rf V 0), (1, .int (nI k))] [.int v1]
    refine WS.istore_n (lo' := [(2, .int v1), (0, rf V 0), (1, .int (nI k))]) hx dX11_thinks_18 rfl (by decide) rfl ?_
    refine WS.iconst (v := 0) hx dX11_thinks_19 (by decide) ?_
    refine WS.istore_n (lo' := [(3, .int 0), (2, .int v1), (0, rf V 0), (1, .int (nI k))]) hx dX11_thinks_20 rfl (by decide) rfl ?_
    have hb9 : s.2.1 k = false := by
      cases h9 : s.2.1 k with
      | false => rfl
      | true => rw [h9] at c6; exact absurd c6 (by decide)
    have hr9 := lwN_r (lw := lw) (b := nI (nn (κ.1 11 k))) (a := nI (s.1 k)) (w := κ.1 17 (s.1 k)) (k := nI k) (o := nI s.2.2.2) (y := nI s.2.2.1) (by rw [nI_nn hbr.1]; exact hbr)
    rw [hv15] at hr9
    have hr8 := nn_int hr9.1
    have hr7 : v1.toInt ≤ 9 := hr9.2
    have hm9 : msP (wdM κ n lw) s k = itr (Lc κ) (nn v1) (s.1 k) := by
      rw [← hv15]
      show itr (Lc κ) (if s.2.1 k = true then 0 else _) (s.1 k) = _
      rw [hb9, if_neg (by decide)]
      rfl
    have hME : ME σ σ2 := ⟨fun q hq => ne15 q (by unfold msc at hq; omega) (by unfold msc at hq; omega), fun j _ _ _ => by rw [ne15 0 (by decide) (by decide)], ns15⟩
    exact WS.los [0, 1, 2, 3] rfl (lp_X11_thinks V d σ2 κ n (hM.me hME) k hk (s.1 k) hmk.2.1 _ (nn v1) (by omega) (by omega) _ X hx he (fun τ hG => ⟨hME.tr hG.me, by rw [hm9]; exact hG.mt (MT.ne hT ne15)⟩) 0 σ2 (Nat.zero_le _) ⟨fun _ _ _ _ => rfl, rfl, by rw [ne15 14 (by decide) (by decide)]; exact hmk.1, fun _ _ => rfl, hmk.2.1⟩)
  · skip
    show WS layM V 4 X σ 9 [(0, rf V 0), (1, .int (nI k))] []
    refine WS.iconst (v := 0) hx dX11_thinks_9 (by decide) ?_
    refine WS.goto (tgt := 18) hx dX11_thinks_10 (by decide) ?_
    refine WS.istore_n (lo' := [(2, .int 0), (0, rf V 0), (1, .int (nI k))]) hx dX11_thinks_18 rfl (by decide) rfl ?_
    refine WS.iconst (v := 0) hx dX11_thinks_19 (by decide) ?_
    refine WS.istore_n (lo' := [(3, .int 0), (2, .int 0), (0, rf V 0), (1, .int (nI k))]) hx dX11_thinks_20 rfl (by decide) rfl ?_
    have hb9 : s.2.1 k = true := by
      cases h9 : s.2.1 k with
      | true => rfl
      | false => rw [h9] at c6; exact absurd rfl c6
    have hm9 : msP (wdM κ n lw) s k = itr (Lc κ) 0 (s.1 k) := by
      show itr (Lc κ) (if s.2.1 k = true then 0 else _) (s.1 k) = _
      rw [hb9, if_pos rfl]
    exact WS.los [0, 1, 2, 3] rfl (lp_X11_thinks V d σ κ n hM k hk (s.1 k) hmk.2.1 _ 0 (by decide) (by decide) _ X hx he (fun τ hG => ⟨hG.me, by rw [hm9]; exact hG.mt hT⟩) 0 σ (Nat.zero_le _) ⟨fun _ _ _ _ => rfl, rfl, hmk.1, fun _ _ => rfl, hmk.2.1⟩)
theorem msQ_s {W : Wd} {s : Ms} {i : Nat} {μ : Sg} {n : Nat} (h : MT μ n (fun j => if j = i then msP W (msQ W s i) i else (msQ W s i).1 j, (msQ W s i).2)) : MT μ n (msQ W s (i + 1)) := by
  refine h.cg (fun k hk => ⟨?_, rfl⟩) rfl
  show (if k < i + 1 then msP W s k else s.1 k) = if k = i then msP W (msQ W s i) i else (if k < i then msP W s k else s.1 k)
  by_cases e : k = i
  · subst e
    rw [if_pos (by omega), if_pos rfl]
    unfold msP
    show _ = (cen _ _ _ _ _ _ _ ((if k < k then msP W s k else s.1 k), _)).1
    rw [if_neg (by omega)]
    rfl
  · rw [if_neg e]
    by_cases e2 : k < i
    · rw [if_pos e2, if_pos (by omega)]
    · rw [if_neg e2, if_neg (by omega)]
set_option maxHeartbeats 1000000 in
theorem lp_X11_goesCentury (V : Vt) (d : Nat) (σ κ : Sg) (n : Nat) (hM : MR κ σ n) (s : Ms) (hT : MT σ n s) (cs : Nat → Int32) (T : Nat) (lw : Lw) (hL : ML σ cs T lw) (X : Xt) (hx : Ok V RX11 cX11_goesCentury 2 (d + 5) X) (he : En layM V none (Rv fun σ' => ME σ σ' ∧ MT σ' n (msC (wdM κ n lw) s)) X) : ∀ (i : Nat) (τ : Sg), i ≤ n → ME σ τ → MT τ n (msQ (wdM κ n lw) s i) → WS layM V 2 X τ 2 [(1, .int (nI i)), (0, rf V 0)] [] := by
  have hn := hM.n
  intro i
  induction hm : n - i using Nat.strongRecOn generalizing i with
  | _ m9 ih =>
    intro τ hi hE hQ
    have hM9 := hM.me hE
    have hL9 := hL.me hE
    have hiI : (nI i).toInt = (i : Int) := nI_c (by omega)
    have hnI : (nI n).toInt = (n : Int) := nI_c (by omega)
    have hy9 : τ.1 0 25 = nI s.2.2.1 := hQ.2.1
    have hyI : (nI s.2.2.1).toInt = (s.2.2.1 : Int) := nI_c (by have := hT.2.2.1; omega)
    refine WS.iload_n hx dX11_goesCentury_2 rfl 0 rfl ?_
    refine WS.aload_n hx dX11_goesCentury_3 rfl 1 rfl ?_
    refine WS.getI hx okX11 lf11_97 rfl rfl dX11_goesCentury_4 ?_
    refine WS.as rfl rfl (congrArg (fun z => Value.int z :: _) (show τ.1 0 6 = nI n from hM9.s)) ?_
    skip
    refine WS.icmp_ge (tgt := 21) hx dX11_goesCentury_7 (by decide) (fun c7 => ?_) (fun c7 => ?_)
    · skip
      show WS layM V 2 X τ 21 [(1, .int (nI i)), (0, rf V 0)] []
      refine WS.aload_n hx dX11_goesCentury_21 rfl 1 rfl ?_
      refine WS.aload_n hx dX11_goesCentury_22 rfl 1 rfl ?_
      refine WS.getI hx okX11 lf11_216 rfl rfl dX11_goesCentury_23 ?_
      refine WS.as rfl rfl (congrArg (fun z => Value.int z :: _) (show τ.1 0 25 = nI s.2.2.1 from hy9)) ?_
      skip
      refine WS.bipush (v := 99) hx dX11_goesCentury_26 (by decide) ?_
      refine WS.icmp_ne (tgt := 36) hx dX11_goesCentury_28 (by decide) (fun c28 => ?_) (fun c28 => ?_)
      · skip
        show WS layM V 2 X τ 36 [(1, .int (nI i)), (0, rf V 0)] [rf V 0]
        refine WS.aload_n hx dX11_goesCentury_36 rfl 1 rfl ?_
        refine WS.getI hx okX11 lf11_216 rfl rfl dX11_goesCentury_37 ?_
        refine WS.as rfl rfl (congrArg (fun z => Value.int z :: _) (show τ.1 0 25 = nI s.2.2.1 from hy9)) ?_
        skip
        refine WS.iconst (v := 1) hx dX11_goesCentury_40 (by decide) ?_
        refine WS.iadd hx dX11_goesCentury_41 ?_
        refine WS.as rfl rfl (congrArg (fun z => Value.int z :: _) (show (nI s.2.2.1) + 1 = nI (s.2.2.1 + 1) from nI_1 _)) ?_
        skip
        refine WS.putI hx okX11 lf11_216 rfl rfl rfl rfl dX11_goesCentury_42 ?_
        exact WS.vret hx he dX11_goesCentury_45 ⟨rfl, hE.tr (ME.s0 (by decide)), by
      have hy : (nI s.2.2.1).toInt = (s.2.2.1 : Int) := nI_c (by have := hT.2.2.1; omega)
      have h9 : (nI (s.2.2.1 + 1) : Int32) = nI (min (s.2.2.1 + 1) 99) := by rw [show min (s.2.2.1 + 1) 99 = s.2.2.1 + 1 by (try simp only [l_int, tL_0, tL_1, tL_2, tL_4, tL_5, tL_6, tL_7, tL_9, tL_10, tL_12, tL_15, tL_30, tL_40, tL_60, tL_99, tL_255, tL_1023, tL_m1, lc_lt, lc_gt, lc_ge, lc_le, lc_eq, l6_le, l6_lt, l6_eq, tI_m133, tI_m226, i_le, i_lt, i_eq, tI_0, tI_1, tI_99] at c7); (try simp only [l_int, tL_0, tL_1, tL_2, tL_4, tL_5, tL_6, tL_7, tL_9, tL_10, tL_12, tL_15, tL_30, tL_40, tL_60, tL_99, tL_255, tL_1023, tL_m1, lc_lt, lc_gt, lc_ge, lc_le, lc_eq, l6_le, l6_lt, l6_eq, tI_m133, tI_m226, i_le, i_lt, i_eq, tI_0, tI_1, tI_99] at c28); have := hT.2.2.1; omega]
      rw [h9]
      have hin : i = n := by (try simp only [l_int, tL_0, tL_1, tL_2, tL_4, tL_5, tL_6, tL_7, tL_9, tL_10, tL_12, tL_15, tL_30, tL_40, tL_60, tL_99, tL_255, tL_1023, tL_m1, lc_lt, lc_gt, lc_ge, lc_le, lc_eq, l6_le, l6_lt, l6_eq, tI_m133, tI_m226, i_le, i_lt, i_eq, tI_0, tI_1, tI_99] at c7); (try simp only [l_int, tL_0, tL_1, tL_2, tL_4, tL_5, tL_6, tL_7, tL_9, tL_10, tL_12, tL_15, tL_30, tL_40, tL_60, tL_99, tL_255, tL_1023, tL_m1, lc_lt, lc_gt, lc_ge, lc_le, lc_eq, l6_le, l6_lt, l6_eq, tI_m133, tI_m226, i_le, i_lt, i_eq, tI_0, tI_1, tI_99] at c28); (try simp only [l_int, tL_0, tL_1, tL_2, tL_4, tL_5, tL_6, tL_7, tL_9, tL_10, tL_12, tL_15, tL_30, tL_40, tL_60, tL_99, tL_255, tL_1023, tL_m1, lc_lt, lc_gt, lc_ge, lc_le, lc_eq, l6_le, l6_lt, l6_eq, tI_m133, tI_m226, i_le, i_lt, i_eq, tI_0, tI_1, tI_99]); omega
      subst hin
      exact ⟨fun k hk => by
        have h8 := hQ.1 k hk
        refine ⟨?_, ?_, h8.2.2⟩
        · show τ.1 14 k = nI (msP (wdM κ i lw) s k)
          rw [h8.1]; show nI (if k < i then msP (wdM κ i lw) s k else s.1 k) = _; rw [if_pos hk]
        · have h7 := h8.2.1; show msP (wdM κ i lw) s k < 16; rwa [show (msQ (wdM κ i lw) s i).1 k = msP (wdM κ i lw) s k from if_pos hk] at h7, rfl, by show min (s.2.2.1 + 1) 99 ≤ 99; omega, hQ.2.2.2.1, hQ.2.2.2.2⟩⟩
      · skip
        show WS layM V 2 X τ 31 [(1, .int (nI i)), (0, rf V 0)] [rf V 0]
        refine WS.bipush (v := 99) hx dX11_goesCentury_31 (by decide) ?_
        refine WS.goto (tgt := 42) hx dX11_goesCentury_33 (by decide) ?_
        refine WS.putI hx okX11 lf11_216 rfl rfl rfl rfl dX11_goesCentury_42 ?_
        exact WS.vret hx he dX11_goesCentury_45 ⟨rfl, hE.tr (ME.s0 (by decide)), by
      have hy : (nI s.2.2.1).toInt = (s.2.2.1 : Int) := nI_c (by have := hT.2.2.1; omega)
      have h9 : (99 : Int32) = nI (min (s.2.2.1 + 1) 99) := by rw [show min (s.2.2.1 + 1) 99 = 99 by (try simp only [l_int, tL_0, tL_1, tL_2, tL_4, tL_5, tL_6, tL_7, tL_9, tL_10, tL_12, tL_15, tL_30, tL_40, tL_60, tL_99, tL_255, tL_1023, tL_m1, lc_lt, lc_gt, lc_ge, lc_le, lc_eq, l6_le, l6_lt, l6_eq, tI_m133, tI_m226, i_le, i_lt, i_eq, tI_0, tI_1, tI_99] at c7); (try simp only [l_int, tL_0, tL_1, tL_2, tL_4, tL_5, tL_6, tL_7, tL_9, tL_10, tL_12, tL_15, tL_30, tL_40, tL_60, tL_99, tL_255, tL_1023, tL_m1, lc_lt, lc_gt, lc_ge, lc_le, lc_eq, l6_le, l6_lt, l6_eq, tI_m133, tI_m226, i_le, i_lt, i_eq, tI_0, tI_1, tI_99] at c28); (try simp only [l_int, tL_0, tL_1, tL_2, tL_4, tL_5, tL_6, tL_7, tL_9, tL_10, tL_12, tL_15, tL_30, tL_40, tL_60, tL_99, tL_255, tL_1023, tL_m1, lc_lt, lc_gt, lc_ge, lc_le, lc_eq, l6_le, l6_lt, l6_eq, tI_m133, tI_m226, i_le, i_lt, i_eq, tI_0, tI_1, tI_99]); omega]; rfl
      rw [h9]
      have hin : i = n := by (try simp only [l_int, tL_0, tL_1, tL_2, tL_4, tL_5, tL_6, tL_7, tL_9, tL_10, tL_12, tL_15, tL_30, tL_40, tL_60, tL_99, tL_255, tL_1023, tL_m1, lc_lt, lc_gt, lc_ge, lc_le, lc_eq, l6_le, l6_lt, l6_eq, tI_m133, tI_m226, i_le, i_lt, i_eq, tI_0, tI_1, tI_99] at c7); (try simp only [l_int, tL_0, tL_1, tL_2, tL_4, tL_5, tL_6, tL_7, tL_9, tL_10, tL_12, tL_15, tL_30, tL_40, tL_60, tL_99, tL_255, tL_1023, tL_m1, lc_lt, lc_gt, lc_ge, lc_le, lc_eq, l6_le, l6_lt, l6_eq, tI_m133, tI_m226, i_le, i_lt, i_eq, tI_0, tI_1, tI_99] at c28); (try simp only [l_int, tL_0, tL_1, tL_2, tL_4, tL_5, tL_6, tL_7, tL_9, tL_10, tL_12, tL_15, tL_30, tL_40, tL_60, tL_99, tL_255, tL_1023, tL_m1, lc_lt, lc_gt, lc_ge, lc_le, lc_eq, l6_le, l6_lt, l6_eq, tI_m133, tI_m226, i_le, i_lt, i_eq, tI_0, tI_1, tI_99]); omega
      subst hin
      exact ⟨fun k hk => by
        have h8 := hQ.1 k hk
        refine ⟨?_, ?_, h8.2.2⟩
        · show τ.1 14 k = nI (msP (wdM κ i lw) s k)
          rw [h8.1]; show nI (if k < i then msP (wdM κ i lw) s k else s.1 k) = _; rw [if_pos hk]
        · have h7 := h8.2.1; show msP (wdM κ i lw) s k < 16; rwa [show (msQ (wdM κ i lw) s i).1 k = msP (wdM κ i lw) s k from if_pos hk] at h7, rfl, by show min (s.2.2.1 + 1) 99 ≤ 99; omega, hQ.2.2.2.1, hQ.2.2.2.2⟩⟩
    · skip
      show WS layM V 2 X τ 10 [(1, .int (nI i)), (0, rf V 0)] []
      refine WS.aload_n hx dX11_goesCentury_10 rfl 1 rfl ?_
      refine WS.iload_n hx dX11_goesCentury_11 rfl 0 rfl ?_
      refine WS.callVv (st := []) [.int (nI i)] hx (c_X11_thinks V d τ κ n hM9 (msQ (wdM κ n lw) s i) hQ i (by (try simp only [l_int, tL_0, tL_1, tL_2, tL_4, tL_5, tL_6, tL_7, tL_9, tL_10, tL_12, tL_15, tL_30, tL_40, tL_60, tL_99, tL_255, tL_1023, tL_m1, lc_lt, lc_gt, lc_ge, lc_le, lc_eq, l6_le, l6_lt, l6_eq, tI_m133, tI_m226, i_le, i_lt, i_eq, tI_0, tI_1, tI_99] at c7); (try simp only [l_int, tL_0, tL_1, tL_2, tL_4, tL_5, tL_6, tL_7, tL_9, tL_10, tL_12, tL_15, tL_30, tL_40, tL_60, tL_99, tL_255, tL_1023, tL_m1, lc_lt, lc_gt, lc_ge, lc_le, lc_eq, l6_le, l6_lt, l6_eq, tI_m133, tI_m226, i_le, i_lt, i_eq, tI_0, tI_1, tI_99]); omega) cs T lw hL9) okX11_thinks lm11_228 rfl rfl rfl rfl (Nat.le_of_ble_eq_true rfl) dX11_goesCentury_12 (fun σ2 h3 => ?_)
      obtain ⟨me12, mt12⟩ := h3
      show WS layM V 2 X σ2 15 [(1, .int (nI i)), (0, rf V 0)] []
      refine WS.iinc (v := nI (i + 1)) (lo' := [(1, .int (nI (i + 1))), (0, rf V 0)]) hx dX11_goesCentury_15 0 rfl (nI_1 i) (by decide) rfl ?_
      refine WS.goto (tgt := 2) hx dX11_goesCentury_18 (by decide) ?_
      exact WS.los [0, 1] rfl (ih _ (by (try simp only [l_int, tL_0, tL_1, tL_2, tL_4, tL_5, tL_6, tL_7, tL_9, tL_10, tL_12, tL_15, tL_30, tL_40, tL_60, tL_99, tL_255, tL_1023, tL_m1, lc_lt, lc_gt, lc_ge, lc_le, lc_eq, l6_le, l6_lt, l6_eq, tI_m133, tI_m226, i_le, i_lt, i_eq, tI_0, tI_1, tI_99] at c7); (try simp only [l_int, tL_0, tL_1, tL_2, tL_4, tL_5, tL_6, tL_7, tL_9, tL_10, tL_12, tL_15, tL_30, tL_40, tL_60, tL_99, tL_255, tL_1023, tL_m1, lc_lt, lc_gt, lc_ge, lc_le, lc_eq, l6_le, l6_lt, l6_eq, tI_m133, tI_m226, i_le, i_lt, i_eq, tI_0, tI_1, tI_99]); omega) (i + 1) rfl _ (by (try simp only [l_int, tL_0, tL_1, tL_2, tL_4, tL_5, tL_6, tL_7, tL_9, tL_10, tL_12, tL_15, tL_30, tL_40, tL_60, tL_99, tL_255, tL_1023, tL_m1, lc_lt, lc_gt, lc_ge, lc_le, lc_eq, l6_le, l6_lt, l6_eq, tI_m133, tI_m226, i_le, i_lt, i_eq, tI_0, tI_1, tI_99] at c7); (try simp only [l_int, tL_0, tL_1, tL_2, tL_4, tL_5, tL_6, tL_7, tL_9, tL_10, tL_12, tL_15, tL_30, tL_40, tL_60, tL_99, tL_255, tL_1023, tL_m1, lc_lt, lc_gt, lc_ge, lc_le, lc_eq, l6_le, l6_lt, l6_eq, tI_m133, tI_m226, i_le, i_lt, i_eq, tI_0, tI_1, tI_99]); omega) (hE.tr me12) (msQ_s mt12))
set_option maxHeartbeats 1000000 in
theorem c_X11_goesCentury (V : Vt) (d : Nat) (σ : Sg) (κ : Sg) (n : Nat) (hM : MR κ σ n) (s : Ms) (hT : MT σ n s) (cs : Nat → Int32) (T : Nat) (lw : Lw) (hL : ML σ cs T lw) : CT layM V mX11_goesCentury (d + 5) [rf V 0] σ (Rv fun σ' => ME σ σ' ∧ MT σ' n (msC (wdM κ n lw) s)) := by
  refine CT.of (own := RX11) rfl (by decide) (Nat.le_of_ble_eq_true rfl) (fun X (hx : Ok V RX11 cX11_goesCentury 2 (d + 5) X) (he : En layM V none (Rv fun σ' => ME σ σ' ∧ MT σ' n (msC (wdM κ n lw) s)) X) => ?_)
  change WS layM V 2 X σ 0 [(0, rf V 0)] []
  refine WS.iconst (v := 0) hx dX11_goesCentury_0 (by decide) ?_
  refine WS.istore_n (lo' := [(1, .int 0), (0, rf V 0)]) hx dX11_goesCentury_1 rfl (by decide) rfl ?_
  exact WS.los [0, 1] rfl (lp_X11_goesCentury V d σ κ n hM s hT cs T lw hL X hx he 0 σ (Nat.zero_le _) ME.rf (hT.cg (fun k hk => ⟨by show (if k < 0 then msP (wdM κ n lw) s k else s.1 k) = s.1 k; rw [if_neg (Nat.not_lt_zero k)], rfl⟩) rfl))
theorem msR_s (W : Wd) : ∀ (u : Nat) (s : Ms), msR W (u + 1) s = msC W (msR W u s)
  | 0, _ => rfl
  | u + 1, s => by
    show msR W (u + 1) (msC W s) = msC W (msR W u (msC W s))
    exact msR_s W u (msC W s)
theorem cn_ms (W : Wd) (s : Ms) (k : Nat) (h1 : s.2.1 k = W.2.2.2.2.2.2.1 k) (h2 : s.2.2.2 = W.2.2.2.2.2.1) : W.cn k (W.bd k) (s.1 k, s.2.2.1) = ((msC W s).1 k, (msC W s).2.2.1) := by
  unfold Wd.cn
  rw [← h1, ← h2]
  rfl
theorem msR_rep (W : Wd) : ∀ (u : Nat) (s : Ms) (k : Nat), s.2.1 k = W.2.2.2.2.2.2.1 k → s.2.2.2 = W.2.2.2.2.2.1 → rep (W.cn k (W.bd k)) u (s.1 k, s.2.2.1) = ((msR W u s).1 k, (msR W u s).2.2.1)
  | 0, s, k, _, _ => rfl
  | u + 1, s, k, h1, h2 => by
    unfold rep
    rw [cn_ms W s k h1 h2]
    exact msR_rep W u (msC W s) k h1 h2
theorem msR_o (W : Wd) : ∀ (u : Nat) (s : Ms), (msR W u s).2.1 = s.2.1 ∧ (msR W u s).2.2.2 = s.2.2.2
  | 0, _ => ⟨rfl, rfl⟩
  | u + 1, s => msR_o W u (msC W s)
set_option maxHeartbeats 1000000 in
theorem lp_X11_goesCenturies (V : Vt) (d : Nat) (σ : Sg) (κ : Sg) (n : Nat) (hM : MR κ σ n) (cs : Nat → Int32) (T : Nat) (lw : Lw) (hL : ML σ cs T lw) (u : Nat) (hu : u ≤ 100) (X : Xt) (hx : Ok V RX11 cX11_goesCenturies 3 (d + 6) X) (he : En layM V none (Rv fun σ' => ME σ σ' ∧ MT σ' n (msR (wdM κ n lw) u (ms0 (wdM κ n lw)))) X) : ∀ (i : Nat) (τ : Sg), i ≤ u → ME σ τ → MT τ n (msR (wdM κ n lw) i (ms0 (wdM κ n lw))) → WS layM V 3 X τ 6 [(2, .int (nI i)), (0, rf V 0), (1, .int (nI u))] [] := by
  intro i
  induction hm : u - i using Nat.strongRecOn generalizing i with
  | _ m9 ih =>
    intro τ hi hE hQ
    have hiI : (nI i).toInt = (i : Int) := nI_c (by omega)
    have huI : (nI u).toInt = (u : Int) := nI_c (by omega)
    refine WS.iload_n hx dX11_goesCenturies_6 rfl 0 rfl ?_
    refine WS.iload_n hx dX11_goesCenturies_7 rfl 2 rfl ?_
    refine WS.icmp_ge (tgt := 21) hx dX11_goesCenturies_8 (by decide) (fun c8 => ?_) (fun c8 => ?_)
    · skip
      show WS layM V 3 X τ 21 [(2, .int (nI i)), (0, rf V 0), (1, .int (nI u))] []
      exact WS.vret hx he dX11_goesCenturies_21 ⟨rfl, hE, by rw [show u = i by (try simp only [l_int, tL_0, tL_1, tL_2, tL_4, tL_5, tL_6, tL_7, tL_9, tL_10, tL_12, tL_15, tL_30, tL_40, tL_60, tL_99, tL_255, tL_1023, tL_m1, lc_lt, lc_gt, lc_ge, lc_le, lc_eq, l6_le, l6_lt, l6_eq, tI_m133, tI_m226, i_le, i_lt, i_eq, tI_0, tI_1] at c8); (try simp only [l_int, tL_0, tL_1, tL_2, tL_4, tL_5, tL_6, tL_7, tL_9, tL_10, tL_12, tL_15, tL_30, tL_40, tL_60, tL_99, tL_255, tL_1023, tL_m1, lc_lt, lc_gt, lc_ge, lc_le, lc_eq, l6_le, l6_lt, l6_eq, tI_m133, tI_m226, i_le, i_lt, i_eq, tI_0, tI_1]); omega]; exact hQ⟩
    · skip
      show WS layM V 3 X τ 11 [(2, .int (nI i)), (0, rf V 0), (1, .int (nI u))] []
      refine WS.aload_n hx dX11_goesCenturies_11 rfl 1 rfl ?_
      refine WS.callVv (st := []) [] hx (c_X11_goesCentury V d τ κ n (hM.me hE) _ hQ cs T lw (hL.me hE)) okX11_goesCentury lm11_234 rfl rfl rfl rfl (Nat.le_of_ble_eq_true rfl) dX11_goesCenturies_12 (fun σ2 h3 => ?_)
      obtain ⟨me12, mt12⟩ := h3
      show WS layM V 3 X σ2 15 [(2, .int (nI i)), (0, rf V 0), (1, .int (nI u))] []
      refine WS.iinc (v := nI (i + 1)) (lo' := [(2, .int (nI (i + 1))), (0, rf V 0), (1, .int (nI u))]) hx dX11_goesCenturies_15 0 rfl (nI_1 i) (by decide) rfl ?_
      refine WS.goto (tgt := 6) hx dX11_goesCenturies_18 (by decide) ?_
      exact WS.los [0, 1, 2] rfl (ih _ (by (try simp only [l_int, tL_0, tL_1, tL_2, tL_4, tL_5, tL_6, tL_7, tL_9, tL_10, tL_12, tL_15, tL_30, tL_40, tL_60, tL_99, tL_255, tL_1023, tL_m1, lc_lt, lc_gt, lc_ge, lc_le, lc_eq, l6_le, l6_lt, l6_eq, tI_m133, tI_m226, i_le, i_lt, i_eq, tI_0, tI_1] at c8); (try simp only [l_int, tL_0, tL_1, tL_2, tL_4, tL_5, tL_6, tL_7, tL_9, tL_10, tL_12, tL_15, tL_30, tL_40, tL_60, tL_99, tL_255, tL_1023, tL_m1, lc_lt, lc_gt, lc_ge, lc_le, lc_eq, l6_le, l6_lt, l6_eq, tI_m133, tI_m226, i_le, i_lt, i_eq, tI_0, tI_1]); omega) (i + 1) rfl _ (by (try simp only [l_int, tL_0, tL_1, tL_2, tL_4, tL_5, tL_6, tL_7, tL_9, tL_10, tL_12, tL_15, tL_30, tL_40, tL_60, tL_99, tL_255, tL_1023, tL_m1, lc_lt, lc_gt, lc_ge, lc_le, lc_eq, l6_le, l6_lt, l6_eq, tI_m133, tI_m226, i_le, i_lt, i_eq, tI_0, tI_1] at c8); (try simp only [l_int, tL_0, tL_1, tL_2, tL_4, tL_5, tL_6, tL_7, tL_9, tL_10, tL_12, tL_15, tL_30, tL_40, tL_60, tL_99, tL_255, tL_1023, tL_m1, lc_lt, lc_gt, lc_ge, lc_le, lc_eq, l6_le, l6_lt, l6_eq, tI_m133, tI_m226, i_le, i_lt, i_eq, tI_0, tI_1]); omega) (hE.tr me12) (by rw [msR_s]; exact mt12))
set_option maxHeartbeats 1000000 in
theorem c_X11_goesCenturies (V : Vt) (d : Nat) (σ : Sg) (κ : Sg) (n : Nat) (hM : MR κ σ n) (cs : Nat → Int32) (T : Nat) (lw : Lw) (hL : ML σ cs T lw) (u : Nat) (hu : u ≤ 100) : CT layM V mX11_goesCenturies (d + 6) [rf V 0, .int (nI u)] σ (Rv fun σ' => ME σ σ' ∧ MT σ' n (msR (wdM κ n lw) u (ms0 (wdM κ n lw)))) := by
  refine CT.of (own := RX11) rfl (by decide) (Nat.le_of_ble_eq_true rfl) (fun X (hx : Ok V RX11 cX11_goesCenturies 3 (d + 6) X) (he : En layM V none (Rv fun σ' => ME σ σ' ∧ MT σ' n (msR (wdM κ n lw) u (ms0 (wdM κ n lw)))) X) => ?_)
  change WS layM V 3 X σ 0 [(0, rf V 0), (1, .int (nI u))] []
  refine WS.aload_n hx dX11_goesCenturies_0 rfl 0 rfl ?_
  refine WS.callVv (st := []) [] hx (c_X11_begins V (d + 5) σ κ n lw hM) okX11_begins lm11_231 rfl rfl rfl rfl (Nat.le_of_ble_eq_true rfl) dX11_goesCenturies_1 (fun σ2 h3 => ?_)
  obtain ⟨me1, mt1⟩ := h3
  show WS layM V 3 X σ2 4 [(0, rf V 0), (1, .int (nI u))] []
  refine WS.iconst (v := 0) hx dX11_goesCenturies_4 (by decide) ?_
  refine WS.istore_n (lo' := [(2, .int 0), (0, rf V 0), (1, .int (nI u))]) hx dX11_goesCenturies_5 rfl (by decide) rfl ?_
  exact WS.los [0, 1, 2] rfl (lp_X11_goesCenturies V d σ κ n hM cs T lw hL u hu X hx he 0 _ (Nat.zero_le _) me1 mt1)
set_option maxHeartbeats 1000000 in
theorem lp_X11_wordsSet (V : Vt) (d : Nat) (σ : Sg) (κ : Sg) (n : Nat) (hM : MR κ σ n) (s : Ms) (hT : MT σ n s) (X : Xt) (hx : Ok V RX11 cX11_wordsSet 3 (d + 1) X) (he : En layM V (some .int) (Ro (orW (fun k => !(s.2.1 k)) (fun k => κ.1 17 (s.1 k)) n) σ) X) : ∀ (i : Nat), i ≤ n → WS layM V 3 X σ 4 [(2, .int (nI i)), (1, .int (orW (fun k => !(s.2.1 k)) (fun k => κ.1 17 (s.1 k)) i)), (0, rf V 0)] [] := by
  have hn := hM.n
  intro i
  induction hm : n - i using Nat.strongRecOn generalizing i with
  | _ m9 ih =>
    intro hi
    have hiI : (nI i).toInt = (i : Int) := nI_c (by omega)
    have hnI : (nI n).toInt = (n : Int) := nI_c (by omega)
    refine WS.iload_n hx dX11_wordsSet_4 rfl 0 rfl ?_
    refine WS.aload_n hx dX11_wordsSet_5 rfl 2 rfl ?_
    refine WS.getI hx okX11 lf11_97 rfl rfl dX11_wordsSet_6 ?_
    refine WS.as rfl rfl (congrArg (fun z => Value.int z :: _) (show σ.1 0 6 = nI n from hM.s)) ?_
    skip
    refine WS.icmp_ge (tgt := 41) hx dX11_wordsSet_9 (by decide) (fun c9 => ?_) (fun c9 => ?_)
    · skip
      show WS layM V 3 X σ 41 [(2, .int (nI i)), (1, .int (orW (fun k => !(s.2.1 k)) (fun k => κ.1 17 (s.1 k)) i)), (0, rf V 0)] []
      refine WS.iload_n hx dX11_wordsSet_41 rfl 1 rfl ?_
      exact WS.iret hx he dX11_wordsSet_42 (Ro.i (by rw [show i = n by (try simp only [l_int, tL_0, tL_1, tL_2, tL_4, tL_5, tL_6, tL_7, tL_9, tL_10, tL_12, tL_15, tL_30, tL_40, tL_60, tL_99, tL_255, tL_1023, tL_m1, lc_lt, lc_gt, lc_ge, lc_le, lc_eq, l6_le, l6_lt, l6_eq, tI_m133, tI_m226, i_le, i_lt, i_eq, tI_0, tI_1] at c9); (try simp only [l_int, tL_0, tL_1, tL_2, tL_4, tL_5, tL_6, tL_7, tL_9, tL_10, tL_12, tL_15, tL_30, tL_40, tL_60, tL_99, tL_255, tL_1023, tL_m1, lc_lt, lc_gt, lc_ge, lc_le, lc_eq, l6_le, l6_lt, l6_eq, tI_m133, tI_m226, i_le, i_lt, i_eq, tI_0, tI_1]); omega]))
    · skip
      show WS layM V 3 X σ 12 [(2, .int (nI i)), (1, .int (orW (fun k => !(s.2.1 k)) (fun k => κ.1 17 (s.1 k)) i)), (0, rf V 0)] []
      have hin : i < n := by (try simp only [l_int, tL_0, tL_1, tL_2, tL_4, tL_5, tL_6, tL_7, tL_9, tL_10, tL_12, tL_15, tL_30, tL_40, tL_60, tL_99, tL_255, tL_1023, tL_m1, lc_lt, lc_gt, lc_ge, lc_le, lc_eq, l6_le, l6_lt, l6_eq, tI_m133, tI_m226, i_le, i_lt, i_eq, tI_0, tI_1] at c9); (try simp only [l_int, tL_0, tL_1, tL_2, tL_4, tL_5, tL_6, tL_7, tL_9, tL_10, tL_12, tL_15, tL_30, tL_40, tL_60, tL_99, tL_255, tL_1023, tL_m1, lc_lt, lc_gt, lc_ge, lc_le, lc_eq, l6_le, l6_lt, l6_eq, tI_m133, tI_m226, i_le, i_lt, i_eq, tI_0, tI_1]); omega
      have hmk := hT.1 i hin
      refine WS.iload_n hx dX11_wordsSet_12 rfl 1 rfl ?_
      refine WS.aload_n hx dX11_wordsSet_13 rfl 2 rfl ?_
      refine WS.getR hx okX11 lf11_52 rfl rfl dX11_wordsSet_14 ?_
      refine WS.iload_n hx dX11_wordsSet_17 rfl 0 rfl ?_
      refine WS.zald hx rfl (vp_in_nI (by omega) (by decide)) dX11_wordsSet_18 ?_
      refine WS.as rfl rfl (congrArg (fun z => Value.int z :: _) (show σ.1 15 (nn (nI i)) = bI (s.2.1 i) from by rw [nn_nI (by omega)]; exact hmk.2.2)) ?_
      skip
      refine WS.if_eq (tgt := 26) hx dX11_wordsSet_19 (by decide) (fun c19 => ?_) (fun c19 => ?_)
      · skip
        show WS layM V 3 X σ 26 [(2, .int (nI i)), (1, .int (orW (fun k => !(s.2.1 k)) (fun k => κ.1 17 (s.1 k)) i)), (0, rf V 0)] [.int (orW (fun k => !(s.2.1 k)) (fun k => κ.1 17 (s.1 k)) i)]
        refine WS.iconst (v := 1) hx dX11_wordsSet_26 (by decide) ?_
        refine WS.aload_n hx dX11_wordsSet_27 rfl 2 rfl ?_
        refine WS.iload_n hx dX11_wordsSet_28 rfl 0 rfl ?_
        refine WS.callVi (st := [.int 1, .int (orW (fun k => !(s.2.1 k)) (fun k => κ.1 17 (s.1 k)) i)]) [.int (nI i)] hx (c_X11_wordOf V d σ κ n hM s hT i hin) okX11_wordOf lm11_219 rfl rfl rfl rfl (Nat.le_of_ble_eq_true rfl) dX11_wordsSet_29 (fun v1 σ2 h3 => ?_)
        obtain ⟨rfl, rfl⟩ := h3
        show WS layM V 3 X σ 32 [(2, .int (nI i)), (1, .int (orW (fun k => !(s.2.1 k)) (fun k => κ.1 17 (s.1 k)) i)), (0, rf V 0)] [.int (κ.1 17 (s.1 i)), .int 1, .int (orW (fun k => !(s.2.1 k)) (fun k => κ.1 17 (s.1 k)) i)]
        refine WS.ishl hx dX11_wordsSet_32 ?_
        refine WS.ior hx dX11_wordsSet_33 ?_
        refine WS.istore_n (lo' := [(1, .int ((orW (fun k => !(s.2.1 k)) (fun k => κ.1 17 (s.1 k)) i) ||| (1 <<< ((κ.1 17 (s.1 i)) &&& 31)))), (2, .int (nI i)), (0, rf V 0)]) hx dX11_wordsSet_34 rfl (by decide) rfl ?_
        refine WS.iinc (v := nI (i + 1)) (lo' := [(2, .int (nI (i + 1))), (1, .int ((orW (fun k => !(s.2.1 k)) (fun k => κ.1 17 (s.1 k)) i) ||| (1 <<< ((κ.1 17 (s.1 i)) &&& 31)))), (0, rf V 0)]) hx dX11_wordsSet_35 1 rfl (nI_1 i) (by decide) rfl ?_
        refine WS.goto (tgt := 4) hx dX11_wordsSet_38 (by decide) ?_
        have hw : orW (fun k => !(s.2.1 k)) (fun k => κ.1 17 (s.1 k)) (i + 1) = orW (fun k => !(s.2.1 k)) (fun k => κ.1 17 (s.1 k)) i ||| ((1 : Int32) <<< (κ.1 17 (s.1 i) &&& 31)) := if_pos (by
          show (!(s.2.1 i)) = true
          cases h9 : s.2.1 i with
          | false => rfl
          | true => rw [h9] at c19; exact absurd c19 (by decide))
        have h9 := ih _ (by (try simp only [l_int, tL_0, tL_1, tL_2, tL_4, tL_5, tL_6, tL_7, tL_9, tL_10, tL_12, tL_15, tL_30, tL_40, tL_60, tL_99, tL_255, tL_1023, tL_m1, lc_lt, lc_gt, lc_ge, lc_le, lc_eq, l6_le, l6_lt, l6_eq, tI_m133, tI_m226, i_le, i_lt, i_eq, tI_0, tI_1] at c9); (try simp only [l_int, tL_0, tL_1, tL_2, tL_4, tL_5, tL_6, tL_7, tL_9, tL_10, tL_12, tL_15, tL_30, tL_40, tL_60, tL_99, tL_255, tL_1023, tL_m1, lc_lt, lc_gt, lc_ge, lc_le, lc_eq, l6_le, l6_lt, l6_eq, tI_m133, tI_m226, i_le, i_lt, i_eq, tI_0, tI_1] at c19); (try simp only [l_int, tL_0, tL_1, tL_2, tL_4, tL_5, tL_6, tL_7, tL_9, tL_10, tL_12, tL_15, tL_30, tL_40, tL_60, tL_99, tL_255, tL_1023, tL_m1, lc_lt, lc_gt, lc_ge, lc_le, lc_eq, l6_le, l6_lt, l6_eq, tI_m133, tI_m226, i_le, i_lt, i_eq, tI_0, tI_1]); omega) (i + 1) rfl (by (try simp only [l_int, tL_0, tL_1, tL_2, tL_4, tL_5, tL_6, tL_7, tL_9, tL_10, tL_12, tL_15, tL_30, tL_40, tL_60, tL_99, tL_255, tL_1023, tL_m1, lc_lt, lc_gt, lc_ge, lc_le, lc_eq, l6_le, l6_lt, l6_eq, tI_m133, tI_m226, i_le, i_lt, i_eq, tI_0, tI_1] at c9); (try simp only [l_int, tL_0, tL_1, tL_2, tL_4, tL_5, tL_6, tL_7, tL_9, tL_10, tL_12, tL_15, tL_30, tL_40, tL_60, tL_99, tL_255, tL_1023, tL_m1, lc_lt, lc_gt, lc_ge, lc_le, lc_eq, l6_le, l6_lt, l6_eq, tI_m133, tI_m226, i_le, i_lt, i_eq, tI_0, tI_1] at c19); (try simp only [l_int, tL_0, tL_1, tL_2, tL_4, tL_5, tL_6, tL_7, tL_9, tL_10, tL_12, tL_15, tL_30, tL_40, tL_60, tL_99, tL_255, tL_1023, tL_m1, lc_lt, lc_gt, lc_ge, lc_le, lc_eq, l6_le, l6_lt, l6_eq, tI_m133, tI_m226, i_le, i_lt, i_eq, tI_0, tI_1]); omega)
        rw [hw] at h9
        exact WS.los [0, 1, 2] rfl h9
      · skip
        show WS layM V 3 X σ 22 [(2, .int (nI i)), (1, .int (orW (fun k => !(s.2.1 k)) (fun k => κ.1 17 (s.1 k)) i)), (0, rf V 0)] [.int (orW (fun k => !(s.2.1 k)) (fun k => κ.1 17 (s.1 k)) i)]
        refine WS.iconst (v := 0) hx dX11_wordsSet_22 (by decide) ?_
        refine WS.goto (tgt := 33) hx dX11_wordsSet_23 (by decide) ?_
        refine WS.ior hx dX11_wordsSet_33 ?_
        refine WS.istore_n (lo' := [(1, .int ((orW (fun k => !(s.2.1 k)) (fun k => κ.1 17 (s.1 k)) i) ||| 0)), (2, .int (nI i)), (0, rf V 0)]) hx dX11_wordsSet_34 rfl (by decide) rfl ?_
        refine WS.iinc (v := nI (i + 1)) (lo' := [(2, .int (nI (i + 1))), (1, .int ((orW (fun k => !(s.2.1 k)) (fun k => κ.1 17 (s.1 k)) i) ||| 0)), (0, rf V 0)]) hx dX11_wordsSet_35 1 rfl (nI_1 i) (by decide) rfl ?_
        refine WS.goto (tgt := 4) hx dX11_wordsSet_38 (by decide) ?_
        have hw : orW (fun k => !(s.2.1 k)) (fun k => κ.1 17 (s.1 k)) (i + 1) = orW (fun k => !(s.2.1 k)) (fun k => κ.1 17 (s.1 k)) i ||| 0 := by
          rw [Int32.or_zero]
          exact if_neg (by
            show ¬ (!(s.2.1 i)) = true
            cases h9 : s.2.1 i with
            | true => decide
            | false => rw [h9] at c19; exact absurd rfl c19)
        have h9 := ih _ (by (try simp only [l_int, tL_0, tL_1, tL_2, tL_4, tL_5, tL_6, tL_7, tL_9, tL_10, tL_12, tL_15, tL_30, tL_40, tL_60, tL_99, tL_255, tL_1023, tL_m1, lc_lt, lc_gt, lc_ge, lc_le, lc_eq, l6_le, l6_lt, l6_eq, tI_m133, tI_m226, i_le, i_lt, i_eq, tI_0, tI_1] at c9); (try simp only [l_int, tL_0, tL_1, tL_2, tL_4, tL_5, tL_6, tL_7, tL_9, tL_10, tL_12, tL_15, tL_30, tL_40, tL_60, tL_99, tL_255, tL_1023, tL_m1, lc_lt, lc_gt, lc_ge, lc_le, lc_eq, l6_le, l6_lt, l6_eq, tI_m133, tI_m226, i_le, i_lt, i_eq, tI_0, tI_1] at c19); (try simp only [l_int, tL_0, tL_1, tL_2, tL_4, tL_5, tL_6, tL_7, tL_9, tL_10, tL_12, tL_15, tL_30, tL_40, tL_60, tL_99, tL_255, tL_1023, tL_m1, lc_lt, lc_gt, lc_ge, lc_le, lc_eq, l6_le, l6_lt, l6_eq, tI_m133, tI_m226, i_le, i_lt, i_eq, tI_0, tI_1]); omega) (i + 1) rfl (by (try simp only [l_int, tL_0, tL_1, tL_2, tL_4, tL_5, tL_6, tL_7, tL_9, tL_10, tL_12, tL_15, tL_30, tL_40, tL_60, tL_99, tL_255, tL_1023, tL_m1, lc_lt, lc_gt, lc_ge, lc_le, lc_eq, l6_le, l6_lt, l6_eq, tI_m133, tI_m226, i_le, i_lt, i_eq, tI_0, tI_1] at c9); (try simp only [l_int, tL_0, tL_1, tL_2, tL_4, tL_5, tL_6, tL_7, tL_9, tL_10, tL_12, tL_15, tL_30, tL_40, tL_60, tL_99, tL_255, tL_1023, tL_m1, lc_lt, lc_gt, lc_ge, lc_le, lc_eq, l6_le, l6_lt, l6_eq, tI_m133, tI_m226, i_le, i_lt, i_eq, tI_0, tI_1] at c19); (try simp only [l_int, tL_0, tL_1, tL_2, tL_4, tL_5, tL_6, tL_7, tL_9, tL_10, tL_12, tL_15, tL_30, tL_40, tL_60, tL_99, tL_255, tL_1023, tL_m1, lc_lt, lc_gt, lc_ge, lc_le, lc_eq, l6_le, l6_lt, l6_eq, tI_m133, tI_m226, i_le, i_lt, i_eq, tI_0, tI_1]); omega)
        rw [hw] at h9
        exact WS.los [0, 1, 2] rfl h9
set_option maxHeartbeats 1000000 in
theorem c_X11_wordsSet (V : Vt) (d : Nat) (σ : Sg) (κ : Sg) (n : Nat) (hM : MR κ σ n) (s : Ms) (hT : MT σ n s) : CT layM V mX11_wordsSet (d + 1) [rf V 0] σ (Ro (orW (fun k => !(s.2.1 k)) (fun k => κ.1 17 (s.1 k)) n) σ) := by
  refine CT.of (own := RX11) rfl (by decide) (Nat.le_of_ble_eq_true rfl) (fun X (hx : Ok V RX11 cX11_wordsSet 3 (d + 1) X) (he : En layM V (some .int) (Ro (orW (fun k => !(s.2.1 k)) (fun k => κ.1 17 (s.1 k)) n) σ) X) => ?_)
  change WS layM V 3 X σ 0 [(0, rf V 0)] []
  refine WS.iconst (v := 0) hx dX11_wordsSet_0 (by decide) ?_
  refine WS.istore_n (lo' := [(1, .int 0), (0, rf V 0)]) hx dX11_wordsSet_1 rfl (by decide) rfl ?_
  refine WS.iconst (v := 0) hx dX11_wordsSet_2 (by decide) ?_
  refine WS.istore_n (lo' := [(2, .int 0), (1, .int 0), (0, rf V 0)]) hx dX11_wordsSet_3 rfl (by decide) rfl ?_
  exact WS.los [0, 1, 2] rfl (lp_X11_wordsSet V d σ κ n hM s hT X hx he 0 (Nat.zero_le _))
set_option maxHeartbeats 1000000 in
theorem lp_X11_mindsSet (V : Vt) (d : Nat) (σ : Sg) (κ : Sg) (n : Nat) (hM : MR κ σ n) (s : Ms) (hT : MT σ n s) (X : Xt) (hx : Ok V RX11 cX11_mindsSet 3 (d + 1) X) (he : En layM V (some .int) (Ro (orW (fun k => !(s.2.1 k)) (fun k => nI (s.1 k)) n) σ) X) : ∀ (i : Nat), i ≤ n → WS layM V 3 X σ 4 [(2, .int (nI i)), (1, .int (orW (fun k => !(s.2.1 k)) (fun k => nI (s.1 k)) i)), (0, rf V 0)] [] := by
  have hn := hM.n
  intro i
  induction hm : n - i using Nat.strongRecOn generalizing i with
  | _ m9 ih =>
    intro hi
    have hiI : (nI i).toInt = (i : Int) := nI_c (by omega)
    have hnI : (nI n).toInt = (n : Int) := nI_c (by omega)
    refine WS.iload_n hx dX11_mindsSet_4 rfl 0 rfl ?_
    refine WS.aload_n hx dX11_mindsSet_5 rfl 2 rfl ?_
    refine WS.getI hx okX11 lf11_97 rfl rfl dX11_mindsSet_6 ?_
    refine WS.as rfl rfl (congrArg (fun z => Value.int z :: _) (show σ.1 0 6 = nI n from hM.s)) ?_
    skip
    refine WS.icmp_ge (tgt := 42) hx dX11_mindsSet_9 (by decide) (fun c9 => ?_) (fun c9 => ?_)
    · skip
      show WS layM V 3 X σ 42 [(2, .int (nI i)), (1, .int (orW (fun k => !(s.2.1 k)) (fun k => nI (s.1 k)) i)), (0, rf V 0)] []
      refine WS.iload_n hx dX11_mindsSet_42 rfl 1 rfl ?_
      exact WS.iret hx he dX11_mindsSet_43 (Ro.i (by rw [show i = n by (try simp only [l_int, tL_0, tL_1, tL_2, tL_4, tL_5, tL_6, tL_7, tL_9, tL_10, tL_12, tL_15, tL_30, tL_40, tL_60, tL_99, tL_255, tL_1023, tL_m1, lc_lt, lc_gt, lc_ge, lc_le, lc_eq, l6_le, l6_lt, l6_eq, tI_m133, tI_m226, i_le, i_lt, i_eq, tI_0, tI_1] at c9); (try simp only [l_int, tL_0, tL_1, tL_2, tL_4, tL_5, tL_6, tL_7, tL_9, tL_10, tL_12, tL_15, tL_30, tL_40, tL_60, tL_99, tL_255, tL_1023, tL_m1, lc_lt, lc_gt, lc_ge, lc_le, lc_eq, l6_le, l6_lt, l6_eq, tI_m133, tI_m226, i_le, i_lt, i_eq, tI_0, tI_1]); omega]))
    · skip
      show WS layM V 3 X σ 12 [(2, .int (nI i)), (1, .int (orW (fun k => !(s.2.1 k)) (fun k => nI (s.1 k)) i)), (0, rf V 0)] []
      have hin : i < n := by (try simp only [l_int, tL_0, tL_1, tL_2, tL_4, tL_5, tL_6, tL_7, tL_9, tL_10, tL_12, tL_15, tL_30, tL_40, tL_60, tL_99, tL_255, tL_1023, tL_m1, lc_lt, lc_gt, lc_ge, lc_le, lc_eq, l6_le, l6_lt, l6_eq, tI_m133, tI_m226, i_le, i_lt, i_eq, tI_0, tI_1] at c9); (try simp only [l_int, tL_0, tL_1, tL_2, tL_4, tL_5, tL_6, tL_7, tL_9, tL_10, tL_12, tL_15, tL_30, tL_40, tL_60, tL_99, tL_255, tL_1023, tL_m1, lc_lt, lc_gt, lc_ge, lc_le, lc_eq, l6_le, l6_lt, l6_eq, tI_m133, tI_m226, i_le, i_lt, i_eq, tI_0, tI_1]); omega
      have hmk := hT.1 i hin
      refine WS.iload_n hx dX11_mindsSet_12 rfl 1 rfl ?_
      refine WS.aload_n hx dX11_mindsSet_13 rfl 2 rfl ?_
      refine WS.getR hx okX11 lf11_52 rfl rfl dX11_mindsSet_14 ?_
      refine WS.iload_n hx dX11_mindsSet_17 rfl 0 rfl ?_
      refine WS.zald hx rfl (vp_in_nI (by omega) (by decide)) dX11_mindsSet_18 ?_
      refine WS.as rfl rfl (congrArg (fun z => Value.int z :: _) (show σ.1 15 (nn (nI i)) = bI (s.2.1 i) from by rw [nn_nI (by omega)]; exact hmk.2.2)) ?_
      skip
      refine WS.if_eq (tgt := 26) hx dX11_mindsSet_19 (by decide) (fun c19 => ?_) (fun c19 => ?_)
      · skip
        show WS layM V 3 X σ 26 [(2, .int (nI i)), (1, .int (orW (fun k => !(s.2.1 k)) (fun k => nI (s.1 k)) i)), (0, rf V 0)] [.int (orW (fun k => !(s.2.1 k)) (fun k => nI (s.1 k)) i)]
        refine WS.iconst (v := 1) hx dX11_mindsSet_26 (by decide) ?_
        refine WS.aload_n hx dX11_mindsSet_27 rfl 2 rfl ?_
        refine WS.getR hx okX11 lf11_49 rfl rfl dX11_mindsSet_28 ?_
        refine WS.iload_n hx dX11_mindsSet_31 rfl 0 rfl ?_
        refine WS.iald hx rfl (vp_in_nI (by omega) (by decide)) dX11_mindsSet_32 ?_
        refine WS.as rfl rfl (congrArg (fun z => Value.int z :: _) (show σ.1 14 (nn (nI i)) = nI (s.1 i) from by rw [nn_nI (by omega)]; exact hmk.1)) ?_
        skip
        refine WS.ishl hx dX11_mindsSet_33 ?_
        refine WS.ior hx dX11_mindsSet_34 ?_
        refine WS.istore_n (lo' := [(1, .int ((orW (fun k => !(s.2.1 k)) (fun k => nI (s.1 k)) i) ||| (1 <<< ((nI (s.1 i)) &&& 31)))), (2, .int (nI i)), (0, rf V 0)]) hx dX11_mindsSet_35 rfl (by decide) rfl ?_
        refine WS.iinc (v := nI (i + 1)) (lo' := [(2, .int (nI (i + 1))), (1, .int ((orW (fun k => !(s.2.1 k)) (fun k => nI (s.1 k)) i) ||| (1 <<< ((nI (s.1 i)) &&& 31)))), (0, rf V 0)]) hx dX11_mindsSet_36 1 rfl (nI_1 i) (by decide) rfl ?_
        refine WS.goto (tgt := 4) hx dX11_mindsSet_39 (by decide) ?_
        have hw : orW (fun k => !(s.2.1 k)) (fun k => nI (s.1 k)) (i + 1) = orW (fun k => !(s.2.1 k)) (fun k => nI (s.1 k)) i ||| ((1 : Int32) <<< (nI (s.1 i) &&& 31)) := if_pos (by
          show (!(s.2.1 i)) = true
          cases h9 : s.2.1 i with
          | false => rfl
          | true => rw [h9] at c19; exact absurd c19 (by decide))
        have h9 := ih _ (by (try simp only [l_int, tL_0, tL_1, tL_2, tL_4, tL_5, tL_6, tL_7, tL_9, tL_10, tL_12, tL_15, tL_30, tL_40, tL_60, tL_99, tL_255, tL_1023, tL_m1, lc_lt, lc_gt, lc_ge, lc_le, lc_eq, l6_le, l6_lt, l6_eq, tI_m133, tI_m226, i_le, i_lt, i_eq, tI_0, tI_1] at c9); (try simp only [l_int, tL_0, tL_1, tL_2, tL_4, tL_5, tL_6, tL_7, tL_9, tL_10, tL_12, tL_15, tL_30, tL_40, tL_60, tL_99, tL_255, tL_1023, tL_m1, lc_lt, lc_gt, lc_ge, lc_le, lc_eq, l6_le, l6_lt, l6_eq, tI_m133, tI_m226, i_le, i_lt, i_eq, tI_0, tI_1] at c19); (try simp only [l_int, tL_0, tL_1, tL_2, tL_4, tL_5, tL_6, tL_7, tL_9, tL_10, tL_12, tL_15, tL_30, tL_40, tL_60, tL_99, tL_255, tL_1023, tL_m1, lc_lt, lc_gt, lc_ge, lc_le, lc_eq, l6_le, l6_lt, l6_eq, tI_m133, tI_m226, i_le, i_lt, i_eq, tI_0, tI_1]); omega) (i + 1) rfl (by (try simp only [l_int, tL_0, tL_1, tL_2, tL_4, tL_5, tL_6, tL_7, tL_9, tL_10, tL_12, tL_15, tL_30, tL_40, tL_60, tL_99, tL_255, tL_1023, tL_m1, lc_lt, lc_gt, lc_ge, lc_le, lc_eq, l6_le, l6_lt, l6_eq, tI_m133, tI_m226, i_le, i_lt, i_eq, tI_0, tI_1] at c9); (try simp only [l_int, tL_0, tL_1, tL_2, tL_4, tL_5, tL_6, tL_7, tL_9, tL_10, tL_12, tL_15, tL_30, tL_40, tL_60, tL_99, tL_255, tL_1023, tL_m1, lc_lt, lc_gt, lc_ge, lc_le, lc_eq, l6_le, l6_lt, l6_eq, tI_m133, tI_m226, i_le, i_lt, i_eq, tI_0, tI_1] at c19); (try simp only [l_int, tL_0, tL_1, tL_2, tL_4, tL_5, tL_6, tL_7, tL_9, tL_10, tL_12, tL_15, tL_30, tL_40, tL_60, tL_99, tL_255, tL_1023, tL_m1, lc_lt, lc_gt, lc_ge, lc_le, lc_eq, l6_le, l6_lt, l6_eq, tI_m133, tI_m226, i_le, i_lt, i_eq, tI_0, tI_1]); omega)
        rw [hw] at h9
        exact WS.los [0, 1, 2] rfl h9
      · skip
        show WS layM V 3 X σ 22 [(2, .int (nI i)), (1, .int (orW (fun k => !(s.2.1 k)) (fun k => nI (s.1 k)) i)), (0, rf V 0)] [.int (orW (fun k => !(s.2.1 k)) (fun k => nI (s.1 k)) i)]
        refine WS.iconst (v := 0) hx dX11_mindsSet_22 (by decide) ?_
        refine WS.goto (tgt := 34) hx dX11_mindsSet_23 (by decide) ?_
        refine WS.ior hx dX11_mindsSet_34 ?_
        refine WS.istore_n (lo' := [(1, .int ((orW (fun k => !(s.2.1 k)) (fun k => nI (s.1 k)) i) ||| 0)), (2, .int (nI i)), (0, rf V 0)]) hx dX11_mindsSet_35 rfl (by decide) rfl ?_
        refine WS.iinc (v := nI (i + 1)) (lo' := [(2, .int (nI (i + 1))), (1, .int ((orW (fun k => !(s.2.1 k)) (fun k => nI (s.1 k)) i) ||| 0)), (0, rf V 0)]) hx dX11_mindsSet_36 1 rfl (nI_1 i) (by decide) rfl ?_
        refine WS.goto (tgt := 4) hx dX11_mindsSet_39 (by decide) ?_
        have hw : orW (fun k => !(s.2.1 k)) (fun k => nI (s.1 k)) (i + 1) = orW (fun k => !(s.2.1 k)) (fun k => nI (s.1 k)) i ||| 0 := by
          rw [Int32.or_zero]
          exact if_neg (by
            show ¬ (!(s.2.1 i)) = true
            cases h9 : s.2.1 i with
            | true => decide
            | false => rw [h9] at c19; exact absurd rfl c19)
        have h9 := ih _ (by (try simp only [l_int, tL_0, tL_1, tL_2, tL_4, tL_5, tL_6, tL_7, tL_9, tL_10, tL_12, tL_15, tL_30, tL_40, tL_60, tL_99, tL_255, tL_1023, tL_m1, lc_lt, lc_gt, lc_ge, lc_le, lc_eq, l6_le, l6_lt, l6_eq, tI_m133, tI_m226, i_le, i_lt, i_eq, tI_0, tI_1] at c9); (try simp only [l_int, tL_0, tL_1, tL_2, tL_4, tL_5, tL_6, tL_7, tL_9, tL_10, tL_12, tL_15, tL_30, tL_40, tL_60, tL_99, tL_255, tL_1023, tL_m1, lc_lt, lc_gt, lc_ge, lc_le, lc_eq, l6_le, l6_lt, l6_eq, tI_m133, tI_m226, i_le, i_lt, i_eq, tI_0, tI_1] at c19); (try simp only [l_int, tL_0, tL_1, tL_2, tL_4, tL_5, tL_6, tL_7, tL_9, tL_10, tL_12, tL_15, tL_30, tL_40, tL_60, tL_99, tL_255, tL_1023, tL_m1, lc_lt, lc_gt, lc_ge, lc_le, lc_eq, l6_le, l6_lt, l6_eq, tI_m133, tI_m226, i_le, i_lt, i_eq, tI_0, tI_1]); omega) (i + 1) rfl (by (try simp only [l_int, tL_0, tL_1, tL_2, tL_4, tL_5, tL_6, tL_7, tL_9, tL_10, tL_12, tL_15, tL_30, tL_40, tL_60, tL_99, tL_255, tL_1023, tL_m1, lc_lt, lc_gt, lc_ge, lc_le, lc_eq, l6_le, l6_lt, l6_eq, tI_m133, tI_m226, i_le, i_lt, i_eq, tI_0, tI_1] at c9); (try simp only [l_int, tL_0, tL_1, tL_2, tL_4, tL_5, tL_6, tL_7, tL_9, tL_10, tL_12, tL_15, tL_30, tL_40, tL_60, tL_99, tL_255, tL_1023, tL_m1, lc_lt, lc_gt, lc_ge, lc_le, lc_eq, l6_le, l6_lt, l6_eq, tI_m133, tI_m226, i_le, i_lt, i_eq, tI_0, tI_1] at c19); (try simp only [l_int, tL_0, tL_1, tL_2, tL_4, tL_5, tL_6, tL_7, tL_9, tL_10, tL_12, tL_15, tL_30, tL_40, tL_60, tL_99, tL_255, tL_1023, tL_m1, lc_lt, lc_gt, lc_ge, lc_le, lc_eq, l6_le, l6_lt, l6_eq, tI_m133, tI_m226, i_le, i_lt, i_eq, tI_0, tI_1]); omega)
        rw [hw] at h9
        exact WS.los [0, 1, 2] rfl h9
set_option maxHeartbeats 1000000 in
theorem c_X11_mindsSet (V : Vt) (d : Nat) (σ : Sg) (κ : Sg) (n : Nat) (hM : MR κ σ n) (s : Ms) (hT : MT σ n s) : CT layM V mX11_mindsSet (d + 1) [rf V 0] σ (Ro (orW (fun k => !(s.2.1 k)) (fun k => nI (s.1 k)) n) σ) := by
  refine CT.of (own := RX11) rfl (by decide) (Nat.le_of_ble_eq_true rfl) (fun X (hx : Ok V RX11 cX11_mindsSet 3 (d + 1) X) (he : En layM V (some .int) (Ro (orW (fun k => !(s.2.1 k)) (fun k => nI (s.1 k)) n) σ) X) => ?_)
  change WS layM V 3 X σ 0 [(0, rf V 0)] []
  refine WS.iconst (v := 0) hx dX11_mindsSet_0 (by decide) ?_
  refine WS.istore_n (lo' := [(1, .int 0), (0, rf V 0)]) hx dX11_mindsSet_1 rfl (by decide) rfl ?_
  refine WS.iconst (v := 0) hx dX11_mindsSet_2 (by decide) ?_
  refine WS.istore_n (lo' := [(2, .int 0), (1, .int 0), (0, rf V 0)]) hx dX11_mindsSet_3 rfl (by decide) rfl ?_
  exact WS.los [0, 1, 2] rfl (lp_X11_mindsSet V d σ κ n hM s hT X hx he 0 (Nat.zero_le _))

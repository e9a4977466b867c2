theorem cl_b {p : Nat → Bool} {n b : Nat} (hn : n ≤ 10) (hb : b < n) : bitP (orW p nI n) b = p b := by
  have e : orW p nI n = orW p (fun k => nI (k % 32)) n := orW_cg n (fun k hk => ⟨rfl, fun _ => by rw [Nat.mod_eq_of_lt (by omega)]⟩)
  have h := b_orW (p := p) (a := fun k => k % 32) (fun k => Nat.mod_lt _ (by decide)) (show b < 32 by omega) n
  rw [e, bitP_b (by omega)]
  cases h1 : p b with
  | true => exact h.mpr ⟨b, hb, h1, Nat.mod_eq_of_lt (by omega)⟩
  | false =>
    cases h2 : bt (orW p (fun k => nI (k % 32)) n) b with
    | false => rfl
    | true =>
      obtain ⟨k, hk, g1, g2⟩ := h.mp h2
      (try dsimp only at g2)
      rw [Nat.mod_eq_of_lt (by omega)] at g2
      rw [g2, h1] at g1
      exact absurd g1 (by decide)
theorem a63 (y : Int32) : 0 ≤ (y &&& 63).toInt := by
  have h : (y &&& 63).toBitVec.toNat ≤ 63 := by
    rw [Int32.toBitVec_and, BitVec.toNat_and]
    exact Nat.and_le_right
  show 0 ≤ (y &&& 63).toBitVec.toInt
  rw [BitVec.toInt_eq_toNat_of_lt (by omega)]
  omega
theorem kib_p {ol : Nat} {x : Int32} {s : Od} (hx : 0 ≤ x.toInt) : 0 ≤ (kib ol x s).2.2.toInt := by
  unfold kib
  by_cases h : x ≤ s.2.2
  · rw [if_pos h]; rw [i_le] at h; omega
  · rw [if_neg h]; exact hx
theorem fd_p {f : Nat → Od → Od} (hm : ∀ i s, 0 ≤ s.2.2.toInt → 0 ≤ (f i s).2.2.toInt) : ∀ (u i : Nat) (s : Od), (0 ≤ s.2.2.toInt ∨ ∃ i', i ≤ i' ∧ i' < i + u ∧ ∀ s : Od, 0 ≤ (f i' s).2.2.toInt) → 0 ≤ (fdN f u i s).2.2.toInt
  | 0, i, s, h => by
    rcases h with h | ⟨j, h1, h2, _⟩
    · exact h
    · omega
  | u + 1, i, s, h => by
    refine fd_p hm u (i + 1) (f i s) ?_
    rcases h with h | ⟨j, h1, h2, h3⟩
    · exact Or.inl (hm i s h)
    · by_cases e : j = i
      · exact Or.inl (e ▸ h3 s)
      · exact Or.inr ⟨j, by omega, by omega, h3⟩
theorem try_m {sd : Nat → Int32} {n ol : Nat} : ∀ (r dp : Nat) (cl wd : Int32) (s : Od), 0 ≤ s.2.2.toInt → 0 ≤ (tryF sd n ol r dp cl wd s).2.2.toInt
  | 0, _, _, _, _, _ => kib_p (a63 _)
  | r + 1, dp, cl, wd, s, h => by
    unfold tryF
    refine fd_p (fun i s h => ?_) n 0 s (Or.inl h)
    (try dsimp only)
    split
    · exact try_m r _ _ _ _ h
    · exact h
theorem cntB_r {p : Nat → Bool} {i : Nat} (hp : p i = true) : ∀ n, i < n → cntB (fun j => p j && decide (¬ j = i)) n + 1 = cntB p n
  | 0, h => absurd h (Nat.not_lt_zero i)
  | n + 1, h => by
    rw [cntB_s, cntB_s]
    by_cases e : i = n
    · subst e
      rw [hp, decide_eq_false (fun h => h rfl), cntB_cg i (fun k hk => (by rw [decide_eq_true (show ¬ k = i by omega), Bool.and_true] : (p k && decide (¬ k = i)) = p k))]
      rfl
    · have := cntB_r hp n (by omega)
      rw [decide_eq_true (show ¬ n = i from fun h => e h.symm), Bool.and_true]
      omega
theorem cntB_x {p : Nat → Bool} : ∀ n, 0 < cntB p n → ∃ i, i < n ∧ p i = true
  | 0, h => absurd h (Nat.lt_irrefl 0)
  | n + 1, h => by
    by_cases e : p n = true
    · exact ⟨n, by omega, e⟩
    · rw [cntB_s, if_neg e] at h
      obtain ⟨i, h1, h2⟩ := cntB_x n h
      exact ⟨i, by omega, h2⟩
theorem try_p {sd : Nat → Int32} {n ol : Nat} (hn : n ≤ 10) : ∀ (r dp : Nat) (cl wd : Int32) (s : Od), r ≤ cntB (bitP cl) n → 0 ≤ (tryF sd n ol r dp cl wd s).2.2.toInt
  | 0, _, _, _, _, _ => kib_p (a63 _)
  | r + 1, dp, cl, wd, s, h => by
    unfold tryF
    obtain ⟨i, h1, h2⟩ := cntB_x n (show 0 < cntB (bitP cl) n by omega)
    refine fd_p (fun i s h => ?_) n 0 s (Or.inr ⟨i, Nat.zero_le _, by omega, fun s => ?_⟩)
    · (try dsimp only)
      split
      · exact try_m r _ _ _ _ h
      · exact h
    · (try dsimp only)
      rw [if_pos h2]
      refine try_p hn r _ _ _ _ ?_
      have h3 := cntB_r h2 n h1
      rw [cntB_cg n (fun k hk => (clr_b (by omega) (by omega) : bitP (clr cl i) k = (bitP cl k && decide (¬ k = i))))]
      omega
set_option maxHeartbeats 1000000 in
theorem lt_X11_openings (V : Vt) (d : Nat) (σ : Sg) (κ : Sg) (n : Nat) (hM : MR κ σ n) (cs : Nat → Int32) (T : Nat) (lw : Lw) (hL : ML σ cs T lw) (sd : Nat → Int32) (hsd : ∀ dp b, dp < 4 → b < n → sd (10 * dp + b) = (wdM κ n lw).2.2.1 (ftS (wdM κ n lw) b dp).1) (a9 b9 : Nat → Int32) (k i : Int32) (hA : (0 ≤ k.toInt ∧ k.toInt ≤ 4 ∧ -1 ≤ i.toInt)) (X : Xt) (hx : Ok V RX11 cX11_openings 4 (d + 12) X) (he : En layM V (some .int) (Ri fun v σ' => if ¬ (0 ≤ k.toInt ∧ k.toInt ≤ 4 ∧ -1 ≤ i.toInt) then v = -1 ∧ MO σ σ' else (if i.toInt < 0 then v = (tryF sd n (min (min (nn k) (n - cnt (κ.1 14) n)) 4) (min (min (nn k) (n - cnt (κ.1 14) n)) 4) 0 (orW (fun b => decide (¬ κ.1 14 b = 1)) nI n) 0 (a9, b9, -1)).2.2 ∧ MO σ σ' else (v = (if i.toInt < (((min (min (nn k) (n - cnt (κ.1 14) n)) 4) : Nat) : Int) then (tryF sd n (min (min (nn k) (n - cnt (κ.1 14) n)) 4) (min (min (nn k) (n - cnt (κ.1 14) n)) 4) 0 (orW (fun b => decide (¬ κ.1 14 b = 1)) nI n) 0 (a9, b9, -1)).2.1 (nn i) else -2) ∧ MO σ σ'))) X) (τ : Sg) (hE : ME σ τ) : WS layM V 4 X τ 40 [(3, .int (nI (min (min (nn k) (n - cnt (κ.1 14) n)) 4))), (0, rf V 0), (1, .int k), (2, .int i)] [] := by
  have hn := hM.n
  have hcl := hM.q.o.2
  have hnk := nn_int hA.1
  have hoI : (nI (min (min (nn k) (n - cnt (κ.1 14) n)) 4)).toInt = (((min (min (nn k) (n - cnt (κ.1 14) n)) 4) : Nat) : Int) := nI_c (by omega)
  have hni : (nn i : Int) = i.toInt ∨ i.toInt < 0 := by
    by_cases h : 0 ≤ i.toInt
    · exact Or.inl (nn_int h)
    · exact Or.inr (by omega)
  refine WS.aload_n hx dX11_openings_40 rfl 1 rfl ?_
  refine WS.iconst (v := (-1)) hx dX11_openings_41 (by decide) ?_
  refine WS.putI hx okX11 lf11_267 rfl rfl rfl rfl dX11_openings_42 ?_
  refine WS.sg (fun υ eυ => ?_)
  have hmo : MO σ υ := by rw [eυ]; exact hE.mo.tr MO.s0
  have h29 : υ.1 0 29 = -1 := by rw [eυ]; rfl
  refine WS.aload_n hx dX11_openings_45 rfl 1 rfl ?_
  refine WS.iconst (v := 0) hx dX11_openings_46 (by decide) ?_
  refine WS.iload_n hx dX11_openings_47 rfl 0 rfl ?_
  refine WS.callVv (st := []) [.int 0, .int (nI (min (min (nn k) (n - cnt (κ.1 14) n)) 4))] hx (by
    have h9 := c_X11_triesOpening V κ n cs T lw (min (min (nn k) (n - cnt (κ.1 14) n)) 4) (by omega) sd hsd (min (min (nn k) (n - cnt (κ.1 14) n)) 4) (d + 4 - (min (min (nn k) (n - cnt (κ.1 14) n)) 4)) 0 (Nat.zero_add _) (fun _ => 0) (orW (fun b => decide (¬ κ.1 14 b = 1)) nI n) (a9, b9, -1) _ (hM.mo hmo) (hL.mo hmo) ⟨fun j hj => absurd hj (Nat.not_lt_zero j), fun i j _ hj => absurd hj (Nat.not_lt_zero j)⟩ (fun b hb => by rw [cl_b hn hb]; exact ⟨fun h => ⟨of_decide_eq_true h, fun j hj => absurd hj (Nat.not_lt_zero j)⟩, fun h => decide_eq_true h.1⟩) ⟨h29, Or.inl rfl, fun j hj => absurd hj (Nat.not_lt_zero j)⟩
    rw [show d + 4 - (min (min (nn k) (n - cnt (κ.1 14) n)) 4) + (min (min (nn k) (n - cnt (κ.1 14) n)) 4) + 7 = d + 11 by omega] at h9
    exact h9) okX11_triesOpening lm11_270 rfl rfl rfl rfl (Nat.le_of_ble_eq_true rfl) dX11_openings_48 (fun σ2 h3 => ?_)
  obtain ⟨mo48, or48⟩ := h3
  change OR _ (tryF sd n (min (min (nn k) (n - cnt (κ.1 14) n)) 4) (min (min (nn k) (n - cnt (κ.1 14) n)) 4) 0 (orW (fun b => decide (¬ κ.1 14 b = 1)) nI n) 0 (a9, b9, -1)) 0 (min (min (nn k) (n - cnt (κ.1 14) n)) 4) (fun _ => 0) at or48
  have hpos : 0 ≤ ((tryF sd n (min (min (nn k) (n - cnt (κ.1 14) n)) 4) (min (min (nn k) (n - cnt (κ.1 14) n)) 4) 0 (orW (fun b => decide (¬ κ.1 14 b = 1)) nI n) 0 (a9, b9, -1))).2.2.toInt := try_p hn (min (min (nn k) (n - cnt (κ.1 14) n)) 4) 0 _ _ _ (by
      rw [cntB_cg n (fun b hb => (cl_b hn hb : bitP (orW (fun b => decide (¬ κ.1 14 b = 1)) nI n) b = decide (¬ κ.1 14 b = 1))), (cnt_cl n (fun b hb => o_01 hM.q hb)).1]
      omega)
  show WS layM V 4 X σ2 51 [(3, .int (nI (min (min (nn k) (n - cnt (κ.1 14) n)) 4))), (0, rf V 0), (1, .int k), (2, .int i)] []
  refine WS.iload_n hx dX11_openings_51 rfl 3 rfl ?_
  refine WS.if_ge (tgt := 62) hx dX11_openings_52 (by decide) (fun c52 => ?_) (fun c52 => ?_)
  · skip
    show WS layM V 4 X σ2 62 [(3, .int (nI (min (min (nn k) (n - cnt (κ.1 14) n)) 4))), (0, rf V 0), (1, .int k), (2, .int i)] []
    refine WS.iload_n hx dX11_openings_62 rfl 3 rfl ?_
    refine WS.iload_n hx dX11_openings_63 rfl 0 rfl ?_
    refine WS.icmp_ge (tgt := 76) hx dX11_openings_64 (by decide) (fun c64 => ?_) (fun c64 => ?_)
    · skip
      show WS layM V 4 X σ2 76 [(3, .int (nI (min (min (nn k) (n - cnt (κ.1 14) n)) 4))), (0, rf V 0), (1, .int k), (2, .int i)] []
      refine WS.bipush (v := (-2)) hx dX11_openings_76 (by decide) ?_
      exact WS.iret hx he dX11_openings_78 ⟨_, rfl, by (try dsimp only); rw [if_neg (fun h => h hA)]; rw [if_neg (by (try simp only [l_int, tL_0, tL_1, tL_2, tL_4, tL_5, tL_6, tL_7, tL_9, tL_10, tL_12, tL_15, tL_30, tL_40, tL_60, tL_99, tL_255, tL_1023, tL_m1, lc_lt, lc_gt, lc_ge, lc_le, lc_eq, l6_le, l6_lt, l6_eq, tI_m133, tI_m226, i_le, i_lt, i_eq, tI_m2, tI_m1, tI_0, tI_1] at c52); (try simp only [l_int, tL_0, tL_1, tL_2, tL_4, tL_5, tL_6, tL_7, tL_9, tL_10, tL_12, tL_15, tL_30, tL_40, tL_60, tL_99, tL_255, tL_1023, tL_m1, lc_lt, lc_gt, lc_ge, lc_le, lc_eq, l6_le, l6_lt, l6_eq, tI_m133, tI_m226, i_le, i_lt, i_eq, tI_m2, tI_m1, tI_0, tI_1] at c64); (try simp only [l_int, tL_0, tL_1, tL_2, tL_4, tL_5, tL_6, tL_7, tL_9, tL_10, tL_12, tL_15, tL_30, tL_40, tL_60, tL_99, tL_255, tL_1023, tL_m1, lc_lt, lc_gt, lc_ge, lc_le, lc_eq, l6_le, l6_lt, l6_eq, tI_m133, tI_m226, i_le, i_lt, i_eq, tI_m2, tI_m1, tI_0, tI_1]); omega), if_neg (by (try simp only [l_int, tL_0, tL_1, tL_2, tL_4, tL_5, tL_6, tL_7, tL_9, tL_10, tL_12, tL_15, tL_30, tL_40, tL_60, tL_99, tL_255, tL_1023, tL_m1, lc_lt, lc_gt, lc_ge, lc_le, lc_eq, l6_le, l6_lt, l6_eq, tI_m133, tI_m226, i_le, i_lt, i_eq, tI_m2, tI_m1, tI_0, tI_1] at c52); (try simp only [l_int, tL_0, tL_1, tL_2, tL_4, tL_5, tL_6, tL_7, tL_9, tL_10, tL_12, tL_15, tL_30, tL_40, tL_60, tL_99, tL_255, tL_1023, tL_m1, lc_lt, lc_gt, lc_ge, lc_le, lc_eq, l6_le, l6_lt, l6_eq, tI_m133, tI_m226, i_le, i_lt, i_eq, tI_m2, tI_m1, tI_0, tI_1] at c64); (try simp only [l_int, tL_0, tL_1, tL_2, tL_4, tL_5, tL_6, tL_7, tL_9, tL_10, tL_12, tL_15, tL_30, tL_40, tL_60, tL_99, tL_255, tL_1023, tL_m1, lc_lt, lc_gt, lc_ge, lc_le, lc_eq, l6_le, l6_lt, l6_eq, tI_m133, tI_m226, i_le, i_lt, i_eq, tI_m2, tI_m1, tI_0, tI_1]); omega)]; exact ⟨rfl, hmo.tr mo48⟩⟩
    · skip
      show WS layM V 4 X σ2 67 [(3, .int (nI (min (min (nn k) (n - cnt (κ.1 14) n)) 4))), (0, rf V 0), (1, .int k), (2, .int i)] []
      refine WS.aload_n hx dX11_openings_67 rfl 1 rfl ?_
      refine WS.getR hx okX11 lf11_59 rfl rfl dX11_openings_68 ?_
      refine WS.iload_n hx dX11_openings_71 rfl 3 rfl ?_
      refine WS.iald hx rfl (vp_in_iff.mpr (by (try simp only [l_int, tL_0, tL_1, tL_2, tL_4, tL_5, tL_6, tL_7, tL_9, tL_10, tL_12, tL_15, tL_30, tL_40, tL_60, tL_99, tL_255, tL_1023, tL_m1, lc_lt, lc_gt, lc_ge, lc_le, lc_eq, l6_le, l6_lt, l6_eq, tI_m133, tI_m226, i_le, i_lt, i_eq, tI_m2, tI_m1, tI_0, tI_1] at c52); (try simp only [l_int, tL_0, tL_1, tL_2, tL_4, tL_5, tL_6, tL_7, tL_9, tL_10, tL_12, tL_15, tL_30, tL_40, tL_60, tL_99, tL_255, tL_1023, tL_m1, lc_lt, lc_gt, lc_ge, lc_le, lc_eq, l6_le, l6_lt, l6_eq, tI_m133, tI_m226, i_le, i_lt, i_eq, tI_m2, tI_m1, tI_0, tI_1] at c64); omega)) dX11_openings_72 ?_
      refine WS.goto (tgt := 78) hx dX11_openings_73 (by decide) ?_
      exact WS.iret hx he dX11_openings_78 ⟨_, rfl, by (try dsimp only); rw [if_neg (fun h => h hA)]; rw [if_neg (by (try simp only [l_int, tL_0, tL_1, tL_2, tL_4, tL_5, tL_6, tL_7, tL_9, tL_10, tL_12, tL_15, tL_30, tL_40, tL_60, tL_99, tL_255, tL_1023, tL_m1, lc_lt, lc_gt, lc_ge, lc_le, lc_eq, l6_le, l6_lt, l6_eq, tI_m133, tI_m226, i_le, i_lt, i_eq, tI_m2, tI_m1, tI_0, tI_1] at c52); (try simp only [l_int, tL_0, tL_1, tL_2, tL_4, tL_5, tL_6, tL_7, tL_9, tL_10, tL_12, tL_15, tL_30, tL_40, tL_60, tL_99, tL_255, tL_1023, tL_m1, lc_lt, lc_gt, lc_ge, lc_le, lc_eq, l6_le, l6_lt, l6_eq, tI_m133, tI_m226, i_le, i_lt, i_eq, tI_m2, tI_m1, tI_0, tI_1] at c64); (try simp only [l_int, tL_0, tL_1, tL_2, tL_4, tL_5, tL_6, tL_7, tL_9, tL_10, tL_12, tL_15, tL_30, tL_40, tL_60, tL_99, tL_255, tL_1023, tL_m1, lc_lt, lc_gt, lc_ge, lc_le, lc_eq, l6_le, l6_lt, l6_eq, tI_m133, tI_m226, i_le, i_lt, i_eq, tI_m2, tI_m1, tI_0, tI_1]); omega), if_pos (by (try simp only [l_int, tL_0, tL_1, tL_2, tL_4, tL_5, tL_6, tL_7, tL_9, tL_10, tL_12, tL_15, tL_30, tL_40, tL_60, tL_99, tL_255, tL_1023, tL_m1, lc_lt, lc_gt, lc_ge, lc_le, lc_eq, l6_le, l6_lt, l6_eq, tI_m133, tI_m226, i_le, i_lt, i_eq, tI_m2, tI_m1, tI_0, tI_1] at c52); (try simp only [l_int, tL_0, tL_1, tL_2, tL_4, tL_5, tL_6, tL_7, tL_9, tL_10, tL_12, tL_15, tL_30, tL_40, tL_60, tL_99, tL_255, tL_1023, tL_m1, lc_lt, lc_gt, lc_ge, lc_le, lc_eq, l6_le, l6_lt, l6_eq, tI_m133, tI_m226, i_le, i_lt, i_eq, tI_m2, tI_m1, tI_0, tI_1] at c64); (try simp only [l_int, tL_0, tL_1, tL_2, tL_4, tL_5, tL_6, tL_7, tL_9, tL_10, tL_12, tL_15, tL_30, tL_40, tL_60, tL_99, tL_255, tL_1023, tL_m1, lc_lt, lc_gt, lc_ge, lc_le, lc_eq, l6_le, l6_lt, l6_eq, tI_m133, tI_m226, i_le, i_lt, i_eq, tI_m2, tI_m1, tI_0, tI_1]); omega)]; exact ⟨by
      have h9 := or48.2.1.resolve_left (fun h => by
        rw [h] at hpos; exact absurd hpos (by decide)) (nn i) (by (try simp only [l_int, tL_0, tL_1, tL_2, tL_4, tL_5, tL_6, tL_7, tL_9, tL_10, tL_12, tL_15, tL_30, tL_40, tL_60, tL_99, tL_255, tL_1023, tL_m1, lc_lt, lc_gt, lc_ge, lc_le, lc_eq, l6_le, l6_lt, l6_eq, tI_m133, tI_m226, i_le, i_lt, i_eq, tI_m2, tI_m1, tI_0, tI_1] at c52); (try simp only [l_int, tL_0, tL_1, tL_2, tL_4, tL_5, tL_6, tL_7, tL_9, tL_10, tL_12, tL_15, tL_30, tL_40, tL_60, tL_99, tL_255, tL_1023, tL_m1, lc_lt, lc_gt, lc_ge, lc_le, lc_eq, l6_le, l6_lt, l6_eq, tI_m133, tI_m226, i_le, i_lt, i_eq, tI_m2, tI_m1, tI_0, tI_1] at c64); (try simp only [l_int, tL_0, tL_1, tL_2, tL_4, tL_5, tL_6, tL_7, tL_9, tL_10, tL_12, tL_15, tL_30, tL_40, tL_60, tL_99, tL_255, tL_1023, tL_m1, lc_lt, lc_gt, lc_ge, lc_le, lc_eq, l6_le, l6_lt, l6_eq, tI_m133, tI_m226, i_le, i_lt, i_eq, tI_m2, tI_m1, tI_0, tI_1]); omega)
      exact h9, hmo.tr mo48⟩⟩
  · skip
    show WS layM V 4 X σ2 55 [(3, .int (nI (min (min (nn k) (n - cnt (κ.1 14) n)) 4))), (0, rf V 0), (1, .int k), (2, .int i)] []
    refine WS.aload_n hx dX11_openings_55 rfl 1 rfl ?_
    refine WS.getI hx okX11 lf11_267 rfl rfl dX11_openings_56 ?_
    refine WS.as rfl rfl (congrArg (fun z => Value.int z :: _) (show σ2.1 0 29 = (tryF sd n (min (min (nn k) (n - cnt (κ.1 14) n)) 4) (min (min (nn k) (n - cnt (κ.1 14) n)) 4) 0 (orW (fun b => decide (¬ κ.1 14 b = 1)) nI n) 0 (a9, b9, -1)).2.2 from or48.1)) ?_
    skip
    refine WS.goto (tgt := 78) hx dX11_openings_59 (by decide) ?_
    exact WS.iret hx he dX11_openings_78 ⟨_, rfl, by (try dsimp only); rw [if_neg (fun h => h hA)]; rw [if_pos (by (try simp only [l_int, tL_0, tL_1, tL_2, tL_4, tL_5, tL_6, tL_7, tL_9, tL_10, tL_12, tL_15, tL_30, tL_40, tL_60, tL_99, tL_255, tL_1023, tL_m1, lc_lt, lc_gt, lc_ge, lc_le, lc_eq, l6_le, l6_lt, l6_eq, tI_m133, tI_m226, i_le, i_lt, i_eq, tI_m2, tI_m1, tI_0, tI_1] at c52); (try simp only [l_int, tL_0, tL_1, tL_2, tL_4, tL_5, tL_6, tL_7, tL_9, tL_10, tL_12, tL_15, tL_30, tL_40, tL_60, tL_99, tL_255, tL_1023, tL_m1, lc_lt, lc_gt, lc_ge, lc_le, lc_eq, l6_le, l6_lt, l6_eq, tI_m133, tI_m226, i_le, i_lt, i_eq, tI_m2, tI_m1, tI_0, tI_1]); omega)]; exact ⟨rfl, hmo.tr mo48⟩⟩
set_option maxHeartbeats 1000000 in
theorem c_X11_openings (V : Vt) (d : Nat) (σ : Sg) (κ : Sg) (n : Nat) (hM : MR κ σ n) (cs : Nat → Int32) (T : Nat) (lw : Lw) (hL : ML σ cs T lw) (sd : Nat → Int32) (hsd : ∀ dp b, dp < 4 → b < n → sd (10 * dp + b) = (wdM κ n lw).2.2.1 (ftS (wdM κ n lw) b dp).1) (a9 b9 : Nat → Int32) (k i : Int32) : CT layM V mX11_openings (d + 12) [rf V 0, .int k, .int i] σ (Ri fun v σ' => if ¬ (0 ≤ k.toInt ∧ k.toInt ≤ 4 ∧ -1 ≤ i.toInt) then v = -1 ∧ MO σ σ' else (if i.toInt < 0 then v = (tryF sd n (min (min (nn k) (n - cnt (κ.1 14) n)) 4) (min (min (nn k) (n - cnt (κ.1 14) n)) 4) 0 (orW (fun b => decide (¬ κ.1 14 b = 1)) nI n) 0 (a9, b9, -1)).2.2 ∧ MO σ σ' else (v = (if i.toInt < (((min (min (nn k) (n - cnt (κ.1 14) n)) 4) : Nat) : Int) then (tryF sd n (min (min (nn k) (n - cnt (κ.1 14) n)) 4) (min (min (nn k) (n - cnt (κ.1 14) n)) 4) 0 (orW (fun b => decide (¬ κ.1 14 b = 1)) nI n) 0 (a9, b9, -1)).2.1 (nn i) else -2) ∧ MO σ σ'))) := by
  refine CT.of (own := RX11) rfl (by decide) (Nat.le_of_ble_eq_true rfl) (fun X (hx : Ok V RX11 cX11_openings 4 (d + 12) X) (he : En layM V (some .int) (Ri fun v σ' => if ¬ (0 ≤ k.toInt ∧ k.toInt ≤ 4 ∧ -1 ≤ i.toInt) then v = -1 ∧ MO σ σ' else (if i.toInt < 0 then v = (tryF sd n (min (min (nn k) (n - cnt (κ.1 14) n)) 4) (min (min (nn k) (n - cnt (κ.1 14) n)) 4) 0 (orW (fun b => decide (¬ κ.1 14 b = 1)) nI n) 0 (a9, b9, -1)).2.2 ∧ MO σ σ' else (v = (if i.toInt < (((min (min (nn k) (n - cnt (κ.1 14) n)) 4) : Nat) : Int) then (tryF sd n (min (min (nn k) (n - cnt (κ.1 14) n)) 4) (min (min (nn k) (n - cnt (κ.1 14) n)) 4) 0 (orW (fun b => decide (¬ κ.1 14 b = 1)) nI n) 0 (a9, b9, -1)).2.1 (nn i) else -2) ∧ MO σ σ'))) X) => ?_)
  change WS layM V 4 X σ 0 [(0, rf V 0), (1, .int k), (2, .int i)] []
  have hn := hM.n
  have hs := hM.s
  have hcl := hM.q.o.2
  have hcI : (nI (n - cnt (κ.1 14) n)).toInt = (((n - cnt (κ.1 14) n) : Nat) : Int) := nI_c (by omega)
  refine WS.iload_n hx dX11_openings_0 rfl 1 rfl ?_
  refine WS.i2l hx dX11_openings_1 ?_
  refine WS.lconst (v := 0) hx dX11_openings_2 rfl ?_
  refine WS.ldc2 (v := 4) hx lc11_125 dX11_openings_3 ?_
  refine WS.callSi (st := []) [.long (Int32.toInt64 k), .long 0, .long 4] hx (c_X11_within V (d + 11) σ (Int32.toInt64 k) 0 4) okX11_within lm11_100 rfl rfl (Nat.le_of_ble_eq_true rfl) dX11_openings_6 (fun v1 σ2 h3 => ?_)
  rcases h3 with ⟨rfl, rfl, hb6⟩ | ⟨rfl, rfl, hb6⟩
  · skip
    show WS layM V 4 X σ 9 [(0, rf V 0), (1, .int k), (2, .int i)] [.int 1]
    refine WS.if_eq (tgt := 17) hx dX11_openings_9 (by decide) (fun h => absurd h (by decide)) (fun _ => ?_)
    refine WS.iload_n hx dX11_openings_12 rfl 2 rfl ?_
    refine WS.iconst (v := (-1)) hx dX11_openings_13 (by decide) ?_
    refine WS.icmp_ge (tgt := 19) hx dX11_openings_14 (by decide) (fun c14 => ?_) (fun c14 => ?_)
    · skip
      show WS layM V 4 X σ 19 [(0, rf V 0), (1, .int k), (2, .int i)] []
      refine WS.aload_n hx dX11_openings_19 rfl 0 rfl ?_
      refine WS.callVv (st := []) [] hx (c_X11_begins V (d + 11) σ κ n lw hM) okX11_begins lm11_231 rfl rfl rfl rfl (Nat.le_of_ble_eq_true rfl) dX11_openings_20 (fun σ5 h6 => ?_)
      obtain ⟨me20, mt20⟩ := h6
      have hA : (0 ≤ k.toInt ∧ k.toInt ≤ 4 ∧ -1 ≤ i.toInt) := by
        (try simp only [l_int, tL_0, tL_1, tL_2, tL_4, tL_5, tL_6, tL_7, tL_9, tL_10, tL_12, tL_15, tL_30, tL_40, tL_60, tL_99, tL_255, tL_1023, tL_m1, lc_lt, lc_gt, lc_ge, lc_le, lc_eq, l6_le, l6_lt, l6_eq, tI_m133, tI_m226, i_le, i_lt, i_eq, tI_m2, tI_m1, tI_0, tI_1] at hb6); (try simp only [l_int, tL_0, tL_1, tL_2, tL_4, tL_5, tL_6, tL_7, tL_9, tL_10, tL_12, tL_15, tL_30, tL_40, tL_60, tL_99, tL_255, tL_1023, tL_m1, lc_lt, lc_gt, lc_ge, lc_le, lc_eq, l6_le, l6_lt, l6_eq, tI_m133, tI_m226, i_le, i_lt, i_eq, tI_m2, tI_m1, tI_0, tI_1] at c14); omega
      have hnk := nn_int hA.1
      show WS layM V 4 X σ5 23 [(0, rf V 0), (1, .int k), (2, .int i)] []
      refine WS.iload_n hx dX11_openings_23 rfl 1 rfl ?_
      refine WS.aload_n hx dX11_openings_24 rfl 0 rfl ?_
      refine WS.callVi (st := [.int k]) [] hx (c_X11_closedMany V (d + 11) σ5 n (hM.me me20).s hn (cnt (κ.1 14) n) mt20.2.2.2.1 hcl) okX11_closedMany lm11_274 rfl rfl rfl rfl (Nat.le_of_ble_eq_true rfl) dX11_openings_25 (fun v7 σ8 h9 => ?_)
      obtain ⟨rfl, rfl⟩ := h9
      show WS layM V 4 X σ5 28 [(0, rf V 0), (1, .int k), (2, .int i)] [.int (nI (n - cnt (κ.1 14) n)), .int k]
      refine WS.icmp_ge (tgt := 35) hx dX11_openings_28 (by decide) (fun c28 => ?_) (fun c28 => ?_)
      · skip
        show WS layM V 4 X σ5 35 [(0, rf V 0), (1, .int k), (2, .int i)] []
        refine WS.aload_n hx dX11_openings_35 rfl 0 rfl ?_
        refine WS.callVi (st := []) [] hx (c_X11_closedMany V (d + 11) σ5 n (hM.me me20).s hn (cnt (κ.1 14) n) mt20.2.2.2.1 hcl) okX11_closedMany lm11_274 rfl rfl rfl rfl (Nat.le_of_ble_eq_true rfl) dX11_openings_36 (fun v10 σ11 h12 => ?_)
        obtain ⟨rfl, rfl⟩ := h12
        show WS layM V 4 X σ5 39 [(0, rf V 0), (1, .int k), (2, .int i)] [.int (nI (n - cnt (κ.1 14) n))]
        refine WS.as rfl rfl (congrArg (fun z => Value.int z :: _) (show nI (n - cnt (κ.1 14) n) = nI (min (min (nn k) (n - cnt (κ.1 14) n)) 4) from by rw [show (min (min (nn k) (n - cnt (κ.1 14) n)) 4) = (n - cnt (κ.1 14) n) by (try simp only [l_int, tL_0, tL_1, tL_2, tL_4, tL_5, tL_6, tL_7, tL_9, tL_10, tL_12, tL_15, tL_30, tL_40, tL_60, tL_99, tL_255, tL_1023, tL_m1, lc_lt, lc_gt, lc_ge, lc_le, lc_eq, l6_le, l6_lt, l6_eq, tI_m133, tI_m226, i_le, i_lt, i_eq, tI_m2, tI_m1, tI_0, tI_1] at hb6); (try simp only [l_int, tL_0, tL_1, tL_2, tL_4, tL_5, tL_6, tL_7, tL_9, tL_10, tL_12, tL_15, tL_30, tL_40, tL_60, tL_99, tL_255, tL_1023, tL_m1, lc_lt, lc_gt, lc_ge, lc_le, lc_eq, l6_le, l6_lt, l6_eq, tI_m133, tI_m226, i_le, i_lt, i_eq, tI_m2, tI_m1, tI_0, tI_1] at c14); (try simp only [l_int, tL_0, tL_1, tL_2, tL_4, tL_5, tL_6, tL_7, tL_9, tL_10, tL_12, tL_15, tL_30, tL_40, tL_60, tL_99, tL_255, tL_1023, tL_m1, lc_lt, lc_gt, lc_ge, lc_le, lc_eq, l6_le, l6_lt, l6_eq, tI_m133, tI_m226, i_le, i_lt, i_eq, tI_m2, tI_m1, tI_0, tI_1] at c28); (try simp only [l_int, tL_0, tL_1, tL_2, tL_4, tL_5, tL_6, tL_7, tL_9, tL_10, tL_12, tL_15, tL_30, tL_40, tL_60, tL_99, tL_255, tL_1023, tL_m1, lc_lt, lc_gt, lc_ge, lc_le, lc_eq, l6_le, l6_lt, l6_eq, tI_m133, tI_m226, i_le, i_lt, i_eq, tI_m2, tI_m1, tI_0, tI_1]); omega])) ?_
        skip
        refine WS.istore_n (lo' := [(3, .int (nI (min (min (nn k) (n - cnt (κ.1 14) n)) 4))), (0, rf V 0), (1, .int k), (2, .int i)]) hx dX11_openings_39 rfl (by decide) rfl ?_
        exact WS.los [0, 1, 2, 3] rfl (lt_X11_openings V d σ κ n hM cs T lw hL sd hsd a9 b9 k i hA X hx he _ me20)
      · skip
        show WS layM V 4 X σ5 31 [(0, rf V 0), (1, .int k), (2, .int i)] []
        refine WS.iload_n hx dX11_openings_31 rfl 1 rfl ?_
        refine WS.as rfl rfl (congrArg (fun z => Value.int z :: _) (show k = nI (min (min (nn k) (n - cnt (κ.1 14) n)) 4) from by rw [show (min (min (nn k) (n - cnt (κ.1 14) n)) 4) = nn k by (try simp only [l_int, tL_0, tL_1, tL_2, tL_4, tL_5, tL_6, tL_7, tL_9, tL_10, tL_12, tL_15, tL_30, tL_40, tL_60, tL_99, tL_255, tL_1023, tL_m1, lc_lt, lc_gt, lc_ge, lc_le, lc_eq, l6_le, l6_lt, l6_eq, tI_m133, tI_m226, i_le, i_lt, i_eq, tI_m2, tI_m1, tI_0, tI_1] at hb6); (try simp only [l_int, tL_0, tL_1, tL_2, tL_4, tL_5, tL_6, tL_7, tL_9, tL_10, tL_12, tL_15, tL_30, tL_40, tL_60, tL_99, tL_255, tL_1023, tL_m1, lc_lt, lc_gt, lc_ge, lc_le, lc_eq, l6_le, l6_lt, l6_eq, tI_m133, tI_m226, i_le, i_lt, i_eq, tI_m2, tI_m1, tI_0, tI_1] at c14); (try simp only [l_int, tL_0, tL_1, tL_2, tL_4, tL_5, tL_6, tL_7, tL_9, tL_10, tL_12, tL_15, tL_30, tL_40, tL_60, tL_99, tL_255, tL_1023, tL_m1, lc_lt, lc_gt, lc_ge, lc_le, lc_eq, l6_le, l6_lt, l6_eq, tI_m133, tI_m226, i_le, i_lt, i_eq, tI_m2, tI_m1, tI_0, tI_1] at c28); (try simp only [l_int, tL_0, tL_1, tL_2, tL_4, tL_5, tL_6, tL_7, tL_9, tL_10, tL_12, tL_15, tL_30, tL_40, tL_60, tL_99, tL_255, tL_1023, tL_m1, lc_lt, lc_gt, lc_ge, lc_le, lc_eq, l6_le, l6_lt, l6_eq, tI_m133, tI_m226, i_le, i_lt, i_eq, tI_m2, tI_m1, tI_0, tI_1]); omega]; exact (nI_nn hA.1).symm)) ?_
        skip
        refine WS.goto (tgt := 39) hx dX11_openings_32 (by decide) ?_
        refine WS.istore_n (lo' := [(3, .int (nI (min (min (nn k) (n - cnt (κ.1 14) n)) 4))), (0, rf V 0), (1, .int k), (2, .int i)]) hx dX11_openings_39 rfl (by decide) rfl ?_
        exact WS.los [0, 1, 2, 3] rfl (lt_X11_openings V d σ κ n hM cs T lw hL sd hsd a9 b9 k i hA X hx he _ me20)
    · skip
      show WS layM V 4 X σ 17 [(0, rf V 0), (1, .int k), (2, .int i)] []
      refine WS.iconst (v := (-1)) hx dX11_openings_17 (by decide) ?_
      exact WS.iret hx he dX11_openings_18 ⟨_, rfl, by (try dsimp only); rw [if_pos (fun h => by (try simp only [l_int, tL_0, tL_1, tL_2, tL_4, tL_5, tL_6, tL_7, tL_9, tL_10, tL_12, tL_15, tL_30, tL_40, tL_60, tL_99, tL_255, tL_1023, tL_m1, lc_lt, lc_gt, lc_ge, lc_le, lc_eq, l6_le, l6_lt, l6_eq, tI_m133, tI_m226, i_le, i_lt, i_eq, tI_m2, tI_m1, tI_0, tI_1] at hb6); (try simp only [l_int, tL_0, tL_1, tL_2, tL_4, tL_5, tL_6, tL_7, tL_9, tL_10, tL_12, tL_15, tL_30, tL_40, tL_60, tL_99, tL_255, tL_1023, tL_m1, lc_lt, lc_gt, lc_ge, lc_le, lc_eq, l6_le, l6_lt, l6_eq, tI_m133, tI_m226, i_le, i_lt, i_eq, tI_m2, tI_m1, tI_0, tI_1] at c14); (try simp only [l_int, tL_0, tL_1, tL_2, tL_4, tL_5, tL_6, tL_7, tL_9, tL_10, tL_12, tL_15, tL_30, tL_40, tL_60, tL_99, tL_255, tL_1023, tL_m1, lc_lt, lc_gt, lc_ge, lc_le, lc_eq, l6_le, l6_lt, l6_eq, tI_m133, tI_m226, i_le, i_lt, i_eq, tI_m2, tI_m1, tI_0, tI_1]); omega)]; exact ⟨rfl, MO.rf⟩⟩
  · skip
    show WS layM V 4 X σ 9 [(0, rf V 0), (1, .int k), (2, .int i)] [.int 0]
    refine WS.if_eq (tgt := 17) hx dX11_openings_9 (by decide) (fun _ => ?_) (fun h => absurd (by decide) h)
    refine WS.iconst (v := (-1)) hx dX11_openings_17 (by decide) ?_
    exact WS.iret hx he dX11_openings_18 ⟨_, rfl, by (try dsimp only); rw [if_pos (fun h => by (try simp only [l_int, tL_0, tL_1, tL_2, tL_4, tL_5, tL_6, tL_7, tL_9, tL_10, tL_12, tL_15, tL_30, tL_40, tL_60, tL_99, tL_255, tL_1023, tL_m1, lc_lt, lc_gt, lc_ge, lc_le, lc_eq, l6_le, l6_lt, l6_eq, tI_m133, tI_m226, i_le, i_lt, i_eq, tI_m2, tI_m1, tI_0, tI_1] at hb6); (try simp only [l_int, tL_0, tL_1, tL_2, tL_4, tL_5, tL_6, tL_7, tL_9, tL_10, tL_12, tL_15, tL_30, tL_40, tL_60, tL_99, tL_255, tL_1023, tL_m1, lc_lt, lc_gt, lc_ge, lc_le, lc_eq, l6_le, l6_lt, l6_eq, tI_m133, tI_m226, i_le, i_lt, i_eq, tI_m2, tI_m1, tI_0, tI_1]); omega)]; exact ⟨rfl, MO.rf⟩⟩

set_option maxHeartbeats 1000000 in
theorem c_X11_isBlock (V : Vt) (d : Nat) (σ : Sg) (n : Nat) (hs : σ.1 0 6 = nI n) (hn : n ≤ 10) (b : Int64) : CT layM V mX11_isBlock (d + 1) [rf V 0, .long b] σ (Rb (0 ≤ b.toInt ∧ b.toInt < n) σ) := by
  refine CT.of (own := RX11) rfl (by decide) (Nat.le_of_ble_eq_true rfl) (fun X (hx : Ok V RX11 cX11_isBlock 3 (d + 1) X) (he : En layM V (some .boolean) (Rb (0 ≤ b.toInt ∧ b.toInt < n) σ) X) => ?_)
  change WS layM V 3 X σ 0 [(0, rf V 0), (1, .long b)] []
  have hnI : (nI n).toInt = (n : Int) := nI_c (by omega)
  have e1 : (nI n - 1).toInt = (n : Int) - 1 := by rw [i_sub (by rw [hnI, tI_1]; omega) (by rw [hnI, tI_1]; omega), hnI, tI_1]
  refine WS.lload_n hx dX11_isBlock_0 rfl 1 rfl ?_
  refine WS.lconst (v := 0) hx dX11_isBlock_1 rfl ?_
  refine WS.aload_n hx dX11_isBlock_2 rfl 0 rfl ?_
  refine WS.getI hx okX11 lf11_97 rfl rfl dX11_isBlock_3 ?_
  refine WS.as rfl rfl (congrArg (fun z => Value.int z :: _) (show σ.1 0 6 = nI n from hs)) ?_
  skip
  refine WS.iconst (v := 1) hx dX11_isBlock_6 (by decide) ?_
  refine WS.isub hx dX11_isBlock_7 ?_
  refine WS.i2l hx dX11_isBlock_8 ?_
  refine WS.callSi (st := []) [.long b, .long 0, .long (Int32.toInt64 ((nI n) - 1))] hx (c_X11_within V d σ b 0 (Int32.toInt64 ((nI n) - 1))) okX11_within lm11_100 rfl rfl (Nat.le_of_ble_eq_true rfl) dX11_isBlock_9 (fun v1 σ2 h3 => ?_)
  rcases h3 with ⟨rfl, rfl, hb9⟩ | ⟨rfl, rfl, hb9⟩
  · skip
    show WS layM V 3 X σ 12 [(0, rf V 0), (1, .long b)] [.int 1]
    exact WS.zret hx he dX11_isBlock_12 (Or.inr rfl) (Rb.t (by (try simp only [l_int, tL_0, tL_1, tL_2, tL_4, tL_5, tL_6, tL_7, tL_9, tL_10, tL_12, tL_15, tL_30, tL_40, tL_60, tL_99, tL_255, tL_1023, tL_m1, lc_lt, lc_gt, lc_ge, lc_le, lc_eq, l6_le, l6_lt, l6_eq, i_le, i_lt, i_eq, tI_0, tI_1] at hb9); (try simp only [l_int, tL_0, tL_1, tL_2, tL_4, tL_5, tL_6, tL_7, tL_9, tL_10, tL_12, tL_15, tL_30, tL_40, tL_60, tL_99, tL_255, tL_1023, tL_m1, lc_lt, lc_gt, lc_ge, lc_le, lc_eq, l6_le, l6_lt, l6_eq, i_le, i_lt, i_eq, tI_0, tI_1]); omega))
  · skip
    show WS layM V 3 X σ 12 [(0, rf V 0), (1, .long b)] [.int 0]
    exact WS.zret hx he dX11_isBlock_12 (Or.inl rfl) (Rb.f (by (try simp only [l_int, tL_0, tL_1, tL_2, tL_4, tL_5, tL_6, tL_7, tL_9, tL_10, tL_12, tL_15, tL_30, tL_40, tL_60, tL_99, tL_255, tL_1023, tL_m1, lc_lt, lc_gt, lc_ge, lc_le, lc_eq, l6_le, l6_lt, l6_eq, i_le, i_lt, i_eq, tI_0, tI_1] at hb9); (try simp only [l_int, tL_0, tL_1, tL_2, tL_4, tL_5, tL_6, tL_7, tL_9, tL_10, tL_12, tL_15, tL_30, tL_40, tL_60, tL_99, tL_255, tL_1023, tL_m1, lc_lt, lc_gt, lc_ge, lc_le, lc_eq, l6_le, l6_lt, l6_eq, i_le, i_lt, i_eq, tI_0, tI_1]); omega))
def aM (σ : Sg) (n : Nat) (b a l : Int32) : Sg := stI (stI (stI (stI σ 1 n b) 1 (10 + n) a) 1 (20 + n) l) 0 6 (nI (n + 1))
set_option maxHeartbeats 1000000 in
theorem c_X11_adds (V : Vt) (d : Nat) (σ : Sg) (n : Nat) (hs : σ.1 0 6 = nI n) (hn : n < 10) (b a l : Int32) : CT layM V mX11_adds (d) [rf V 0, .int b, .int a, .int l] σ (Rvo (aM σ n b a l)) := by
  refine CT.of (own := RX11) rfl (by decide) (Nat.le_of_ble_eq_true rfl) (fun X (hx : Ok V RX11 cX11_adds 4 (d) X) (he : En layM V none (Rvo (aM σ n b a l)) X) => ?_)
  change WS layM V 4 X σ 0 [(0, rf V 0), (1, .int b), (2, .int a), (3, .int l)] []
  refine WS.aload_n hx dX11_adds_0 rfl 0 rfl ?_
  refine WS.getR hx okX11 lf11_9 rfl rfl dX11_adds_1 ?_
  refine WS.aload_n hx dX11_adds_4 rfl 0 rfl ?_
  refine WS.getI hx okX11 lf11_97 rfl rfl dX11_adds_5 ?_
  refine WS.as rfl rfl (congrArg (fun z => Value.int z :: _) (show σ.1 0 6 = nI n from hs)) ?_
  skip
  refine WS.iload_n hx dX11_adds_8 rfl 1 rfl ?_
  refine WS.iast hx rfl (vp_in_nI (by omega) (by decide)) dX11_adds_9 ?_
  refine WS.aload_n hx dX11_adds_10 rfl 0 rfl ?_
  refine WS.getR hx okX11 lf11_9 rfl rfl dX11_adds_11 ?_
  refine WS.bipush (v := 10) hx dX11_adds_14 (by decide) ?_
  refine WS.aload_n hx dX11_adds_16 rfl 0 rfl ?_
  refine WS.getI hx okX11 lf11_97 rfl rfl dX11_adds_17 ?_
  refine WS.as rfl rfl (congrArg (fun z => Value.int z :: _) (show (stI σ 1 (nn (nI n)) b).1 0 6 = nI n from hs)) ?_
  skip
  refine WS.iadd hx dX11_adds_20 ?_
  refine WS.as rfl rfl (congrArg (fun z => Value.int z :: _) (show 10 + (nI n) = nI (10 + n) from nI_add 10 n)) ?_
  skip
  refine WS.iload_n hx dX11_adds_21 rfl 2 rfl ?_
  refine WS.iast hx rfl (vp_in_nI (by omega) (by decide)) dX11_adds_22 ?_
  refine WS.aload_n hx dX11_adds_23 rfl 0 rfl ?_
  refine WS.getR hx okX11 lf11_9 rfl rfl dX11_adds_24 ?_
  refine WS.bipush (v := 20) hx dX11_adds_27 (by decide) ?_
  refine WS.aload_n hx dX11_adds_29 rfl 0 rfl ?_
  refine WS.getI hx okX11 lf11_97 rfl rfl dX11_adds_30 ?_
  refine WS.as rfl rfl (congrArg (fun z => Value.int z :: _) (show (stI (stI σ 1 (nn (nI n)) b) 1 (nn (nI (10 + n))) a).1 0 6 = nI n from hs)) ?_
  skip
  refine WS.iadd hx dX11_adds_33 ?_
  refine WS.as rfl rfl (congrArg (fun z => Value.int z :: _) (show 20 + (nI n) = nI (20 + n) from nI_add 20 n)) ?_
  skip
  refine WS.iload_n hx dX11_adds_34 rfl 3 rfl ?_
  refine WS.iast hx rfl (vp_in_nI (by omega) (by decide)) dX11_adds_35 ?_
  refine WS.aload_n hx dX11_adds_36 rfl 0 rfl ?_
  refine WS.dup hx dX11_adds_37 rfl ?_
  refine WS.getI hx okX11 lf11_97 rfl rfl dX11_adds_38 ?_
  refine WS.as rfl rfl (congrArg (fun z => Value.int z :: _) (show (stI (stI (stI σ 1 (nn (nI n)) b) 1 (nn (nI (10 + n))) a) 1 (nn (nI (20 + n))) l).1 0 6 = nI n from hs)) ?_
  skip
  refine WS.iconst (v := 1) hx dX11_adds_41 (by decide) ?_
  refine WS.iadd hx dX11_adds_42 ?_
  refine WS.as rfl rfl (congrArg (fun z => Value.int z :: _) (show (nI n) + 1 = nI (n + 1) from nI_1 n)) ?_
  skip
  refine WS.putI hx okX11 lf11_97 rfl rfl rfl rfl dX11_adds_43 ?_
  exact WS.vret hx he dX11_adds_46 (Rvo.s (by unfold aM; rw [nI_clamp (show n < 2 ^ 31 by omega), nI_clamp (show 10 + n < 2 ^ 31 by omega), nI_clamp (show 20 + n < 2 ^ 31 by omega)]))
theorem MR_o {κ μ μ' : Sg} {n : Nat} (h : MR κ μ n) (e1 : μ'.1 1 = μ.1 1) (e2 : μ'.1 0 6 = μ.1 0 6) : MR κ μ' n := ⟨h.1, e2.trans h.2.1, fun q j hq hj => by rw [e1]; exact h.2.2 q j hq hj⟩
theorem MR_add {κ μ : Sg} {n : Nat} {b a l : Int32} (h : MR κ μ n) (hn : n < 10) (hb : rg b 9) (ha : rg a 15) (hl : rg l 9) : MR (addQ κ n b a l) (aM μ n b a l) (n + 1) := by
  refine ⟨QI_add h.q hn hb ha hl, rfl, fun q j hq hj => ?_⟩
  have key : ∀ (f : Nat → Int32) (p r : Nat) (x : Int32), p < 8 → r < lnN p → upd f (pN p r) x (pN q j) = if p = q ∧ r = j then x else f (pN q j) := fun f p r x hp hr => by
    by_cases e : p = q ∧ r = j
    · rw [if_pos e, e.1, e.2, pk_us]
    · rw [if_neg e, pk_un (fun e3 => e (by have := pN_inj hp hr hq hj e3.symm; exact this))]
  have e0 : (aM μ n b a l).1 1 = upd (upd (upd (μ.1 1) (pN 0 n) b) (pN 1 n) a) (pN 2 n) l := by
    show upd (upd (upd (μ.1 1) n b) (10 + n) a) (20 + n) l = _
    rw [show pN 0 n = n by unfold pN; simp, show pN 1 n = 10 + n from rfl, show pN 2 n = 20 + n from rfl]
  rw [e0, key _ 2 n l (by decide) hn, key _ 1 n a (by decide) hn, key _ 0 n b (by decide) hn, h.2.2 q j hq hj]
  unfold addQ
  have : q = 0 ∨ q = 1 ∨ q = 2 ∨ 3 ≤ q := by omega
  rcases this with rfl | rfl | rfl | h3
  · by_cases e : n = j
    · subst e
      show _ = upd (κ.1 11) n b n
      rw [pk_us]; simp
    · show _ = upd (κ.1 11) n b j
      rw [pk_un (fun e3 => e e3.symm)]; simp [e]
  · by_cases e : n = j
    · subst e
      show _ = upd (κ.1 12) n a n
      rw [pk_us]; simp
    · show _ = upd (κ.1 12) n a j
      rw [pk_un (fun e3 => e e3.symm)]; simp [e]
  · by_cases e : n = j
    · subst e
      show _ = upd (κ.1 13) n l n
      rw [pk_us]; simp
    · show _ = upd (κ.1 13) n l j
      rw [pk_un (fun e3 => e e3.symm)]; simp [e]
  · rw [if_neg (by omega), if_neg (by omega), if_neg (by omega), stI_o _ _ _ _ (by omega), stI_o _ _ _ _ (by omega), stI_o _ _ _ _ (by omega), stI_o _ _ _ _ (by omega)]
theorem pm_a {b q : Int32} (h1 : 0 ≤ q.toInt) (h2 : q.toInt ≤ 4) (h3 : 0 ≤ b.toInt) : nI (pm b q) = 10 * q + b := by
  have e1 := nn_int h1
  have e : pm b q = 10 * nn q + nn b := by unfold pm pN; rw [if_pos (by omega)]
  rw [e, ← nI_add, ← pk_mul, nI_nn h1, nI_nn h3]; rfl
theorem pm_b {b q : Int32} (h1 : 5 ≤ q.toInt) (h2 : q.toInt ≤ 6) (h3 : 0 ≤ b.toInt) : nI (pm b q) = 50 + 16 * (q - 5) + b := by
  have e1 := nn_int (show 0 ≤ q.toInt by omega)
  have e : pm b q = 50 + 16 * (nn q - 5) + nn b := by unfold pm pN; rw [if_neg (by omega), if_pos (by omega)]
  rw [e, ← nI_add, ← nI_add, ← pk_mul, nI_nn h3, ← pk_sub (by omega), nI_nn (show 0 ≤ q.toInt by omega)]; rfl
theorem pm_c {b q : Int32} (h1 : q.toInt = 7) (h3 : b.toInt = 0) : nI (pm b q) = 82 := by
  have e1 := nn_int (show 0 ≤ q.toInt by omega)
  have e2 := nn_int (show 0 ≤ b.toInt by omega)
  have e : pm b q = 82 := by unfold pm pN; rw [if_neg (by omega), if_neg (by omega)]; omega
  rw [e]; rfl
set_option maxHeartbeats 1000000 in
theorem c_X11_block (V : Vt) (d : Nat) (σ : Sg) (κ : Sg) (n : Nat) (hM : MR κ σ n) (b : Int32) : CT layM V mX11_block (d + 3) [rf V 0, .int b] σ (Ri fun v σ' => if ¬ (0 ≤ b.toInt ∧ b.toInt ≤ 9) then v = -1 ∧ σ' = σ else if n = 10 then v = -3 ∧ σ' = σ else v = nI n ∧ σ' = aM σ n b 0 3) := by
  refine CT.of (own := RX11) rfl (by decide) (Nat.le_of_ble_eq_true rfl) (fun X (hx : Ok V RX11 cX11_block 2 (d + 3) X) (he : En layM V (some .int) (Ri fun v σ' => if ¬ (0 ≤ b.toInt ∧ b.toInt ≤ 9) then v = -1 ∧ σ' = σ else if n = 10 then v = -3 ∧ σ' = σ else v = nI n ∧ σ' = aM σ n b 0 3) X) => ?_)
  change WS layM V 2 X σ 0 [(0, rf V 0), (1, .int b)] []
  have hn := hM.n
  have hs := hM.s
  have hnI : (nI n).toInt = (n : Int) := nI_c (by omega)
  have e1 : (nI n - 1).toInt = (n : Int) - 1 := by rw [i_sub (by rw [hnI, tI_1]; omega) (by rw [hnI, tI_1]; omega), hnI, tI_1]
  refine WS.iload_n hx dX11_block_0 rfl 1 rfl ?_
  refine WS.i2l hx dX11_block_1 ?_
  refine WS.lconst (v := 0) hx dX11_block_2 rfl ?_
  refine WS.lconst (v := 0) hx dX11_block_3 rfl ?_
  refine WS.callSi (st := []) [.long (Int32.toInt64 b), .long 0, .long 0] hx (c_X11_mayCome V d σ (Int32.toInt64 b) 0 0) okX11_mayCome lm11_112 rfl rfl (Nat.le_of_ble_eq_true rfl) dX11_block_4 (fun v1 σ2 h3 => ?_)
  rcases h3 with ⟨rfl, rfl, hb4⟩ | ⟨rfl, rfl, hb4⟩
  · skip
    show WS layM V 2 X σ 7 [(0, rf V 0), (1, .int b)] [.int 1]
    refine WS.if_ne (tgt := 12) hx dX11_block_7 (by decide) (fun _ => ?_) (fun h => absurd h (by decide))
    refine WS.aload_n hx dX11_block_12 rfl 0 rfl ?_
    refine WS.getI hx okX11 lf11_97 rfl rfl dX11_block_13 ?_
    refine WS.as rfl rfl (congrArg (fun z => Value.int z :: _) (show σ.1 0 6 = nI n from hs)) ?_
    skip
    refine WS.bipush (v := 10) hx dX11_block_16 (by decide) ?_
    refine WS.icmp_ne (tgt := 24) hx dX11_block_18 (by decide) (fun c18 => ?_) (fun c18 => ?_)
    · skip
      show WS layM V 2 X σ 24 [(0, rf V 0), (1, .int b)] []
      refine WS.aload_n hx dX11_block_24 rfl 0 rfl ?_
      refine WS.iload_n hx dX11_block_25 rfl 1 rfl ?_
      refine WS.iconst (v := 0) hx dX11_block_26 (by decide) ?_
      refine WS.iconst (v := 3) hx dX11_block_27 (by decide) ?_
      refine WS.callVv (st := []) [.int b, .int 0, .int 3] hx (c_X11_adds V (d + 2) σ n hs (by (try simp only [l_int, tL_0, tL_1, tL_2, tL_4, tL_5, tL_6, tL_7, tL_9, tL_10, tL_12, tL_15, tL_30, tL_40, tL_60, tL_99, tL_255, tL_1023, tL_m1, lc_lt, lc_gt, lc_ge, lc_le, lc_eq, l6_le, l6_lt, l6_eq, i_le, i_lt, i_eq, tI_m3, tI_m1, tI_0, tI_1, tI_3, tI_10] at hb4); (try simp only [l_int, tL_0, tL_1, tL_2, tL_4, tL_5, tL_6, tL_7, tL_9, tL_10, tL_12, tL_15, tL_30, tL_40, tL_60, tL_99, tL_255, tL_1023, tL_m1, lc_lt, lc_gt, lc_ge, lc_le, lc_eq, l6_le, l6_lt, l6_eq, i_le, i_lt, i_eq, tI_m3, tI_m1, tI_0, tI_1, tI_3, tI_10] at c18); omega) b 0 3) okX11_adds lm11_115 rfl rfl rfl rfl (Nat.le_of_ble_eq_true rfl) dX11_block_28 (fun σ5 h6 => ?_)
      obtain rfl := h6
      show WS layM V 2 X (aM σ n b 0 3) 31 [(0, rf V 0), (1, .int b)] []
      refine WS.aload_n hx dX11_block_31 rfl 0 rfl ?_
      refine WS.getI hx okX11 lf11_97 rfl rfl dX11_block_32 ?_
      refine WS.as rfl rfl (congrArg (fun z => Value.int z :: _) (show (aM σ n b 0 3).1 0 6 = nI (n + 1) from rfl)) ?_
      skip
      refine WS.iconst (v := 1) hx dX11_block_35 (by decide) ?_
      refine WS.isub hx dX11_block_36 ?_
      refine WS.as rfl rfl (congrArg (fun z => Value.int z :: _) (show (nI (n + 1)) - 1 = nI n from nI_pred n)) ?_
      skip
      exact WS.iret hx he dX11_block_37 ⟨_, rfl, by (try simp only [l_int, tL_0, tL_1, tL_2, tL_4, tL_5, tL_6, tL_7, tL_9, tL_10, tL_12, tL_15, tL_30, tL_40, tL_60, tL_99, tL_255, tL_1023, tL_m1, lc_lt, lc_gt, lc_ge, lc_le, lc_eq, l6_le, l6_lt, l6_eq, i_le, i_lt, i_eq, tI_m3, tI_m1, tI_0, tI_1, tI_3, tI_10] at hb4); (try simp only [l_int, tL_0, tL_1, tL_2, tL_4, tL_5, tL_6, tL_7, tL_9, tL_10, tL_12, tL_15, tL_30, tL_40, tL_60, tL_99, tL_255, tL_1023, tL_m1, lc_lt, lc_gt, lc_ge, lc_le, lc_eq, l6_le, l6_lt, l6_eq, i_le, i_lt, i_eq, tI_m3, tI_m1, tI_0, tI_1, tI_3, tI_10] at c18); (repeat' split) <;> first | (exfalso; omega) | exact ⟨rfl, rfl⟩⟩
    · skip
      show WS layM V 2 X σ 21 [(0, rf V 0), (1, .int b)] []
      refine WS.bipush (v := (-3)) hx dX11_block_21 (by decide) ?_
      exact WS.iret hx he dX11_block_23 ⟨_, rfl, by (try simp only [l_int, tL_0, tL_1, tL_2, tL_4, tL_5, tL_6, tL_7, tL_9, tL_10, tL_12, tL_15, tL_30, tL_40, tL_60, tL_99, tL_255, tL_1023, tL_m1, lc_lt, lc_gt, lc_ge, lc_le, lc_eq, l6_le, l6_lt, l6_eq, i_le, i_lt, i_eq, tI_m3, tI_m1, tI_0, tI_1, tI_3, tI_10] at hb4); (try simp only [l_int, tL_0, tL_1, tL_2, tL_4, tL_5, tL_6, tL_7, tL_9, tL_10, tL_12, tL_15, tL_30, tL_40, tL_60, tL_99, tL_255, tL_1023, tL_m1, lc_lt, lc_gt, lc_ge, lc_le, lc_eq, l6_le, l6_lt, l6_eq, i_le, i_lt, i_eq, tI_m3, tI_m1, tI_0, tI_1, tI_3, tI_10] at c18); (repeat' split) <;> first | (exfalso; omega) | exact ⟨rfl, rfl⟩⟩
  · skip
    show WS layM V 2 X σ 7 [(0, rf V 0), (1, .int b)] [.int 0]
    refine WS.if_ne (tgt := 12) hx dX11_block_7 (by decide) (fun h => absurd (by decide) h) (fun _ => ?_)
    refine WS.iconst (v := (-1)) hx dX11_block_10 (by decide) ?_
    exact WS.iret hx he dX11_block_11 ⟨_, rfl, by (try simp only [l_int, tL_0, tL_1, tL_2, tL_4, tL_5, tL_6, tL_7, tL_9, tL_10, tL_12, tL_15, tL_30, tL_40, tL_60, tL_99, tL_255, tL_1023, tL_m1, lc_lt, lc_gt, lc_ge, lc_le, lc_eq, l6_le, l6_lt, l6_eq, i_le, i_lt, i_eq, tI_m3, tI_m1, tI_0, tI_1, tI_3, tI_10] at hb4); (repeat' split) <;> first | (exfalso; omega) | exact ⟨rfl, rfl⟩⟩
set_option maxHeartbeats 1000000 in
theorem c_X11_placeOf (V : Vt) (d : Nat) (σ : Sg) (n : Nat) (hs : σ.1 0 6 = nI n) (hn : n ≤ 10) (b q : Int32) : CT layM V mX11_placeOf (d + 3) [rf V 0, .int b, .int q] σ (Ri fun v σ' => (hasC n b q ∧ nI (pm b q) = v ∧ σ = σ') ∨ (¬ hasC n b q ∧ -1 = v ∧ σ = σ')) := by
  refine CT.of (own := RX11) rfl (by decide) (Nat.le_of_ble_eq_true rfl) (fun X (hx : Ok V RX11 cX11_placeOf 3 (d + 3) X) (he : En layM V (some .int) (Ri fun v σ' => (hasC n b q ∧ nI (pm b q) = v ∧ σ = σ') ∨ (¬ hasC n b q ∧ -1 = v ∧ σ = σ')) X) => ?_)
  change WS layM V 3 X σ 0 [(0, rf V 0), (1, .int b), (2, .int q)] []
  refine WS.iload_n hx dX11_placeOf_0 rfl 2 rfl ?_
  refine WS.i2l hx dX11_placeOf_1 ?_
  refine WS.lconst (v := 0) hx dX11_placeOf_2 rfl ?_
  refine WS.ldc2 (v := 4) hx lc11_125 dX11_placeOf_3 ?_
  refine WS.callSi (st := []) [.long (Int32.toInt64 q), .long 0, .long 4] hx (c_X11_within V (d + 2) σ (Int32.toInt64 q) 0 4) okX11_within lm11_100 rfl rfl (Nat.le_of_ble_eq_true rfl) dX11_placeOf_6 (fun v1 σ2 h3 => ?_)
  rcases h3 with ⟨rfl, rfl, hb6⟩ | ⟨rfl, rfl, hb6⟩
  · skip
    show WS layM V 3 X σ 9 [(0, rf V 0), (1, .int b), (2, .int q)] [.int 1]
    refine WS.if_eq (tgt := 32) hx dX11_placeOf_9 (by decide) (fun h => absurd h (by decide)) (fun _ => ?_)
    refine WS.aload_n hx dX11_placeOf_12 rfl 0 rfl ?_
    refine WS.iload_n hx dX11_placeOf_13 rfl 1 rfl ?_
    refine WS.i2l hx dX11_placeOf_14 ?_
    refine WS.callVi (st := []) [.long (Int32.toInt64 b)] hx (c_X11_isBlock V (d + 1) σ n hs hn (Int32.toInt64 b)) okX11_isBlock lm11_127 rfl rfl rfl rfl (Nat.le_of_ble_eq_true rfl) dX11_placeOf_15 (fun v4 σ5 h6 => ?_)
    rcases h6 with ⟨rfl, rfl, hb15⟩ | ⟨rfl, rfl, hb15⟩
    · skip
      show WS layM V 3 X σ 18 [(0, rf V 0), (1, .int b), (2, .int q)] [.int 1]
      refine WS.if_eq (tgt := 30) hx dX11_placeOf_18 (by decide) (fun h => absurd h (by decide)) (fun _ => ?_)
      refine WS.bipush (v := 10) hx dX11_placeOf_21 (by decide) ?_
      refine WS.iload_n hx dX11_placeOf_23 rfl 2 rfl ?_
      refine WS.imul hx dX11_placeOf_24 ?_
      refine WS.iload_n hx dX11_placeOf_25 rfl 1 rfl ?_
      refine WS.iadd hx dX11_placeOf_26 ?_
      refine WS.goto (tgt := 31) hx dX11_placeOf_27 (by decide) ?_
      exact WS.iret hx he dX11_placeOf_31 ⟨_, rfl, Or.inl ⟨by unfold hasC; (try simp only [l_int, tL_0, tL_1, tL_2, tL_4, tL_5, tL_6, tL_7, tL_9, tL_10, tL_12, tL_15, tL_30, tL_40, tL_60, tL_99, tL_255, tL_1023, tL_m1, lc_lt, lc_gt, lc_ge, lc_le, lc_eq, l6_le, l6_lt, l6_eq, i_le, i_lt, i_eq, tI_m1, tI_0, tI_1, tI_5, tI_7, tI_10, tI_16, tI_50, tI_82] at hb6); (try simp only [l_int, tL_0, tL_1, tL_2, tL_4, tL_5, tL_6, tL_7, tL_9, tL_10, tL_12, tL_15, tL_30, tL_40, tL_60, tL_99, tL_255, tL_1023, tL_m1, lc_lt, lc_gt, lc_ge, lc_le, lc_eq, l6_le, l6_lt, l6_eq, i_le, i_lt, i_eq, tI_m1, tI_0, tI_1, tI_5, tI_7, tI_10, tI_16, tI_50, tI_82] at hb15); (try simp only [l_int, tL_0, tL_1, tL_2, tL_4, tL_5, tL_6, tL_7, tL_9, tL_10, tL_12, tL_15, tL_30, tL_40, tL_60, tL_99, tL_255, tL_1023, tL_m1, lc_lt, lc_gt, lc_ge, lc_le, lc_eq, l6_le, l6_lt, l6_eq, i_le, i_lt, i_eq, tI_m1, tI_0, tI_1, tI_5, tI_7, tI_10, tI_16, tI_50, tI_82]); omega, pm_a (by (try simp only [l_int, tL_0, tL_1, tL_2, tL_4, tL_5, tL_6, tL_7, tL_9, tL_10, tL_12, tL_15, tL_30, tL_40, tL_60, tL_99, tL_255, tL_1023, tL_m1, lc_lt, lc_gt, lc_ge, lc_le, lc_eq, l6_le, l6_lt, l6_eq, i_le, i_lt, i_eq, tI_m1, tI_0, tI_1, tI_5, tI_7, tI_10, tI_16, tI_50, tI_82] at hb6); (try simp only [l_int, tL_0, tL_1, tL_2, tL_4, tL_5, tL_6, tL_7, tL_9, tL_10, tL_12, tL_15, tL_30, tL_40, tL_60, tL_99, tL_255, tL_1023, tL_m1, lc_lt, lc_gt, lc_ge, lc_le, lc_eq, l6_le, l6_lt, l6_eq, i_le, i_lt, i_eq, tI_m1, tI_0, tI_1, tI_5, tI_7, tI_10, tI_16, tI_50, tI_82] at hb15); (try simp only [l_int, tL_0, tL_1, tL_2, tL_4, tL_5, tL_6, tL_7, tL_9, tL_10, tL_12, tL_15, tL_30, tL_40, tL_60, tL_99, tL_255, tL_1023, tL_m1, lc_lt, lc_gt, lc_ge, lc_le, lc_eq, l6_le, l6_lt, l6_eq, i_le, i_lt, i_eq, tI_m1, tI_0, tI_1, tI_5, tI_7, tI_10, tI_16, tI_50, tI_82]); omega) (by (try simp only [l_int, tL_0, tL_1, tL_2, tL_4, tL_5, tL_6, tL_7, tL_9, tL_10, tL_12, tL_15, tL_30, tL_40, tL_60, tL_99, tL_255, tL_1023, tL_m1, lc_lt, lc_gt, lc_ge, lc_le, lc_eq, l6_le, l6_lt, l6_eq, i_le, i_lt, i_eq, tI_m1, tI_0, tI_1, tI_5, tI_7, tI_10, tI_16, tI_50, tI_82] at hb6); (try simp only [l_int, tL_0, tL_1, tL_2, tL_4, tL_5, tL_6, tL_7, tL_9, tL_10, tL_12, tL_15, tL_30, tL_40, tL_60, tL_99, tL_255, tL_1023, tL_m1, lc_lt, lc_gt, lc_ge, lc_le, lc_eq, l6_le, l6_lt, l6_eq, i_le, i_lt, i_eq, tI_m1, tI_0, tI_1, tI_5, tI_7, tI_10, tI_16, tI_50, tI_82] at hb15); (try simp only [l_int, tL_0, tL_1, tL_2, tL_4, tL_5, tL_6, tL_7, tL_9, tL_10, tL_12, tL_15, tL_30, tL_40, tL_60, tL_99, tL_255, tL_1023, tL_m1, lc_lt, lc_gt, lc_ge, lc_le, lc_eq, l6_le, l6_lt, l6_eq, i_le, i_lt, i_eq, tI_m1, tI_0, tI_1, tI_5, tI_7, tI_10, tI_16, tI_50, tI_82]); omega) (by (try simp only [l_int, tL_0, tL_1, tL_2, tL_4, tL_5, tL_6, tL_7, tL_9, tL_10, tL_12, tL_15, tL_30, tL_40, tL_60, tL_99, tL_255, tL_1023, tL_m1, lc_lt, lc_gt, lc_ge, lc_le, lc_eq, l6_le, l6_lt, l6_eq, i_le, i_lt, i_eq, tI_m1, tI_0, tI_1, tI_5, tI_7, tI_10, tI_16, tI_50, tI_82] at hb6); (try simp only [l_int, tL_0, tL_1, tL_2, tL_4, tL_5, tL_6, tL_7, tL_9, tL_10, tL_12, tL_15, tL_30, tL_40, tL_60, tL_99, tL_255, tL_1023, tL_m1, lc_lt, lc_gt, lc_ge, lc_le, lc_eq, l6_le, l6_lt, l6_eq, i_le, i_lt, i_eq, tI_m1, tI_0, tI_1, tI_5, tI_7, tI_10, tI_16, tI_50, tI_82] at hb15); (try simp only [l_int, tL_0, tL_1, tL_2, tL_4, tL_5, tL_6, tL_7, tL_9, tL_10, tL_12, tL_15, tL_30, tL_40, tL_60, tL_99, tL_255, tL_1023, tL_m1, lc_lt, lc_gt, lc_ge, lc_le, lc_eq, l6_le, l6_lt, l6_eq, i_le, i_lt, i_eq, tI_m1, tI_0, tI_1, tI_5, tI_7, tI_10, tI_16, tI_50, tI_82]); omega), rfl⟩⟩
    · skip
      show WS layM V 3 X σ 18 [(0, rf V 0), (1, .int b), (2, .int q)] [.int 0]
      refine WS.if_eq (tgt := 30) hx dX11_placeOf_18 (by decide) (fun _ => ?_) (fun h => absurd (by decide) h)
      refine WS.iconst (v := (-1)) hx dX11_placeOf_30 (by decide) ?_
      exact WS.iret hx he dX11_placeOf_31 ⟨_, rfl, Or.inr ⟨by unfold hasC; (try simp only [l_int, tL_0, tL_1, tL_2, tL_4, tL_5, tL_6, tL_7, tL_9, tL_10, tL_12, tL_15, tL_30, tL_40, tL_60, tL_99, tL_255, tL_1023, tL_m1, lc_lt, lc_gt, lc_ge, lc_le, lc_eq, l6_le, l6_lt, l6_eq, i_le, i_lt, i_eq, tI_m1, tI_0, tI_1, tI_5, tI_7, tI_10, tI_16, tI_50, tI_82] at hb6); (try simp only [l_int, tL_0, tL_1, tL_2, tL_4, tL_5, tL_6, tL_7, tL_9, tL_10, tL_12, tL_15, tL_30, tL_40, tL_60, tL_99, tL_255, tL_1023, tL_m1, lc_lt, lc_gt, lc_ge, lc_le, lc_eq, l6_le, l6_lt, l6_eq, i_le, i_lt, i_eq, tI_m1, tI_0, tI_1, tI_5, tI_7, tI_10, tI_16, tI_50, tI_82] at hb15); (try simp only [l_int, tL_0, tL_1, tL_2, tL_4, tL_5, tL_6, tL_7, tL_9, tL_10, tL_12, tL_15, tL_30, tL_40, tL_60, tL_99, tL_255, tL_1023, tL_m1, lc_lt, lc_gt, lc_ge, lc_le, lc_eq, l6_le, l6_lt, l6_eq, i_le, i_lt, i_eq, tI_m1, tI_0, tI_1, tI_5, tI_7, tI_10, tI_16, tI_50, tI_82]); omega, rfl, rfl⟩⟩
  · skip
    show WS layM V 3 X σ 9 [(0, rf V 0), (1, .int b), (2, .int q)] [.int 0]
    refine WS.if_eq (tgt := 32) hx dX11_placeOf_9 (by decide) (fun _ => ?_) (fun h => absurd (by decide) h)
    refine WS.iload_n hx dX11_placeOf_32 rfl 2 rfl ?_
    refine WS.i2l hx dX11_placeOf_33 ?_
    refine WS.ldc2 (v := 5) hx lc11_130 dX11_placeOf_34 ?_
    refine WS.ldc2 (v := 6) hx lc11_132 dX11_placeOf_37 ?_
    refine WS.callSi (st := []) [.long (Int32.toInt64 q), .long 5, .long 6] hx (c_X11_within V (d + 2) σ (Int32.toInt64 q) 5 6) okX11_within lm11_100 rfl rfl (Nat.le_of_ble_eq_true rfl) dX11_placeOf_40 (fun v7 σ8 h9 => ?_)
    rcases h9 with ⟨rfl, rfl, hb40⟩ | ⟨rfl, rfl, hb40⟩
    · skip
      show WS layM V 3 X σ 43 [(0, rf V 0), (1, .int b), (2, .int q)] [.int 1]
      refine WS.if_eq (tgt := 70) hx dX11_placeOf_43 (by decide) (fun h => absurd h (by decide)) (fun _ => ?_)
      refine WS.iload_n hx dX11_placeOf_46 rfl 1 rfl ?_
      refine WS.i2l hx dX11_placeOf_47 ?_
      refine WS.callSi (st := []) [.long (Int32.toInt64 b)] hx (c_X11_isThought V (d + 1) σ (Int32.toInt64 b)) okX11_isThought lm11_108 rfl rfl (Nat.le_of_ble_eq_true rfl) dX11_placeOf_48 (fun v10 σ11 h12 => ?_)
      rcases h12 with ⟨rfl, rfl, hb48⟩ | ⟨rfl, rfl, hb48⟩
      · skip
        show WS layM V 3 X σ 51 [(0, rf V 0), (1, .int b), (2, .int q)] [.int 1]
        refine WS.if_eq (tgt := 68) hx dX11_placeOf_51 (by decide) (fun h => absurd h (by decide)) (fun _ => ?_)
        refine WS.bipush (v := 50) hx dX11_placeOf_54 (by decide) ?_
        refine WS.bipush (v := 16) hx dX11_placeOf_56 (by decide) ?_
        refine WS.iload_n hx dX11_placeOf_58 rfl 2 rfl ?_
        refine WS.iconst (v := 5) hx dX11_placeOf_59 (by decide) ?_
        refine WS.isub hx dX11_placeOf_60 ?_
        refine WS.imul hx dX11_placeOf_61 ?_
        refine WS.iadd hx dX11_placeOf_62 ?_
        refine WS.iload_n hx dX11_placeOf_63 rfl 1 rfl ?_
        refine WS.iadd hx dX11_placeOf_64 ?_
        refine WS.goto (tgt := 69) hx dX11_placeOf_65 (by decide) ?_
        exact WS.iret hx he dX11_placeOf_69 ⟨_, rfl, Or.inl ⟨by unfold hasC; (try simp only [l_int, tL_0, tL_1, tL_2, tL_4, tL_5, tL_6, tL_7, tL_9, tL_10, tL_12, tL_15, tL_30, tL_40, tL_60, tL_99, tL_255, tL_1023, tL_m1, lc_lt, lc_gt, lc_ge, lc_le, lc_eq, l6_le, l6_lt, l6_eq, i_le, i_lt, i_eq, tI_m1, tI_0, tI_1, tI_5, tI_7, tI_10, tI_16, tI_50, tI_82] at hb6); (try simp only [l_int, tL_0, tL_1, tL_2, tL_4, tL_5, tL_6, tL_7, tL_9, tL_10, tL_12, tL_15, tL_30, tL_40, tL_60, tL_99, tL_255, tL_1023, tL_m1, lc_lt, lc_gt, lc_ge, lc_le, lc_eq, l6_le, l6_lt, l6_eq, i_le, i_lt, i_eq, tI_m1, tI_0, tI_1, tI_5, tI_7, tI_10, tI_16, tI_50, tI_82] at hb40); (try simp only [l_int, tL_0, tL_1, tL_2, tL_4, tL_5, tL_6, tL_7, tL_9, tL_10, tL_12, tL_15, tL_30, tL_40, tL_60, tL_99, tL_255, tL_1023, tL_m1, lc_lt, lc_gt, lc_ge, lc_le, lc_eq, l6_le, l6_lt, l6_eq, i_le, i_lt, i_eq, tI_m1, tI_0, tI_1, tI_5, tI_7, tI_10, tI_16, tI_50, tI_82] at hb48); (try simp only [l_int, tL_0, tL_1, tL_2, tL_4, tL_5, tL_6, tL_7, tL_9, tL_10, tL_12, tL_15, tL_30, tL_40, tL_60, tL_99, tL_255, tL_1023, tL_m1, lc_lt, lc_gt, lc_ge, lc_le, lc_eq, l6_le, l6_lt, l6_eq, i_le, i_lt, i_eq, tI_m1, tI_0, tI_1, tI_5, tI_7, tI_10, tI_16, tI_50, tI_82]); omega, pm_b (by (try simp only [l_int, tL_0, tL_1, tL_2, tL_4, tL_5, tL_6, tL_7, tL_9, tL_10, tL_12, tL_15, tL_30, tL_40, tL_60, tL_99, tL_255, tL_1023, tL_m1, lc_lt, lc_gt, lc_ge, lc_le, lc_eq, l6_le, l6_lt, l6_eq, i_le, i_lt, i_eq, tI_m1, tI_0, tI_1, tI_5, tI_7, tI_10, tI_16, tI_50, tI_82] at hb6); (try simp only [l_int, tL_0, tL_1, tL_2, tL_4, tL_5, tL_6, tL_7, tL_9, tL_10, tL_12, tL_15, tL_30, tL_40, tL_60, tL_99, tL_255, tL_1023, tL_m1, lc_lt, lc_gt, lc_ge, lc_le, lc_eq, l6_le, l6_lt, l6_eq, i_le, i_lt, i_eq, tI_m1, tI_0, tI_1, tI_5, tI_7, tI_10, tI_16, tI_50, tI_82] at hb40); (try simp only [l_int, tL_0, tL_1, tL_2, tL_4, tL_5, tL_6, tL_7, tL_9, tL_10, tL_12, tL_15, tL_30, tL_40, tL_60, tL_99, tL_255, tL_1023, tL_m1, lc_lt, lc_gt, lc_ge, lc_le, lc_eq, l6_le, l6_lt, l6_eq, i_le, i_lt, i_eq, tI_m1, tI_0, tI_1, tI_5, tI_7, tI_10, tI_16, tI_50, tI_82] at hb48); (try simp only [l_int, tL_0, tL_1, tL_2, tL_4, tL_5, tL_6, tL_7, tL_9, tL_10, tL_12, tL_15, tL_30, tL_40, tL_60, tL_99, tL_255, tL_1023, tL_m1, lc_lt, lc_gt, lc_ge, lc_le, lc_eq, l6_le, l6_lt, l6_eq, i_le, i_lt, i_eq, tI_m1, tI_0, tI_1, tI_5, tI_7, tI_10, tI_16, tI_50, tI_82]); omega) (by (try simp only [l_int, tL_0, tL_1, tL_2, tL_4, tL_5, tL_6, tL_7, tL_9, tL_10, tL_12, tL_15, tL_30, tL_40, tL_60, tL_99, tL_255, tL_1023, tL_m1, lc_lt, lc_gt, lc_ge, lc_le, lc_eq, l6_le, l6_lt, l6_eq, i_le, i_lt, i_eq, tI_m1, tI_0, tI_1, tI_5, tI_7, tI_10, tI_16, tI_50, tI_82] at hb6); (try simp only [l_int, tL_0, tL_1, tL_2, tL_4, tL_5, tL_6, tL_7, tL_9, tL_10, tL_12, tL_15, tL_30, tL_40, tL_60, tL_99, tL_255, tL_1023, tL_m1, lc_lt, lc_gt, lc_ge, lc_le, lc_eq, l6_le, l6_lt, l6_eq, i_le, i_lt, i_eq, tI_m1, tI_0, tI_1, tI_5, tI_7, tI_10, tI_16, tI_50, tI_82] at hb40); (try simp only [l_int, tL_0, tL_1, tL_2, tL_4, tL_5, tL_6, tL_7, tL_9, tL_10, tL_12, tL_15, tL_30, tL_40, tL_60, tL_99, tL_255, tL_1023, tL_m1, lc_lt, lc_gt, lc_ge, lc_le, lc_eq, l6_le, l6_lt, l6_eq, i_le, i_lt, i_eq, tI_m1, tI_0, tI_1, tI_5, tI_7, tI_10, tI_16, tI_50, tI_82] at hb48); (try simp only [l_int, tL_0, tL_1, tL_2, tL_4, tL_5, tL_6, tL_7, tL_9, tL_10, tL_12, tL_15, tL_30, tL_40, tL_60, tL_99, tL_255, tL_1023, tL_m1, lc_lt, lc_gt, lc_ge, lc_le, lc_eq, l6_le, l6_lt, l6_eq, i_le, i_lt, i_eq, tI_m1, tI_0, tI_1, tI_5, tI_7, tI_10, tI_16, tI_50, tI_82]); omega) (by (try simp only [l_int, tL_0, tL_1, tL_2, tL_4, tL_5, tL_6, tL_7, tL_9, tL_10, tL_12, tL_15, tL_30, tL_40, tL_60, tL_99, tL_255, tL_1023, tL_m1, lc_lt, lc_gt, lc_ge, lc_le, lc_eq, l6_le, l6_lt, l6_eq, i_le, i_lt, i_eq, tI_m1, tI_0, tI_1, tI_5, tI_7, tI_10, tI_16, tI_50, tI_82] at hb6); (try simp only [l_int, tL_0, tL_1, tL_2, tL_4, tL_5, tL_6, tL_7, tL_9, tL_10, tL_12, tL_15, tL_30, tL_40, tL_60, tL_99, tL_255, tL_1023, tL_m1, lc_lt, lc_gt, lc_ge, lc_le, lc_eq, l6_le, l6_lt, l6_eq, i_le, i_lt, i_eq, tI_m1, tI_0, tI_1, tI_5, tI_7, tI_10, tI_16, tI_50, tI_82] at hb40); (try simp only [l_int, tL_0, tL_1, tL_2, tL_4, tL_5, tL_6, tL_7, tL_9, tL_10, tL_12, tL_15, tL_30, tL_40, tL_60, tL_99, tL_255, tL_1023, tL_m1, lc_lt, lc_gt, lc_ge, lc_le, lc_eq, l6_le, l6_lt, l6_eq, i_le, i_lt, i_eq, tI_m1, tI_0, tI_1, tI_5, tI_7, tI_10, tI_16, tI_50, tI_82] at hb48); (try simp only [l_int, tL_0, tL_1, tL_2, tL_4, tL_5, tL_6, tL_7, tL_9, tL_10, tL_12, tL_15, tL_30, tL_40, tL_60, tL_99, tL_255, tL_1023, tL_m1, lc_lt, lc_gt, lc_ge, lc_le, lc_eq, l6_le, l6_lt, l6_eq, i_le, i_lt, i_eq, tI_m1, tI_0, tI_1, tI_5, tI_7, tI_10, tI_16, tI_50, tI_82]); omega), rfl⟩⟩
      · skip
        show WS layM V 3 X σ 51 [(0, rf V 0), (1, .int b), (2, .int q)] [.int 0]
        refine WS.if_eq (tgt := 68) hx dX11_placeOf_51 (by decide) (fun _ => ?_) (fun h => absurd (by decide) h)
        refine WS.iconst (v := (-1)) hx dX11_placeOf_68 (by decide) ?_
        exact WS.iret hx he dX11_placeOf_69 ⟨_, rfl, Or.inr ⟨by unfold hasC; (try simp only [l_int, tL_0, tL_1, tL_2, tL_4, tL_5, tL_6, tL_7, tL_9, tL_10, tL_12, tL_15, tL_30, tL_40, tL_60, tL_99, tL_255, tL_1023, tL_m1, lc_lt, lc_gt, lc_ge, lc_le, lc_eq, l6_le, l6_lt, l6_eq, i_le, i_lt, i_eq, tI_m1, tI_0, tI_1, tI_5, tI_7, tI_10, tI_16, tI_50, tI_82] at hb6); (try simp only [l_int, tL_0, tL_1, tL_2, tL_4, tL_5, tL_6, tL_7, tL_9, tL_10, tL_12, tL_15, tL_30, tL_40, tL_60, tL_99, tL_255, tL_1023, tL_m1, lc_lt, lc_gt, lc_ge, lc_le, lc_eq, l6_le, l6_lt, l6_eq, i_le, i_lt, i_eq, tI_m1, tI_0, tI_1, tI_5, tI_7, tI_10, tI_16, tI_50, tI_82] at hb40); (try simp only [l_int, tL_0, tL_1, tL_2, tL_4, tL_5, tL_6, tL_7, tL_9, tL_10, tL_12, tL_15, tL_30, tL_40, tL_60, tL_99, tL_255, tL_1023, tL_m1, lc_lt, lc_gt, lc_ge, lc_le, lc_eq, l6_le, l6_lt, l6_eq, i_le, i_lt, i_eq, tI_m1, tI_0, tI_1, tI_5, tI_7, tI_10, tI_16, tI_50, tI_82] at hb48); (try simp only [l_int, tL_0, tL_1, tL_2, tL_4, tL_5, tL_6, tL_7, tL_9, tL_10, tL_12, tL_15, tL_30, tL_40, tL_60, tL_99, tL_255, tL_1023, tL_m1, lc_lt, lc_gt, lc_ge, lc_le, lc_eq, l6_le, l6_lt, l6_eq, i_le, i_lt, i_eq, tI_m1, tI_0, tI_1, tI_5, tI_7, tI_10, tI_16, tI_50, tI_82]); omega, rfl, rfl⟩⟩
    · skip
      show WS layM V 3 X σ 43 [(0, rf V 0), (1, .int b), (2, .int q)] [.int 0]
      refine WS.if_eq (tgt := 70) hx dX11_placeOf_43 (by decide) (fun _ => ?_) (fun h => absurd (by decide) h)
      refine WS.iload_n hx dX11_placeOf_70 rfl 1 rfl ?_
      refine WS.if_ne (tgt := 85) hx dX11_placeOf_71 (by decide) (fun c71 => ?_) (fun c71 => ?_)
      · skip
        show WS layM V 3 X σ 85 [(0, rf V 0), (1, .int b), (2, .int q)] []
        refine WS.iconst (v := (-1)) hx dX11_placeOf_85 (by decide) ?_
        exact WS.iret hx he dX11_placeOf_86 ⟨_, rfl, Or.inr ⟨by unfold hasC; (try simp only [l_int, tL_0, tL_1, tL_2, tL_4, tL_5, tL_6, tL_7, tL_9, tL_10, tL_12, tL_15, tL_30, tL_40, tL_60, tL_99, tL_255, tL_1023, tL_m1, lc_lt, lc_gt, lc_ge, lc_le, lc_eq, l6_le, l6_lt, l6_eq, i_le, i_lt, i_eq, tI_m1, tI_0, tI_1, tI_5, tI_7, tI_10, tI_16, tI_50, tI_82] at hb6); (try simp only [l_int, tL_0, tL_1, tL_2, tL_4, tL_5, tL_6, tL_7, tL_9, tL_10, tL_12, tL_15, tL_30, tL_40, tL_60, tL_99, tL_255, tL_1023, tL_m1, lc_lt, lc_gt, lc_ge, lc_le, lc_eq, l6_le, l6_lt, l6_eq, i_le, i_lt, i_eq, tI_m1, tI_0, tI_1, tI_5, tI_7, tI_10, tI_16, tI_50, tI_82] at hb40); (try simp only [l_int, tL_0, tL_1, tL_2, tL_4, tL_5, tL_6, tL_7, tL_9, tL_10, tL_12, tL_15, tL_30, tL_40, tL_60, tL_99, tL_255, tL_1023, tL_m1, lc_lt, lc_gt, lc_ge, lc_le, lc_eq, l6_le, l6_lt, l6_eq, i_le, i_lt, i_eq, tI_m1, tI_0, tI_1, tI_5, tI_7, tI_10, tI_16, tI_50, tI_82] at c71); (try simp only [l_int, tL_0, tL_1, tL_2, tL_4, tL_5, tL_6, tL_7, tL_9, tL_10, tL_12, tL_15, tL_30, tL_40, tL_60, tL_99, tL_255, tL_1023, tL_m1, lc_lt, lc_gt, lc_ge, lc_le, lc_eq, l6_le, l6_lt, l6_eq, i_le, i_lt, i_eq, tI_m1, tI_0, tI_1, tI_5, tI_7, tI_10, tI_16, tI_50, tI_82]); omega, rfl, rfl⟩⟩
      · skip
        show WS layM V 3 X σ 74 [(0, rf V 0), (1, .int b), (2, .int q)] []
        refine WS.iload_n hx dX11_placeOf_74 rfl 2 rfl ?_
        refine WS.bipush (v := 7) hx dX11_placeOf_75 (by decide) ?_
        refine WS.icmp_ne (tgt := 85) hx dX11_placeOf_77 (by decide) (fun c77 => ?_) (fun c77 => ?_)
        · skip
          show WS layM V 3 X σ 85 [(0, rf V 0), (1, .int b), (2, .int q)] []
          refine WS.iconst (v := (-1)) hx dX11_placeOf_85 (by decide) ?_
          exact WS.iret hx he dX11_placeOf_86 ⟨_, rfl, Or.inr ⟨by unfold hasC; (try simp only [l_int, tL_0, tL_1, tL_2, tL_4, tL_5, tL_6, tL_7, tL_9, tL_10, tL_12, tL_15, tL_30, tL_40, tL_60, tL_99, tL_255, tL_1023, tL_m1, lc_lt, lc_gt, lc_ge, lc_le, lc_eq, l6_le, l6_lt, l6_eq, i_le, i_lt, i_eq, tI_m1, tI_0, tI_1, tI_5, tI_7, tI_10, tI_16, tI_50, tI_82] at hb6); (try simp only [l_int, tL_0, tL_1, tL_2, tL_4, tL_5, tL_6, tL_7, tL_9, tL_10, tL_12, tL_15, tL_30, tL_40, tL_60, tL_99, tL_255, tL_1023, tL_m1, lc_lt, lc_gt, lc_ge, lc_le, lc_eq, l6_le, l6_lt, l6_eq, i_le, i_lt, i_eq, tI_m1, tI_0, tI_1, tI_5, tI_7, tI_10, tI_16, tI_50, tI_82] at hb40); (try simp only [l_int, tL_0, tL_1, tL_2, tL_4, tL_5, tL_6, tL_7, tL_9, tL_10, tL_12, tL_15, tL_30, tL_40, tL_60, tL_99, tL_255, tL_1023, tL_m1, lc_lt, lc_gt, lc_ge, lc_le, lc_eq, l6_le, l6_lt, l6_eq, i_le, i_lt, i_eq, tI_m1, tI_0, tI_1, tI_5, tI_7, tI_10, tI_16, tI_50, tI_82] at c71); (try simp only [l_int, tL_0, tL_1, tL_2, tL_4, tL_5, tL_6, tL_7, tL_9, tL_10, tL_12, tL_15, tL_30, tL_40, tL_60, tL_99, tL_255, tL_1023, tL_m1, lc_lt, lc_gt, lc_ge, lc_le, lc_eq, l6_le, l6_lt, l6_eq, i_le, i_lt, i_eq, tI_m1, tI_0, tI_1, tI_5, tI_7, tI_10, tI_16, tI_50, tI_82] at c77); (try simp only [l_int, tL_0, tL_1, tL_2, tL_4, tL_5, tL_6, tL_7, tL_9, tL_10, tL_12, tL_15, tL_30, tL_40, tL_60, tL_99, tL_255, tL_1023, tL_m1, lc_lt, lc_gt, lc_ge, lc_le, lc_eq, l6_le, l6_lt, l6_eq, i_le, i_lt, i_eq, tI_m1, tI_0, tI_1, tI_5, tI_7, tI_10, tI_16, tI_50, tI_82]); omega, rfl, rfl⟩⟩
        · skip
          show WS layM V 3 X σ 80 [(0, rf V 0), (1, .int b), (2, .int q)] []
          refine WS.bipush (v := 82) hx dX11_placeOf_80 (by decide) ?_
          refine WS.goto (tgt := 86) hx dX11_placeOf_82 (by decide) ?_
          exact WS.iret hx he dX11_placeOf_86 ⟨_, rfl, Or.inl ⟨by unfold hasC; (try simp only [l_int, tL_0, tL_1, tL_2, tL_4, tL_5, tL_6, tL_7, tL_9, tL_10, tL_12, tL_15, tL_30, tL_40, tL_60, tL_99, tL_255, tL_1023, tL_m1, lc_lt, lc_gt, lc_ge, lc_le, lc_eq, l6_le, l6_lt, l6_eq, i_le, i_lt, i_eq, tI_m1, tI_0, tI_1, tI_5, tI_7, tI_10, tI_16, tI_50, tI_82] at hb6); (try simp only [l_int, tL_0, tL_1, tL_2, tL_4, tL_5, tL_6, tL_7, tL_9, tL_10, tL_12, tL_15, tL_30, tL_40, tL_60, tL_99, tL_255, tL_1023, tL_m1, lc_lt, lc_gt, lc_ge, lc_le, lc_eq, l6_le, l6_lt, l6_eq, i_le, i_lt, i_eq, tI_m1, tI_0, tI_1, tI_5, tI_7, tI_10, tI_16, tI_50, tI_82] at hb40); (try simp only [l_int, tL_0, tL_1, tL_2, tL_4, tL_5, tL_6, tL_7, tL_9, tL_10, tL_12, tL_15, tL_30, tL_40, tL_60, tL_99, tL_255, tL_1023, tL_m1, lc_lt, lc_gt, lc_ge, lc_le, lc_eq, l6_le, l6_lt, l6_eq, i_le, i_lt, i_eq, tI_m1, tI_0, tI_1, tI_5, tI_7, tI_10, tI_16, tI_50, tI_82] at c71); (try simp only [l_int, tL_0, tL_1, tL_2, tL_4, tL_5, tL_6, tL_7, tL_9, tL_10, tL_12, tL_15, tL_30, tL_40, tL_60, tL_99, tL_255, tL_1023, tL_m1, lc_lt, lc_gt, lc_ge, lc_le, lc_eq, l6_le, l6_lt, l6_eq, i_le, i_lt, i_eq, tI_m1, tI_0, tI_1, tI_5, tI_7, tI_10, tI_16, tI_50, tI_82] at c77); (try simp only [l_int, tL_0, tL_1, tL_2, tL_4, tL_5, tL_6, tL_7, tL_9, tL_10, tL_12, tL_15, tL_30, tL_40, tL_60, tL_99, tL_255, tL_1023, tL_m1, lc_lt, lc_gt, lc_ge, lc_le, lc_eq, l6_le, l6_lt, l6_eq, i_le, i_lt, i_eq, tI_m1, tI_0, tI_1, tI_5, tI_7, tI_10, tI_16, tI_50, tI_82]); omega, pm_c (by (try simp only [l_int, tL_0, tL_1, tL_2, tL_4, tL_5, tL_6, tL_7, tL_9, tL_10, tL_12, tL_15, tL_30, tL_40, tL_60, tL_99, tL_255, tL_1023, tL_m1, lc_lt, lc_gt, lc_ge, lc_le, lc_eq, l6_le, l6_lt, l6_eq, i_le, i_lt, i_eq, tI_m1, tI_0, tI_1, tI_5, tI_7, tI_10, tI_16, tI_50, tI_82] at hb6); (try simp only [l_int, tL_0, tL_1, tL_2, tL_4, tL_5, tL_6, tL_7, tL_9, tL_10, tL_12, tL_15, tL_30, tL_40, tL_60, tL_99, tL_255, tL_1023, tL_m1, lc_lt, lc_gt, lc_ge, lc_le, lc_eq, l6_le, l6_lt, l6_eq, i_le, i_lt, i_eq, tI_m1, tI_0, tI_1, tI_5, tI_7, tI_10, tI_16, tI_50, tI_82] at hb40); (try simp only [l_int, tL_0, tL_1, tL_2, tL_4, tL_5, tL_6, tL_7, tL_9, tL_10, tL_12, tL_15, tL_30, tL_40, tL_60, tL_99, tL_255, tL_1023, tL_m1, lc_lt, lc_gt, lc_ge, lc_le, lc_eq, l6_le, l6_lt, l6_eq, i_le, i_lt, i_eq, tI_m1, tI_0, tI_1, tI_5, tI_7, tI_10, tI_16, tI_50, tI_82] at c71); (try simp only [l_int, tL_0, tL_1, tL_2, tL_4, tL_5, tL_6, tL_7, tL_9, tL_10, tL_12, tL_15, tL_30, tL_40, tL_60, tL_99, tL_255, tL_1023, tL_m1, lc_lt, lc_gt, lc_ge, lc_le, lc_eq, l6_le, l6_lt, l6_eq, i_le, i_lt, i_eq, tI_m1, tI_0, tI_1, tI_5, tI_7, tI_10, tI_16, tI_50, tI_82] at c77); (try simp only [l_int, tL_0, tL_1, tL_2, tL_4, tL_5, tL_6, tL_7, tL_9, tL_10, tL_12, tL_15, tL_30, tL_40, tL_60, tL_99, tL_255, tL_1023, tL_m1, lc_lt, lc_gt, lc_ge, lc_le, lc_eq, l6_le, l6_lt, l6_eq, i_le, i_lt, i_eq, tI_m1, tI_0, tI_1, tI_5, tI_7, tI_10, tI_16, tI_50, tI_82]); omega) (by (try simp only [l_int, tL_0, tL_1, tL_2, tL_4, tL_5, tL_6, tL_7, tL_9, tL_10, tL_12, tL_15, tL_30, tL_40, tL_60, tL_99, tL_255, tL_1023, tL_m1, lc_lt, lc_gt, lc_ge, lc_le, lc_eq, l6_le, l6_lt, l6_eq, i_le, i_lt, i_eq, tI_m1, tI_0, tI_1, tI_5, tI_7, tI_10, tI_16, tI_50, tI_82] at hb6); (try simp only [l_int, tL_0, tL_1, tL_2, tL_4, tL_5, tL_6, tL_7, tL_9, tL_10, tL_12, tL_15, tL_30, tL_40, tL_60, tL_99, tL_255, tL_1023, tL_m1, lc_lt, lc_gt, lc_ge, lc_le, lc_eq, l6_le, l6_lt, l6_eq, i_le, i_lt, i_eq, tI_m1, tI_0, tI_1, tI_5, tI_7, tI_10, tI_16, tI_50, tI_82] at hb40); (try simp only [l_int, tL_0, tL_1, tL_2, tL_4, tL_5, tL_6, tL_7, tL_9, tL_10, tL_12, tL_15, tL_30, tL_40, tL_60, tL_99, tL_255, tL_1023, tL_m1, lc_lt, lc_gt, lc_ge, lc_le, lc_eq, l6_le, l6_lt, l6_eq, i_le, i_lt, i_eq, tI_m1, tI_0, tI_1, tI_5, tI_7, tI_10, tI_16, tI_50, tI_82] at c71); (try simp only [l_int, tL_0, tL_1, tL_2, tL_4, tL_5, tL_6, tL_7, tL_9, tL_10, tL_12, tL_15, tL_30, tL_40, tL_60, tL_99, tL_255, tL_1023, tL_m1, lc_lt, lc_gt, lc_ge, lc_le, lc_eq, l6_le, l6_lt, l6_eq, i_le, i_lt, i_eq, tI_m1, tI_0, tI_1, tI_5, tI_7, tI_10, tI_16, tI_50, tI_82] at c77); (try simp only [l_int, tL_0, tL_1, tL_2, tL_4, tL_5, tL_6, tL_7, tL_9, tL_10, tL_12, tL_15, tL_30, tL_40, tL_60, tL_99, tL_255, tL_1023, tL_m1, lc_lt, lc_gt, lc_ge, lc_le, lc_eq, l6_le, l6_lt, l6_eq, i_le, i_lt, i_eq, tI_m1, tI_0, tI_1, tI_5, tI_7, tI_10, tI_16, tI_50, tI_82]); omega), rfl⟩⟩
theorem iso_k {q v : Int32} {k : Int32} {m : Nat} (e : q = k) (h1 : 0 ≤ k.toInt) (h2 : k.toInt ≤ 7) (hz : (zt_f 0 (nn k)).toInt = m) : isSoC q v ↔ 0 ≤ v.toInt ∧ v.toInt ≤ m := by
  subst e
  unfold isSoC
  rw [hz]
  exact ⟨fun h => h.2.2, fun h => ⟨h1, h2, h⟩⟩
set_option maxHeartbeats 1000000 in
theorem c_X11_mayBecome (V : Vt) (d : Nat) (σ : Sg) (q v : Int32) (hq : 0 ≤ q.toInt ∧ q.toInt ≤ 7) : CT layM V mX11_mayBecome (d + 2) [.int q, .int v] σ (Rb (isSoC q v) σ) := by
  refine CT.of (own := RX11) rfl (by decide) (Nat.le_of_ble_eq_true rfl) (fun X (hx : Ok V RX11 cX11_mayBecome 2 (d + 2) X) (he : En layM V (some .boolean) (Rb (isSoC q v) σ) X) => ?_)
  change WS layM V 2 X σ 0 [(0, .int q), (1, .int v)] []
  refine WS.iload_n hx dX11_mayBecome_0 rfl 0 rfl ?_
  by_cases s1_1 : q = 1
  · refine WS.tableIn (off := 43) (tgt := 44) hx dX11_mayBecome_1 (by rw [s1_1]; decide) (by rw [s1_1]; decide) (by rw [s1_1]; decide) (by decide) ?_
    show WS layM V 2 X σ 44 [(0, .int q), (1, .int v)] []
    refine WS.iload_n hx dX11_mayBecome_44 rfl 1 rfl ?_
    refine WS.i2l hx dX11_mayBecome_45 ?_
    refine WS.callSi (st := []) [.long (Int32.toInt64 v)] hx (c_X11_isThought V d σ (Int32.toInt64 v)) okX11_isThought lm11_108 rfl rfl (Nat.le_of_ble_eq_true rfl) dX11_mayBecome_46 (fun v1 σ2 h3 => ?_)
    rcases h3 with ⟨rfl, rfl, hb46⟩ | ⟨rfl, rfl, hb46⟩
    · skip
      show WS layM V 2 X σ 49 [(0, .int q), (1, .int v)] [.int 1]
      exact WS.zret hx he dX11_mayBecome_49 (Or.inr rfl) (Rb.t (by first | (rw [iso_k (k := 1) (m := 15) s1_1 (by decide) (by decide) (by decide)]; (try simp only [l_int, tL_0, tL_1, tL_2, tL_4, tL_5, tL_6, tL_7, tL_9, tL_10, tL_12, tL_15, tL_30, tL_40, tL_60, tL_99, tL_255, tL_1023, tL_m1, lc_lt, lc_gt, lc_ge, lc_le, lc_eq, l6_le, l6_lt, l6_eq, i_le, i_lt, i_eq, tI_0, tI_1] at hb46); (try simp only [l_int, tL_0, tL_1, tL_2, tL_4, tL_5, tL_6, tL_7, tL_9, tL_10, tL_12, tL_15, tL_30, tL_40, tL_60, tL_99, tL_255, tL_1023, tL_m1, lc_lt, lc_gt, lc_ge, lc_le, lc_eq, l6_le, l6_lt, l6_eq, i_le, i_lt, i_eq, tI_0, tI_1]); omega) | (rw [iso_k (k := 2) (m := 9) s1_2 (by decide) (by decide) (by decide)]; (try simp only [l_int, tL_0, tL_1, tL_2, tL_4, tL_5, tL_6, tL_7, tL_9, tL_10, tL_12, tL_15, tL_30, tL_40, tL_60, tL_99, tL_255, tL_1023, tL_m1, lc_lt, lc_gt, lc_ge, lc_le, lc_eq, l6_le, l6_lt, l6_eq, i_le, i_lt, i_eq, tI_0, tI_1] at hb46); (try simp only [l_int, tL_0, tL_1, tL_2, tL_4, tL_5, tL_6, tL_7, tL_9, tL_10, tL_12, tL_15, tL_30, tL_40, tL_60, tL_99, tL_255, tL_1023, tL_m1, lc_lt, lc_gt, lc_ge, lc_le, lc_eq, l6_le, l6_lt, l6_eq, i_le, i_lt, i_eq, tI_0, tI_1]); omega) | (rw [iso_k (k := 3) (m := 1) s1_3 (by decide) (by decide) (by decide)]; (try simp only [l_int, tL_0, tL_1, tL_2, tL_4, tL_5, tL_6, tL_7, tL_9, tL_10, tL_12, tL_15, tL_30, tL_40, tL_60, tL_99, tL_255, tL_1023, tL_m1, lc_lt, lc_gt, lc_ge, lc_le, lc_eq, l6_le, l6_lt, l6_eq, i_le, i_lt, i_eq, tI_0, tI_1] at hb46); (try simp only [l_int, tL_0, tL_1, tL_2, tL_4, tL_5, tL_6, tL_7, tL_9, tL_10, tL_12, tL_15, tL_30, tL_40, tL_60, tL_99, tL_255, tL_1023, tL_m1, lc_lt, lc_gt, lc_ge, lc_le, lc_eq, l6_le, l6_lt, l6_eq, i_le, i_lt, i_eq, tI_0, tI_1]); omega) | (rw [iso_k (k := 4) (m := 1) s1_4 (by decide) (by decide) (by decide)]; (try simp only [l_int, tL_0, tL_1, tL_2, tL_4, tL_5, tL_6, tL_7, tL_9, tL_10, tL_12, tL_15, tL_30, tL_40, tL_60, tL_99, tL_255, tL_1023, tL_m1, lc_lt, lc_gt, lc_ge, lc_le, lc_eq, l6_le, l6_lt, l6_eq, i_le, i_lt, i_eq, tI_0, tI_1] at hb46); (try simp only [l_int, tL_0, tL_1, tL_2, tL_4, tL_5, tL_6, tL_7, tL_9, tL_10, tL_12, tL_15, tL_30, tL_40, tL_60, tL_99, tL_255, tL_1023, tL_m1, lc_lt, lc_gt, lc_ge, lc_le, lc_eq, l6_le, l6_lt, l6_eq, i_le, i_lt, i_eq, tI_0, tI_1]); omega) | (rw [iso_k (k := 5) (m := 15) s1_5 (by decide) (by decide) (by decide)]; (try simp only [l_int, tL_0, tL_1, tL_2, tL_4, tL_5, tL_6, tL_7, tL_9, tL_10, tL_12, tL_15, tL_30, tL_40, tL_60, tL_99, tL_255, tL_1023, tL_m1, lc_lt, lc_gt, lc_ge, lc_le, lc_eq, l6_le, l6_lt, l6_eq, i_le, i_lt, i_eq, tI_0, tI_1] at hb46); (try simp only [l_int, tL_0, tL_1, tL_2, tL_4, tL_5, tL_6, tL_7, tL_9, tL_10, tL_12, tL_15, tL_30, tL_40, tL_60, tL_99, tL_255, tL_1023, tL_m1, lc_lt, lc_gt, lc_ge, lc_le, lc_eq, l6_le, l6_lt, l6_eq, i_le, i_lt, i_eq, tI_0, tI_1]); omega) | (rw [iso_k (k := 6) (m := 9) s1_6 (by decide) (by decide) (by decide)]; (try simp only [l_int, tL_0, tL_1, tL_2, tL_4, tL_5, tL_6, tL_7, tL_9, tL_10, tL_12, tL_15, tL_30, tL_40, tL_60, tL_99, tL_255, tL_1023, tL_m1, lc_lt, lc_gt, lc_ge, lc_le, lc_eq, l6_le, l6_lt, l6_eq, i_le, i_lt, i_eq, tI_0, tI_1] at hb46); (try simp only [l_int, tL_0, tL_1, tL_2, tL_4, tL_5, tL_6, tL_7, tL_9, tL_10, tL_12, tL_15, tL_30, tL_40, tL_60, tL_99, tL_255, tL_1023, tL_m1, lc_lt, lc_gt, lc_ge, lc_le, lc_eq, l6_le, l6_lt, l6_eq, i_le, i_lt, i_eq, tI_0, tI_1]); omega) | (rw [iso_k (k := 7) (m := 99) s1_7 (by decide) (by decide) (by decide)]; (try simp only [l_int, tL_0, tL_1, tL_2, tL_4, tL_5, tL_6, tL_7, tL_9, tL_10, tL_12, tL_15, tL_30, tL_40, tL_60, tL_99, tL_255, tL_1023, tL_m1, lc_lt, lc_gt, lc_ge, lc_le, lc_eq, l6_le, l6_lt, l6_eq, i_le, i_lt, i_eq, tI_0, tI_1] at hb46); (try simp only [l_int, tL_0, tL_1, tL_2, tL_4, tL_5, tL_6, tL_7, tL_9, tL_10, tL_12, tL_15, tL_30, tL_40, tL_60, tL_99, tL_255, tL_1023, tL_m1, lc_lt, lc_gt, lc_ge, lc_le, lc_eq, l6_le, l6_lt, l6_eq, i_le, i_lt, i_eq, tI_0, tI_1]); omega) | (rw [iso_k (k := 0) (m := 9) hq0 (by decide) (by decide) (by decide)]; (try simp only [l_int, tL_0, tL_1, tL_2, tL_4, tL_5, tL_6, tL_7, tL_9, tL_10, tL_12, tL_15, tL_30, tL_40, tL_60, tL_99, tL_255, tL_1023, tL_m1, lc_lt, lc_gt, lc_ge, lc_le, lc_eq, l6_le, l6_lt, l6_eq, i_le, i_lt, i_eq, tI_0, tI_1] at hb46); (try simp only [l_int, tL_0, tL_1, tL_2, tL_4, tL_5, tL_6, tL_7, tL_9, tL_10, tL_12, tL_15, tL_30, tL_40, tL_60, tL_99, tL_255, tL_1023, tL_m1, lc_lt, lc_gt, lc_ge, lc_le, lc_eq, l6_le, l6_lt, l6_eq, i_le, i_lt, i_eq, tI_0, tI_1]); omega)))
    · skip
      show WS layM V 2 X σ 49 [(0, .int q), (1, .int v)] [.int 0]
      exact WS.zret hx he dX11_mayBecome_49 (Or.inl rfl) (Rb.f (by first | (rw [iso_k (k := 1) (m := 15) s1_1 (by decide) (by decide) (by decide)]; (try simp only [l_int, tL_0, tL_1, tL_2, tL_4, tL_5, tL_6, tL_7, tL_9, tL_10, tL_12, tL_15, tL_30, tL_40, tL_60, tL_99, tL_255, tL_1023, tL_m1, lc_lt, lc_gt, lc_ge, lc_le, lc_eq, l6_le, l6_lt, l6_eq, i_le, i_lt, i_eq, tI_0, tI_1] at hb46); (try simp only [l_int, tL_0, tL_1, tL_2, tL_4, tL_5, tL_6, tL_7, tL_9, tL_10, tL_12, tL_15, tL_30, tL_40, tL_60, tL_99, tL_255, tL_1023, tL_m1, lc_lt, lc_gt, lc_ge, lc_le, lc_eq, l6_le, l6_lt, l6_eq, i_le, i_lt, i_eq, tI_0, tI_1]); omega) | (rw [iso_k (k := 2) (m := 9) s1_2 (by decide) (by decide) (by decide)]; (try simp only [l_int, tL_0, tL_1, tL_2, tL_4, tL_5, tL_6, tL_7, tL_9, tL_10, tL_12, tL_15, tL_30, tL_40, tL_60, tL_99, tL_255, tL_1023, tL_m1, lc_lt, lc_gt, lc_ge, lc_le, lc_eq, l6_le, l6_lt, l6_eq, i_le, i_lt, i_eq, tI_0, tI_1] at hb46); (try simp only [l_int, tL_0, tL_1, tL_2, tL_4, tL_5, tL_6, tL_7, tL_9, tL_10, tL_12, tL_15, tL_30, tL_40, tL_60, tL_99, tL_255, tL_1023, tL_m1, lc_lt, lc_gt, lc_ge, lc_le, lc_eq, l6_le, l6_lt, l6_eq, i_le, i_lt, i_eq, tI_0, tI_1]); omega) | (rw [iso_k (k := 3) (m := 1) s1_3 (by decide) (by decide) (by decide)]; (try simp only [l_int, tL_0, tL_1, tL_2, tL_4, tL_5, tL_6, tL_7, tL_9, tL_10, tL_12, tL_15, tL_30, tL_40, tL_60, tL_99, tL_255, tL_1023, tL_m1, lc_lt, lc_gt, lc_ge, lc_le, lc_eq, l6_le, l6_lt, l6_eq, i_le, i_lt, i_eq, tI_0, tI_1] at hb46); (try simp only [l_int, tL_0, tL_1, tL_2, tL_4, tL_5, tL_6, tL_7, tL_9, tL_10, tL_12, tL_15, tL_30, tL_40, tL_60, tL_99, tL_255, tL_1023, tL_m1, lc_lt, lc_gt, lc_ge, lc_le, lc_eq, l6_le, l6_lt, l6_eq, i_le, i_lt, i_eq, tI_0, tI_1]); omega) | (rw [iso_k (k := 4) (m := 1) s1_4 (by decide) (by decide) (by decide)]; (try simp only [l_int, tL_0, tL_1, tL_2, tL_4, tL_5, tL_6, tL_7, tL_9, tL_10, tL_12, tL_15, tL_30, tL_40, tL_60, tL_99, tL_255, tL_1023, tL_m1, lc_lt, lc_gt, lc_ge, lc_le, lc_eq, l6_le, l6_lt, l6_eq, i_le, i_lt, i_eq, tI_0, tI_1] at hb46); (try simp only [l_int, tL_0, tL_1, tL_2, tL_4, tL_5, tL_6, tL_7, tL_9, tL_10, tL_12, tL_15, tL_30, tL_40, tL_60, tL_99, tL_255, tL_1023, tL_m1, lc_lt, lc_gt, lc_ge, lc_le, lc_eq, l6_le, l6_lt, l6_eq, i_le, i_lt, i_eq, tI_0, tI_1]); omega) | (rw [iso_k (k := 5) (m := 15) s1_5 (by decide) (by decide) (by decide)]; (try simp only [l_int, tL_0, tL_1, tL_2, tL_4, tL_5, tL_6, tL_7, tL_9, tL_10, tL_12, tL_15, tL_30, tL_40, tL_60, tL_99, tL_255, tL_1023, tL_m1, lc_lt, lc_gt, lc_ge, lc_le, lc_eq, l6_le, l6_lt, l6_eq, i_le, i_lt, i_eq, tI_0, tI_1] at hb46); (try simp only [l_int, tL_0, tL_1, tL_2, tL_4, tL_5, tL_6, tL_7, tL_9, tL_10, tL_12, tL_15, tL_30, tL_40, tL_60, tL_99, tL_255, tL_1023, tL_m1, lc_lt, lc_gt, lc_ge, lc_le, lc_eq, l6_le, l6_lt, l6_eq, i_le, i_lt, i_eq, tI_0, tI_1]); omega) | (rw [iso_k (k := 6) (m := 9) s1_6 (by decide) (by decide) (by decide)]; (try simp only [l_int, tL_0, tL_1, tL_2, tL_4, tL_5, tL_6, tL_7, tL_9, tL_10, tL_12, tL_15, tL_30, tL_40, tL_60, tL_99, tL_255, tL_1023, tL_m1, lc_lt, lc_gt, lc_ge, lc_le, lc_eq, l6_le, l6_lt, l6_eq, i_le, i_lt, i_eq, tI_0, tI_1] at hb46); (try simp only [l_int, tL_0, tL_1, tL_2, tL_4, tL_5, tL_6, tL_7, tL_9, tL_10, tL_12, tL_15, tL_30, tL_40, tL_60, tL_99, tL_255, tL_1023, tL_m1, lc_lt, lc_gt, lc_ge, lc_le, lc_eq, l6_le, l6_lt, l6_eq, i_le, i_lt, i_eq, tI_0, tI_1]); omega) | (rw [iso_k (k := 7) (m := 99) s1_7 (by decide) (by decide) (by decide)]; (try simp only [l_int, tL_0, tL_1, tL_2, tL_4, tL_5, tL_6, tL_7, tL_9, tL_10, tL_12, tL_15, tL_30, tL_40, tL_60, tL_99, tL_255, tL_1023, tL_m1, lc_lt, lc_gt, lc_ge, lc_le, lc_eq, l6_le, l6_lt, l6_eq, i_le, i_lt, i_eq, tI_0, tI_1] at hb46); (try simp only [l_int, tL_0, tL_1, tL_2, tL_4, tL_5, tL_6, tL_7, tL_9, tL_10, tL_12, tL_15, tL_30, tL_40, tL_60, tL_99, tL_255, tL_1023, tL_m1, lc_lt, lc_gt, lc_ge, lc_le, lc_eq, l6_le, l6_lt, l6_eq, i_le, i_lt, i_eq, tI_0, tI_1]); omega) | (rw [iso_k (k := 0) (m := 9) hq0 (by decide) (by decide) (by decide)]; (try simp only [l_int, tL_0, tL_1, tL_2, tL_4, tL_5, tL_6, tL_7, tL_9, tL_10, tL_12, tL_15, tL_30, tL_40, tL_60, tL_99, tL_255, tL_1023, tL_m1, lc_lt, lc_gt, lc_ge, lc_le, lc_eq, l6_le, l6_lt, l6_eq, i_le, i_lt, i_eq, tI_0, tI_1] at hb46); (try simp only [l_int, tL_0, tL_1, tL_2, tL_4, tL_5, tL_6, tL_7, tL_9, tL_10, tL_12, tL_15, tL_30, tL_40, tL_60, tL_99, tL_255, tL_1023, tL_m1, lc_lt, lc_gt, lc_ge, lc_le, lc_eq, l6_le, l6_lt, l6_eq, i_le, i_lt, i_eq, tI_0, tI_1]); omega)))
  by_cases s1_2 : q = 2
  · refine WS.tableIn (off := 67) (tgt := 68) hx dX11_mayBecome_1 (by rw [s1_2]; decide) (by rw [s1_2]; decide) (by rw [s1_2]; decide) (by decide) ?_
    show WS layM V 2 X σ 68 [(0, .int q), (1, .int v)] []
    refine WS.iload_n hx dX11_mayBecome_68 rfl 1 rfl ?_
    refine WS.i2l hx dX11_mayBecome_69 ?_
    refine WS.lconst (v := 0) hx dX11_mayBecome_70 rfl ?_
    refine WS.ldc2 (v := 9) hx lc11_106 dX11_mayBecome_71 ?_
    refine WS.callSi (st := []) [.long (Int32.toInt64 v), .long 0, .long 9] hx (c_X11_within V (d + 1) σ (Int32.toInt64 v) 0 9) okX11_within lm11_100 rfl rfl (Nat.le_of_ble_eq_true rfl) dX11_mayBecome_74 (fun v4 σ5 h6 => ?_)
    rcases h6 with ⟨rfl, rfl, hb74⟩ | ⟨rfl, rfl, hb74⟩
    · skip
      show WS layM V 2 X σ 77 [(0, .int q), (1, .int v)] [.int 1]
      exact WS.zret hx he dX11_mayBecome_77 (Or.inr rfl) (Rb.t (by first | (rw [iso_k (k := 1) (m := 15) s1_1 (by decide) (by decide) (by decide)]; (try simp only [l_int, tL_0, tL_1, tL_2, tL_4, tL_5, tL_6, tL_7, tL_9, tL_10, tL_12, tL_15, tL_30, tL_40, tL_60, tL_99, tL_255, tL_1023, tL_m1, lc_lt, lc_gt, lc_ge, lc_le, lc_eq, l6_le, l6_lt, l6_eq, i_le, i_lt, i_eq, tI_0, tI_1] at hb74); (try simp only [l_int, tL_0, tL_1, tL_2, tL_4, tL_5, tL_6, tL_7, tL_9, tL_10, tL_12, tL_15, tL_30, tL_40, tL_60, tL_99, tL_255, tL_1023, tL_m1, lc_lt, lc_gt, lc_ge, lc_le, lc_eq, l6_le, l6_lt, l6_eq, i_le, i_lt, i_eq, tI_0, tI_1]); omega) | (rw [iso_k (k := 2) (m := 9) s1_2 (by decide) (by decide) (by decide)]; (try simp only [l_int, tL_0, tL_1, tL_2, tL_4, tL_5, tL_6, tL_7, tL_9, tL_10, tL_12, tL_15, tL_30, tL_40, tL_60, tL_99, tL_255, tL_1023, tL_m1, lc_lt, lc_gt, lc_ge, lc_le, lc_eq, l6_le, l6_lt, l6_eq, i_le, i_lt, i_eq, tI_0, tI_1] at hb74); (try simp only [l_int, tL_0, tL_1, tL_2, tL_4, tL_5, tL_6, tL_7, tL_9, tL_10, tL_12, tL_15, tL_30, tL_40, tL_60, tL_99, tL_255, tL_1023, tL_m1, lc_lt, lc_gt, lc_ge, lc_le, lc_eq, l6_le, l6_lt, l6_eq, i_le, i_lt, i_eq, tI_0, tI_1]); omega) | (rw [iso_k (k := 3) (m := 1) s1_3 (by decide) (by decide) (by decide)]; (try simp only [l_int, tL_0, tL_1, tL_2, tL_4, tL_5, tL_6, tL_7, tL_9, tL_10, tL_12, tL_15, tL_30, tL_40, tL_60, tL_99, tL_255, tL_1023, tL_m1, lc_lt, lc_gt, lc_ge, lc_le, lc_eq, l6_le, l6_lt, l6_eq, i_le, i_lt, i_eq, tI_0, tI_1] at hb74); (try simp only [l_int, tL_0, tL_1, tL_2, tL_4, tL_5, tL_6, tL_7, tL_9, tL_10, tL_12, tL_15, tL_30, tL_40, tL_60, tL_99, tL_255, tL_1023, tL_m1, lc_lt, lc_gt, lc_ge, lc_le, lc_eq, l6_le, l6_lt, l6_eq, i_le, i_lt, i_eq, tI_0, tI_1]); omega) | (rw [iso_k (k := 4) (m := 1) s1_4 (by decide) (by decide) (by decide)]; (try simp only [l_int, tL_0, tL_1, tL_2, tL_4, tL_5, tL_6, tL_7, tL_9, tL_10, tL_12, tL_15, tL_30, tL_40, tL_60, tL_99, tL_255, tL_1023, tL_m1, lc_lt, lc_gt, lc_ge, lc_le, lc_eq, l6_le, l6_lt, l6_eq, i_le, i_lt, i_eq, tI_0, tI_1] at hb74); (try simp only [l_int, tL_0, tL_1, tL_2, tL_4, tL_5, tL_6, tL_7, tL_9, tL_10, tL_12, tL_15, tL_30, tL_40, tL_60, tL_99, tL_255, tL_1023, tL_m1, lc_lt, lc_gt, lc_ge, lc_le, lc_eq, l6_le, l6_lt, l6_eq, i_le, i_lt, i_eq, tI_0, tI_1]); omega) | (rw [iso_k (k := 5) (m := 15) s1_5 (by decide) (by decide) (by decide)]; (try simp only [l_int, tL_0, tL_1, tL_2, tL_4, tL_5, tL_6, tL_7, tL_9, tL_10, tL_12, tL_15, tL_30, tL_40, tL_60, tL_99, tL_255, tL_1023, tL_m1, lc_lt, lc_gt, lc_ge, lc_le, lc_eq, l6_le, l6_lt, l6_eq, i_le, i_lt, i_eq, tI_0, tI_1] at hb74); (try simp only [l_int, tL_0, tL_1, tL_2, tL_4, tL_5, tL_6, tL_7, tL_9, tL_10, tL_12, tL_15, tL_30, tL_40, tL_60, tL_99, tL_255, tL_1023, tL_m1, lc_lt, lc_gt, lc_ge, lc_le, lc_eq, l6_le, l6_lt, l6_eq, i_le, i_lt, i_eq, tI_0, tI_1]); omega) | (rw [iso_k (k := 6) (m := 9) s1_6 (by decide) (by decide) (by decide)]; (try simp only [l_int, tL_0, tL_1, tL_2, tL_4, tL_5, tL_6, tL_7, tL_9, tL_10, tL_12, tL_15, tL_30, tL_40, tL_60, tL_99, tL_255, tL_1023, tL_m1, lc_lt, lc_gt, lc_ge, lc_le, lc_eq, l6_le, l6_lt, l6_eq, i_le, i_lt, i_eq, tI_0, tI_1] at hb74); (try simp only [l_int, tL_0, tL_1, tL_2, tL_4, tL_5, tL_6, tL_7, tL_9, tL_10, tL_12, tL_15, tL_30, tL_40, tL_60, tL_99, tL_255, tL_1023, tL_m1, lc_lt, lc_gt, lc_ge, lc_le, lc_eq, l6_le, l6_lt, l6_eq, i_le, i_lt, i_eq, tI_0, tI_1]); omega) | (rw [iso_k (k := 7) (m := 99) s1_7 (by decide) (by decide) (by decide)]; (try simp only [l_int, tL_0, tL_1, tL_2, tL_4, tL_5, tL_6, tL_7, tL_9, tL_10, tL_12, tL_15, tL_30, tL_40, tL_60, tL_99, tL_255, tL_1023, tL_m1, lc_lt, lc_gt, lc_ge, lc_le, lc_eq, l6_le, l6_lt, l6_eq, i_le, i_lt, i_eq, tI_0, tI_1] at hb74); (try simp only [l_int, tL_0, tL_1, tL_2, tL_4, tL_5, tL_6, tL_7, tL_9, tL_10, tL_12, tL_15, tL_30, tL_40, tL_60, tL_99, tL_255, tL_1023, tL_m1, lc_lt, lc_gt, lc_ge, lc_le, lc_eq, l6_le, l6_lt, l6_eq, i_le, i_lt, i_eq, tI_0, tI_1]); omega) | (rw [iso_k (k := 0) (m := 9) hq0 (by decide) (by decide) (by decide)]; (try simp only [l_int, tL_0, tL_1, tL_2, tL_4, tL_5, tL_6, tL_7, tL_9, tL_10, tL_12, tL_15, tL_30, tL_40, tL_60, tL_99, tL_255, tL_1023, tL_m1, lc_lt, lc_gt, lc_ge, lc_le, lc_eq, l6_le, l6_lt, l6_eq, i_le, i_lt, i_eq, tI_0, tI_1] at hb74); (try simp only [l_int, tL_0, tL_1, tL_2, tL_4, tL_5, tL_6, tL_7, tL_9, tL_10, tL_12, tL_15, tL_30, tL_40, tL_60, tL_99, tL_255, tL_1023, tL_m1, lc_lt, lc_gt, lc_ge, lc_le, lc_eq, l6_le, l6_lt, l6_eq, i_le, i_lt, i_eq, tI_0, tI_1]); omega)))
    · skip
      show WS layM V 2 X σ 77 [(0, .int q), (1, .int v)] [.int 0]
      exact WS.zret hx he dX11_mayBecome_77 (Or.inl rfl) (Rb.f (by first | (rw [iso_k (k := 1) (m := 15) s1_1 (by decide) (by decide) (by decide)]; (try simp only [l_int, tL_0, tL_1, tL_2, tL_4, tL_5, tL_6, tL_7, tL_9, tL_10, tL_12, tL_15, tL_30, tL_40, tL_60, tL_99, tL_255, tL_1023, tL_m1, lc_lt, lc_gt, lc_ge, lc_le, lc_eq, l6_le, l6_lt, l6_eq, i_le, i_lt, i_eq, tI_0, tI_1] at hb74); (try simp only [l_int, tL_0, tL_1, tL_2, tL_4, tL_5, tL_6, tL_7, tL_9, tL_10, tL_12, tL_15, tL_30, tL_40, tL_60, tL_99, tL_255, tL_1023, tL_m1, lc_lt, lc_gt, lc_ge, lc_le, lc_eq, l6_le, l6_lt, l6_eq, i_le, i_lt, i_eq, tI_0, tI_1]); omega) | (rw [iso_k (k := 2) (m := 9) s1_2 (by decide) (by decide) (by decide)]; (try simp only [l_int, tL_0, tL_1, tL_2, tL_4, tL_5, tL_6, tL_7, tL_9, tL_10, tL_12, tL_15, tL_30, tL_40, tL_60, tL_99, tL_255, tL_1023, tL_m1, lc_lt, lc_gt, lc_ge, lc_le, lc_eq, l6_le, l6_lt, l6_eq, i_le, i_lt, i_eq, tI_0, tI_1] at hb74); (try simp only [l_int, tL_0, tL_1, tL_2, tL_4, tL_5, tL_6, tL_7, tL_9, tL_10, tL_12, tL_15, tL_30, tL_40, tL_60, tL_99, tL_255, tL_1023, tL_m1, lc_lt, lc_gt, lc_ge, lc_le, lc_eq, l6_le, l6_lt, l6_eq, i_le, i_lt, i_eq, tI_0, tI_1]); omega) | (rw [iso_k (k := 3) (m := 1) s1_3 (by decide) (by decide) (by decide)]; (try simp only [l_int, tL_0, tL_1, tL_2, tL_4, tL_5, tL_6, tL_7, tL_9, tL_10, tL_12, tL_15, tL_30, tL_40, tL_60, tL_99, tL_255, tL_1023, tL_m1, lc_lt, lc_gt, lc_ge, lc_le, lc_eq, l6_le, l6_lt, l6_eq, i_le, i_lt, i_eq, tI_0, tI_1] at hb74); (try simp only [l_int, tL_0, tL_1, tL_2, tL_4, tL_5, tL_6, tL_7, tL_9, tL_10, tL_12, tL_15, tL_30, tL_40, tL_60, tL_99, tL_255, tL_1023, tL_m1, lc_lt, lc_gt, lc_ge, lc_le, lc_eq, l6_le, l6_lt, l6_eq, i_le, i_lt, i_eq, tI_0, tI_1]); omega) | (rw [iso_k (k := 4) (m := 1) s1_4 (by decide) (by decide) (by decide)]; (try simp only [l_int, tL_0, tL_1, tL_2, tL_4, tL_5, tL_6, tL_7, tL_9, tL_10, tL_12, tL_15, tL_30, tL_40, tL_60, tL_99, tL_255, tL_1023, tL_m1, lc_lt, lc_gt, lc_ge, lc_le, lc_eq, l6_le, l6_lt, l6_eq, i_le, i_lt, i_eq, tI_0, tI_1] at hb74); (try simp only [l_int, tL_0, tL_1, tL_2, tL_4, tL_5, tL_6, tL_7, tL_9, tL_10, tL_12, tL_15, tL_30, tL_40, tL_60, tL_99, tL_255, tL_1023, tL_m1, lc_lt, lc_gt, lc_ge, lc_le, lc_eq, l6_le, l6_lt, l6_eq, i_le, i_lt, i_eq, tI_0, tI_1]); omega) | (rw [iso_k (k := 5) (m := 15) s1_5 (by decide) (by decide) (by decide)]; (try simp only [l_int, tL_0, tL_1, tL_2, tL_4, tL_5, tL_6, tL_7, tL_9, tL_10, tL_12, tL_15, tL_30, tL_40, tL_60, tL_99, tL_255, tL_1023, tL_m1, lc_lt, lc_gt, lc_ge, lc_le, lc_eq, l6_le, l6_lt, l6_eq, i_le, i_lt, i_eq, tI_0, tI_1] at hb74); (try simp only [l_int, tL_0, tL_1, tL_2, tL_4, tL_5, tL_6, tL_7, tL_9, tL_10, tL_12, tL_15, tL_30, tL_40, tL_60, tL_99, tL_255, tL_1023, tL_m1, lc_lt, lc_gt, lc_ge, lc_le, lc_eq, l6_le, l6_lt, l6_eq, i_le, i_lt, i_eq, tI_0, tI_1]); omega) | (rw [iso_k (k := 6) (m := 9) s1_6 (by decide) (by decide) (by decide)]; (try simp only [l_int, tL_0, tL_1, tL_2, tL_4, tL_5, tL_6, tL_7, tL_9, tL_10, tL_12, tL_15, tL_30, tL_40, tL_60, tL_99, tL_255, tL_1023, tL_m1, lc_lt, lc_gt, lc_ge, lc_le, lc_eq, l6_le, l6_lt, l6_eq, i_le, i_lt, i_eq, tI_0, tI_1] at hb74); (try simp only [l_int, tL_0, tL_1, tL_2, tL_4, tL_5, tL_6, tL_7, tL_9, tL_10, tL_12, tL_15, tL_30, tL_40, tL_60, tL_99, tL_255, tL_1023, tL_m1, lc_lt, lc_gt, lc_ge, lc_le, lc_eq, l6_le, l6_lt, l6_eq, i_le, i_lt, i_eq, tI_0, tI_1]); omega) | (rw [iso_k (k := 7) (m := 99) s1_7 (by decide) (by decide) (by decide)]; (try simp only [l_int, tL_0, tL_1, tL_2, tL_4, tL_5, tL_6, tL_7, tL_9, tL_10, tL_12, tL_15, tL_30, tL_40, tL_60, tL_99, tL_255, tL_1023, tL_m1, lc_lt, lc_gt, lc_ge, lc_le, lc_eq, l6_le, l6_lt, l6_eq, i_le, i_lt, i_eq, tI_0, tI_1] at hb74); (try simp only [l_int, tL_0, tL_1, tL_2, tL_4, tL_5, tL_6, tL_7, tL_9, tL_10, tL_12, tL_15, tL_30, tL_40, tL_60, tL_99, tL_255, tL_1023, tL_m1, lc_lt, lc_gt, lc_ge, lc_le, lc_eq, l6_le, l6_lt, l6_eq, i_le, i_lt, i_eq, tI_0, tI_1]); omega) | (rw [iso_k (k := 0) (m := 9) hq0 (by decide) (by decide) (by decide)]; (try simp only [l_int, tL_0, tL_1, tL_2, tL_4, tL_5, tL_6, tL_7, tL_9, tL_10, tL_12, tL_15, tL_30, tL_40, tL_60, tL_99, tL_255, tL_1023, tL_m1, lc_lt, lc_gt, lc_ge, lc_le, lc_eq, l6_le, l6_lt, l6_eq, i_le, i_lt, i_eq, tI_0, tI_1] at hb74); (try simp only [l_int, tL_0, tL_1, tL_2, tL_4, tL_5, tL_6, tL_7, tL_9, tL_10, tL_12, tL_15, tL_30, tL_40, tL_60, tL_99, tL_255, tL_1023, tL_m1, lc_lt, lc_gt, lc_ge, lc_le, lc_eq, l6_le, l6_lt, l6_eq, i_le, i_lt, i_eq, tI_0, tI_1]); omega)))
  by_cases s1_3 : q = 3
  · refine WS.tableIn (off := 49) (tgt := 50) hx dX11_mayBecome_1 (by rw [s1_3]; decide) (by rw [s1_3]; decide) (by rw [s1_3]; decide) (by decide) ?_
    show WS layM V 2 X σ 50 [(0, .int q), (1, .int v)] []
    refine WS.iload_n hx dX11_mayBecome_50 rfl 1 rfl ?_
    refine WS.i2l hx dX11_mayBecome_51 ?_
    refine WS.lconst (v := 0) hx dX11_mayBecome_52 rfl ?_
    refine WS.lconst (v := 1) hx dX11_mayBecome_53 rfl ?_
    refine WS.callSi (st := []) [.long (Int32.toInt64 v), .long 0, .long 1] hx (c_X11_within V (d + 1) σ (Int32.toInt64 v) 0 1) okX11_within lm11_100 rfl rfl (Nat.le_of_ble_eq_true rfl) dX11_mayBecome_54 (fun v7 σ8 h9 => ?_)
    rcases h9 with ⟨rfl, rfl, hb54⟩ | ⟨rfl, rfl, hb54⟩
    · skip
      show WS layM V 2 X σ 57 [(0, .int q), (1, .int v)] [.int 1]
      exact WS.zret hx he dX11_mayBecome_57 (Or.inr rfl) (Rb.t (by first | (rw [iso_k (k := 1) (m := 15) s1_1 (by decide) (by decide) (by decide)]; (try simp only [l_int, tL_0, tL_1, tL_2, tL_4, tL_5, tL_6, tL_7, tL_9, tL_10, tL_12, tL_15, tL_30, tL_40, tL_60, tL_99, tL_255, tL_1023, tL_m1, lc_lt, lc_gt, lc_ge, lc_le, lc_eq, l6_le, l6_lt, l6_eq, i_le, i_lt, i_eq, tI_0, tI_1] at hb54); (try simp only [l_int, tL_0, tL_1, tL_2, tL_4, tL_5, tL_6, tL_7, tL_9, tL_10, tL_12, tL_15, tL_30, tL_40, tL_60, tL_99, tL_255, tL_1023, tL_m1, lc_lt, lc_gt, lc_ge, lc_le, lc_eq, l6_le, l6_lt, l6_eq, i_le, i_lt, i_eq, tI_0, tI_1]); omega) | (rw [iso_k (k := 2) (m := 9) s1_2 (by decide) (by decide) (by decide)]; (try simp only [l_int, tL_0, tL_1, tL_2, tL_4, tL_5, tL_6, tL_7, tL_9, tL_10, tL_12, tL_15, tL_30, tL_40, tL_60, tL_99, tL_255, tL_1023, tL_m1, lc_lt, lc_gt, lc_ge, lc_le, lc_eq, l6_le, l6_lt, l6_eq, i_le, i_lt, i_eq, tI_0, tI_1] at hb54); (try simp only [l_int, tL_0, tL_1, tL_2, tL_4, tL_5, tL_6, tL_7, tL_9, tL_10, tL_12, tL_15, tL_30, tL_40, tL_60, tL_99, tL_255, tL_1023, tL_m1, lc_lt, lc_gt, lc_ge, lc_le, lc_eq, l6_le, l6_lt, l6_eq, i_le, i_lt, i_eq, tI_0, tI_1]); omega) | (rw [iso_k (k := 3) (m := 1) s1_3 (by decide) (by decide) (by decide)]; (try simp only [l_int, tL_0, tL_1, tL_2, tL_4, tL_5, tL_6, tL_7, tL_9, tL_10, tL_12, tL_15, tL_30, tL_40, tL_60, tL_99, tL_255, tL_1023, tL_m1, lc_lt, lc_gt, lc_ge, lc_le, lc_eq, l6_le, l6_lt, l6_eq, i_le, i_lt, i_eq, tI_0, tI_1] at hb54); (try simp only [l_int, tL_0, tL_1, tL_2, tL_4, tL_5, tL_6, tL_7, tL_9, tL_10, tL_12, tL_15, tL_30, tL_40, tL_60, tL_99, tL_255, tL_1023, tL_m1, lc_lt, lc_gt, lc_ge, lc_le, lc_eq, l6_le, l6_lt, l6_eq, i_le, i_lt, i_eq, tI_0, tI_1]); omega) | (rw [iso_k (k := 4) (m := 1) s1_4 (by decide) (by decide) (by decide)]; (try simp only [l_int, tL_0, tL_1, tL_2, tL_4, tL_5, tL_6, tL_7, tL_9, tL_10, tL_12, tL_15, tL_30, tL_40, tL_60, tL_99, tL_255, tL_1023, tL_m1, lc_lt, lc_gt, lc_ge, lc_le, lc_eq, l6_le, l6_lt, l6_eq, i_le, i_lt, i_eq, tI_0, tI_1] at hb54); (try simp only [l_int, tL_0, tL_1, tL_2, tL_4, tL_5, tL_6, tL_7, tL_9, tL_10, tL_12, tL_15, tL_30, tL_40, tL_60, tL_99, tL_255, tL_1023, tL_m1, lc_lt, lc_gt, lc_ge, lc_le, lc_eq, l6_le, l6_lt, l6_eq, i_le, i_lt, i_eq, tI_0, tI_1]); omega) | (rw [iso_k (k := 5) (m := 15) s1_5 (by decide) (by decide) (by decide)]; (try simp only [l_int, tL_0, tL_1, tL_2, tL_4, tL_5, tL_6, tL_7, tL_9, tL_10, tL_12, tL_15, tL_30, tL_40, tL_60, tL_99, tL_255, tL_1023, tL_m1, lc_lt, lc_gt, lc_ge, lc_le, lc_eq, l6_le, l6_lt, l6_eq, i_le, i_lt, i_eq, tI_0, tI_1] at hb54); (try simp only [l_int, tL_0, tL_1, tL_2, tL_4, tL_5, tL_6, tL_7, tL_9, tL_10, tL_12, tL_15, tL_30, tL_40, tL_60, tL_99, tL_255, tL_1023, tL_m1, lc_lt, lc_gt, lc_ge, lc_le, lc_eq, l6_le, l6_lt, l6_eq, i_le, i_lt, i_eq, tI_0, tI_1]); omega) | (rw [iso_k (k := 6) (m := 9) s1_6 (by decide) (by decide) (by decide)]; (try simp only [l_int, tL_0, tL_1, tL_2, tL_4, tL_5, tL_6, tL_7, tL_9, tL_10, tL_12, tL_15, tL_30, tL_40, tL_60, tL_99, tL_255, tL_1023, tL_m1, lc_lt, lc_gt, lc_ge, lc_le, lc_eq, l6_le, l6_lt, l6_eq, i_le, i_lt, i_eq, tI_0, tI_1] at hb54); (try simp only [l_int, tL_0, tL_1, tL_2, tL_4, tL_5, tL_6, tL_7, tL_9, tL_10, tL_12, tL_15, tL_30, tL_40, tL_60, tL_99, tL_255, tL_1023, tL_m1, lc_lt, lc_gt, lc_ge, lc_le, lc_eq, l6_le, l6_lt, l6_eq, i_le, i_lt, i_eq, tI_0, tI_1]); omega) | (rw [iso_k (k := 7) (m := 99) s1_7 (by decide) (by decide) (by decide)]; (try simp only [l_int, tL_0, tL_1, tL_2, tL_4, tL_5, tL_6, tL_7, tL_9, tL_10, tL_12, tL_15, tL_30, tL_40, tL_60, tL_99, tL_255, tL_1023, tL_m1, lc_lt, lc_gt, lc_ge, lc_le, lc_eq, l6_le, l6_lt, l6_eq, i_le, i_lt, i_eq, tI_0, tI_1] at hb54); (try simp only [l_int, tL_0, tL_1, tL_2, tL_4, tL_5, tL_6, tL_7, tL_9, tL_10, tL_12, tL_15, tL_30, tL_40, tL_60, tL_99, tL_255, tL_1023, tL_m1, lc_lt, lc_gt, lc_ge, lc_le, lc_eq, l6_le, l6_lt, l6_eq, i_le, i_lt, i_eq, tI_0, tI_1]); omega) | (rw [iso_k (k := 0) (m := 9) hq0 (by decide) (by decide) (by decide)]; (try simp only [l_int, tL_0, tL_1, tL_2, tL_4, tL_5, tL_6, tL_7, tL_9, tL_10, tL_12, tL_15, tL_30, tL_40, tL_60, tL_99, tL_255, tL_1023, tL_m1, lc_lt, lc_gt, lc_ge, lc_le, lc_eq, l6_le, l6_lt, l6_eq, i_le, i_lt, i_eq, tI_0, tI_1] at hb54); (try simp only [l_int, tL_0, tL_1, tL_2, tL_4, tL_5, tL_6, tL_7, tL_9, tL_10, tL_12, tL_15, tL_30, tL_40, tL_60, tL_99, tL_255, tL_1023, tL_m1, lc_lt, lc_gt, lc_ge, lc_le, lc_eq, l6_le, l6_lt, l6_eq, i_le, i_lt, i_eq, tI_0, tI_1]); omega)))
    · skip
      show WS layM V 2 X σ 57 [(0, .int q), (1, .int v)] [.int 0]
      exact WS.zret hx he dX11_mayBecome_57 (Or.inl rfl) (Rb.f (by first | (rw [iso_k (k := 1) (m := 15) s1_1 (by decide) (by decide) (by decide)]; (try simp only [l_int, tL_0, tL_1, tL_2, tL_4, tL_5, tL_6, tL_7, tL_9, tL_10, tL_12, tL_15, tL_30, tL_40, tL_60, tL_99, tL_255, tL_1023, tL_m1, lc_lt, lc_gt, lc_ge, lc_le, lc_eq, l6_le, l6_lt, l6_eq, i_le, i_lt, i_eq, tI_0, tI_1] at hb54); (try simp only [l_int, tL_0, tL_1, tL_2, tL_4, tL_5, tL_6, tL_7, tL_9, tL_10, tL_12, tL_15, tL_30, tL_40, tL_60, tL_99, tL_255, tL_1023, tL_m1, lc_lt, lc_gt, lc_ge, lc_le, lc_eq, l6_le, l6_lt, l6_eq, i_le, i_lt, i_eq, tI_0, tI_1]); omega) | (rw [iso_k (k := 2) (m := 9) s1_2 (by decide) (by decide) (by decide)]; (try simp only [l_int, tL_0, tL_1, tL_2, tL_4, tL_5, tL_6, tL_7, tL_9, tL_10, tL_12, tL_15, tL_30, tL_40, tL_60, tL_99, tL_255, tL_1023, tL_m1, lc_lt, lc_gt, lc_ge, lc_le, lc_eq, l6_le, l6_lt, l6_eq, i_le, i_lt, i_eq, tI_0, tI_1] at hb54); (try simp only [l_int, tL_0, tL_1, tL_2, tL_4, tL_5, tL_6, tL_7, tL_9, tL_10, tL_12, tL_15, tL_30, tL_40, tL_60, tL_99, tL_255, tL_1023, tL_m1, lc_lt, lc_gt, lc_ge, lc_le, lc_eq, l6_le, l6_lt, l6_eq, i_le, i_lt, i_eq, tI_0, tI_1]); omega) | (rw [iso_k (k := 3) (m := 1) s1_3 (by decide) (by decide) (by decide)]; (try simp only [l_int, tL_0, tL_1, tL_2, tL_4, tL_5, tL_6, tL_7, tL_9, tL_10, tL_12, tL_15, tL_30, tL_40, tL_60, tL_99, tL_255, tL_1023, tL_m1, lc_lt, lc_gt, lc_ge, lc_le, lc_eq, l6_le, l6_lt, l6_eq, i_le, i_lt, i_eq, tI_0, tI_1] at hb54); (try simp only [l_int, tL_0, tL_1, tL_2, tL_4, tL_5, tL_6, tL_7, tL_9, tL_10, tL_12, tL_15, tL_30, tL_40, tL_60, tL_99, tL_255, tL_1023, tL_m1, lc_lt, lc_gt, lc_ge, lc_le, lc_eq, l6_le, l6_lt, l6_eq, i_le, i_lt, i_eq, tI_0, tI_1]); omega) | (rw [iso_k (k := 4) (m := 1) s1_4 (by decide) (by decide) (by decide)]; (try simp only [l_int, tL_0, tL_1, tL_2, tL_4, tL_5, tL_6, tL_7, tL_9, tL_10, tL_12, tL_15, tL_30, tL_40, tL_60, tL_99, tL_255, tL_1023, tL_m1, lc_lt, lc_gt, lc_ge, lc_le, lc_eq, l6_le, l6_lt, l6_eq, i_le, i_lt, i_eq, tI_0, tI_1] at hb54); (try simp only [l_int, tL_0, tL_1, tL_2, tL_4, tL_5, tL_6, tL_7, tL_9, tL_10, tL_12, tL_15, tL_30, tL_40, tL_60, tL_99, tL_255, tL_1023, tL_m1, lc_lt, lc_gt, lc_ge, lc_le, lc_eq, l6_le, l6_lt, l6_eq, i_le, i_lt, i_eq, tI_0, tI_1]); omega) | (rw [iso_k (k := 5) (m := 15) s1_5 (by decide) (by decide) (by decide)]; (try simp only [l_int, tL_0, tL_1, tL_2, tL_4, tL_5, tL_6, tL_7, tL_9, tL_10, tL_12, tL_15, tL_30, tL_40, tL_60, tL_99, tL_255, tL_1023, tL_m1, lc_lt, lc_gt, lc_ge, lc_le, lc_eq, l6_le, l6_lt, l6_eq, i_le, i_lt, i_eq, tI_0, tI_1] at hb54); (try simp only [l_int, tL_0, tL_1, tL_2, tL_4, tL_5, tL_6, tL_7, tL_9, tL_10, tL_12, tL_15, tL_30, tL_40, tL_60, tL_99, tL_255, tL_1023, tL_m1, lc_lt, lc_gt, lc_ge, lc_le, lc_eq, l6_le, l6_lt, l6_eq, i_le, i_lt, i_eq, tI_0, tI_1]); omega) | (rw [iso_k (k := 6) (m := 9) s1_6 (by decide) (by decide) (by decide)]; (try simp only [l_int, tL_0, tL_1, tL_2, tL_4, tL_5, tL_6, tL_7, tL_9, tL_10, tL_12, tL_15, tL_30, tL_40, tL_60, tL_99, tL_255, tL_1023, tL_m1, lc_lt, lc_gt, lc_ge, lc_le, lc_eq, l6_le, l6_lt, l6_eq, i_le, i_lt, i_eq, tI_0, tI_1] at hb54); (try simp only [l_int, tL_0, tL_1, tL_2, tL_4, tL_5, tL_6, tL_7, tL_9, tL_10, tL_12, tL_15, tL_30, tL_40, tL_60, tL_99, tL_255, tL_1023, tL_m1, lc_lt, lc_gt, lc_ge, lc_le, lc_eq, l6_le, l6_lt, l6_eq, i_le, i_lt, i_eq, tI_0, tI_1]); omega) | (rw [iso_k (k := 7) (m := 99) s1_7 (by decide) (by decide) (by decide)]; (try simp only [l_int, tL_0, tL_1, tL_2, tL_4, tL_5, tL_6, tL_7, tL_9, tL_10, tL_12, tL_15, tL_30, tL_40, tL_60, tL_99, tL_255, tL_1023, tL_m1, lc_lt, lc_gt, lc_ge, lc_le, lc_eq, l6_le, l6_lt, l6_eq, i_le, i_lt, i_eq, tI_0, tI_1] at hb54); (try simp only [l_int, tL_0, tL_1, tL_2, tL_4, tL_5, tL_6, tL_7, tL_9, tL_10, tL_12, tL_15, tL_30, tL_40, tL_60, tL_99, tL_255, tL_1023, tL_m1, lc_lt, lc_gt, lc_ge, lc_le, lc_eq, l6_le, l6_lt, l6_eq, i_le, i_lt, i_eq, tI_0, tI_1]); omega) | (rw [iso_k (k := 0) (m := 9) hq0 (by decide) (by decide) (by decide)]; (try simp only [l_int, tL_0, tL_1, tL_2, tL_4, tL_5, tL_6, tL_7, tL_9, tL_10, tL_12, tL_15, tL_30, tL_40, tL_60, tL_99, tL_255, tL_1023, tL_m1, lc_lt, lc_gt, lc_ge, lc_le, lc_eq, l6_le, l6_lt, l6_eq, i_le, i_lt, i_eq, tI_0, tI_1] at hb54); (try simp only [l_int, tL_0, tL_1, tL_2, tL_4, tL_5, tL_6, tL_7, tL_9, tL_10, tL_12, tL_15, tL_30, tL_40, tL_60, tL_99, tL_255, tL_1023, tL_m1, lc_lt, lc_gt, lc_ge, lc_le, lc_eq, l6_le, l6_lt, l6_eq, i_le, i_lt, i_eq, tI_0, tI_1]); omega)))
  by_cases s1_4 : q = 4
  · refine WS.tableIn (off := 49) (tgt := 50) hx dX11_mayBecome_1 (by rw [s1_4]; decide) (by rw [s1_4]; decide) (by rw [s1_4]; decide) (by decide) ?_
    show WS layM V 2 X σ 50 [(0, .int q), (1, .int v)] []
    refine WS.iload_n hx dX11_mayBecome_50 rfl 1 rfl ?_
    refine WS.i2l hx dX11_mayBecome_51 ?_
    refine WS.lconst (v := 0) hx dX11_mayBecome_52 rfl ?_
    refine WS.lconst (v := 1) hx dX11_mayBecome_53 rfl ?_
    refine WS.callSi (st := []) [.long (Int32.toInt64 v), .long 0, .long 1] hx (c_X11_within V (d + 1) σ (Int32.toInt64 v) 0 1) okX11_within lm11_100 rfl rfl (Nat.le_of_ble_eq_true rfl) dX11_mayBecome_54 (fun v10 σ11 h12 => ?_)
    rcases h12 with ⟨rfl, rfl, hb54⟩ | ⟨rfl, rfl, hb54⟩
    · skip
      show WS layM V 2 X σ 57 [(0, .int q), (1, .int v)] [.int 1]
      exact WS.zret hx he dX11_mayBecome_57 (Or.inr rfl) (Rb.t (by first | (rw [iso_k (k := 1) (m := 15) s1_1 (by decide) (by decide) (by decide)]; (try simp only [l_int, tL_0, tL_1, tL_2, tL_4, tL_5, tL_6, tL_7, tL_9, tL_10, tL_12, tL_15, tL_30, tL_40, tL_60, tL_99, tL_255, tL_1023, tL_m1, lc_lt, lc_gt, lc_ge, lc_le, lc_eq, l6_le, l6_lt, l6_eq, i_le, i_lt, i_eq, tI_0, tI_1] at hb54); (try simp only [l_int, tL_0, tL_1, tL_2, tL_4, tL_5, tL_6, tL_7, tL_9, tL_10, tL_12, tL_15, tL_30, tL_40, tL_60, tL_99, tL_255, tL_1023, tL_m1, lc_lt, lc_gt, lc_ge, lc_le, lc_eq, l6_le, l6_lt, l6_eq, i_le, i_lt, i_eq, tI_0, tI_1]); omega) | (rw [iso_k (k := 2) (m := 9) s1_2 (by decide) (by decide) (by decide)]; (try simp only [l_int, tL_0, tL_1, tL_2, tL_4, tL_5, tL_6, tL_7, tL_9, tL_10, tL_12, tL_15, tL_30, tL_40, tL_60, tL_99, tL_255, tL_1023, tL_m1, lc_lt, lc_gt, lc_ge, lc_le, lc_eq, l6_le, l6_lt, l6_eq, i_le, i_lt, i_eq, tI_0, tI_1] at hb54); (try simp only [l_int, tL_0, tL_1, tL_2, tL_4, tL_5, tL_6, tL_7, tL_9, tL_10, tL_12, tL_15, tL_30, tL_40, tL_60, tL_99, tL_255, tL_1023, tL_m1, lc_lt, lc_gt, lc_ge, lc_le, lc_eq, l6_le, l6_lt, l6_eq, i_le, i_lt, i_eq, tI_0, tI_1]); omega) | (rw [iso_k (k := 3) (m := 1) s1_3 (by decide) (by decide) (by decide)]; (try simp only [l_int, tL_0, tL_1, tL_2, tL_4, tL_5, tL_6, tL_7, tL_9, tL_10, tL_12, tL_15, tL_30, tL_40, tL_60, tL_99, tL_255, tL_1023, tL_m1, lc_lt, lc_gt, lc_ge, lc_le, lc_eq, l6_le, l6_lt, l6_eq, i_le, i_lt, i_eq, tI_0, tI_1] at hb54); (try simp only [l_int, tL_0, tL_1, tL_2, tL_4, tL_5, tL_6, tL_7, tL_9, tL_10, tL_12, tL_15, tL_30, tL_40, tL_60, tL_99, tL_255, tL_1023, tL_m1, lc_lt, lc_gt, lc_ge, lc_le, lc_eq, l6_le, l6_lt, l6_eq, i_le, i_lt, i_eq, tI_0, tI_1]); omega) | (rw [iso_k (k := 4) (m := 1) s1_4 (by decide) (by decide) (by decide)]; (try simp only [l_int, tL_0, tL_1, tL_2, tL_4, tL_5, tL_6, tL_7, tL_9, tL_10, tL_12, tL_15, tL_30, tL_40, tL_60, tL_99, tL_255, tL_1023, tL_m1, lc_lt, lc_gt, lc_ge, lc_le, lc_eq, l6_le, l6_lt, l6_eq, i_le, i_lt, i_eq, tI_0, tI_1] at hb54); (try simp only [l_int, tL_0, tL_1, tL_2, tL_4, tL_5, tL_6, tL_7, tL_9, tL_10, tL_12, tL_15, tL_30, tL_40, tL_60, tL_99, tL_255, tL_1023, tL_m1, lc_lt, lc_gt, lc_ge, lc_le, lc_eq, l6_le, l6_lt, l6_eq, i_le, i_lt, i_eq, tI_0, tI_1]); omega) | (rw [iso_k (k := 5) (m := 15) s1_5 (by decide) (by decide) (by decide)]; (try simp only [l_int, tL_0, tL_1, tL_2, tL_4, tL_5, tL_6, tL_7, tL_9, tL_10, tL_12, tL_15, tL_30, tL_40, tL_60, tL_99, tL_255, tL_1023, tL_m1, lc_lt, lc_gt, lc_ge, lc_le, lc_eq, l6_le, l6_lt, l6_eq, i_le, i_lt, i_eq, tI_0, tI_1] at hb54); (try simp only [l_int, tL_0, tL_1, tL_2, tL_4, tL_5, tL_6, tL_7, tL_9, tL_10, tL_12, tL_15, tL_30, tL_40, tL_60, tL_99, tL_255, tL_1023, tL_m1, lc_lt, lc_gt, lc_ge, lc_le, lc_eq, l6_le, l6_lt, l6_eq, i_le, i_lt, i_eq, tI_0, tI_1]); omega) | (rw [iso_k (k := 6) (m := 9) s1_6 (by decide) (by decide) (by decide)]; (try simp only [l_int, tL_0, tL_1, tL_2, tL_4, tL_5, tL_6, tL_7, tL_9, tL_10, tL_12, tL_15, tL_30, tL_40, tL_60, tL_99, tL_255, tL_1023, tL_m1, lc_lt, lc_gt, lc_ge, lc_le, lc_eq, l6_le, l6_lt, l6_eq, i_le, i_lt, i_eq, tI_0, tI_1] at hb54); (try simp only [l_int, tL_0, tL_1, tL_2, tL_4, tL_5, tL_6, tL_7, tL_9, tL_10, tL_12, tL_15, tL_30, tL_40, tL_60, tL_99, tL_255, tL_1023, tL_m1, lc_lt, lc_gt, lc_ge, lc_le, lc_eq, l6_le, l6_lt, l6_eq, i_le, i_lt, i_eq, tI_0, tI_1]); omega) | (rw [iso_k (k := 7) (m := 99) s1_7 (by decide) (by decide) (by decide)]; (try simp only [l_int, tL_0, tL_1, tL_2, tL_4, tL_5, tL_6, tL_7, tL_9, tL_10, tL_12, tL_15, tL_30, tL_40, tL_60, tL_99, tL_255, tL_1023, tL_m1, lc_lt, lc_gt, lc_ge, lc_le, lc_eq, l6_le, l6_lt, l6_eq, i_le, i_lt, i_eq, tI_0, tI_1] at hb54); (try simp only [l_int, tL_0, tL_1, tL_2, tL_4, tL_5, tL_6, tL_7, tL_9, tL_10, tL_12, tL_15, tL_30, tL_40, tL_60, tL_99, tL_255, tL_1023, tL_m1, lc_lt, lc_gt, lc_ge, lc_le, lc_eq, l6_le, l6_lt, l6_eq, i_le, i_lt, i_eq, tI_0, tI_1]); omega) | (rw [iso_k (k := 0) (m := 9) hq0 (by decide) (by decide) (by decide)]; (try simp only [l_int, tL_0, tL_1, tL_2, tL_4, tL_5, tL_6, tL_7, tL_9, tL_10, tL_12, tL_15, tL_30, tL_40, tL_60, tL_99, tL_255, tL_1023, tL_m1, lc_lt, lc_gt, lc_ge, lc_le, lc_eq, l6_le, l6_lt, l6_eq, i_le, i_lt, i_eq, tI_0, tI_1] at hb54); (try simp only [l_int, tL_0, tL_1, tL_2, tL_4, tL_5, tL_6, tL_7, tL_9, tL_10, tL_12, tL_15, tL_30, tL_40, tL_60, tL_99, tL_255, tL_1023, tL_m1, lc_lt, lc_gt, lc_ge, lc_le, lc_eq, l6_le, l6_lt, l6_eq, i_le, i_lt, i_eq, tI_0, tI_1]); omega)))
    · skip
      show WS layM V 2 X σ 57 [(0, .int q), (1, .int v)] [.int 0]
      exact WS.zret hx he dX11_mayBecome_57 (Or.inl rfl) (Rb.f (by first | (rw [iso_k (k := 1) (m := 15) s1_1 (by decide) (by decide) (by decide)]; (try simp only [l_int, tL_0, tL_1, tL_2, tL_4, tL_5, tL_6, tL_7, tL_9, tL_10, tL_12, tL_15, tL_30, tL_40, tL_60, tL_99, tL_255, tL_1023, tL_m1, lc_lt, lc_gt, lc_ge, lc_le, lc_eq, l6_le, l6_lt, l6_eq, i_le, i_lt, i_eq, tI_0, tI_1] at hb54); (try simp only [l_int, tL_0, tL_1, tL_2, tL_4, tL_5, tL_6, tL_7, tL_9, tL_10, tL_12, tL_15, tL_30, tL_40, tL_60, tL_99, tL_255, tL_1023, tL_m1, lc_lt, lc_gt, lc_ge, lc_le, lc_eq, l6_le, l6_lt, l6_eq, i_le, i_lt, i_eq, tI_0, tI_1]); omega) | (rw [iso_k (k := 2) (m := 9) s1_2 (by decide) (by decide) (by decide)]; (try simp only [l_int, tL_0, tL_1, tL_2, tL_4, tL_5, tL_6, tL_7, tL_9, tL_10, tL_12, tL_15, tL_30, tL_40, tL_60, tL_99, tL_255, tL_1023, tL_m1, lc_lt, lc_gt, lc_ge, lc_le, lc_eq, l6_le, l6_lt, l6_eq, i_le, i_lt, i_eq, tI_0, tI_1] at hb54); (try simp only [l_int, tL_0, tL_1, tL_2, tL_4, tL_5, tL_6, tL_7, tL_9, tL_10, tL_12, tL_15, tL_30, tL_40, tL_60, tL_99, tL_255, tL_1023, tL_m1, lc_lt, lc_gt, lc_ge, lc_le, lc_eq, l6_le, l6_lt, l6_eq, i_le, i_lt, i_eq, tI_0, tI_1]); omega) | (rw [iso_k (k := 3) (m := 1) s1_3 (by decide) (by decide) (by decide)]; (try simp only [l_int, tL_0, tL_1, tL_2, tL_4, tL_5, tL_6, tL_7, tL_9, tL_10, tL_12, tL_15, tL_30, tL_40, tL_60, tL_99, tL_255, tL_1023, tL_m1, lc_lt, lc_gt, lc_ge, lc_le, lc_eq, l6_le, l6_lt, l6_eq, i_le, i_lt, i_eq, tI_0, tI_1] at hb54); (try simp only [l_int, tL_0, tL_1, tL_2, tL_4, tL_5, tL_6, tL_7, tL_9, tL_10, tL_12, tL_15, tL_30, tL_40, tL_60, tL_99, tL_255, tL_1023, tL_m1, lc_lt, lc_gt, lc_ge, lc_le, lc_eq, l6_le, l6_lt, l6_eq, i_le, i_lt, i_eq, tI_0, tI_1]); omega) | (rw [iso_k (k := 4) (m := 1) s1_4 (by decide) (by decide) (by decide)]; (try simp only [l_int, tL_0, tL_1, tL_2, tL_4, tL_5, tL_6, tL_7, tL_9, tL_10, tL_12, tL_15, tL_30, tL_40, tL_60, tL_99, tL_255, tL_1023, tL_m1, lc_lt, lc_gt, lc_ge, lc_le, lc_eq, l6_le, l6_lt, l6_eq, i_le, i_lt, i_eq, tI_0, tI_1] at hb54); (try simp only [l_int, tL_0, tL_1, tL_2, tL_4, tL_5, tL_6, tL_7, tL_9, tL_10, tL_12, tL_15, tL_30, tL_40, tL_60, tL_99, tL_255, tL_1023, tL_m1, lc_lt, lc_gt, lc_ge, lc_le, lc_eq, l6_le, l6_lt, l6_eq, i_le, i_lt, i_eq, tI_0, tI_1]); omega) | (rw [iso_k (k := 5) (m := 15) s1_5 (by decide) (by decide) (by decide)]; (try simp only [l_int, tL_0, tL_1, tL_2, tL_4, tL_5, tL_6, tL_7, tL_9, tL_10, tL_12, tL_15, tL_30, tL_40, tL_60, tL_99, tL_255, tL_1023, tL_m1, lc_lt, lc_gt, lc_ge, lc_le, lc_eq, l6_le, l6_lt, l6_eq, i_le, i_lt, i_eq, tI_0, tI_1] at hb54); (try simp only [l_int, tL_0, tL_1, tL_2, tL_4, tL_5, tL_6, tL_7, tL_9, tL_10, tL_12, tL_15, tL_30, tL_40, tL_60, tL_99, tL_255, tL_1023, tL_m1, lc_lt, lc_gt, lc_ge, lc_le, lc_eq, l6_le, l6_lt, l6_eq, i_le, i_lt, i_eq, tI_0, tI_1]); omega) | (rw [iso_k (k := 6) (m := 9) s1_6 (by decide) (by decide) (by decide)]; (try simp only [l_int, tL_0, tL_1, tL_2, tL_4, tL_5, tL_6, tL_7, tL_9, tL_10, tL_12, tL_15, tL_30, tL_40, tL_60, tL_99, tL_255, tL_1023, tL_m1, lc_lt, lc_gt, lc_ge, lc_le, lc_eq, l6_le, l6_lt, l6_eq, i_le, i_lt, i_eq, tI_0, tI_1] at hb54); (try simp only [l_int, tL_0, tL_1, tL_2, tL_4, tL_5, tL_6, tL_7, tL_9, tL_10, tL_12, tL_15, tL_30, tL_40, tL_60, tL_99, tL_255, tL_1023, tL_m1, lc_lt, lc_gt, lc_ge, lc_le, lc_eq, l6_le, l6_lt, l6_eq, i_le, i_lt, i_eq, tI_0, tI_1]); omega) | (rw [iso_k (k := 7) (m := 99) s1_7 (by decide) (by decide) (by decide)]; (try simp only [l_int, tL_0, tL_1, tL_2, tL_4, tL_5, tL_6, tL_7, tL_9, tL_10, tL_12, tL_15, tL_30, tL_40, tL_60, tL_99, tL_255, tL_1023, tL_m1, lc_lt, lc_gt, lc_ge, lc_le, lc_eq, l6_le, l6_lt, l6_eq, i_le, i_lt, i_eq, tI_0, tI_1] at hb54); (try simp only [l_int, tL_0, tL_1, tL_2, tL_4, tL_5, tL_6, tL_7, tL_9, tL_10, tL_12, tL_15, tL_30, tL_40, tL_60, tL_99, tL_255, tL_1023, tL_m1, lc_lt, lc_gt, lc_ge, lc_le, lc_eq, l6_le, l6_lt, l6_eq, i_le, i_lt, i_eq, tI_0, tI_1]); omega) | (rw [iso_k (k := 0) (m := 9) hq0 (by decide) (by decide) (by decide)]; (try simp only [l_int, tL_0, tL_1, tL_2, tL_4, tL_5, tL_6, tL_7, tL_9, tL_10, tL_12, tL_15, tL_30, tL_40, tL_60, tL_99, tL_255, tL_1023, tL_m1, lc_lt, lc_gt, lc_ge, lc_le, lc_eq, l6_le, l6_lt, l6_eq, i_le, i_lt, i_eq, tI_0, tI_1] at hb54); (try simp only [l_int, tL_0, tL_1, tL_2, tL_4, tL_5, tL_6, tL_7, tL_9, tL_10, tL_12, tL_15, tL_30, tL_40, tL_60, tL_99, tL_255, tL_1023, tL_m1, lc_lt, lc_gt, lc_ge, lc_le, lc_eq, l6_le, l6_lt, l6_eq, i_le, i_lt, i_eq, tI_0, tI_1]); omega)))
  by_cases s1_5 : q = 5
  · refine WS.tableIn (off := 43) (tgt := 44) hx dX11_mayBecome_1 (by rw [s1_5]; decide) (by rw [s1_5]; decide) (by rw [s1_5]; decide) (by decide) ?_
    show WS layM V 2 X σ 44 [(0, .int q), (1, .int v)] []
    refine WS.iload_n hx dX11_mayBecome_44 rfl 1 rfl ?_
    refine WS.i2l hx dX11_mayBecome_45 ?_
    refine WS.callSi (st := []) [.long (Int32.toInt64 v)] hx (c_X11_isThought V d σ (Int32.toInt64 v)) okX11_isThought lm11_108 rfl rfl (Nat.le_of_ble_eq_true rfl) dX11_mayBecome_46 (fun v13 σ14 h15 => ?_)
    rcases h15 with ⟨rfl, rfl, hb46⟩ | ⟨rfl, rfl, hb46⟩
    · skip
      show WS layM V 2 X σ 49 [(0, .int q), (1, .int v)] [.int 1]
      exact WS.zret hx he dX11_mayBecome_49 (Or.inr rfl) (Rb.t (by first | (rw [iso_k (k := 1) (m := 15) s1_1 (by decide) (by decide) (by decide)]; (try simp only [l_int, tL_0, tL_1, tL_2, tL_4, tL_5, tL_6, tL_7, tL_9, tL_10, tL_12, tL_15, tL_30, tL_40, tL_60, tL_99, tL_255, tL_1023, tL_m1, lc_lt, lc_gt, lc_ge, lc_le, lc_eq, l6_le, l6_lt, l6_eq, i_le, i_lt, i_eq, tI_0, tI_1] at hb46); (try simp only [l_int, tL_0, tL_1, tL_2, tL_4, tL_5, tL_6, tL_7, tL_9, tL_10, tL_12, tL_15, tL_30, tL_40, tL_60, tL_99, tL_255, tL_1023, tL_m1, lc_lt, lc_gt, lc_ge, lc_le, lc_eq, l6_le, l6_lt, l6_eq, i_le, i_lt, i_eq, tI_0, tI_1]); omega) | (rw [iso_k (k := 2) (m := 9) s1_2 (by decide) (by decide) (by decide)]; (try simp only [l_int, tL_0, tL_1, tL_2, tL_4, tL_5, tL_6, tL_7, tL_9, tL_10, tL_12, tL_15, tL_30, tL_40, tL_60, tL_99, tL_255, tL_1023, tL_m1, lc_lt, lc_gt, lc_ge, lc_le, lc_eq, l6_le, l6_lt, l6_eq, i_le, i_lt, i_eq, tI_0, tI_1] at hb46); (try simp only [l_int, tL_0, tL_1, tL_2, tL_4, tL_5, tL_6, tL_7, tL_9, tL_10, tL_12, tL_15, tL_30, tL_40, tL_60, tL_99, tL_255, tL_1023, tL_m1, lc_lt, lc_gt, lc_ge, lc_le, lc_eq, l6_le, l6_lt, l6_eq, i_le, i_lt, i_eq, tI_0, tI_1]); omega) | (rw [iso_k (k := 3) (m := 1) s1_3 (by decide) (by decide) (by decide)]; (try simp only [l_int, tL_0, tL_1, tL_2, tL_4, tL_5, tL_6, tL_7, tL_9, tL_10, tL_12, tL_15, tL_30, tL_40, tL_60, tL_99, tL_255, tL_1023, tL_m1, lc_lt, lc_gt, lc_ge, lc_le, lc_eq, l6_le, l6_lt, l6_eq, i_le, i_lt, i_eq, tI_0, tI_1] at hb46); (try simp only [l_int, tL_0, tL_1, tL_2, tL_4, tL_5, tL_6, tL_7, tL_9, tL_10, tL_12, tL_15, tL_30, tL_40, tL_60, tL_99, tL_255, tL_1023, tL_m1, lc_lt, lc_gt, lc_ge, lc_le, lc_eq, l6_le, l6_lt, l6_eq, i_le, i_lt, i_eq, tI_0, tI_1]); omega) | (rw [iso_k (k := 4) (m := 1) s1_4 (by decide) (by decide) (by decide)]; (try simp only [l_int, tL_0, tL_1, tL_2, tL_4, tL_5, tL_6, tL_7, tL_9, tL_10, tL_12, tL_15, tL_30, tL_40, tL_60, tL_99, tL_255, tL_1023, tL_m1, lc_lt, lc_gt, lc_ge, lc_le, lc_eq, l6_le, l6_lt, l6_eq, i_le, i_lt, i_eq, tI_0, tI_1] at hb46); (try simp only [l_int, tL_0, tL_1, tL_2, tL_4, tL_5, tL_6, tL_7, tL_9, tL_10, tL_12, tL_15, tL_30, tL_40, tL_60, tL_99, tL_255, tL_1023, tL_m1, lc_lt, lc_gt, lc_ge, lc_le, lc_eq, l6_le, l6_lt, l6_eq, i_le, i_lt, i_eq, tI_0, tI_1]); omega) | (rw [iso_k (k := 5) (m := 15) s1_5 (by decide) (by decide) (by decide)]; (try simp only [l_int, tL_0, tL_1, tL_2, tL_4, tL_5, tL_6, tL_7, tL_9, tL_10, tL_12, tL_15, tL_30, tL_40, tL_60, tL_99, tL_255, tL_1023, tL_m1, lc_lt, lc_gt, lc_ge, lc_le, lc_eq, l6_le, l6_lt, l6_eq, i_le, i_lt, i_eq, tI_0, tI_1] at hb46); (try simp only [l_int, tL_0, tL_1, tL_2, tL_4, tL_5, tL_6, tL_7, tL_9, tL_10, tL_12, tL_15, tL_30, tL_40, tL_60, tL_99, tL_255, tL_1023, tL_m1, lc_lt, lc_gt, lc_ge, lc_le, lc_eq, l6_le, l6_lt, l6_eq, i_le, i_lt, i_eq, tI_0, tI_1]); omega) | (rw [iso_k (k := 6) (m := 9) s1_6 (by decide) (by decide) (by decide)]; (try simp only [l_int, tL_0, tL_1, tL_2, tL_4, tL_5, tL_6, tL_7, tL_9, tL_10, tL_12, tL_15, tL_30, tL_40, tL_60, tL_99, tL_255, tL_1023, tL_m1, lc_lt, lc_gt, lc_ge, lc_le, lc_eq, l6_le, l6_lt, l6_eq, i_le, i_lt, i_eq, tI_0, tI_1] at hb46); (try simp only [l_int, tL_0, tL_1, tL_2, tL_4, tL_5, tL_6, tL_7, tL_9, tL_10, tL_12, tL_15, tL_30, tL_40, tL_60, tL_99, tL_255, tL_1023, tL_m1, lc_lt, lc_gt, lc_ge, lc_le, lc_eq, l6_le, l6_lt, l6_eq, i_le, i_lt, i_eq, tI_0, tI_1]); omega) | (rw [iso_k (k := 7) (m := 99) s1_7 (by decide) (by decide) (by decide)]; (try simp only [l_int, tL_0, tL_1, tL_2, tL_4, tL_5, tL_6, tL_7, tL_9, tL_10, tL_12, tL_15, tL_30, tL_40, tL_60, tL_99, tL_255, tL_1023, tL_m1, lc_lt, lc_gt, lc_ge, lc_le, lc_eq, l6_le, l6_lt, l6_eq, i_le, i_lt, i_eq, tI_0, tI_1] at hb46); (try simp only [l_int, tL_0, tL_1, tL_2, tL_4, tL_5, tL_6, tL_7, tL_9, tL_10, tL_12, tL_15, tL_30, tL_40, tL_60, tL_99, tL_255, tL_1023, tL_m1, lc_lt, lc_gt, lc_ge, lc_le, lc_eq, l6_le, l6_lt, l6_eq, i_le, i_lt, i_eq, tI_0, tI_1]); omega) | (rw [iso_k (k := 0) (m := 9) hq0 (by decide) (by decide) (by decide)]; (try simp only [l_int, tL_0, tL_1, tL_2, tL_4, tL_5, tL_6, tL_7, tL_9, tL_10, tL_12, tL_15, tL_30, tL_40, tL_60, tL_99, tL_255, tL_1023, tL_m1, lc_lt, lc_gt, lc_ge, lc_le, lc_eq, l6_le, l6_lt, l6_eq, i_le, i_lt, i_eq, tI_0, tI_1] at hb46); (try simp only [l_int, tL_0, tL_1, tL_2, tL_4, tL_5, tL_6, tL_7, tL_9, tL_10, tL_12, tL_15, tL_30, tL_40, tL_60, tL_99, tL_255, tL_1023, tL_m1, lc_lt, lc_gt, lc_ge, lc_le, lc_eq, l6_le, l6_lt, l6_eq, i_le, i_lt, i_eq, tI_0, tI_1]); omega)))
    · skip
      show WS layM V 2 X σ 49 [(0, .int q), (1, .int v)] [.int 0]
      exact WS.zret hx he dX11_mayBecome_49 (Or.inl rfl) (Rb.f (by first | (rw [iso_k (k := 1) (m := 15) s1_1 (by decide) (by decide) (by decide)]; (try simp only [l_int, tL_0, tL_1, tL_2, tL_4, tL_5, tL_6, tL_7, tL_9, tL_10, tL_12, tL_15, tL_30, tL_40, tL_60, tL_99, tL_255, tL_1023, tL_m1, lc_lt, lc_gt, lc_ge, lc_le, lc_eq, l6_le, l6_lt, l6_eq, i_le, i_lt, i_eq, tI_0, tI_1] at hb46); (try simp only [l_int, tL_0, tL_1, tL_2, tL_4, tL_5, tL_6, tL_7, tL_9, tL_10, tL_12, tL_15, tL_30, tL_40, tL_60, tL_99, tL_255, tL_1023, tL_m1, lc_lt, lc_gt, lc_ge, lc_le, lc_eq, l6_le, l6_lt, l6_eq, i_le, i_lt, i_eq, tI_0, tI_1]); omega) | (rw [iso_k (k := 2) (m := 9) s1_2 (by decide) (by decide) (by decide)]; (try simp only [l_int, tL_0, tL_1, tL_2, tL_4, tL_5, tL_6, tL_7, tL_9, tL_10, tL_12, tL_15, tL_30, tL_40, tL_60, tL_99, tL_255, tL_1023, tL_m1, lc_lt, lc_gt, lc_ge, lc_le, lc_eq, l6_le, l6_lt, l6_eq, i_le, i_lt, i_eq, tI_0, tI_1] at hb46); (try simp only [l_int, tL_0, tL_1, tL_2, tL_4, tL_5, tL_6, tL_7, tL_9, tL_10, tL_12, tL_15, tL_30, tL_40, tL_60, tL_99, tL_255, tL_1023, tL_m1, lc_lt, lc_gt, lc_ge, lc_le, lc_eq, l6_le, l6_lt, l6_eq, i_le, i_lt, i_eq, tI_0, tI_1]); omega) | (rw [iso_k (k := 3) (m := 1) s1_3 (by decide) (by decide) (by decide)]; (try simp only [l_int, tL_0, tL_1, tL_2, tL_4, tL_5, tL_6, tL_7, tL_9, tL_10, tL_12, tL_15, tL_30, tL_40, tL_60, tL_99, tL_255, tL_1023, tL_m1, lc_lt, lc_gt, lc_ge, lc_le, lc_eq, l6_le, l6_lt, l6_eq, i_le, i_lt, i_eq, tI_0, tI_1] at hb46); (try simp only [l_int, tL_0, tL_1, tL_2, tL_4, tL_5, tL_6, tL_7, tL_9, tL_10, tL_12, tL_15, tL_30, tL_40, tL_60, tL_99, tL_255, tL_1023, tL_m1, lc_lt, lc_gt, lc_ge, lc_le, lc_eq, l6_le, l6_lt, l6_eq, i_le, i_lt, i_eq, tI_0, tI_1]); omega) | (rw [iso_k (k := 4) (m := 1) s1_4 (by decide) (by decide) (by decide)]; (try simp only [l_int, tL_0, tL_1, tL_2, tL_4, tL_5, tL_6, tL_7, tL_9, tL_10, tL_12, tL_15, tL_30, tL_40, tL_60, tL_99, tL_255, tL_1023, tL_m1, lc_lt, lc_gt, lc_ge, lc_le, lc_eq, l6_le, l6_lt, l6_eq, i_le, i_lt, i_eq, tI_0, tI_1] at hb46); (try simp only [l_int, tL_0, tL_1, tL_2, tL_4, tL_5, tL_6, tL_7, tL_9, tL_10, tL_12, tL_15, tL_30, tL_40, tL_60, tL_99, tL_255, tL_1023, tL_m1, lc_lt, lc_gt, lc_ge, lc_le, lc_eq, l6_le, l6_lt, l6_eq, i_le, i_lt, i_eq, tI_0, tI_1]); omega) | (rw [iso_k (k := 5) (m := 15) s1_5 (by decide) (by decide) (by decide)]; (try simp only [l_int, tL_0, tL_1, tL_2, tL_4, tL_5, tL_6, tL_7, tL_9, tL_10, tL_12, tL_15, tL_30, tL_40, tL_60, tL_99, tL_255, tL_1023, tL_m1, lc_lt, lc_gt, lc_ge, lc_le, lc_eq, l6_le, l6_lt, l6_eq, i_le, i_lt, i_eq, tI_0, tI_1] at hb46); (try simp only [l_int, tL_0, tL_1, tL_2, tL_4, tL_5, tL_6, tL_7, tL_9, tL_10, tL_12, tL_15, tL_30, tL_40, tL_60, tL_99, tL_255, tL_1023, tL_m1, lc_lt, lc_gt, lc_ge, lc_le, lc_eq, l6_le, l6_lt, l6_eq, i_le, i_lt, i_eq, tI_0, tI_1]); omega) | (rw [iso_k (k := 6) (m := 9) s1_6 (by decide) (by decide) (by decide)]; (try simp only [l_int, tL_0, tL_1, tL_2, tL_4, tL_5, tL_6, tL_7, tL_9, tL_10, tL_12, tL_15, tL_30, tL_40, tL_60, tL_99, tL_255, tL_1023, tL_m1, lc_lt, lc_gt, lc_ge, lc_le, lc_eq, l6_le, l6_lt, l6_eq, i_le, i_lt, i_eq, tI_0, tI_1] at hb46); (try simp only [l_int, tL_0, tL_1, tL_2, tL_4, tL_5, tL_6, tL_7, tL_9, tL_10, tL_12, tL_15, tL_30, tL_40, tL_60, tL_99, tL_255, tL_1023, tL_m1, lc_lt, lc_gt, lc_ge, lc_le, lc_eq, l6_le, l6_lt, l6_eq, i_le, i_lt, i_eq, tI_0, tI_1]); omega) | (rw [iso_k (k := 7) (m := 99) s1_7 (by decide) (by decide) (by decide)]; (try simp only [l_int, tL_0, tL_1, tL_2, tL_4, tL_5, tL_6, tL_7, tL_9, tL_10, tL_12, tL_15, tL_30, tL_40, tL_60, tL_99, tL_255, tL_1023, tL_m1, lc_lt, lc_gt, lc_ge, lc_le, lc_eq, l6_le, l6_lt, l6_eq, i_le, i_lt, i_eq, tI_0, tI_1] at hb46); (try simp only [l_int, tL_0, tL_1, tL_2, tL_4, tL_5, tL_6, tL_7, tL_9, tL_10, tL_12, tL_15, tL_30, tL_40, tL_60, tL_99, tL_255, tL_1023, tL_m1, lc_lt, lc_gt, lc_ge, lc_le, lc_eq, l6_le, l6_lt, l6_eq, i_le, i_lt, i_eq, tI_0, tI_1]); omega) | (rw [iso_k (k := 0) (m := 9) hq0 (by decide) (by decide) (by decide)]; (try simp only [l_int, tL_0, tL_1, tL_2, tL_4, tL_5, tL_6, tL_7, tL_9, tL_10, tL_12, tL_15, tL_30, tL_40, tL_60, tL_99, tL_255, tL_1023, tL_m1, lc_lt, lc_gt, lc_ge, lc_le, lc_eq, l6_le, l6_lt, l6_eq, i_le, i_lt, i_eq, tI_0, tI_1] at hb46); (try simp only [l_int, tL_0, tL_1, tL_2, tL_4, tL_5, tL_6, tL_7, tL_9, tL_10, tL_12, tL_15, tL_30, tL_40, tL_60, tL_99, tL_255, tL_1023, tL_m1, lc_lt, lc_gt, lc_ge, lc_le, lc_eq, l6_le, l6_lt, l6_eq, i_le, i_lt, i_eq, tI_0, tI_1]); omega)))
  by_cases s1_6 : q = 6
  · refine WS.tableIn (off := 67) (tgt := 68) hx dX11_mayBecome_1 (by rw [s1_6]; decide) (by rw [s1_6]; decide) (by rw [s1_6]; decide) (by decide) ?_
    show WS layM V 2 X σ 68 [(0, .int q), (1, .int v)] []
    refine WS.iload_n hx dX11_mayBecome_68 rfl 1 rfl ?_
    refine WS.i2l hx dX11_mayBecome_69 ?_
    refine WS.lconst (v := 0) hx dX11_mayBecome_70 rfl ?_
    refine WS.ldc2 (v := 9) hx lc11_106 dX11_mayBecome_71 ?_
    refine WS.callSi (st := []) [.long (Int32.toInt64 v), .long 0, .long 9] hx (c_X11_within V (d + 1) σ (Int32.toInt64 v) 0 9) okX11_within lm11_100 rfl rfl (Nat.le_of_ble_eq_true rfl) dX11_mayBecome_74 (fun v16 σ17 h18 => ?_)
    rcases h18 with ⟨rfl, rfl, hb74⟩ | ⟨rfl, rfl, hb74⟩
    · skip
      show WS layM V 2 X σ 77 [(0, .int q), (1, .int v)] [.int 1]
      exact WS.zret hx he dX11_mayBecome_77 (Or.inr rfl) (Rb.t (by first | (rw [iso_k (k := 1) (m := 15) s1_1 (by decide) (by decide) (by decide)]; (try simp only [l_int, tL_0, tL_1, tL_2, tL_4, tL_5, tL_6, tL_7, tL_9, tL_10, tL_12, tL_15, tL_30, tL_40, tL_60, tL_99, tL_255, tL_1023, tL_m1, lc_lt, lc_gt, lc_ge, lc_le, lc_eq, l6_le, l6_lt, l6_eq, i_le, i_lt, i_eq, tI_0, tI_1] at hb74); (try simp only [l_int, tL_0, tL_1, tL_2, tL_4, tL_5, tL_6, tL_7, tL_9, tL_10, tL_12, tL_15, tL_30, tL_40, tL_60, tL_99, tL_255, tL_1023, tL_m1, lc_lt, lc_gt, lc_ge, lc_le, lc_eq, l6_le, l6_lt, l6_eq, i_le, i_lt, i_eq, tI_0, tI_1]); omega) | (rw [iso_k (k := 2) (m := 9) s1_2 (by decide) (by decide) (by decide)]; (try simp only [l_int, tL_0, tL_1, tL_2, tL_4, tL_5, tL_6, tL_7, tL_9, tL_10, tL_12, tL_15, tL_30, tL_40, tL_60, tL_99, tL_255, tL_1023, tL_m1, lc_lt, lc_gt, lc_ge, lc_le, lc_eq, l6_le, l6_lt, l6_eq, i_le, i_lt, i_eq, tI_0, tI_1] at hb74); (try simp only [l_int, tL_0, tL_1, tL_2, tL_4, tL_5, tL_6, tL_7, tL_9, tL_10, tL_12, tL_15, tL_30, tL_40, tL_60, tL_99, tL_255, tL_1023, tL_m1, lc_lt, lc_gt, lc_ge, lc_le, lc_eq, l6_le, l6_lt, l6_eq, i_le, i_lt, i_eq, tI_0, tI_1]); omega) | (rw [iso_k (k := 3) (m := 1) s1_3 (by decide) (by decide) (by decide)]; (try simp only [l_int, tL_0, tL_1, tL_2, tL_4, tL_5, tL_6, tL_7, tL_9, tL_10, tL_12, tL_15, tL_30, tL_40, tL_60, tL_99, tL_255, tL_1023, tL_m1, lc_lt, lc_gt, lc_ge, lc_le, lc_eq, l6_le, l6_lt, l6_eq, i_le, i_lt, i_eq, tI_0, tI_1] at hb74); (try simp only [l_int, tL_0, tL_1, tL_2, tL_4, tL_5, tL_6, tL_7, tL_9, tL_10, tL_12, tL_15, tL_30, tL_40, tL_60, tL_99, tL_255, tL_1023, tL_m1, lc_lt, lc_gt, lc_ge, lc_le, lc_eq, l6_le, l6_lt, l6_eq, i_le, i_lt, i_eq, tI_0, tI_1]); omega) | (rw [iso_k (k := 4) (m := 1) s1_4 (by decide) (by decide) (by decide)]; (try simp only [l_int, tL_0, tL_1, tL_2, tL_4, tL_5, tL_6, tL_7, tL_9, tL_10, tL_12, tL_15, tL_30, tL_40, tL_60, tL_99, tL_255, tL_1023, tL_m1, lc_lt, lc_gt, lc_ge, lc_le, lc_eq, l6_le, l6_lt, l6_eq, i_le, i_lt, i_eq, tI_0, tI_1] at hb74); (try simp only [l_int, tL_0, tL_1, tL_2, tL_4, tL_5, tL_6, tL_7, tL_9, tL_10, tL_12, tL_15, tL_30, tL_40, tL_60, tL_99, tL_255, tL_1023, tL_m1, lc_lt, lc_gt, lc_ge, lc_le, lc_eq, l6_le, l6_lt, l6_eq, i_le, i_lt, i_eq, tI_0, tI_1]); omega) | (rw [iso_k (k := 5) (m := 15) s1_5 (by decide) (by decide) (by decide)]; (try simp only [l_int, tL_0, tL_1, tL_2, tL_4, tL_5, tL_6, tL_7, tL_9, tL_10, tL_12, tL_15, tL_30, tL_40, tL_60, tL_99, tL_255, tL_1023, tL_m1, lc_lt, lc_gt, lc_ge, lc_le, lc_eq, l6_le, l6_lt, l6_eq, i_le, i_lt, i_eq, tI_0, tI_1] at hb74); (try simp only [l_int, tL_0, tL_1, tL_2, tL_4, tL_5, tL_6, tL_7, tL_9, tL_10, tL_12, tL_15, tL_30, tL_40, tL_60, tL_99, tL_255, tL_1023, tL_m1, lc_lt, lc_gt, lc_ge, lc_le, lc_eq, l6_le, l6_lt, l6_eq, i_le, i_lt, i_eq, tI_0, tI_1]); omega) | (rw [iso_k (k := 6) (m := 9) s1_6 (by decide) (by decide) (by decide)]; (try simp only [l_int, tL_0, tL_1, tL_2, tL_4, tL_5, tL_6, tL_7, tL_9, tL_10, tL_12, tL_15, tL_30, tL_40, tL_60, tL_99, tL_255, tL_1023, tL_m1, lc_lt, lc_gt, lc_ge, lc_le, lc_eq, l6_le, l6_lt, l6_eq, i_le, i_lt, i_eq, tI_0, tI_1] at hb74); (try simp only [l_int, tL_0, tL_1, tL_2, tL_4, tL_5, tL_6, tL_7, tL_9, tL_10, tL_12, tL_15, tL_30, tL_40, tL_60, tL_99, tL_255, tL_1023, tL_m1, lc_lt, lc_gt, lc_ge, lc_le, lc_eq, l6_le, l6_lt, l6_eq, i_le, i_lt, i_eq, tI_0, tI_1]); omega) | (rw [iso_k (k := 7) (m := 99) s1_7 (by decide) (by decide) (by decide)]; (try simp only [l_int, tL_0, tL_1, tL_2, tL_4, tL_5, tL_6, tL_7, tL_9, tL_10, tL_12, tL_15, tL_30, tL_40, tL_60, tL_99, tL_255, tL_1023, tL_m1, lc_lt, lc_gt, lc_ge, lc_le, lc_eq, l6_le, l6_lt, l6_eq, i_le, i_lt, i_eq, tI_0, tI_1] at hb74); (try simp only [l_int, tL_0, tL_1, tL_2, tL_4, tL_5, tL_6, tL_7, tL_9, tL_10, tL_12, tL_15, tL_30, tL_40, tL_60, tL_99, tL_255, tL_1023, tL_m1, lc_lt, lc_gt, lc_ge, lc_le, lc_eq, l6_le, l6_lt, l6_eq, i_le, i_lt, i_eq, tI_0, tI_1]); omega) | (rw [iso_k (k := 0) (m := 9) hq0 (by decide) (by decide) (by decide)]; (try simp only [l_int, tL_0, tL_1, tL_2, tL_4, tL_5, tL_6, tL_7, tL_9, tL_10, tL_12, tL_15, tL_30, tL_40, tL_60, tL_99, tL_255, tL_1023, tL_m1, lc_lt, lc_gt, lc_ge, lc_le, lc_eq, l6_le, l6_lt, l6_eq, i_le, i_lt, i_eq, tI_0, tI_1] at hb74); (try simp only [l_int, tL_0, tL_1, tL_2, tL_4, tL_5, tL_6, tL_7, tL_9, tL_10, tL_12, tL_15, tL_30, tL_40, tL_60, tL_99, tL_255, tL_1023, tL_m1, lc_lt, lc_gt, lc_ge, lc_le, lc_eq, l6_le, l6_lt, l6_eq, i_le, i_lt, i_eq, tI_0, tI_1]); omega)))
    · skip
      show WS layM V 2 X σ 77 [(0, .int q), (1, .int v)] [.int 0]
      exact WS.zret hx he dX11_mayBecome_77 (Or.inl rfl) (Rb.f (by first | (rw [iso_k (k := 1) (m := 15) s1_1 (by decide) (by decide) (by decide)]; (try simp only [l_int, tL_0, tL_1, tL_2, tL_4, tL_5, tL_6, tL_7, tL_9, tL_10, tL_12, tL_15, tL_30, tL_40, tL_60, tL_99, tL_255, tL_1023, tL_m1, lc_lt, lc_gt, lc_ge, lc_le, lc_eq, l6_le, l6_lt, l6_eq, i_le, i_lt, i_eq, tI_0, tI_1] at hb74); (try simp only [l_int, tL_0, tL_1, tL_2, tL_4, tL_5, tL_6, tL_7, tL_9, tL_10, tL_12, tL_15, tL_30, tL_40, tL_60, tL_99, tL_255, tL_1023, tL_m1, lc_lt, lc_gt, lc_ge, lc_le, lc_eq, l6_le, l6_lt, l6_eq, i_le, i_lt, i_eq, tI_0, tI_1]); omega) | (rw [iso_k (k := 2) (m := 9) s1_2 (by decide) (by decide) (by decide)]; (try simp only [l_int, tL_0, tL_1, tL_2, tL_4, tL_5, tL_6, tL_7, tL_9, tL_10, tL_12, tL_15, tL_30, tL_40, tL_60, tL_99, tL_255, tL_1023, tL_m1, lc_lt, lc_gt, lc_ge, lc_le, lc_eq, l6_le, l6_lt, l6_eq, i_le, i_lt, i_eq, tI_0, tI_1] at hb74); (try simp only [l_int, tL_0, tL_1, tL_2, tL_4, tL_5, tL_6, tL_7, tL_9, tL_10, tL_12, tL_15, tL_30, tL_40, tL_60, tL_99, tL_255, tL_1023, tL_m1, lc_lt, lc_gt, lc_ge, lc_le, lc_eq, l6_le, l6_lt, l6_eq, i_le, i_lt, i_eq, tI_0, tI_1]); omega) | (rw [iso_k (k := 3) (m := 1) s1_3 (by decide) (by decide) (by decide)]; (try simp only [l_int, tL_0, tL_1, tL_2, tL_4, tL_5, tL_6, tL_7, tL_9, tL_10, tL_12, tL_15, tL_30, tL_40, tL_60, tL_99, tL_255, tL_1023, tL_m1, lc_lt, lc_gt, lc_ge, lc_le, lc_eq, l6_le, l6_lt, l6_eq, i_le, i_lt, i_eq, tI_0, tI_1] at hb74); (try simp only [l_int, tL_0, tL_1, tL_2, tL_4, tL_5, tL_6, tL_7, tL_9, tL_10, tL_12, tL_15, tL_30, tL_40, tL_60, tL_99, tL_255, tL_1023, tL_m1, lc_lt, lc_gt, lc_ge, lc_le, lc_eq, l6_le, l6_lt, l6_eq, i_le, i_lt, i_eq, tI_0, tI_1]); omega) | (rw [iso_k (k := 4) (m := 1) s1_4 (by decide) (by decide) (by decide)]; (try simp only [l_int, tL_0, tL_1, tL_2, tL_4, tL_5, tL_6, tL_7, tL_9, tL_10, tL_12, tL_15, tL_30, tL_40, tL_60, tL_99, tL_255, tL_1023, tL_m1, lc_lt, lc_gt, lc_ge, lc_le, lc_eq, l6_le, l6_lt, l6_eq, i_le, i_lt, i_eq, tI_0, tI_1] at hb74); (try simp only [l_int, tL_0, tL_1, tL_2, tL_4, tL_5, tL_6, tL_7, tL_9, tL_10, tL_12, tL_15, tL_30, tL_40, tL_60, tL_99, tL_255, tL_1023, tL_m1, lc_lt, lc_gt, lc_ge, lc_le, lc_eq, l6_le, l6_lt, l6_eq, i_le, i_lt, i_eq, tI_0, tI_1]); omega) | (rw [iso_k (k := 5) (m := 15) s1_5 (by decide) (by decide) (by decide)]; (try simp only [l_int, tL_0, tL_1, tL_2, tL_4, tL_5, tL_6, tL_7, tL_9, tL_10, tL_12, tL_15, tL_30, tL_40, tL_60, tL_99, tL_255, tL_1023, tL_m1, lc_lt, lc_gt, lc_ge, lc_le, lc_eq, l6_le, l6_lt, l6_eq, i_le, i_lt, i_eq, tI_0, tI_1] at hb74); (try simp only [l_int, tL_0, tL_1, tL_2, tL_4, tL_5, tL_6, tL_7, tL_9, tL_10, tL_12, tL_15, tL_30, tL_40, tL_60, tL_99, tL_255, tL_1023, tL_m1, lc_lt, lc_gt, lc_ge, lc_le, lc_eq, l6_le, l6_lt, l6_eq, i_le, i_lt, i_eq, tI_0, tI_1]); omega) | (rw [iso_k (k := 6) (m := 9) s1_6 (by decide) (by decide) (by decide)]; (try simp only [l_int, tL_0, tL_1, tL_2, tL_4, tL_5, tL_6, tL_7, tL_9, tL_10, tL_12, tL_15, tL_30, tL_40, tL_60, tL_99, tL_255, tL_1023, tL_m1, lc_lt, lc_gt, lc_ge, lc_le, lc_eq, l6_le, l6_lt, l6_eq, i_le, i_lt, i_eq, tI_0, tI_1] at hb74); (try simp only [l_int, tL_0, tL_1, tL_2, tL_4, tL_5, tL_6, tL_7, tL_9, tL_10, tL_12, tL_15, tL_30, tL_40, tL_60, tL_99, tL_255, tL_1023, tL_m1, lc_lt, lc_gt, lc_ge, lc_le, lc_eq, l6_le, l6_lt, l6_eq, i_le, i_lt, i_eq, tI_0, tI_1]); omega) | (rw [iso_k (k := 7) (m := 99) s1_7 (by decide) (by decide) (by decide)]; (try simp only [l_int, tL_0, tL_1, tL_2, tL_4, tL_5, tL_6, tL_7, tL_9, tL_10, tL_12, tL_15, tL_30, tL_40, tL_60, tL_99, tL_255, tL_1023, tL_m1, lc_lt, lc_gt, lc_ge, lc_le, lc_eq, l6_le, l6_lt, l6_eq, i_le, i_lt, i_eq, tI_0, tI_1] at hb74); (try simp only [l_int, tL_0, tL_1, tL_2, tL_4, tL_5, tL_6, tL_7, tL_9, tL_10, tL_12, tL_15, tL_30, tL_40, tL_60, tL_99, tL_255, tL_1023, tL_m1, lc_lt, lc_gt, lc_ge, lc_le, lc_eq, l6_le, l6_lt, l6_eq, i_le, i_lt, i_eq, tI_0, tI_1]); omega) | (rw [iso_k (k := 0) (m := 9) hq0 (by decide) (by decide) (by decide)]; (try simp only [l_int, tL_0, tL_1, tL_2, tL_4, tL_5, tL_6, tL_7, tL_9, tL_10, tL_12, tL_15, tL_30, tL_40, tL_60, tL_99, tL_255, tL_1023, tL_m1, lc_lt, lc_gt, lc_ge, lc_le, lc_eq, l6_le, l6_lt, l6_eq, i_le, i_lt, i_eq, tI_0, tI_1] at hb74); (try simp only [l_int, tL_0, tL_1, tL_2, tL_4, tL_5, tL_6, tL_7, tL_9, tL_10, tL_12, tL_15, tL_30, tL_40, tL_60, tL_99, tL_255, tL_1023, tL_m1, lc_lt, lc_gt, lc_ge, lc_le, lc_eq, l6_le, l6_lt, l6_eq, i_le, i_lt, i_eq, tI_0, tI_1]); omega)))
  by_cases s1_7 : q = 7
  · refine WS.tableIn (off := 57) (tgt := 58) hx dX11_mayBecome_1 (by rw [s1_7]; decide) (by rw [s1_7]; decide) (by rw [s1_7]; decide) (by decide) ?_
    show WS layM V 2 X σ 58 [(0, .int q), (1, .int v)] []
    refine WS.iload_n hx dX11_mayBecome_58 rfl 1 rfl ?_
    refine WS.i2l hx dX11_mayBecome_59 ?_
    refine WS.lconst (v := 0) hx dX11_mayBecome_60 rfl ?_
    refine WS.ldc2 (v := 99) hx lc11_134 dX11_mayBecome_61 ?_
    refine WS.callSi (st := []) [.long (Int32.toInt64 v), .long 0, .long 99] hx (c_X11_within V (d + 1) σ (Int32.toInt64 v) 0 99) okX11_within lm11_100 rfl rfl (Nat.le_of_ble_eq_true rfl) dX11_mayBecome_64 (fun v19 σ20 h21 => ?_)
    rcases h21 with ⟨rfl, rfl, hb64⟩ | ⟨rfl, rfl, hb64⟩
    · skip
      show WS layM V 2 X σ 67 [(0, .int q), (1, .int v)] [.int 1]
      exact WS.zret hx he dX11_mayBecome_67 (Or.inr rfl) (Rb.t (by first | (rw [iso_k (k := 1) (m := 15) s1_1 (by decide) (by decide) (by decide)]; (try simp only [l_int, tL_0, tL_1, tL_2, tL_4, tL_5, tL_6, tL_7, tL_9, tL_10, tL_12, tL_15, tL_30, tL_40, tL_60, tL_99, tL_255, tL_1023, tL_m1, lc_lt, lc_gt, lc_ge, lc_le, lc_eq, l6_le, l6_lt, l6_eq, i_le, i_lt, i_eq, tI_0, tI_1] at hb64); (try simp only [l_int, tL_0, tL_1, tL_2, tL_4, tL_5, tL_6, tL_7, tL_9, tL_10, tL_12, tL_15, tL_30, tL_40, tL_60, tL_99, tL_255, tL_1023, tL_m1, lc_lt, lc_gt, lc_ge, lc_le, lc_eq, l6_le, l6_lt, l6_eq, i_le, i_lt, i_eq, tI_0, tI_1]); omega) | (rw [iso_k (k := 2) (m := 9) s1_2 (by decide) (by decide) (by decide)]; (try simp only [l_int, tL_0, tL_1, tL_2, tL_4, tL_5, tL_6, tL_7, tL_9, tL_10, tL_12, tL_15, tL_30, tL_40, tL_60, tL_99, tL_255, tL_1023, tL_m1, lc_lt, lc_gt, lc_ge, lc_le, lc_eq, l6_le, l6_lt, l6_eq, i_le, i_lt, i_eq, tI_0, tI_1] at hb64); (try simp only [l_int, tL_0, tL_1, tL_2, tL_4, tL_5, tL_6, tL_7, tL_9, tL_10, tL_12, tL_15, tL_30, tL_40, tL_60, tL_99, tL_255, tL_1023, tL_m1, lc_lt, lc_gt, lc_ge, lc_le, lc_eq, l6_le, l6_lt, l6_eq, i_le, i_lt, i_eq, tI_0, tI_1]); omega) | (rw [iso_k (k := 3) (m := 1) s1_3 (by decide) (by decide) (by decide)]; (try simp only [l_int, tL_0, tL_1, tL_2, tL_4, tL_5, tL_6, tL_7, tL_9, tL_10, tL_12, tL_15, tL_30, tL_40, tL_60, tL_99, tL_255, tL_1023, tL_m1, lc_lt, lc_gt, lc_ge, lc_le, lc_eq, l6_le, l6_lt, l6_eq, i_le, i_lt, i_eq, tI_0, tI_1] at hb64); (try simp only [l_int, tL_0, tL_1, tL_2, tL_4, tL_5, tL_6, tL_7, tL_9, tL_10, tL_12, tL_15, tL_30, tL_40, tL_60, tL_99, tL_255, tL_1023, tL_m1, lc_lt, lc_gt, lc_ge, lc_le, lc_eq, l6_le, l6_lt, l6_eq, i_le, i_lt, i_eq, tI_0, tI_1]); omega) | (rw [iso_k (k := 4) (m := 1) s1_4 (by decide) (by decide) (by decide)]; (try simp only [l_int, tL_0, tL_1, tL_2, tL_4, tL_5, tL_6, tL_7, tL_9, tL_10, tL_12, tL_15, tL_30, tL_40, tL_60, tL_99, tL_255, tL_1023, tL_m1, lc_lt, lc_gt, lc_ge, lc_le, lc_eq, l6_le, l6_lt, l6_eq, i_le, i_lt, i_eq, tI_0, tI_1] at hb64); (try simp only [l_int, tL_0, tL_1, tL_2, tL_4, tL_5, tL_6, tL_7, tL_9, tL_10, tL_12, tL_15, tL_30, tL_40, tL_60, tL_99, tL_255, tL_1023, tL_m1, lc_lt, lc_gt, lc_ge, lc_le, lc_eq, l6_le, l6_lt, l6_eq, i_le, i_lt, i_eq, tI_0, tI_1]); omega) | (rw [iso_k (k := 5) (m := 15) s1_5 (by decide) (by decide) (by decide)]; (try simp only [l_int, tL_0, tL_1, tL_2, tL_4, tL_5, tL_6, tL_7, tL_9, tL_10, tL_12, tL_15, tL_30, tL_40, tL_60, tL_99, tL_255, tL_1023, tL_m1, lc_lt, lc_gt, lc_ge, lc_le, lc_eq, l6_le, l6_lt, l6_eq, i_le, i_lt, i_eq, tI_0, tI_1] at hb64); (try simp only [l_int, tL_0, tL_1, tL_2, tL_4, tL_5, tL_6, tL_7, tL_9, tL_10, tL_12, tL_15, tL_30, tL_40, tL_60, tL_99, tL_255, tL_1023, tL_m1, lc_lt, lc_gt, lc_ge, lc_le, lc_eq, l6_le, l6_lt, l6_eq, i_le, i_lt, i_eq, tI_0, tI_1]); omega) | (rw [iso_k (k := 6) (m := 9) s1_6 (by decide) (by decide) (by decide)]; (try simp only [l_int, tL_0, tL_1, tL_2, tL_4, tL_5, tL_6, tL_7, tL_9, tL_10, tL_12, tL_15, tL_30, tL_40, tL_60, tL_99, tL_255, tL_1023, tL_m1, lc_lt, lc_gt, lc_ge, lc_le, lc_eq, l6_le, l6_lt, l6_eq, i_le, i_lt, i_eq, tI_0, tI_1] at hb64); (try simp only [l_int, tL_0, tL_1, tL_2, tL_4, tL_5, tL_6, tL_7, tL_9, tL_10, tL_12, tL_15, tL_30, tL_40, tL_60, tL_99, tL_255, tL_1023, tL_m1, lc_lt, lc_gt, lc_ge, lc_le, lc_eq, l6_le, l6_lt, l6_eq, i_le, i_lt, i_eq, tI_0, tI_1]); omega) | (rw [iso_k (k := 7) (m := 99) s1_7 (by decide) (by decide) (by decide)]; (try simp only [l_int, tL_0, tL_1, tL_2, tL_4, tL_5, tL_6, tL_7, tL_9, tL_10, tL_12, tL_15, tL_30, tL_40, tL_60, tL_99, tL_255, tL_1023, tL_m1, lc_lt, lc_gt, lc_ge, lc_le, lc_eq, l6_le, l6_lt, l6_eq, i_le, i_lt, i_eq, tI_0, tI_1] at hb64); (try simp only [l_int, tL_0, tL_1, tL_2, tL_4, tL_5, tL_6, tL_7, tL_9, tL_10, tL_12, tL_15, tL_30, tL_40, tL_60, tL_99, tL_255, tL_1023, tL_m1, lc_lt, lc_gt, lc_ge, lc_le, lc_eq, l6_le, l6_lt, l6_eq, i_le, i_lt, i_eq, tI_0, tI_1]); omega) | (rw [iso_k (k := 0) (m := 9) hq0 (by decide) (by decide) (by decide)]; (try simp only [l_int, tL_0, tL_1, tL_2, tL_4, tL_5, tL_6, tL_7, tL_9, tL_10, tL_12, tL_15, tL_30, tL_40, tL_60, tL_99, tL_255, tL_1023, tL_m1, lc_lt, lc_gt, lc_ge, lc_le, lc_eq, l6_le, l6_lt, l6_eq, i_le, i_lt, i_eq, tI_0, tI_1] at hb64); (try simp only [l_int, tL_0, tL_1, tL_2, tL_4, tL_5, tL_6, tL_7, tL_9, tL_10, tL_12, tL_15, tL_30, tL_40, tL_60, tL_99, tL_255, tL_1023, tL_m1, lc_lt, lc_gt, lc_ge, lc_le, lc_eq, l6_le, l6_lt, l6_eq, i_le, i_lt, i_eq, tI_0, tI_1]); omega)))
    · skip
      show WS layM V 2 X σ 67 [(0, .int q), (1, .int v)] [.int 0]
      exact WS.zret hx he dX11_mayBecome_67 (Or.inl rfl) (Rb.f (by first | (rw [iso_k (k := 1) (m := 15) s1_1 (by decide) (by decide) (by decide)]; (try simp only [l_int, tL_0, tL_1, tL_2, tL_4, tL_5, tL_6, tL_7, tL_9, tL_10, tL_12, tL_15, tL_30, tL_40, tL_60, tL_99, tL_255, tL_1023, tL_m1, lc_lt, lc_gt, lc_ge, lc_le, lc_eq, l6_le, l6_lt, l6_eq, i_le, i_lt, i_eq, tI_0, tI_1] at hb64); (try simp only [l_int, tL_0, tL_1, tL_2, tL_4, tL_5, tL_6, tL_7, tL_9, tL_10, tL_12, tL_15, tL_30, tL_40, tL_60, tL_99, tL_255, tL_1023, tL_m1, lc_lt, lc_gt, lc_ge, lc_le, lc_eq, l6_le, l6_lt, l6_eq, i_le, i_lt, i_eq, tI_0, tI_1]); omega) | (rw [iso_k (k := 2) (m := 9) s1_2 (by decide) (by decide) (by decide)]; (try simp only [l_int, tL_0, tL_1, tL_2, tL_4, tL_5, tL_6, tL_7, tL_9, tL_10, tL_12, tL_15, tL_30, tL_40, tL_60, tL_99, tL_255, tL_1023, tL_m1, lc_lt, lc_gt, lc_ge, lc_le, lc_eq, l6_le, l6_lt, l6_eq, i_le, i_lt, i_eq, tI_0, tI_1] at hb64); (try simp only [l_int, tL_0, tL_1, tL_2, tL_4, tL_5, tL_6, tL_7, tL_9, tL_10, tL_12, tL_15, tL_30, tL_40, tL_60, tL_99, tL_255, tL_1023, tL_m1, lc_lt, lc_gt, lc_ge, lc_le, lc_eq, l6_le, l6_lt, l6_eq, i_le, i_lt, i_eq, tI_0, tI_1]); omega) | (rw [iso_k (k := 3) (m := 1) s1_3 (by decide) (by decide) (by decide)]; (try simp only [l_int, tL_0, tL_1, tL_2, tL_4, tL_5, tL_6, tL_7, tL_9, tL_10, tL_12, tL_15, tL_30, tL_40, tL_60, tL_99, tL_255, tL_1023, tL_m1, lc_lt, lc_gt, lc_ge, lc_le, lc_eq, l6_le, l6_lt, l6_eq, i_le, i_lt, i_eq, tI_0, tI_1] at hb64); (try simp only [l_int, tL_0, tL_1, tL_2, tL_4, tL_5, tL_6, tL_7, tL_9, tL_10, tL_12, tL_15, tL_30, tL_40, tL_60, tL_99, tL_255, tL_1023, tL_m1, lc_lt, lc_gt, lc_ge, lc_le, lc_eq, l6_le, l6_lt, l6_eq, i_le, i_lt, i_eq, tI_0, tI_1]); omega) | (rw [iso_k (k := 4) (m := 1) s1_4 (by decide) (by decide) (by decide)]; (try simp only [l_int, tL_0, tL_1, tL_2, tL_4, tL_5, tL_6, tL_7, tL_9, tL_10, tL_12, tL_15, tL_30, tL_40, tL_60, tL_99, tL_255, tL_1023, tL_m1, lc_lt, lc_gt, lc_ge, lc_le, lc_eq, l6_le, l6_lt, l6_eq, i_le, i_lt, i_eq, tI_0, tI_1] at hb64); (try simp only [l_int, tL_0, tL_1, tL_2, tL_4, tL_5, tL_6, tL_7, tL_9, tL_10, tL_12, tL_15, tL_30, tL_40, tL_60, tL_99, tL_255, tL_1023, tL_m1, lc_lt, lc_gt, lc_ge, lc_le, lc_eq, l6_le, l6_lt, l6_eq, i_le, i_lt, i_eq, tI_0, tI_1]); omega) | (rw [iso_k (k := 5) (m := 15) s1_5 (by decide) (by decide) (by decide)]; (try simp only [l_int, tL_0, tL_1, tL_2, tL_4, tL_5, tL_6, tL_7, tL_9, tL_10, tL_12, tL_15, tL_30, tL_40, tL_60, tL_99, tL_255, tL_1023, tL_m1, lc_lt, lc_gt, lc_ge, lc_le, lc_eq, l6_le, l6_lt, l6_eq, i_le, i_lt, i_eq, tI_0, tI_1] at hb64); (try simp only [l_int, tL_0, tL_1, tL_2, tL_4, tL_5, tL_6, tL_7, tL_9, tL_10, tL_12, tL_15, tL_30, tL_40, tL_60, tL_99, tL_255, tL_1023, tL_m1, lc_lt, lc_gt, lc_ge, lc_le, lc_eq, l6_le, l6_lt, l6_eq, i_le, i_lt, i_eq, tI_0, tI_1]); omega) | (rw [iso_k (k := 6) (m := 9) s1_6 (by decide) (by decide) (by decide)]; (try simp only [l_int, tL_0, tL_1, tL_2, tL_4, tL_5, tL_6, tL_7, tL_9, tL_10, tL_12, tL_15, tL_30, tL_40, tL_60, tL_99, tL_255, tL_1023, tL_m1, lc_lt, lc_gt, lc_ge, lc_le, lc_eq, l6_le, l6_lt, l6_eq, i_le, i_lt, i_eq, tI_0, tI_1] at hb64); (try simp only [l_int, tL_0, tL_1, tL_2, tL_4, tL_5, tL_6, tL_7, tL_9, tL_10, tL_12, tL_15, tL_30, tL_40, tL_60, tL_99, tL_255, tL_1023, tL_m1, lc_lt, lc_gt, lc_ge, lc_le, lc_eq, l6_le, l6_lt, l6_eq, i_le, i_lt, i_eq, tI_0, tI_1]); omega) | (rw [iso_k (k := 7) (m := 99) s1_7 (by decide) (by decide) (by decide)]; (try simp only [l_int, tL_0, tL_1, tL_2, tL_4, tL_5, tL_6, tL_7, tL_9, tL_10, tL_12, tL_15, tL_30, tL_40, tL_60, tL_99, tL_255, tL_1023, tL_m1, lc_lt, lc_gt, lc_ge, lc_le, lc_eq, l6_le, l6_lt, l6_eq, i_le, i_lt, i_eq, tI_0, tI_1] at hb64); (try simp only [l_int, tL_0, tL_1, tL_2, tL_4, tL_5, tL_6, tL_7, tL_9, tL_10, tL_12, tL_15, tL_30, tL_40, tL_60, tL_99, tL_255, tL_1023, tL_m1, lc_lt, lc_gt, lc_ge, lc_le, lc_eq, l6_le, l6_lt, l6_eq, i_le, i_lt, i_eq, tI_0, tI_1]); omega) | (rw [iso_k (k := 0) (m := 9) hq0 (by decide) (by decide) (by decide)]; (try simp only [l_int, tL_0, tL_1, tL_2, tL_4, tL_5, tL_6, tL_7, tL_9, tL_10, tL_12, tL_15, tL_30, tL_40, tL_60, tL_99, tL_255, tL_1023, tL_m1, lc_lt, lc_gt, lc_ge, lc_le, lc_eq, l6_le, l6_lt, l6_eq, i_le, i_lt, i_eq, tI_0, tI_1] at hb64); (try simp only [l_int, tL_0, tL_1, tL_2, tL_4, tL_5, tL_6, tL_7, tL_9, tL_10, tL_12, tL_15, tL_30, tL_40, tL_60, tL_99, tL_255, tL_1023, tL_m1, lc_lt, lc_gt, lc_ge, lc_le, lc_eq, l6_le, l6_lt, l6_eq, i_le, i_lt, i_eq, tI_0, tI_1]); omega)))
  refine WS.tableOut (tgt := 68) hx dX11_mayBecome_1 (sw_out q 1 7 (by simp only [i_eq, tI_1, tI_2, tI_3, tI_4, tI_5, tI_6, tI_7] at *; omega)) (by decide) ?_
  show WS layM V 2 X σ 68 [(0, .int q), (1, .int v)] []
  have hq0 : q = 0 := by simp only [i_eq, tI_0, tI_1, tI_2, tI_3, tI_4, tI_5, tI_6, tI_7] at *; omega
  refine WS.iload_n hx dX11_mayBecome_68 rfl 1 rfl ?_
  refine WS.i2l hx dX11_mayBecome_69 ?_
  refine WS.lconst (v := 0) hx dX11_mayBecome_70 rfl ?_
  refine WS.ldc2 (v := 9) hx lc11_106 dX11_mayBecome_71 ?_
  refine WS.callSi (st := []) [.long (Int32.toInt64 v), .long 0, .long 9] hx (c_X11_within V (d + 1) σ (Int32.toInt64 v) 0 9) okX11_within lm11_100 rfl rfl (Nat.le_of_ble_eq_true rfl) dX11_mayBecome_74 (fun v22 σ23 h24 => ?_)
  rcases h24 with ⟨rfl, rfl, hb74⟩ | ⟨rfl, rfl, hb74⟩
  · skip
    show WS layM V 2 X σ 77 [(0, .int q), (1, .int v)] [.int 1]
    exact WS.zret hx he dX11_mayBecome_77 (Or.inr rfl) (Rb.t (by first | (rw [iso_k (k := 1) (m := 15) s1_1 (by decide) (by decide) (by decide)]; (try simp only [l_int, tL_0, tL_1, tL_2, tL_4, tL_5, tL_6, tL_7, tL_9, tL_10, tL_12, tL_15, tL_30, tL_40, tL_60, tL_99, tL_255, tL_1023, tL_m1, lc_lt, lc_gt, lc_ge, lc_le, lc_eq, l6_le, l6_lt, l6_eq, i_le, i_lt, i_eq, tI_0, tI_1] at hb74); (try simp only [l_int, tL_0, tL_1, tL_2, tL_4, tL_5, tL_6, tL_7, tL_9, tL_10, tL_12, tL_15, tL_30, tL_40, tL_60, tL_99, tL_255, tL_1023, tL_m1, lc_lt, lc_gt, lc_ge, lc_le, lc_eq, l6_le, l6_lt, l6_eq, i_le, i_lt, i_eq, tI_0, tI_1]); omega) | (rw [iso_k (k := 2) (m := 9) s1_2 (by decide) (by decide) (by decide)]; (try simp only [l_int, tL_0, tL_1, tL_2, tL_4, tL_5, tL_6, tL_7, tL_9, tL_10, tL_12, tL_15, tL_30, tL_40, tL_60, tL_99, tL_255, tL_1023, tL_m1, lc_lt, lc_gt, lc_ge, lc_le, lc_eq, l6_le, l6_lt, l6_eq, i_le, i_lt, i_eq, tI_0, tI_1] at hb74); (try simp only [l_int, tL_0, tL_1, tL_2, tL_4, tL_5, tL_6, tL_7, tL_9, tL_10, tL_12, tL_15, tL_30, tL_40, tL_60, tL_99, tL_255, tL_1023, tL_m1, lc_lt, lc_gt, lc_ge, lc_le, lc_eq, l6_le, l6_lt, l6_eq, i_le, i_lt, i_eq, tI_0, tI_1]); omega) | (rw [iso_k (k := 3) (m := 1) s1_3 (by decide) (by decide) (by decide)]; (try simp only [l_int, tL_0, tL_1, tL_2, tL_4, tL_5, tL_6, tL_7, tL_9, tL_10, tL_12, tL_15, tL_30, tL_40, tL_60, tL_99, tL_255, tL_1023, tL_m1, lc_lt, lc_gt, lc_ge, lc_le, lc_eq, l6_le, l6_lt, l6_eq, i_le, i_lt, i_eq, tI_0, tI_1] at hb74); (try simp only [l_int, tL_0, tL_1, tL_2, tL_4, tL_5, tL_6, tL_7, tL_9, tL_10, tL_12, tL_15, tL_30, tL_40, tL_60, tL_99, tL_255, tL_1023, tL_m1, lc_lt, lc_gt, lc_ge, lc_le, lc_eq, l6_le, l6_lt, l6_eq, i_le, i_lt, i_eq, tI_0, tI_1]); omega) | (rw [iso_k (k := 4) (m := 1) s1_4 (by decide) (by decide) (by decide)]; (try simp only [l_int, tL_0, tL_1, tL_2, tL_4, tL_5, tL_6, tL_7, tL_9, tL_10, tL_12, tL_15, tL_30, tL_40, tL_60, tL_99, tL_255, tL_1023, tL_m1, lc_lt, lc_gt, lc_ge, lc_le, lc_eq, l6_le, l6_lt, l6_eq, i_le, i_lt, i_eq, tI_0, tI_1] at hb74); (try simp only [l_int, tL_0, tL_1, tL_2, tL_4, tL_5, tL_6, tL_7, tL_9, tL_10, tL_12, tL_15, tL_30, tL_40, tL_60, tL_99, tL_255, tL_1023, tL_m1, lc_lt, lc_gt, lc_ge, lc_le, lc_eq, l6_le, l6_lt, l6_eq, i_le, i_lt, i_eq, tI_0, tI_1]); omega) | (rw [iso_k (k := 5) (m := 15) s1_5 (by decide) (by decide) (by decide)]; (try simp only [l_int, tL_0, tL_1, tL_2, tL_4, tL_5, tL_6, tL_7, tL_9, tL_10, tL_12, tL_15, tL_30, tL_40, tL_60, tL_99, tL_255, tL_1023, tL_m1, lc_lt, lc_gt, lc_ge, lc_le, lc_eq, l6_le, l6_lt, l6_eq, i_le, i_lt, i_eq, tI_0, tI_1] at hb74); (try simp only [l_int, tL_0, tL_1, tL_2, tL_4, tL_5, tL_6, tL_7, tL_9, tL_10, tL_12, tL_15, tL_30, tL_40, tL_60, tL_99, tL_255, tL_1023, tL_m1, lc_lt, lc_gt, lc_ge, lc_le, lc_eq, l6_le, l6_lt, l6_eq, i_le, i_lt, i_eq, tI_0, tI_1]); omega) | (rw [iso_k (k := 6) (m := 9) s1_6 (by decide) (by decide) (by decide)]; (try simp only [l_int, tL_0, tL_1, tL_2, tL_4, tL_5, tL_6, tL_7, tL_9, tL_10, tL_12, tL_15, tL_30, tL_40, tL_60, tL_99, tL_255, tL_1023, tL_m1, lc_lt, lc_gt, lc_ge, lc_le, lc_eq, l6_le, l6_lt, l6_eq, i_le, i_lt, i_eq, tI_0, tI_1] at hb74); (try simp only [l_int, tL_0, tL_1, tL_2, tL_4, tL_5, tL_6, tL_7, tL_9, tL_10, tL_12, tL_15, tL_30, tL_40, tL_60, tL_99, tL_255, tL_1023, tL_m1, lc_lt, lc_gt, lc_ge, lc_le, lc_eq, l6_le, l6_lt, l6_eq, i_le, i_lt, i_eq, tI_0, tI_1]); omega) | (rw [iso_k (k := 7) (m := 99) s1_7 (by decide) (by decide) (by decide)]; (try simp only [l_int, tL_0, tL_1, tL_2, tL_4, tL_5, tL_6, tL_7, tL_9, tL_10, tL_12, tL_15, tL_30, tL_40, tL_60, tL_99, tL_255, tL_1023, tL_m1, lc_lt, lc_gt, lc_ge, lc_le, lc_eq, l6_le, l6_lt, l6_eq, i_le, i_lt, i_eq, tI_0, tI_1] at hb74); (try simp only [l_int, tL_0, tL_1, tL_2, tL_4, tL_5, tL_6, tL_7, tL_9, tL_10, tL_12, tL_15, tL_30, tL_40, tL_60, tL_99, tL_255, tL_1023, tL_m1, lc_lt, lc_gt, lc_ge, lc_le, lc_eq, l6_le, l6_lt, l6_eq, i_le, i_lt, i_eq, tI_0, tI_1]); omega) | (rw [iso_k (k := 0) (m := 9) hq0 (by decide) (by decide) (by decide)]; (try simp only [l_int, tL_0, tL_1, tL_2, tL_4, tL_5, tL_6, tL_7, tL_9, tL_10, tL_12, tL_15, tL_30, tL_40, tL_60, tL_99, tL_255, tL_1023, tL_m1, lc_lt, lc_gt, lc_ge, lc_le, lc_eq, l6_le, l6_lt, l6_eq, i_le, i_lt, i_eq, tI_0, tI_1] at hb74); (try simp only [l_int, tL_0, tL_1, tL_2, tL_4, tL_5, tL_6, tL_7, tL_9, tL_10, tL_12, tL_15, tL_30, tL_40, tL_60, tL_99, tL_255, tL_1023, tL_m1, lc_lt, lc_gt, lc_ge, lc_le, lc_eq, l6_le, l6_lt, l6_eq, i_le, i_lt, i_eq, tI_0, tI_1]); omega)))
  · skip
    show WS layM V 2 X σ 77 [(0, .int q), (1, .int v)] [.int 0]
    exact WS.zret hx he dX11_mayBecome_77 (Or.inl rfl) (Rb.f (by first | (rw [iso_k (k := 1) (m := 15) s1_1 (by decide) (by decide) (by decide)]; (try simp only [l_int, tL_0, tL_1, tL_2, tL_4, tL_5, tL_6, tL_7, tL_9, tL_10, tL_12, tL_15, tL_30, tL_40, tL_60, tL_99, tL_255, tL_1023, tL_m1, lc_lt, lc_gt, lc_ge, lc_le, lc_eq, l6_le, l6_lt, l6_eq, i_le, i_lt, i_eq, tI_0, tI_1] at hb74); (try simp only [l_int, tL_0, tL_1, tL_2, tL_4, tL_5, tL_6, tL_7, tL_9, tL_10, tL_12, tL_15, tL_30, tL_40, tL_60, tL_99, tL_255, tL_1023, tL_m1, lc_lt, lc_gt, lc_ge, lc_le, lc_eq, l6_le, l6_lt, l6_eq, i_le, i_lt, i_eq, tI_0, tI_1]); omega) | (rw [iso_k (k := 2) (m := 9) s1_2 (by decide) (by decide) (by decide)]; (try simp only [l_int, tL_0, tL_1, tL_2, tL_4, tL_5, tL_6, tL_7, tL_9, tL_10, tL_12, tL_15, tL_30, tL_40, tL_60, tL_99, tL_255, tL_1023, tL_m1, lc_lt, lc_gt, lc_ge, lc_le, lc_eq, l6_le, l6_lt, l6_eq, i_le, i_lt, i_eq, tI_0, tI_1] at hb74); (try simp only [l_int, tL_0, tL_1, tL_2, tL_4, tL_5, tL_6, tL_7, tL_9, tL_10, tL_12, tL_15, tL_30, tL_40, tL_60, tL_99, tL_255, tL_1023, tL_m1, lc_lt, lc_gt, lc_ge, lc_le, lc_eq, l6_le, l6_lt, l6_eq, i_le, i_lt, i_eq, tI_0, tI_1]); omega) | (rw [iso_k (k := 3) (m := 1) s1_3 (by decide) (by decide) (by decide)]; (try simp only [l_int, tL_0, tL_1, tL_2, tL_4, tL_5, tL_6, tL_7, tL_9, tL_10, tL_12, tL_15, tL_30, tL_40, tL_60, tL_99, tL_255, tL_1023, tL_m1, lc_lt, lc_gt, lc_ge, lc_le, lc_eq, l6_le, l6_lt, l6_eq, i_le, i_lt, i_eq, tI_0, tI_1] at hb74); (try simp only [l_int, tL_0, tL_1, tL_2, tL_4, tL_5, tL_6, tL_7, tL_9, tL_10, tL_12, tL_15, tL_30, tL_40, tL_60, tL_99, tL_255, tL_1023, tL_m1, lc_lt, lc_gt, lc_ge, lc_le, lc_eq, l6_le, l6_lt, l6_eq, i_le, i_lt, i_eq, tI_0, tI_1]); omega) | (rw [iso_k (k := 4) (m := 1) s1_4 (by decide) (by decide) (by decide)]; (try simp only [l_int, tL_0, tL_1, tL_2, tL_4, tL_5, tL_6, tL_7, tL_9, tL_10, tL_12, tL_15, tL_30, tL_40, tL_60, tL_99, tL_255, tL_1023, tL_m1, lc_lt, lc_gt, lc_ge, lc_le, lc_eq, l6_le, l6_lt, l6_eq, i_le, i_lt, i_eq, tI_0, tI_1] at hb74); (try simp only [l_int, tL_0, tL_1, tL_2, tL_4, tL_5, tL_6, tL_7, tL_9, tL_10, tL_12, tL_15, tL_30, tL_40, tL_60, tL_99, tL_255, tL_1023, tL_m1, lc_lt, lc_gt, lc_ge, lc_le, lc_eq, l6_le, l6_lt, l6_eq, i_le, i_lt, i_eq, tI_0, tI_1]); omega) | (rw [iso_k (k := 5) (m := 15) s1_5 (by decide) (by decide) (by decide)]; (try simp only [l_int, tL_0, tL_1, tL_2, tL_4, tL_5, tL_6, tL_7, tL_9, tL_10, tL_12, tL_15, tL_30, tL_40, tL_60, tL_99, tL_255, tL_1023, tL_m1, lc_lt, lc_gt, lc_ge, lc_le, lc_eq, l6_le, l6_lt, l6_eq, i_le, i_lt, i_eq, tI_0, tI_1] at hb74); (try simp only [l_int, tL_0, tL_1, tL_2, tL_4, tL_5, tL_6, tL_7, tL_9, tL_10, tL_12, tL_15, tL_30, tL_40, tL_60, tL_99, tL_255, tL_1023, tL_m1, lc_lt, lc_gt, lc_ge, lc_le, lc_eq, l6_le, l6_lt, l6_eq, i_le, i_lt, i_eq, tI_0, tI_1]); omega) | (rw [iso_k (k := 6) (m := 9) s1_6 (by decide) (by decide) (by decide)]; (try simp only [l_int, tL_0, tL_1, tL_2, tL_4, tL_5, tL_6, tL_7, tL_9, tL_10, tL_12, tL_15, tL_30, tL_40, tL_60, tL_99, tL_255, tL_1023, tL_m1, lc_lt, lc_gt, lc_ge, lc_le, lc_eq, l6_le, l6_lt, l6_eq, i_le, i_lt, i_eq, tI_0, tI_1] at hb74); (try simp only [l_int, tL_0, tL_1, tL_2, tL_4, tL_5, tL_6, tL_7, tL_9, tL_10, tL_12, tL_15, tL_30, tL_40, tL_60, tL_99, tL_255, tL_1023, tL_m1, lc_lt, lc_gt, lc_ge, lc_le, lc_eq, l6_le, l6_lt, l6_eq, i_le, i_lt, i_eq, tI_0, tI_1]); omega) | (rw [iso_k (k := 7) (m := 99) s1_7 (by decide) (by decide) (by decide)]; (try simp only [l_int, tL_0, tL_1, tL_2, tL_4, tL_5, tL_6, tL_7, tL_9, tL_10, tL_12, tL_15, tL_30, tL_40, tL_60, tL_99, tL_255, tL_1023, tL_m1, lc_lt, lc_gt, lc_ge, lc_le, lc_eq, l6_le, l6_lt, l6_eq, i_le, i_lt, i_eq, tI_0, tI_1] at hb74); (try simp only [l_int, tL_0, tL_1, tL_2, tL_4, tL_5, tL_6, tL_7, tL_9, tL_10, tL_12, tL_15, tL_30, tL_40, tL_60, tL_99, tL_255, tL_1023, tL_m1, lc_lt, lc_gt, lc_ge, lc_le, lc_eq, l6_le, l6_lt, l6_eq, i_le, i_lt, i_eq, tI_0, tI_1]); omega) | (rw [iso_k (k := 0) (m := 9) hq0 (by decide) (by decide) (by decide)]; (try simp only [l_int, tL_0, tL_1, tL_2, tL_4, tL_5, tL_6, tL_7, tL_9, tL_10, tL_12, tL_15, tL_30, tL_40, tL_60, tL_99, tL_255, tL_1023, tL_m1, lc_lt, lc_gt, lc_ge, lc_le, lc_eq, l6_le, l6_lt, l6_eq, i_le, i_lt, i_eq, tI_0, tI_1] at hb74); (try simp only [l_int, tL_0, tL_1, tL_2, tL_4, tL_5, tL_6, tL_7, tL_9, tL_10, tL_12, tL_15, tL_30, tL_40, tL_60, tL_99, tL_255, tL_1023, tL_m1, lc_lt, lc_gt, lc_ge, lc_le, lc_eq, l6_le, l6_lt, l6_eq, i_le, i_lt, i_eq, tI_0, tI_1]); omega)))
set_option maxHeartbeats 1000000 in
theorem c_X11_of (V : Vt) (d : Nat) (σ : Sg) (κ : Sg) (n : Nat) (hM : MR κ σ n) (b q : Int32) : CT layM V mX11_of (d + 4) [rf V 0, .int b, .int q] σ (Ri fun v σ' => σ' = σ ∧ (¬ hasC n b q → v = -1) ∧ (hasC n b q → v = κ.1 (numId q) (nn b))) := by
  refine CT.of (own := RX11) rfl (by decide) (Nat.le_of_ble_eq_true rfl) (fun X (hx : Ok V RX11 cX11_of 4 (d + 4) X) (he : En layM V (some .int) (Ri fun v σ' => σ' = σ ∧ (¬ hasC n b q → v = -1) ∧ (hasC n b q → v = κ.1 (numId q) (nn b))) X) => ?_)
  change WS layM V 4 X σ 0 [(0, rf V 0), (1, .int b), (2, .int q)] []
  have hn := hM.n
  have hs := hM.s
  have hnI : (nI n).toInt = (n : Int) := nI_c (by omega)
  have e1 : (nI n - 1).toInt = (n : Int) - 1 := by rw [i_sub (by rw [hnI, tI_1]; omega) (by rw [hnI, tI_1]; omega), hnI, tI_1]
  refine WS.aload_n hx dX11_of_0 rfl 0 rfl ?_
  refine WS.iload_n hx dX11_of_1 rfl 1 rfl ?_
  refine WS.iload_n hx dX11_of_2 rfl 2 rfl ?_
  refine WS.callVi (st := []) [.int b, .int q] hx (c_X11_placeOf V d σ n hs hn b q) okX11_placeOf lm11_136 rfl rfl rfl rfl (Nat.le_of_ble_eq_true rfl) dX11_of_3 (fun v1 σ2 h3 => ?_)
  rcases h3 with ⟨hc, rfl, rfl⟩ | ⟨hc, rfl, rfl⟩
  · skip
    show WS layM V 4 X σ 6 [(0, rf V 0), (1, .int b), (2, .int q)] [.int (nI (pm b q))]
    have hlt : pm b q < 83 := by obtain ⟨a1, a2, -⟩ := hasC_N hn hc; exact pN_lt a1 a2
    refine WS.istore_n (lo' := [(3, .int (nI (pm b q))), (0, rf V 0), (1, .int b), (2, .int q)]) hx dX11_of_6 rfl (by decide) rfl ?_
    refine WS.iload_n hx dX11_of_7 rfl 0 rfl ?_
    refine WS.if_lt (tgt := 20) hx dX11_of_8 (by decide) (fun h => absurd h (nI_pos (by omega))) (fun c8 => ?_)
    refine WS.aload_n hx dX11_of_11 rfl 1 rfl ?_
    refine WS.getR hx okX11 lf11_9 rfl rfl dX11_of_12 ?_
    refine WS.iload_n hx dX11_of_15 rfl 0 rfl ?_
    refine WS.iald hx rfl (vp_in_nI hlt (by decide)) dX11_of_16 ?_
    refine WS.goto (tgt := 21) hx dX11_of_17 (by decide) ?_
    exact WS.iret hx he dX11_of_21 ⟨_, rfl, rfl, fun h => absurd hc h, fun _ => by rw [nI_clamp (show pm b q < 2 ^ 31 by omega)]; exact hM.at hc⟩
  · skip
    show WS layM V 4 X σ 6 [(0, rf V 0), (1, .int b), (2, .int q)] [.int (-1)]
    refine WS.istore_n (lo' := [(3, .int (-1)), (0, rf V 0), (1, .int b), (2, .int q)]) hx dX11_of_6 rfl (by decide) rfl ?_
    refine WS.iload_n hx dX11_of_7 rfl 0 rfl ?_
    refine WS.if_lt (tgt := 20) hx dX11_of_8 (by decide) (fun _ => ?_) (fun h => absurd (by decide) h)
    refine WS.iconst (v := (-1)) hx dX11_of_20 (by decide) ?_
    exact WS.iret hx he dX11_of_21 ⟨_, rfl, rfl, fun _ => rfl, fun h => absurd h hc⟩
set_option maxHeartbeats 1000000 in
theorem c_X11_feed (V : Vt) (d : Nat) (σ : Sg) (tl : Nat) (htl : tl ≤ 120) (h3 : σ.1 0 8 = nI tl) (x : Int32) : CT layM V mX11_feed (d + 1) [rf V 0, .int x] σ (Ri fun v σ' => if ¬ (0 ≤ x.toInt ∧ x.toInt ≤ 255) then v = -1 ∧ σ' = σ else if tl = 120 then v = -3 ∧ σ' = σ else v = nI (tl + 1) ∧ σ' = stI (stI σ 5 tl x) 0 8 (nI (tl + 1))) := by
  refine CT.of (own := RX11) rfl (by decide) (Nat.le_of_ble_eq_true rfl) (fun X (hx : Ok V RX11 cX11_feed 2 (d + 1) X) (he : En layM V (some .int) (Ri fun v σ' => if ¬ (0 ≤ x.toInt ∧ x.toInt ≤ 255) then v = -1 ∧ σ' = σ else if tl = 120 then v = -3 ∧ σ' = σ else v = nI (tl + 1) ∧ σ' = stI (stI σ 5 tl x) 0 8 (nI (tl + 1))) X) => ?_)
  change WS layM V 2 X σ 0 [(0, rf V 0), (1, .int x)] []
  have htI : (nI tl).toInt = (tl : Int) := nI_c (by omega)
  refine WS.iload_n hx dX11_feed_0 rfl 1 rfl ?_
  refine WS.i2l hx dX11_feed_1 ?_
  refine WS.lconst (v := 0) hx dX11_feed_2 rfl ?_
  refine WS.ldc2 (v := 255) hx lc11_147 dX11_feed_3 ?_
  refine WS.callSi (st := []) [.long (Int32.toInt64 x), .long 0, .long 255] hx (c_X11_within V d σ (Int32.toInt64 x) 0 255) okX11_within lm11_100 rfl rfl (Nat.le_of_ble_eq_true rfl) dX11_feed_6 (fun v1 σ2 h3 => ?_)
  rcases h3 with ⟨rfl, rfl, hb6⟩ | ⟨rfl, rfl, hb6⟩
  · skip
    show WS layM V 2 X σ 9 [(0, rf V 0), (1, .int x)] [.int 1]
    refine WS.if_ne (tgt := 14) hx dX11_feed_9 (by decide) (fun _ => ?_) (fun h => absurd h (by decide))
    refine WS.aload_n hx dX11_feed_14 rfl 0 rfl ?_
    refine WS.getI hx okX11 lf11_149 rfl rfl dX11_feed_15 ?_
    refine WS.as rfl rfl (congrArg (fun z => Value.int z :: _) (show σ.1 0 8 = nI tl from h3)) ?_
    skip
    refine WS.bipush (v := 120) hx dX11_feed_18 (by decide) ?_
    refine WS.icmp_ne (tgt := 26) hx dX11_feed_20 (by decide) (fun c20 => ?_) (fun c20 => ?_)
    · skip
      show WS layM V 2 X σ 26 [(0, rf V 0), (1, .int x)] []
      refine WS.aload_n hx dX11_feed_26 rfl 0 rfl ?_
      refine WS.getR hx okX11 lf11_22 rfl rfl dX11_feed_27 ?_
      refine WS.aload_n hx dX11_feed_30 rfl 0 rfl ?_
      refine WS.getI hx okX11 lf11_149 rfl rfl dX11_feed_31 ?_
      refine WS.as rfl rfl (congrArg (fun z => Value.int z :: _) (show σ.1 0 8 = nI tl from h3)) ?_
      skip
      refine WS.iload_n hx dX11_feed_34 rfl 1 rfl ?_
      refine WS.iast hx rfl (vp_in_nI (by (try simp only [l_int, tL_0, tL_1, tL_2, tL_4, tL_5, tL_6, tL_7, tL_9, tL_10, tL_12, tL_15, tL_30, tL_40, tL_60, tL_99, tL_255, tL_1023, tL_m1, lc_lt, lc_gt, lc_ge, lc_le, lc_eq, l6_le, l6_lt, l6_eq, i_le, i_lt, i_eq, tI_m3, tI_m1, tI_0, tI_1, tI_120] at hb6); (try simp only [l_int, tL_0, tL_1, tL_2, tL_4, tL_5, tL_6, tL_7, tL_9, tL_10, tL_12, tL_15, tL_30, tL_40, tL_60, tL_99, tL_255, tL_1023, tL_m1, lc_lt, lc_gt, lc_ge, lc_le, lc_eq, l6_le, l6_lt, l6_eq, i_le, i_lt, i_eq, tI_m3, tI_m1, tI_0, tI_1, tI_120] at c20); omega) (by decide)) dX11_feed_35 ?_
      refine WS.aload_n hx dX11_feed_36 rfl 0 rfl ?_
      refine WS.dup hx dX11_feed_37 rfl ?_
      refine WS.getI hx okX11 lf11_149 rfl rfl dX11_feed_38 ?_
      refine WS.as rfl rfl (congrArg (fun z => Value.int z :: _) (show (stI σ 5 (nn (nI tl)) x).1 0 8 = nI tl from h3)) ?_
      skip
      refine WS.iconst (v := 1) hx dX11_feed_41 (by decide) ?_
      refine WS.iadd hx dX11_feed_42 ?_
      refine WS.as rfl rfl (congrArg (fun z => Value.int z :: _) (show (nI tl) + 1 = nI (tl + 1) from nI_1 _)) ?_
      skip
      refine WS.putI hx okX11 lf11_149 rfl rfl rfl rfl dX11_feed_43 ?_
      refine WS.aload_n hx dX11_feed_46 rfl 0 rfl ?_
      refine WS.getI hx okX11 lf11_149 rfl rfl dX11_feed_47 ?_
      refine WS.as rfl rfl (congrArg (fun z => Value.int z :: _) (show (stI (stI σ 5 (nn (nI tl)) x) 0 8 (nI (tl + 1))).1 0 8 = nI (tl + 1) from rfl)) ?_
      skip
      exact WS.iret hx he dX11_feed_50 ⟨_, rfl, by (try simp only [l_int, tL_0, tL_1, tL_2, tL_4, tL_5, tL_6, tL_7, tL_9, tL_10, tL_12, tL_15, tL_30, tL_40, tL_60, tL_99, tL_255, tL_1023, tL_m1, lc_lt, lc_gt, lc_ge, lc_le, lc_eq, l6_le, l6_lt, l6_eq, i_le, i_lt, i_eq, tI_m3, tI_m1, tI_0, tI_1, tI_120] at hb6); (try simp only [l_int, tL_0, tL_1, tL_2, tL_4, tL_5, tL_6, tL_7, tL_9, tL_10, tL_12, tL_15, tL_30, tL_40, tL_60, tL_99, tL_255, tL_1023, tL_m1, lc_lt, lc_gt, lc_ge, lc_le, lc_eq, l6_le, l6_lt, l6_eq, i_le, i_lt, i_eq, tI_m3, tI_m1, tI_0, tI_1, tI_120] at c20); (repeat' split) <;> first | (exfalso; omega) | exact ⟨rfl, rfl⟩ | (refine ⟨rfl, ?_⟩; rw [nI_clamp (show tl < 2 ^ 31 by omega)])⟩
    · skip
      show WS layM V 2 X σ 23 [(0, rf V 0), (1, .int x)] []
      refine WS.bipush (v := (-3)) hx dX11_feed_23 (by decide) ?_
      exact WS.iret hx he dX11_feed_25 ⟨_, rfl, by (try simp only [l_int, tL_0, tL_1, tL_2, tL_4, tL_5, tL_6, tL_7, tL_9, tL_10, tL_12, tL_15, tL_30, tL_40, tL_60, tL_99, tL_255, tL_1023, tL_m1, lc_lt, lc_gt, lc_ge, lc_le, lc_eq, l6_le, l6_lt, l6_eq, i_le, i_lt, i_eq, tI_m3, tI_m1, tI_0, tI_1, tI_120] at hb6); (try simp only [l_int, tL_0, tL_1, tL_2, tL_4, tL_5, tL_6, tL_7, tL_9, tL_10, tL_12, tL_15, tL_30, tL_40, tL_60, tL_99, tL_255, tL_1023, tL_m1, lc_lt, lc_gt, lc_ge, lc_le, lc_eq, l6_le, l6_lt, l6_eq, i_le, i_lt, i_eq, tI_m3, tI_m1, tI_0, tI_1, tI_120] at c20); (repeat' split) <;> first | (exfalso; omega) | exact ⟨rfl, rfl⟩ | (refine ⟨rfl, ?_⟩; rw [nI_clamp (show tl < 2 ^ 31 by omega)])⟩
  · skip
    show WS layM V 2 X σ 9 [(0, rf V 0), (1, .int x)] [.int 0]
    refine WS.if_ne (tgt := 14) hx dX11_feed_9 (by decide) (fun h => absurd (by decide) h) (fun _ => ?_)
    refine WS.iconst (v := (-1)) hx dX11_feed_12 (by decide) ?_
    exact WS.iret hx he dX11_feed_13 ⟨_, rfl, by (try simp only [l_int, tL_0, tL_1, tL_2, tL_4, tL_5, tL_6, tL_7, tL_9, tL_10, tL_12, tL_15, tL_30, tL_40, tL_60, tL_99, tL_255, tL_1023, tL_m1, lc_lt, lc_gt, lc_ge, lc_le, lc_eq, l6_le, l6_lt, l6_eq, i_le, i_lt, i_eq, tI_m3, tI_m1, tI_0, tI_1, tI_120] at hb6); (repeat' split) <;> first | (exfalso; omega) | exact ⟨rfl, rfl⟩ | (refine ⟨rfl, ?_⟩; rw [nI_clamp (show tl < 2 ^ 31 by omega)])⟩
def bcT (τ : Sg) (e w : Nat) (was x : Int32) : Sg := stI (stI (stI (stI (stI (stI τ 2 e (nI w)) 3 e was) 4 e x) 0 5 (nI (e + 1))) 0 4 (nI (e + 1))) 1 w x
def shk (f : Nat → Int32) (k : Nat) : Nat → Int32 := fun j => if j + 1 < k then f (j + 1) else f j
def ShE (σ τ : Sg) (k : Nat) : Prop := (∀ q, q ≠ 2 → q ≠ 3 → q ≠ 4 → τ.1 q = σ.1 q) ∧ τ.2 = σ.2 ∧ τ.1 2 = shk (σ.1 2) k ∧ τ.1 3 = shk (σ.1 3) k ∧ τ.1 4 = shk (σ.1 4) k
theorem shk_s (f : Nat → Int32) (k : Nat) (h : 1 ≤ k) : upd (shk f k) (k - 1) (f k) = shk f (k + 1) := by
  funext j
  unfold shk
  by_cases e : j = k - 1
  · rw [e, pk_us, if_pos (by omega), show k - 1 + 1 = k by omega]
  · rw [pk_un e]
    by_cases e2 : j + 1 < k
    · rw [if_pos e2, if_pos (by omega)]
    · rw [if_neg e2, if_neg (by omega)]
theorem shk_k (f : Nat → Int32) (k : Nat) : shk f k k = f k := by unfold shk; rw [if_neg (by omega)]
theorem shk_1 (f : Nat → Int32) : shk f 1 = f := by funext j; unfold shk; rw [if_neg (by omega)]
theorem ShE.st {σ τ : Sg} {k : Nat} (h : ShE σ τ k) (hk : 1 ≤ k) : ShE σ (stI (stI (stI τ 2 (k - 1) (τ.1 2 k)) 3 (k - 1) (τ.1 3 k)) 4 (k - 1) (τ.1 4 k)) (k + 1) := by
  obtain ⟨h1, h2, h3, h4, h5⟩ := h
  refine ⟨fun q a b c => ?_, h2, ?_, ?_, ?_⟩
  · rw [stI_o _ _ _ _ c, stI_o _ _ _ _ b, stI_o _ _ _ _ a]; exact h1 q a b c
  · show upd (τ.1 2) (k - 1) (τ.1 2 k) = _
    rw [h3, shk_k, shk_s _ _ hk]
  · show upd (τ.1 3) (k - 1) (τ.1 3 k) = _
    rw [h4, shk_k, shk_s _ _ hk]
  · show upd (τ.1 4) (k - 1) (τ.1 4 k) = _
    rw [h5, shk_k, shk_s _ _ hk]
set_option maxHeartbeats 1000000 in
theorem tl_X11_becomes (V : Vt) (d : Nat) (τ : Sg) (wN : Nat) (hw : wN < 83) (x was : Int32) (e : Nat) (he9 : e < 40) (h5 : τ.1 0 5 = nI e) (P : Int32 → Sg → Prop) (X : Xt) (hx : Ok V RX11 cX11_becomes 5 d X) (he : En layM V (some .int) (Ri P) X) (hP : P was (bcT τ e wN was x)) : WS layM V 5 X τ 97 [(3, .int was), (0, rf V 0), (1, .int (nI wN)), (2, .int x)] [] := by
  refine WS.aload_n hx dX11_becomes_97 rfl 1 rfl ?_
  refine WS.getR hx okX11 lf11_13 rfl rfl dX11_becomes_98 ?_
  refine WS.aload_n hx dX11_becomes_101 rfl 1 rfl ?_
  refine WS.getI hx okX11 lf11_90 rfl rfl dX11_becomes_102 ?_
  refine WS.as rfl rfl (congrArg (fun z => Value.int z :: _) (show τ.1 0 5 = nI e from h5)) ?_
  skip
  refine WS.iload_n hx dX11_becomes_105 rfl 2 rfl ?_
  refine WS.iast hx rfl (vp_in_nI (by omega) (by decide)) dX11_becomes_106 ?_
  refine WS.aload_n hx dX11_becomes_107 rfl 1 rfl ?_
  refine WS.getR hx okX11 lf11_16 rfl rfl dX11_becomes_108 ?_
  refine WS.aload_n hx dX11_becomes_111 rfl 1 rfl ?_
  refine WS.getI hx okX11 lf11_90 rfl rfl dX11_becomes_112 ?_
  refine WS.as rfl rfl (congrArg (fun z => Value.int z :: _) (show (stI τ 2 (nn (nI e)) (nI wN)).1 0 5 = nI e from h5)) ?_
  skip
  refine WS.iload_n hx dX11_becomes_115 rfl 0 rfl ?_
  refine WS.iast hx rfl (vp_in_nI (by omega) (by decide)) dX11_becomes_116 ?_
  refine WS.aload_n hx dX11_becomes_117 rfl 1 rfl ?_
  refine WS.getR hx okX11 lf11_19 rfl rfl dX11_becomes_118 ?_
  refine WS.aload_n hx dX11_becomes_121 rfl 1 rfl ?_
  refine WS.getI hx okX11 lf11_90 rfl rfl dX11_becomes_122 ?_
  refine WS.as rfl rfl (congrArg (fun z => Value.int z :: _) (show (stI (stI τ 2 (nn (nI e)) (nI wN)) 3 (nn (nI e)) was).1 0 5 = nI e from h5)) ?_
  skip
  refine WS.iload_n hx dX11_becomes_125 rfl 3 rfl ?_
  refine WS.iast hx rfl (vp_in_nI (by omega) (by decide)) dX11_becomes_126 ?_
  refine WS.aload_n hx dX11_becomes_127 rfl 1 rfl ?_
  refine WS.dup hx dX11_becomes_128 rfl ?_
  refine WS.getI hx okX11 lf11_90 rfl rfl dX11_becomes_129 ?_
  refine WS.as rfl rfl (congrArg (fun z => Value.int z :: _) (show (stI (stI (stI τ 2 (nn (nI e)) (nI wN)) 3 (nn (nI e)) was) 4 (nn (nI e)) x).1 0 5 = nI e from h5)) ?_
  skip
  refine WS.iconst (v := 1) hx dX11_becomes_132 (by decide) ?_
  refine WS.iadd hx dX11_becomes_133 ?_
  refine WS.as rfl rfl (congrArg (fun z => Value.int z :: _) (show (nI e) + 1 = nI (e + 1) from nI_1 e)) ?_
  skip
  refine WS.putI hx okX11 lf11_90 rfl rfl rfl rfl dX11_becomes_134 ?_
  refine WS.aload_n hx dX11_becomes_137 rfl 1 rfl ?_
  refine WS.aload_n hx dX11_becomes_138 rfl 1 rfl ?_
  refine WS.getI hx okX11 lf11_90 rfl rfl dX11_becomes_139 ?_
  refine WS.as rfl rfl (congrArg (fun z => Value.int z :: _) (show (stI (stI (stI (stI τ 2 (nn (nI e)) (nI wN)) 3 (nn (nI e)) was) 4 (nn (nI e)) x) 0 5 (nI (e + 1))).1 0 5 = nI (e + 1) from rfl)) ?_
  skip
  refine WS.putI hx okX11 lf11_94 rfl rfl rfl rfl dX11_becomes_142 ?_
  refine WS.aload_n hx dX11_becomes_145 rfl 1 rfl ?_
  refine WS.getR hx okX11 lf11_9 rfl rfl dX11_becomes_146 ?_
  refine WS.iload_n hx dX11_becomes_149 rfl 2 rfl ?_
  refine WS.iload_n hx dX11_becomes_150 rfl 3 rfl ?_
  refine WS.iast hx rfl (vp_in_nI (by omega) (by decide)) dX11_becomes_151 ?_
  refine WS.iload_n hx dX11_becomes_152 rfl 0 rfl ?_
  exact WS.iret hx he dX11_becomes_153 ⟨_, rfl, by unfold bcT at hP; rw [nI_clamp (show e < 2 ^ 31 by omega), nI_clamp (show wN < 2 ^ 31 by omega)]; exact hP⟩
set_option maxHeartbeats 1000000 in
theorem lp_X11_becomes (V : Vt) (d : Nat) (σ : Sg) (wN : Nat) (hw : wN < 83) (x was : Int32) (P : Int32 → Sg → Prop) (X : Xt) (hx : Ok V RX11 cX11_becomes 5 d X) (he : En layM V (some .int) (Ri P) X) (hP : ∀ τ, ShE σ τ 40 → P was (bcT (stI τ 0 5 39) 39 wN was x)) (h5 : σ.1 0 5 = nI 40) : ∀ (k : Nat) (τ : Sg), 1 ≤ k → k ≤ 40 → ShE σ τ k → WS layM V 5 X τ 26 [(4, .int (nI k)), (3, .int was), (0, rf V 0), (1, .int (nI wN)), (2, .int x)] [] := by
  intro k
  induction hm : 40 - k using Nat.strongRecOn generalizing k with
  | _ m9 ih =>
    intro τ hk1 hk2 hE
    have hkI : (nI k).toInt = (k : Int) := nI_c (by omega)
    have hk9 : nI k - 1 = nI (k - 1) := pk_sub hk1
    have h59 : τ.1 0 5 = nI 40 := by rw [hE.1 0 (by decide) (by decide) (by decide)]; exact h5
    refine WS.iload hx dX11_becomes_26 0 rfl ?_
    refine WS.bipush (v := 40) hx dX11_becomes_28 (by decide) ?_
    refine WS.icmp_ge (tgt := 87) hx dX11_becomes_30 (by decide) (fun c30 => ?_) (fun c30 => ?_)
    · skip
      show WS layM V 5 X τ 87 [(4, .int (nI k)), (3, .int was), (0, rf V 0), (1, .int (nI wN)), (2, .int x)] []
      refine WS.aload_n hx dX11_becomes_87 rfl 2 rfl ?_
      refine WS.dup hx dX11_becomes_88 rfl ?_
      refine WS.getI hx okX11 lf11_90 rfl rfl dX11_becomes_89 ?_
      refine WS.as rfl rfl (congrArg (fun z => Value.int z :: _) (show τ.1 0 5 = nI 40 from h59)) ?_
      skip
      refine WS.iconst (v := 1) hx dX11_becomes_92 (by decide) ?_
      refine WS.isub hx dX11_becomes_93 ?_
      refine WS.as rfl rfl (congrArg (fun z => Value.int z :: _) (show (nI 40) - 1 = 39 from rfl)) ?_
      skip
      refine WS.putI hx okX11 lf11_90 rfl rfl rfl rfl dX11_becomes_94 ?_
      have hk40 : k = 40 := by (try simp only [l_int, tL_0, tL_1, tL_2, tL_4, tL_5, tL_6, tL_7, tL_9, tL_10, tL_12, tL_15, tL_30, tL_40, tL_60, tL_99, tL_255, tL_1023, tL_m1, lc_lt, lc_gt, lc_ge, lc_le, lc_eq, l6_le, l6_lt, l6_eq, i_le, i_lt, i_eq, tI_0, tI_1, tI_40] at c30); (try simp only [l_int, tL_0, tL_1, tL_2, tL_4, tL_5, tL_6, tL_7, tL_9, tL_10, tL_12, tL_15, tL_30, tL_40, tL_60, tL_99, tL_255, tL_1023, tL_m1, lc_lt, lc_gt, lc_ge, lc_le, lc_eq, l6_le, l6_lt, l6_eq, i_le, i_lt, i_eq, tI_0, tI_1, tI_40]); omega
      subst hk40
      exact WS.los [1, 2, 3, 4] rfl (tl_X11_becomes V d _ wN hw x was 39 (by decide) rfl P X hx he (hP τ hE))
    · skip
      show WS layM V 5 X τ 33 [(4, .int (nI k)), (3, .int was), (0, rf V 0), (1, .int (nI wN)), (2, .int x)] []
      refine WS.aload_n hx dX11_becomes_33 rfl 2 rfl ?_
      refine WS.getR hx okX11 lf11_13 rfl rfl dX11_becomes_34 ?_
      refine WS.iload hx dX11_becomes_37 0 rfl ?_
      refine WS.iconst (v := 1) hx dX11_becomes_39 (by decide) ?_
      refine WS.isub hx dX11_becomes_40 ?_
      refine WS.as rfl rfl (congrArg (fun z => Value.int z :: _) (show (nI k) - 1 = nI (k - 1) from hk9)) ?_
      skip
      refine WS.aload_n hx dX11_becomes_41 rfl 2 rfl ?_
      refine WS.getR hx okX11 lf11_13 rfl rfl dX11_becomes_42 ?_
      refine WS.iload hx dX11_becomes_45 0 rfl ?_
      refine WS.iald hx rfl (vp_in_nI (by (try simp only [l_int, tL_0, tL_1, tL_2, tL_4, tL_5, tL_6, tL_7, tL_9, tL_10, tL_12, tL_15, tL_30, tL_40, tL_60, tL_99, tL_255, tL_1023, tL_m1, lc_lt, lc_gt, lc_ge, lc_le, lc_eq, l6_le, l6_lt, l6_eq, i_le, i_lt, i_eq, tI_0, tI_1, tI_40] at c30); (try simp only [l_int, tL_0, tL_1, tL_2, tL_4, tL_5, tL_6, tL_7, tL_9, tL_10, tL_12, tL_15, tL_30, tL_40, tL_60, tL_99, tL_255, tL_1023, tL_m1, lc_lt, lc_gt, lc_ge, lc_le, lc_eq, l6_le, l6_lt, l6_eq, i_le, i_lt, i_eq, tI_0, tI_1, tI_40]); omega) (by decide)) dX11_becomes_47 ?_
      refine WS.iast hx rfl (vp_in_nI (by (try simp only [l_int, tL_0, tL_1, tL_2, tL_4, tL_5, tL_6, tL_7, tL_9, tL_10, tL_12, tL_15, tL_30, tL_40, tL_60, tL_99, tL_255, tL_1023, tL_m1, lc_lt, lc_gt, lc_ge, lc_le, lc_eq, l6_le, l6_lt, l6_eq, i_le, i_lt, i_eq, tI_0, tI_1, tI_40] at c30); (try simp only [l_int, tL_0, tL_1, tL_2, tL_4, tL_5, tL_6, tL_7, tL_9, tL_10, tL_12, tL_15, tL_30, tL_40, tL_60, tL_99, tL_255, tL_1023, tL_m1, lc_lt, lc_gt, lc_ge, lc_le, lc_eq, l6_le, l6_lt, l6_eq, i_le, i_lt, i_eq, tI_0, tI_1, tI_40]); omega) (by decide)) dX11_becomes_48 ?_
      refine WS.aload_n hx dX11_becomes_49 rfl 2 rfl ?_
      refine WS.getR hx okX11 lf11_16 rfl rfl dX11_becomes_50 ?_
      refine WS.iload hx dX11_becomes_53 0 rfl ?_
      refine WS.iconst (v := 1) hx dX11_becomes_55 (by decide) ?_
      refine WS.isub hx dX11_becomes_56 ?_
      refine WS.as rfl rfl (congrArg (fun z => Value.int z :: _) (show (nI k) - 1 = nI (k - 1) from hk9)) ?_
      skip
      refine WS.aload_n hx dX11_becomes_57 rfl 2 rfl ?_
      refine WS.getR hx okX11 lf11_16 rfl rfl dX11_becomes_58 ?_
      refine WS.iload hx dX11_becomes_61 0 rfl ?_
      refine WS.iald hx rfl (vp_in_nI (by (try simp only [l_int, tL_0, tL_1, tL_2, tL_4, tL_5, tL_6, tL_7, tL_9, tL_10, tL_12, tL_15, tL_30, tL_40, tL_60, tL_99, tL_255, tL_1023, tL_m1, lc_lt, lc_gt, lc_ge, lc_le, lc_eq, l6_le, l6_lt, l6_eq, i_le, i_lt, i_eq, tI_0, tI_1, tI_40] at c30); (try simp only [l_int, tL_0, tL_1, tL_2, tL_4, tL_5, tL_6, tL_7, tL_9, tL_10, tL_12, tL_15, tL_30, tL_40, tL_60, tL_99, tL_255, tL_1023, tL_m1, lc_lt, lc_gt, lc_ge, lc_le, lc_eq, l6_le, l6_lt, l6_eq, i_le, i_lt, i_eq, tI_0, tI_1, tI_40]); omega) (by decide)) dX11_becomes_63 ?_
      refine WS.iast hx rfl (vp_in_nI (by (try simp only [l_int, tL_0, tL_1, tL_2, tL_4, tL_5, tL_6, tL_7, tL_9, tL_10, tL_12, tL_15, tL_30, tL_40, tL_60, tL_99, tL_255, tL_1023, tL_m1, lc_lt, lc_gt, lc_ge, lc_le, lc_eq, l6_le, l6_lt, l6_eq, i_le, i_lt, i_eq, tI_0, tI_1, tI_40] at c30); (try simp only [l_int, tL_0, tL_1, tL_2, tL_4, tL_5, tL_6, tL_7, tL_9, tL_10, tL_12, tL_15, tL_30, tL_40, tL_60, tL_99, tL_255, tL_1023, tL_m1, lc_lt, lc_gt, lc_ge, lc_le, lc_eq, l6_le, l6_lt, l6_eq, i_le, i_lt, i_eq, tI_0, tI_1, tI_40]); omega) (by decide)) dX11_becomes_64 ?_
      refine WS.aload_n hx dX11_becomes_65 rfl 2 rfl ?_
      refine WS.getR hx okX11 lf11_19 rfl rfl dX11_becomes_66 ?_
      refine WS.iload hx dX11_becomes_69 0 rfl ?_
      refine WS.iconst (v := 1) hx dX11_becomes_71 (by decide) ?_
      refine WS.isub hx dX11_becomes_72 ?_
      refine WS.as rfl rfl (congrArg (fun z => Value.int z :: _) (show (nI k) - 1 = nI (k - 1) from hk9)) ?_
      skip
      refine WS.aload_n hx dX11_becomes_73 rfl 2 rfl ?_
      refine WS.getR hx okX11 lf11_19 rfl rfl dX11_becomes_74 ?_
      refine WS.iload hx dX11_becomes_77 0 rfl ?_
      refine WS.iald hx rfl (vp_in_nI (by (try simp only [l_int, tL_0, tL_1, tL_2, tL_4, tL_5, tL_6, tL_7, tL_9, tL_10, tL_12, tL_15, tL_30, tL_40, tL_60, tL_99, tL_255, tL_1023, tL_m1, lc_lt, lc_gt, lc_ge, lc_le, lc_eq, l6_le, l6_lt, l6_eq, i_le, i_lt, i_eq, tI_0, tI_1, tI_40] at c30); (try simp only [l_int, tL_0, tL_1, tL_2, tL_4, tL_5, tL_6, tL_7, tL_9, tL_10, tL_12, tL_15, tL_30, tL_40, tL_60, tL_99, tL_255, tL_1023, tL_m1, lc_lt, lc_gt, lc_ge, lc_le, lc_eq, l6_le, l6_lt, l6_eq, i_le, i_lt, i_eq, tI_0, tI_1, tI_40]); omega) (by decide)) dX11_becomes_79 ?_
      refine WS.iast hx rfl (vp_in_nI (by (try simp only [l_int, tL_0, tL_1, tL_2, tL_4, tL_5, tL_6, tL_7, tL_9, tL_10, tL_12, tL_15, tL_30, tL_40, tL_60, tL_99, tL_255, tL_1023, tL_m1, lc_lt, lc_gt, lc_ge, lc_le, lc_eq, l6_le, l6_lt, l6_eq, i_le, i_lt, i_eq, tI_0, tI_1, tI_40] at c30); (try simp only [l_int, tL_0, tL_1, tL_2, tL_4, tL_5, tL_6, tL_7, tL_9, tL_10, tL_12, tL_15, tL_30, tL_40, tL_60, tL_99, tL_255, tL_1023, tL_m1, lc_lt, lc_gt, lc_ge, lc_le, lc_eq, l6_le, l6_lt, l6_eq, i_le, i_lt, i_eq, tI_0, tI_1, tI_40]); omega) (by decide)) dX11_becomes_80 ?_
      refine WS.iinc (v := nI (k + 1)) (lo' := [(4, .int (nI (k + 1))), (3, .int was), (0, rf V 0), (1, .int (nI wN)), (2, .int x)]) hx dX11_becomes_81 0 rfl (nI_1 k) (by decide) rfl ?_
      refine WS.goto (tgt := 26) hx dX11_becomes_84 (by decide) ?_
      rw [nI_clamp (show k < 2 ^ 31 by omega), nI_clamp (show k - 1 < 2 ^ 31 by omega)]
      exact WS.los [0, 1, 2, 3, 4] rfl (ih _ (by (try simp only [l_int, tL_0, tL_1, tL_2, tL_4, tL_5, tL_6, tL_7, tL_9, tL_10, tL_12, tL_15, tL_30, tL_40, tL_60, tL_99, tL_255, tL_1023, tL_m1, lc_lt, lc_gt, lc_ge, lc_le, lc_eq, l6_le, l6_lt, l6_eq, i_le, i_lt, i_eq, tI_0, tI_1, tI_40] at c30); (try simp only [l_int, tL_0, tL_1, tL_2, tL_4, tL_5, tL_6, tL_7, tL_9, tL_10, tL_12, tL_15, tL_30, tL_40, tL_60, tL_99, tL_255, tL_1023, tL_m1, lc_lt, lc_gt, lc_ge, lc_le, lc_eq, l6_le, l6_lt, l6_eq, i_le, i_lt, i_eq, tI_0, tI_1, tI_40]); omega) (k + 1) rfl _ (by omega) (by (try simp only [l_int, tL_0, tL_1, tL_2, tL_4, tL_5, tL_6, tL_7, tL_9, tL_10, tL_12, tL_15, tL_30, tL_40, tL_60, tL_99, tL_255, tL_1023, tL_m1, lc_lt, lc_gt, lc_ge, lc_le, lc_eq, l6_le, l6_lt, l6_eq, i_le, i_lt, i_eq, tI_0, tI_1, tI_40] at c30); (try simp only [l_int, tL_0, tL_1, tL_2, tL_4, tL_5, tL_6, tL_7, tL_9, tL_10, tL_12, tL_15, tL_30, tL_40, tL_60, tL_99, tL_255, tL_1023, tL_m1, lc_lt, lc_gt, lc_ge, lc_le, lc_eq, l6_le, l6_lt, l6_eq, i_le, i_lt, i_eq, tI_0, tI_1, tI_40]); omega) (hE.st hk1))
set_option maxHeartbeats 1000000 in
theorem c_X11_becomes (V : Vt) (d : Nat) (σ : Sg) (wN : Nat) (hw : wN < 83) (dn : Nat) (hdn : dn ≤ 40) (h5 : σ.1 0 5 = nI dn) (x : Int32) : CT layM V mX11_becomes (d) [rf V 0, .int (nI wN), .int x] σ (Ri fun v σ' => σ.1 1 wN = v ∧ (σ.1 1 wN = x → σ' = σ) ∧ (¬ σ.1 1 wN = x → (dn < 40 → σ' = bcT σ dn wN (σ.1 1 wN) x) ∧ (¬ dn < 40 → ∃ τ, ShE σ τ 40 ∧ σ' = bcT (stI τ 0 5 39) 39 wN (σ.1 1 wN) x))) := by
  refine CT.of (own := RX11) rfl (by decide) (Nat.le_of_ble_eq_true rfl) (fun X (hx : Ok V RX11 cX11_becomes 5 (d) X) (he : En layM V (some .int) (Ri fun v σ' => σ.1 1 wN = v ∧ (σ.1 1 wN = x → σ' = σ) ∧ (¬ σ.1 1 wN = x → (dn < 40 → σ' = bcT σ dn wN (σ.1 1 wN) x) ∧ (¬ dn < 40 → ∃ τ, ShE σ τ 40 ∧ σ' = bcT (stI τ 0 5 39) 39 wN (σ.1 1 wN) x))) X) => ?_)
  change WS layM V 5 X σ 0 [(0, rf V 0), (1, .int (nI wN)), (2, .int x)] []
  have hdI : (nI dn).toInt = (dn : Int) := nI_c (by omega)
  refine WS.aload_n hx dX11_becomes_0 rfl 0 rfl ?_
  refine WS.getR hx okX11 lf11_9 rfl rfl dX11_becomes_1 ?_
  refine WS.iload_n hx dX11_becomes_4 rfl 1 rfl ?_
  refine WS.iald hx rfl (vp_in_nI (by omega) (by decide)) dX11_becomes_5 ?_
  refine WS.as rfl rfl (congrArg (fun z => Value.int z :: _) (show σ.1 1 (nn (nI wN)) = σ.1 1 wN from by rw [nn_nI (by omega)])) ?_
  skip
  refine WS.istore_n (lo' := [(3, .int (σ.1 1 wN)), (0, rf V 0), (1, .int (nI wN)), (2, .int x)]) hx dX11_becomes_6 rfl (by decide) rfl ?_
  refine WS.iload_n hx dX11_becomes_7 rfl 0 rfl ?_
  refine WS.iload_n hx dX11_becomes_8 rfl 3 rfl ?_
  refine WS.icmp_ne (tgt := 14) hx dX11_becomes_9 (by decide) (fun c9 => ?_) (fun c9 => ?_)
  · skip
    show WS layM V 5 X σ 14 [(3, .int (σ.1 1 wN)), (0, rf V 0), (1, .int (nI wN)), (2, .int x)] []
    refine WS.aload_n hx dX11_becomes_14 rfl 1 rfl ?_
    refine WS.getI hx okX11 lf11_90 rfl rfl dX11_becomes_15 ?_
    refine WS.as rfl rfl (congrArg (fun z => Value.int z :: _) (show σ.1 0 5 = nI dn from h5)) ?_
    skip
    refine WS.bipush (v := 40) hx dX11_becomes_18 (by decide) ?_
    refine WS.icmp_ne (tgt := 97) hx dX11_becomes_20 (by decide) (fun c20 => ?_) (fun c20 => ?_)
    · skip
      show WS layM V 5 X σ 97 [(3, .int (σ.1 1 wN)), (0, rf V 0), (1, .int (nI wN)), (2, .int x)] []
      have hlt : dn < 40 := by (try simp only [l_int, tL_0, tL_1, tL_2, tL_4, tL_5, tL_6, tL_7, tL_9, tL_10, tL_12, tL_15, tL_30, tL_40, tL_60, tL_99, tL_255, tL_1023, tL_m1, lc_lt, lc_gt, lc_ge, lc_le, lc_eq, l6_le, l6_lt, l6_eq, i_le, i_lt, i_eq, tI_0, tI_1, tI_40] at c9); (try simp only [l_int, tL_0, tL_1, tL_2, tL_4, tL_5, tL_6, tL_7, tL_9, tL_10, tL_12, tL_15, tL_30, tL_40, tL_60, tL_99, tL_255, tL_1023, tL_m1, lc_lt, lc_gt, lc_ge, lc_le, lc_eq, l6_le, l6_lt, l6_eq, i_le, i_lt, i_eq, tI_0, tI_1, tI_40] at c20); (try simp only [l_int, tL_0, tL_1, tL_2, tL_4, tL_5, tL_6, tL_7, tL_9, tL_10, tL_12, tL_15, tL_30, tL_40, tL_60, tL_99, tL_255, tL_1023, tL_m1, lc_lt, lc_gt, lc_ge, lc_le, lc_eq, l6_le, l6_lt, l6_eq, i_le, i_lt, i_eq, tI_0, tI_1, tI_40]); omega
      exact WS.los [0, 1, 2, 3] rfl (tl_X11_becomes V d σ wN hw x _ dn hlt h5 _ X hx he ⟨rfl, fun h => absurd h c9, fun _ => ⟨fun _ => rfl, fun h => absurd hlt h⟩⟩)
    · skip
      show WS layM V 5 X σ 23 [(3, .int (σ.1 1 wN)), (0, rf V 0), (1, .int (nI wN)), (2, .int x)] []
      refine WS.iconst (v := 1) hx dX11_becomes_23 (by decide) ?_
      refine WS.istore (lo' := [(4, .int 1), (3, .int (σ.1 1 wN)), (0, rf V 0), (1, .int (nI wN)), (2, .int x)]) hx dX11_becomes_24 (by decide) rfl ?_
      have hd40 : dn = 40 := by (try simp only [l_int, tL_0, tL_1, tL_2, tL_4, tL_5, tL_6, tL_7, tL_9, tL_10, tL_12, tL_15, tL_30, tL_40, tL_60, tL_99, tL_255, tL_1023, tL_m1, lc_lt, lc_gt, lc_ge, lc_le, lc_eq, l6_le, l6_lt, l6_eq, i_le, i_lt, i_eq, tI_0, tI_1, tI_40] at c9); (try simp only [l_int, tL_0, tL_1, tL_2, tL_4, tL_5, tL_6, tL_7, tL_9, tL_10, tL_12, tL_15, tL_30, tL_40, tL_60, tL_99, tL_255, tL_1023, tL_m1, lc_lt, lc_gt, lc_ge, lc_le, lc_eq, l6_le, l6_lt, l6_eq, i_le, i_lt, i_eq, tI_0, tI_1, tI_40] at c20); (try simp only [l_int, tL_0, tL_1, tL_2, tL_4, tL_5, tL_6, tL_7, tL_9, tL_10, tL_12, tL_15, tL_30, tL_40, tL_60, tL_99, tL_255, tL_1023, tL_m1, lc_lt, lc_gt, lc_ge, lc_le, lc_eq, l6_le, l6_lt, l6_eq, i_le, i_lt, i_eq, tI_0, tI_1, tI_40]); omega
      subst hd40
      exact WS.los [0, 1, 2, 3, 4] rfl (lp_X11_becomes V d σ wN hw x _ _ X hx he (fun τ hE => ⟨rfl, fun h => absurd h c9, fun _ => ⟨fun h => absurd h (by decide), fun _ => ⟨τ, hE, rfl⟩⟩⟩) h5 1 σ (by decide) (by decide) ⟨fun _ _ _ _ => rfl, rfl, (shk_1 _).symm, (shk_1 _).symm, (shk_1 _).symm⟩)
  · skip
    show WS layM V 5 X σ 12 [(3, .int (σ.1 1 wN)), (0, rf V 0), (1, .int (nI wN)), (2, .int x)] []
    refine WS.iload_n hx dX11_becomes_12 rfl 0 rfl ?_
    exact WS.iret hx he dX11_becomes_13 ⟨_, rfl, rfl, fun _ => rfl, fun h => absurd c9 h⟩
set_option maxHeartbeats 1000000 in
theorem c_X11_mend (V : Vt) (d : Nat) (σ : Sg) (κ : Sg) (n : Nat) (hM : MR κ σ n) (dn : Nat) (hdn : dn ≤ 40) (h5 : σ.1 0 5 = nI dn) (b q x : Int32) : CT layM V mX11_mend (d + 4) [rf V 0, .int b, .int q, .int x] σ (Ri fun v σ' => (¬ (hasC n b q ∧ isSoC q x) → v = -1 ∧ σ' = σ) ∧ (hasC n b q ∧ isSoC q x → v = κ.1 (numId q) (nn b) ∧ (κ.1 (numId q) (nn b) = x → σ' = σ) ∧ (¬ κ.1 (numId q) (nn b) = x → (dn < 40 → σ' = bcT σ dn (pm b q) (κ.1 (numId q) (nn b)) x) ∧ (¬ dn < 40 → ∃ τ, ShE σ τ 40 ∧ σ' = bcT (stI τ 0 5 39) 39 (pm b q) (κ.1 (numId q) (nn b)) x)))) := by
  refine CT.of (own := RX11) rfl (by decide) (Nat.le_of_ble_eq_true rfl) (fun X (hx : Ok V RX11 cX11_mend 5 (d + 4) X) (he : En layM V (some .int) (Ri fun v σ' => (¬ (hasC n b q ∧ isSoC q x) → v = -1 ∧ σ' = σ) ∧ (hasC n b q ∧ isSoC q x → v = κ.1 (numId q) (nn b) ∧ (κ.1 (numId q) (nn b) = x → σ' = σ) ∧ (¬ κ.1 (numId q) (nn b) = x → (dn < 40 → σ' = bcT σ dn (pm b q) (κ.1 (numId q) (nn b)) x) ∧ (¬ dn < 40 → ∃ τ, ShE σ τ 40 ∧ σ' = bcT (stI τ 0 5 39) 39 (pm b q) (κ.1 (numId q) (nn b)) x)))) X) => ?_)
  change WS layM V 5 X σ 0 [(0, rf V 0), (1, .int b), (2, .int q), (3, .int x)] []
  have hn := hM.n
  have hs := hM.s
  have hnI : (nI n).toInt = (n : Int) := nI_c (by omega)
  have e1 : (nI n - 1).toInt = (n : Int) - 1 := by rw [i_sub (by rw [hnI, tI_1]; omega) (by rw [hnI, tI_1]; omega), hnI, tI_1]
  refine WS.aload_n hx dX11_mend_0 rfl 0 rfl ?_
  refine WS.iload_n hx dX11_mend_1 rfl 1 rfl ?_
  refine WS.iload_n hx dX11_mend_2 rfl 2 rfl ?_
  refine WS.callVi (st := []) [.int b, .int q] hx (c_X11_placeOf V d σ n hs hn b q) okX11_placeOf lm11_136 rfl rfl rfl rfl (Nat.le_of_ble_eq_true rfl) dX11_mend_3 (fun v1 σ2 h3 => ?_)
  rcases h3 with ⟨hc, rfl, rfl⟩ | ⟨hc, rfl, rfl⟩
  · skip
    show WS layM V 5 X σ 6 [(0, rf V 0), (1, .int b), (2, .int q), (3, .int x)] [.int (nI (pm b q))]
    have hlt : pm b q < 83 := by obtain ⟨a1, a2, -⟩ := hasC_N hn hc; exact pN_lt a1 a2
    have hat := hM.at hc
    refine WS.istore (lo' := [(4, .int (nI (pm b q))), (0, rf V 0), (1, .int b), (2, .int q), (3, .int x)]) hx dX11_mend_6 (by decide) rfl ?_
    refine WS.iload hx dX11_mend_8 0 rfl ?_
    refine WS.if_lt (tgt := 31) hx dX11_mend_10 (by decide) (fun h => absurd h (nI_pos (by omega))) (fun c10 => ?_)
    refine WS.iload_n hx dX11_mend_13 rfl 3 rfl ?_
    refine WS.iload_n hx dX11_mend_14 rfl 4 rfl ?_
    refine WS.callSi (st := []) [.int q, .int x] hx (c_X11_mayBecome V (d + 1) σ q x ⟨hc.1, hc.2.1⟩) okX11_mayBecome lm11_140 rfl rfl (Nat.le_of_ble_eq_true rfl) dX11_mend_15 (fun v4 σ5 h6 => ?_)
    rcases h6 with ⟨rfl, rfl, hb15⟩ | ⟨rfl, rfl, hb15⟩
    · skip
      show WS layM V 5 X σ 18 [(4, .int (nI (pm b q))), (0, rf V 0), (1, .int b), (2, .int q), (3, .int x)] [.int 1]
      refine WS.if_eq (tgt := 31) hx dX11_mend_18 (by decide) (fun h => absurd h (by decide)) (fun _ => ?_)
      refine WS.aload_n hx dX11_mend_21 rfl 1 rfl ?_
      refine WS.iload hx dX11_mend_22 0 rfl ?_
      refine WS.iload_n hx dX11_mend_24 rfl 4 rfl ?_
      refine WS.callVi (st := []) [.int (nI (pm b q)), .int x] hx (c_X11_becomes V (d + 3) σ (pm b q) hlt dn hdn h5 x) okX11_becomes lm11_144 rfl rfl rfl rfl (Nat.le_of_ble_eq_true rfl) dX11_mend_25 (fun v7 σ8 h9 => ?_)
      obtain ⟨hv25, bq25, bn25⟩ := h9
      show WS layM V 5 X σ8 28 [(4, .int (nI (pm b q))), (0, rf V 0), (1, .int b), (2, .int q), (3, .int x)] [.int v7]
      refine WS.goto (tgt := 32) hx dX11_mend_28 (by decide) ?_
      exact WS.iret hx he dX11_mend_32 ⟨_, rfl, fun h => absurd ⟨hc, hb15⟩ h, fun _ => by rw [hat] at hv25 bq25 bn25; exact ⟨hv25.symm, bq25, bn25⟩⟩
    · skip
      show WS layM V 5 X σ 18 [(4, .int (nI (pm b q))), (0, rf V 0), (1, .int b), (2, .int q), (3, .int x)] [.int 0]
      refine WS.if_eq (tgt := 31) hx dX11_mend_18 (by decide) (fun _ => ?_) (fun h => absurd (by decide) h)
      refine WS.iconst (v := (-1)) hx dX11_mend_31 (by decide) ?_
      exact WS.iret hx he dX11_mend_32 ⟨_, rfl, fun _ => ⟨rfl, rfl⟩, fun h => by first | exact absurd h.1 hc | exact absurd h.2 hb15⟩
  · skip
    show WS layM V 5 X σ 6 [(0, rf V 0), (1, .int b), (2, .int q), (3, .int x)] [.int (-1)]
    refine WS.istore (lo' := [(4, .int (-1)), (0, rf V 0), (1, .int b), (2, .int q), (3, .int x)]) hx dX11_mend_6 (by decide) rfl ?_
    refine WS.iload hx dX11_mend_8 0 rfl ?_
    refine WS.if_lt (tgt := 31) hx dX11_mend_10 (by decide) (fun _ => ?_) (fun h => absurd (by decide) h)
    refine WS.iconst (v := (-1)) hx dX11_mend_31 (by decide) ?_
    exact WS.iret hx he dX11_mend_32 ⟨_, rfl, fun _ => ⟨rfl, rfl⟩, fun h => by first | exact absurd h.1 hc | exact absurd h.2 hb15⟩
/-- what was mended, in the class and in the model -/
def CR (κ μ : Sg) (n dn u : Nat) : Prop := dn + u ≤ 40 ∧ κ.1 8 5 = nI dn ∧ κ.1 8 6 = nI u ∧ μ.1 0 5 = nI dn ∧ μ.1 0 4 = nI (dn + u) ∧ ∀ p, p < dn + u → hasC n (κ.1 32 p) (κ.1 33 p) ∧ isSoC (κ.1 33 p) (κ.1 34 p) ∧ isSoC (κ.1 33 p) (κ.1 35 p) ∧ μ.1 2 p = nI (pm (κ.1 32 p) (κ.1 33 p)) ∧ μ.1 3 p = κ.1 34 p ∧ μ.1 4 p = κ.1 35 p
def undM (μ : Sg) (p w : Nat) (x : Int32) : Sg := stI (stI μ 0 5 (nI p)) 1 w x
def rdoM (μ : Sg) (p w : Nat) (x : Int32) : Sg := stI (stI μ 1 w x) 0 5 (nI (p + 1))
set_option maxHeartbeats 1000000 in
theorem c_X11_undo (V : Vt) (d : Nat) (σ : Sg) (κ : Sg) (n : Nat) (hM : MR κ σ n) (dn u : Nat) (hC : CR κ σ n dn u) : CT layM V mX11_undo (d) [rf V 0] σ (Ri fun v σ' => if dn = 0 then v = -5 ∧ σ' = σ else v = nI (dn - 1) ∧ σ' = undM σ (dn - 1) (pm (κ.1 32 (dn - 1)) (κ.1 33 (dn - 1))) (κ.1 34 (dn - 1))) := by
  refine CT.of (own := RX11) rfl (by decide) (Nat.le_of_ble_eq_true rfl) (fun X (hx : Ok V RX11 cX11_undo 1 (d) X) (he : En layM V (some .int) (Ri fun v σ' => if dn = 0 then v = -5 ∧ σ' = σ else v = nI (dn - 1) ∧ σ' = undM σ (dn - 1) (pm (κ.1 32 (dn - 1)) (κ.1 33 (dn - 1))) (κ.1 34 (dn - 1))) X) => ?_)
  change WS layM V 1 X σ 0 [(0, rf V 0)] []
  have hn := hM.n
  have hs := hM.s
  have hnI : (nI n).toInt = (n : Int) := nI_c (by omega)
  have e1 : (nI n - 1).toInt = (n : Int) - 1 := by rw [i_sub (by rw [hnI, tI_1]; omega) (by rw [hnI, tI_1]; omega), hnI, tI_1]
  obtain ⟨hdu, k5, k6, h5, h4, hp⟩ := hC
  have hdI : (nI dn).toInt = (dn : Int) := nI_c (by omega)
  have huI : (nI (dn + u)).toInt = ((dn + u : Nat) : Int) := nI_c (by omega)
  refine WS.aload_n hx dX11_undo_0 rfl 0 rfl ?_
  refine WS.getI hx okX11 lf11_90 rfl rfl dX11_undo_1 ?_
  refine WS.as rfl rfl (congrArg (fun z => Value.int z :: _) (show σ.1 0 5 = nI dn from h5)) ?_
  skip
  refine WS.if_ne (tgt := 10) hx dX11_undo_4 (by decide) (fun c4 => ?_) (fun c4 => ?_)
  · skip
    show WS layM V 1 X σ 10 [(0, rf V 0)] []
    have hd1 : 1 ≤ dn := by (try simp only [l_int, tL_0, tL_1, tL_2, tL_4, tL_5, tL_6, tL_7, tL_9, tL_10, tL_12, tL_15, tL_30, tL_40, tL_60, tL_99, tL_255, tL_1023, tL_m1, lc_lt, lc_gt, lc_ge, lc_le, lc_eq, l6_le, l6_lt, l6_eq, i_le, i_lt, i_eq, tI_m5, tI_0, tI_1] at c4); (try simp only [l_int, tL_0, tL_1, tL_2, tL_4, tL_5, tL_6, tL_7, tL_9, tL_10, tL_12, tL_15, tL_30, tL_40, tL_60, tL_99, tL_255, tL_1023, tL_m1, lc_lt, lc_gt, lc_ge, lc_le, lc_eq, l6_le, l6_lt, l6_eq, i_le, i_lt, i_eq, tI_m5, tI_0, tI_1]); omega
    have hq := hp (dn - 1) (by omega)
    have hlt : (pm (κ.1 32 (dn - 1)) (κ.1 33 (dn - 1))) < 83 := by obtain ⟨a1, a2, -⟩ := hasC_N hn hq.1; exact pN_lt a1 a2
    refine WS.aload_n hx dX11_undo_10 rfl 0 rfl ?_
    refine WS.dup hx dX11_undo_11 rfl ?_
    refine WS.getI hx okX11 lf11_90 rfl rfl dX11_undo_12 ?_
    refine WS.as rfl rfl (congrArg (fun z => Value.int z :: _) (show σ.1 0 5 = nI dn from h5)) ?_
    skip
    refine WS.iconst (v := 1) hx dX11_undo_15 (by decide) ?_
    refine WS.isub hx dX11_undo_16 ?_
    refine WS.as rfl rfl (congrArg (fun z => Value.int z :: _) (show (nI dn) - 1 = nI (dn - 1) from pk_sub (by omega))) ?_
    skip
    refine WS.putI hx okX11 lf11_90 rfl rfl rfl rfl dX11_undo_17 ?_
    refine WS.aload_n hx dX11_undo_20 rfl 0 rfl ?_
    refine WS.getR hx okX11 lf11_9 rfl rfl dX11_undo_21 ?_
    refine WS.aload_n hx dX11_undo_24 rfl 0 rfl ?_
    refine WS.getR hx okX11 lf11_13 rfl rfl dX11_undo_25 ?_
    refine WS.aload_n hx dX11_undo_28 rfl 0 rfl ?_
    refine WS.getI hx okX11 lf11_90 rfl rfl dX11_undo_29 ?_
    refine WS.as rfl rfl (congrArg (fun z => Value.int z :: _) (show (stI σ 0 5 (nI (dn - 1))).1 0 5 = nI (dn - 1) from rfl)) ?_
    skip
    refine WS.iald hx rfl (vp_in_nI (by omega) (by decide)) dX11_undo_32 ?_
    refine WS.as rfl rfl (congrArg (fun z => Value.int z :: _) (show (stI σ 0 5 (nI (dn - 1))).1 2 (nn (nI (dn - 1))) = nI (pm (κ.1 32 (dn - 1)) (κ.1 33 (dn - 1))) from by rw [nn_nI (by omega)]; exact hq.2.2.2.1)) ?_
    skip
    refine WS.aload_n hx dX11_undo_33 rfl 0 rfl ?_
    refine WS.getR hx okX11 lf11_16 rfl rfl dX11_undo_34 ?_
    refine WS.aload_n hx dX11_undo_37 rfl 0 rfl ?_
    refine WS.getI hx okX11 lf11_90 rfl rfl dX11_undo_38 ?_
    refine WS.as rfl rfl (congrArg (fun z => Value.int z :: _) (show (stI σ 0 5 (nI (dn - 1))).1 0 5 = nI (dn - 1) from rfl)) ?_
    skip
    refine WS.iald hx rfl (vp_in_nI (by omega) (by decide)) dX11_undo_41 ?_
    refine WS.as rfl rfl (congrArg (fun z => Value.int z :: _) (show (stI σ 0 5 (nI (dn - 1))).1 3 (nn (nI (dn - 1))) = κ.1 34 (dn - 1) from by rw [nn_nI (by omega)]; exact hq.2.2.2.2.1)) ?_
    skip
    refine WS.iast hx rfl (vp_in_nI hlt (by decide)) dX11_undo_42 ?_
    refine WS.aload_n hx dX11_undo_43 rfl 0 rfl ?_
    refine WS.getI hx okX11 lf11_90 rfl rfl dX11_undo_44 ?_
    refine WS.as rfl rfl (congrArg (fun z => Value.int z :: _) (show (stI (stI σ 0 5 (nI (dn - 1))) 1 (nn (nI (pm (κ.1 32 (dn - 1)) (κ.1 33 (dn - 1))))) (κ.1 34 (dn - 1))).1 0 5 = nI (dn - 1) from rfl)) ?_
    skip
    exact WS.iret hx he dX11_undo_47 ⟨_, rfl, by (try dsimp only); rw [if_neg (by omega), nI_clamp (show (pm (κ.1 32 (dn - 1)) (κ.1 33 (dn - 1))) < 2 ^ 31 by omega)]; exact ⟨rfl, rfl⟩⟩
  · skip
    show WS layM V 1 X σ 7 [(0, rf V 0)] []
    refine WS.bipush (v := (-5)) hx dX11_undo_7 (by decide) ?_
    exact WS.iret hx he dX11_undo_9 ⟨_, rfl, by (try dsimp only); rw [if_pos (by (try simp only [l_int, tL_0, tL_1, tL_2, tL_4, tL_5, tL_6, tL_7, tL_9, tL_10, tL_12, tL_15, tL_30, tL_40, tL_60, tL_99, tL_255, tL_1023, tL_m1, lc_lt, lc_gt, lc_ge, lc_le, lc_eq, l6_le, l6_lt, l6_eq, i_le, i_lt, i_eq, tI_m5, tI_0, tI_1] at c4); (try simp only [l_int, tL_0, tL_1, tL_2, tL_4, tL_5, tL_6, tL_7, tL_9, tL_10, tL_12, tL_15, tL_30, tL_40, tL_60, tL_99, tL_255, tL_1023, tL_m1, lc_lt, lc_gt, lc_ge, lc_le, lc_eq, l6_le, l6_lt, l6_eq, i_le, i_lt, i_eq, tI_m5, tI_0, tI_1]); omega)]; exact ⟨rfl, rfl⟩⟩
set_option maxHeartbeats 1000000 in
theorem c_X11_redo (V : Vt) (d : Nat) (σ : Sg) (κ : Sg) (n : Nat) (hM : MR κ σ n) (dn u : Nat) (hC : CR κ σ n dn u) : CT layM V mX11_redo (d) [rf V 0] σ (Ri fun v σ' => if u = 0 then v = -5 ∧ σ' = σ else v = nI (u - 1) ∧ σ' = rdoM σ dn (pm (κ.1 32 dn) (κ.1 33 dn)) (κ.1 35 dn)) := by
  refine CT.of (own := RX11) rfl (by decide) (Nat.le_of_ble_eq_true rfl) (fun X (hx : Ok V RX11 cX11_redo 1 (d) X) (he : En layM V (some .int) (Ri fun v σ' => if u = 0 then v = -5 ∧ σ' = σ else v = nI (u - 1) ∧ σ' = rdoM σ dn (pm (κ.1 32 dn) (κ.1 33 dn)) (κ.1 35 dn)) X) => ?_)
  change WS layM V 1 X σ 0 [(0, rf V 0)] []
  have hn := hM.n
  have hs := hM.s
  have hnI : (nI n).toInt = (n : Int) := nI_c (by omega)
  have e1 : (nI n - 1).toInt = (n : Int) - 1 := by rw [i_sub (by rw [hnI, tI_1]; omega) (by rw [hnI, tI_1]; omega), hnI, tI_1]
  obtain ⟨hdu, k5, k6, h5, h4, hp⟩ := hC
  have hdI : (nI dn).toInt = (dn : Int) := nI_c (by omega)
  have huI : (nI (dn + u)).toInt = ((dn + u : Nat) : Int) := nI_c (by omega)
  refine WS.aload_n hx dX11_redo_0 rfl 0 rfl ?_
  refine WS.getI hx okX11 lf11_90 rfl rfl dX11_redo_1 ?_
  refine WS.as rfl rfl (congrArg (fun z => Value.int z :: _) (show σ.1 0 5 = nI dn from h5)) ?_
  skip
  refine WS.aload_n hx dX11_redo_4 rfl 0 rfl ?_
  refine WS.getI hx okX11 lf11_94 rfl rfl dX11_redo_5 ?_
  refine WS.as rfl rfl (congrArg (fun z => Value.int z :: _) (show σ.1 0 4 = nI (dn + u) from h4)) ?_
  skip
  refine WS.icmp_ne (tgt := 14) hx dX11_redo_8 (by decide) (fun c8 => ?_) (fun c8 => ?_)
  · skip
    show WS layM V 1 X σ 14 [(0, rf V 0)] []
    have hd1 : 1 ≤ u := by (try simp only [l_int, tL_0, tL_1, tL_2, tL_4, tL_5, tL_6, tL_7, tL_9, tL_10, tL_12, tL_15, tL_30, tL_40, tL_60, tL_99, tL_255, tL_1023, tL_m1, lc_lt, lc_gt, lc_ge, lc_le, lc_eq, l6_le, l6_lt, l6_eq, i_le, i_lt, i_eq, tI_m5, tI_0, tI_1] at c8); (try simp only [l_int, tL_0, tL_1, tL_2, tL_4, tL_5, tL_6, tL_7, tL_9, tL_10, tL_12, tL_15, tL_30, tL_40, tL_60, tL_99, tL_255, tL_1023, tL_m1, lc_lt, lc_gt, lc_ge, lc_le, lc_eq, l6_le, l6_lt, l6_eq, i_le, i_lt, i_eq, tI_m5, tI_0, tI_1]); omega
    have hq := hp dn (by omega)
    have hlt : (pm (κ.1 32 dn) (κ.1 33 dn)) < 83 := by obtain ⟨a1, a2, -⟩ := hasC_N hn hq.1; exact pN_lt a1 a2
    refine WS.aload_n hx dX11_redo_14 rfl 0 rfl ?_
    refine WS.getR hx okX11 lf11_9 rfl rfl dX11_redo_15 ?_
    refine WS.aload_n hx dX11_redo_18 rfl 0 rfl ?_
    refine WS.getR hx okX11 lf11_13 rfl rfl dX11_redo_19 ?_
    refine WS.aload_n hx dX11_redo_22 rfl 0 rfl ?_
    refine WS.getI hx okX11 lf11_90 rfl rfl dX11_redo_23 ?_
    refine WS.as rfl rfl (congrArg (fun z => Value.int z :: _) (show σ.1 0 5 = nI dn from h5)) ?_
    skip
    refine WS.iald hx rfl (vp_in_nI (by omega) (by decide)) dX11_redo_26 ?_
    refine WS.as rfl rfl (congrArg (fun z => Value.int z :: _) (show σ.1 2 (nn (nI dn)) = nI (pm (κ.1 32 dn) (κ.1 33 dn)) from by rw [nn_nI (by omega)]; exact hq.2.2.2.1)) ?_
    skip
    refine WS.aload_n hx dX11_redo_27 rfl 0 rfl ?_
    refine WS.getR hx okX11 lf11_19 rfl rfl dX11_redo_28 ?_
    refine WS.aload_n hx dX11_redo_31 rfl 0 rfl ?_
    refine WS.getI hx okX11 lf11_90 rfl rfl dX11_redo_32 ?_
    refine WS.as rfl rfl (congrArg (fun z => Value.int z :: _) (show σ.1 0 5 = nI dn from h5)) ?_
    skip
    refine WS.iald hx rfl (vp_in_nI (by omega) (by decide)) dX11_redo_35 ?_
    refine WS.as rfl rfl (congrArg (fun z => Value.int z :: _) (show σ.1 4 (nn (nI dn)) = κ.1 35 dn from by rw [nn_nI (by omega)]; exact hq.2.2.2.2.2)) ?_
    skip
    refine WS.iast hx rfl (vp_in_nI hlt (by decide)) dX11_redo_36 ?_
    refine WS.aload_n hx dX11_redo_37 rfl 0 rfl ?_
    refine WS.dup hx dX11_redo_38 rfl ?_
    refine WS.getI hx okX11 lf11_90 rfl rfl dX11_redo_39 ?_
    refine WS.as rfl rfl (congrArg (fun z => Value.int z :: _) (show (stI σ 1 (nn (nI (pm (κ.1 32 dn) (κ.1 33 dn)))) (κ.1 35 dn)).1 0 5 = nI dn from h5)) ?_
    skip
    refine WS.iconst (v := 1) hx dX11_redo_42 (by decide) ?_
    refine WS.iadd hx dX11_redo_43 ?_
    refine WS.as rfl rfl (congrArg (fun z => Value.int z :: _) (show (nI dn) + 1 = nI (dn + 1) from nI_1 dn)) ?_
    skip
    refine WS.putI hx okX11 lf11_90 rfl rfl rfl rfl dX11_redo_44 ?_
    refine WS.aload_n hx dX11_redo_47 rfl 0 rfl ?_
    refine WS.getI hx okX11 lf11_94 rfl rfl dX11_redo_48 ?_
    refine WS.as rfl rfl (congrArg (fun z => Value.int z :: _) (show (stI (stI σ 1 (nn (nI (pm (κ.1 32 dn) (κ.1 33 dn)))) (κ.1 35 dn)) 0 5 (nI (dn + 1))).1 0 4 = nI (dn + u) from h4)) ?_
    skip
    refine WS.aload_n hx dX11_redo_51 rfl 0 rfl ?_
    refine WS.getI hx okX11 lf11_90 rfl rfl dX11_redo_52 ?_
    refine WS.as rfl rfl (congrArg (fun z => Value.int z :: _) (show (stI (stI σ 1 (nn (nI (pm (κ.1 32 dn) (κ.1 33 dn)))) (κ.1 35 dn)) 0 5 (nI (dn + 1))).1 0 5 = nI (dn + 1) from rfl)) ?_
    skip
    refine WS.isub hx dX11_redo_55 ?_
    refine WS.as rfl rfl (congrArg (fun z => Value.int z :: _) (show (nI (dn + u)) - (nI (dn + 1)) = nI (u - 1) from by rw [pk_sub (by omega)]; congr 1; omega)) ?_
    skip
    exact WS.iret hx he dX11_redo_56 ⟨_, rfl, by (try dsimp only); rw [if_neg (by omega), nI_clamp (show (pm (κ.1 32 dn) (κ.1 33 dn)) < 2 ^ 31 by omega)]; exact ⟨rfl, rfl⟩⟩
  · skip
    show WS layM V 1 X σ 11 [(0, rf V 0)] []
    refine WS.bipush (v := (-5)) hx dX11_redo_11 (by decide) ?_
    exact WS.iret hx he dX11_redo_13 ⟨_, rfl, by (try dsimp only); rw [if_pos (by (try simp only [l_int, tL_0, tL_1, tL_2, tL_4, tL_5, tL_6, tL_7, tL_9, tL_10, tL_12, tL_15, tL_30, tL_40, tL_60, tL_99, tL_255, tL_1023, tL_m1, lc_lt, lc_gt, lc_ge, lc_le, lc_eq, l6_le, l6_lt, l6_eq, i_le, i_lt, i_eq, tI_m5, tI_0, tI_1] at c8); (try simp only [l_int, tL_0, tL_1, tL_2, tL_4, tL_5, tL_6, tL_7, tL_9, tL_10, tL_12, tL_15, tL_30, tL_40, tL_60, tL_99, tL_255, tL_1023, tL_m1, lc_lt, lc_gt, lc_ge, lc_le, lc_eq, l6_le, l6_lt, l6_eq, i_le, i_lt, i_eq, tI_m5, tI_0, tI_1]); omega)]; exact ⟨rfl, rfl⟩⟩

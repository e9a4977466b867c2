/-- the best order of openings: the order tried, the best, how many unlike words -/
abbrev Od : Type := (Nat → Int32) × (Nat → Int32) × Int32
def kib (ol : Nat) (x : Int32) (s : Od) : Od := if x ≤ s.2.2 then s else (s.1, va_cpy s.1 s.2.1 0 0 ol, x)
def fdN (f : Nat → Od → Od) : Nat → Nat → Od → Od
  | 0, _, s => s
  | u + 1, i, s => fdN f u (i + 1) (f i s)
def tryF (sd : Nat → Int32) (n ol : Nat) : Nat → Nat → Int32 → Int32 → Od → Od
  | 0, _, _, wd, s => kib ol (bcF wd) s
  | r + 1, dp, cl, wd, s => fdN (fun i s => if bitP cl i = true then tryF sd n ol r (dp + 1) (clr cl i) (wd ||| ((1 : Int32) <<< (sd (10 * dp + i) &&& 31))) (upd s.1 dp (nI i), s.2) else s) n 0 s
def OE (σ τ : Sg) (ol : Nat) (s : Od) : Prop := (∀ q, q ≠ 5 → q ≠ 25 → q ≠ 26 → τ.1 q = σ.1 q) ∧ τ.2 = σ.2 ∧ τ.1 5 5 = nI ol ∧ τ.1 5 6 = s.2.2 ∧ τ.1 25 = s.1 ∧ τ.1 26 = s.2.1
theorem OE.se {σ τ : Sg} {ol : Nat} {s : Od} (h : OE σ τ ol s) : SE σ τ := ⟨fun q hq => h.1 q (by unfold scr at hq; omega) (by unfold scr at hq; omega) (by unfold scr at hq; omega), h.2.1⟩
def kibQ (σ : Sg) (ol : Nat) (x : Int32) : Sg := if x ≤ σ.1 5 6 then σ else stR (stI σ 5 6 x) 26 (va_cpy (σ.1 25) (σ.1 26) 0 0 ol)
theorem OE.kb {σ τ : Sg} {ol : Nat} {s : Od} (h : OE σ τ ol s) (x : Int32) : OE σ (kibQ τ ol x) ol (kib ol x s) := by
  obtain ⟨h1, h2, h3, h4, h5, h6⟩ := h
  unfold kibQ kib
  rw [h4]
  by_cases c : x ≤ s.2.2
  · rw [if_pos c, if_pos c]; exact ⟨h1, h2, h3, h4, h5, h6⟩
  · rw [if_neg c, if_neg c]
    exact ⟨fun q a b e => (stR_o _ _ _ e).trans ((stI_o _ _ _ _ a).trans (h1 q a b e)), h2, h3, rfl, h5, by rw [stR_1, h5, h6]⟩
set_option maxHeartbeats 1000000 in
theorem c_X6_keepIfBetter (V : Vt) (d : Nat) (σ : Sg) (ol : Nat) (hol : ol ≤ 4) (h5 : σ.1 5 5 = nI ol) (x : Int32) : CT layC V mX6_keepIfBetter (d + 1) [rf V 5, .int x] σ (Rvo (kibQ σ ol x)) := by
  refine CT.of (own := RX6) rfl (by decide) (Nat.le_of_ble_eq_true rfl) (fun X (hx : Ok V RX6 cX6_keepIfBetter 2 (d + 1) X) (he : En layC V none (Rvo (kibQ σ ol x)) X) => ?_)
  change WS layC V 2 X σ 0 [(0, rf V 5), (1, .int x)] []
  have hoI : (nI ol).toInt = (ol : Int) := nI_c (by omega)
  refine WS.iload_n hx dX6_keepIfBetter_0 rfl 1 rfl ?_
  refine WS.aload_n hx dX6_keepIfBetter_1 rfl 0 rfl ?_
  refine WS.getI hx okX6 lf6_72 rfl rfl dX6_keepIfBetter_2 ?_
  refine WS.icmp_gt (tgt := 9) hx dX6_keepIfBetter_5 (by decide) (fun c5 => ?_) (fun c5 => ?_)
  · skip
    show WS layC V 2 X σ 9 [(0, rf V 5), (1, .int x)] []
    refine WS.aload_n hx dX6_keepIfBetter_9 rfl 0 rfl ?_
    refine WS.iload_n hx dX6_keepIfBetter_10 rfl 1 rfl ?_
    refine WS.putI hx okX6 lf6_72 rfl rfl rfl rfl dX6_keepIfBetter_11 ?_
    refine WS.aload_n hx dX6_keepIfBetter_14 rfl 0 rfl ?_
    refine WS.getR hx okX6 lf6_15 rfl rfl dX6_keepIfBetter_15 ?_
    refine WS.iconst (v := 0) hx dX6_keepIfBetter_18 (by decide) ?_
    refine WS.aload_n hx dX6_keepIfBetter_19 rfl 0 rfl ?_
    refine WS.getR hx okX6 lf6_18 rfl rfl dX6_keepIfBetter_20 ?_
    refine WS.iconst (v := 0) hx dX6_keepIfBetter_23 (by decide) ?_
    refine WS.aload_n hx dX6_keepIfBetter_24 rfl 0 rfl ?_
    refine WS.getI hx okX6 lf6_76 rfl rfl dX6_keepIfBetter_25 ?_
    refine WS.as rfl rfl (congrArg (fun z => Value.int z :: _) (show (stI σ 5 6 x).1 5 5 = nI ol from h5)) ?_
    skip
    refine WS.copyI (n0 := 4) (n1 := 4) hx lm6_104 arraycopy_nat arraycopy_st sys_in rfl rfl (by decide) (by decide) (by rw [i_lt, hoI, tI_0]; omega) (show 0 + nn (nI ol) ≤ 4 by rw [nn_nI (by omega)]; omega) (show 0 + nn (nI ol) ≤ 4 by rw [nn_nI (by omega)]; omega) (Nat.le_of_ble_eq_true rfl) dX6_keepIfBetter_28 ?_
    show WS layC V 2 X (stR (stI σ 5 6 x) 26 (va_cpy ((stI σ 5 6 x).1 25) ((stI σ 5 6 x).1 26) 0 0 (nn (nI ol)))) 31 [(0, rf V 5), (1, .int x)] []
    exact WS.vret hx he dX6_keepIfBetter_31 (Rvo.s (by unfold kibQ; rw [if_neg (Int32.not_le.mpr c5), nn_nI (by omega)]; rfl))
  · skip
    show WS layC V 2 X σ 8 [(0, rf V 5), (1, .int x)] []
    exact WS.vret hx he dX6_keepIfBetter_8 (Rvo.s (if_pos (Int32.not_lt.mp c5)))
set_option maxHeartbeats 1000000 in
theorem c_X6_tryOrders0 (V : Vt) (d : Nat) (σ : Sg) (σ0 : Sg) (n : Nat) (hQ : QI σ0 n) (ol : Nat) (hol : ol ≤ 4) (dp : Nat) (hdp : dp = ol) (cl wd : Int32) (s : Od) (hE : OE σ0 σ ol s) : CT layC V mX6_tryOrders (d + 2) [rf V 5, .int (nI dp), .int cl, .int wd] σ (Rv fun σ' => OE σ0 σ' ol (tryF (σ0.1 24) n ol 0 dp cl wd s)) := by
  refine CT.of (own := RX6) rfl (by decide) (Nat.le_of_ble_eq_true rfl) (fun X (hx : Ok V RX6 cX6_tryOrders 5 (d + 2) X) (he : En layC V none (Rv fun σ' => OE σ0 σ' ol (tryF (σ0.1 24) n ol 0 dp cl wd s)) X) => ?_)
  change WS layC V 5 X σ 0 [(0, rf V 5), (1, .int (nI dp)), (2, .int cl), (3, .int wd)] []
  have hdI : (nI dp).toInt = (dp : Int) := nI_c (by omega)
  have hoI : (nI ol).toInt = (ol : Int) := nI_c (by omega)
  refine WS.iload_n hx dX6_tryOrders_0 rfl 1 rfl ?_
  refine WS.aload_n hx dX6_tryOrders_1 rfl 0 rfl ?_
  refine WS.getI hx okX6 lf6_76 rfl rfl dX6_tryOrders_2 ?_
  refine WS.as rfl rfl (congrArg (fun z => Value.int z :: _) (show σ.1 5 5 = nI ol from hE.2.2.1)) ?_
  skip
  refine WS.icmp_lt (tgt := 17) hx dX6_tryOrders_5 (by decide) (fun c5 => by exfalso; (try simp only [i_le, i_lt, i_eq, tI_m1, tI_0, tI_1, tI_10] at c5); (try simp only [i_le, i_lt, i_eq, tI_m1, tI_0, tI_1, tI_10]); omega) (fun c5 => ?_)
  refine WS.aload_n hx dX6_tryOrders_8 rfl 0 rfl ?_
  refine WS.iload_n hx dX6_tryOrders_9 rfl 3 rfl ?_
  refine WS.callSi (st := [rf V 5]) [.int wd] hx (c_J_bits V (d + 1) σ wd) okJ_bits lm6_60 rfl rfl (Nat.le_of_ble_eq_true rfl) dX6_tryOrders_10 (fun v1 σ2 h3 => ?_)
  obtain ⟨rfl, rfl⟩ := h3
  show WS layC V 5 X σ 13 [(0, rf V 5), (1, .int (nI dp)), (2, .int cl), (3, .int wd)] [.int (bcF wd), rf V 5]
  refine WS.callVv (st := []) [.int (bcF wd)] hx (c_X6_keepIfBetter V d σ ol hol hE.2.2.1 (bcF wd)) okX6_keepIfBetter lm6_101 rfl rfl rfl rfl (Nat.le_of_ble_eq_true rfl) dX6_tryOrders_13 (fun σ5 h6 => ?_)
  obtain rfl := h6
  show WS layC V 5 X (kibQ σ ol (bcF wd)) 16 [(0, rf V 5), (1, .int (nI dp)), (2, .int cl), (3, .int wd)] []
  exact WS.vret hx he dX6_tryOrders_16 ⟨rfl, hE.kb _⟩
set_option maxHeartbeats 1000000 in
theorem lp_X6_tryOrders (V : Vt) (d : Nat) (σ0 : Sg) (n : Nat) (hQ : QI σ0 n) (ol : Nat) (hol : ol ≤ 4) (dp r : Nat) (hdp : dp + (r + 1) = ol) (hT : ∀ (cl wd : Int32) (s : Od) (τ : Sg), OE σ0 τ ol s → CT layC V mX6_tryOrders (d + 2) [rf V 5, .int (nI (dp + 1)), .int cl, .int wd] τ (Rv fun σ' => OE σ0 σ' ol (tryF (σ0.1 24) n ol r (dp + 1) cl wd s))) (cl wd : Int32) (sF : Od) (X : Xt) (hx : Ok V RX6 cX6_tryOrders 5 (d + 3) X) (he : En layC V none (Rv fun σ' => OE σ0 σ' ol sF) X) : ∀ (u i : Nat) (s : Od) (τ : Sg), i + u = n → OE σ0 τ ol s → fdN (fun i s => if bitP cl i = true then tryF (σ0.1 24) n ol r (dp + 1) (clr cl i) (wd ||| ((1 : Int32) <<< (σ0.1 24 (10 * dp + i) &&& 31))) (upd s.1 dp (nI i), s.2) else s) u i s = sF → WS layC V 5 X τ 20 [(4, .int (nI i)), (0, rf V 5), (1, .int (nI dp)), (2, .int cl), (3, .int wd)] [] := by
  have hn10 := hQ.n
  have hnI : (nI n).toInt = (n : Int) := nI_c (by omega)
  intro u
  induction u with
  | zero =>
    intro i s τ hiu hE hf
    have hiI : (nI i).toInt = (i : Int) := nI_c (by omega)
    refine WS.iload hx dX6_tryOrders_20 0 rfl ?_
    refine WS.aload_n hx dX6_tryOrders_22 rfl 1 rfl ?_
    refine WS.getR hx okX6 lf6_21 rfl rfl dX6_tryOrders_23 ?_
    refine WS.callVi (st := [.int (nI i)]) [] hx (c_X7_size V (d + 2) τ n (hQ.se hE.se)) okX7_size lm6_34 rfl rfl rfl rfl (Nat.le_of_ble_eq_true rfl) dX6_tryOrders_26 (fun v1 σ2 h3 => ?_)
    obtain ⟨rfl, rfl⟩ := h3
    show WS layC V 5 X τ 29 [(4, .int (nI i)), (0, rf V 5), (1, .int (nI dp)), (2, .int cl), (3, .int wd)] [.int (nI n), .int (nI i)]
    refine WS.icmp_ge (tgt := 87) hx dX6_tryOrders_29 (by decide) (fun c29 => ?_) (fun c29 => by exfalso; (try simp only [i_le, i_lt, i_eq, tI_m1, tI_0, tI_1, tI_10] at c29); (try simp only [i_le, i_lt, i_eq, tI_m1, tI_0, tI_1, tI_10]); omega)
    exact WS.vret hx he dX6_tryOrders_87 ⟨rfl, by rw [← hf]; exact hE⟩
  | succ u ih =>
    intro i s τ hiu hE hf
    have hiI : (nI i).toInt = (i : Int) := nI_c (by omega)
    obtain ⟨h1, h2, h3, h4, h5, h6⟩ := id hE
    have h24 : τ.1 24 = σ0.1 24 := h1 24 (by decide) (by decide) (by decide)
    have hix : nI dp * 10 + nI i = nI (10 * dp + i) := by rw [show (10 : Int32) = nI 10 from rfl, pk_mul, nI_add, Nat.mul_comm]
    refine WS.iload hx dX6_tryOrders_20 0 rfl ?_
    refine WS.aload_n hx dX6_tryOrders_22 rfl 1 rfl ?_
    refine WS.getR hx okX6 lf6_21 rfl rfl dX6_tryOrders_23 ?_
    refine WS.callVi (st := [.int (nI i)]) [] hx (c_X7_size V (d + 2) τ n (hQ.se hE.se)) okX7_size lm6_34 rfl rfl rfl rfl (Nat.le_of_ble_eq_true rfl) dX6_tryOrders_26 (fun v1 σ2 h3 => ?_)
    obtain ⟨rfl, rfl⟩ := h3
    show WS layC V 5 X τ 29 [(4, .int (nI i)), (0, rf V 5), (1, .int (nI dp)), (2, .int cl), (3, .int wd)] [.int (nI n), .int (nI i)]
    refine WS.icmp_ge (tgt := 87) hx dX6_tryOrders_29 (by decide) (fun c29 => by exfalso; (try simp only [i_le, i_lt, i_eq, tI_m1, tI_0, tI_1, tI_10] at c29); (try simp only [i_le, i_lt, i_eq, tI_m1, tI_0, tI_1, tI_10]); omega) (fun c29 => ?_)
    refine WS.iload_n hx dX6_tryOrders_32 rfl 3 rfl ?_
    refine WS.iload hx dX6_tryOrders_33 0 rfl ?_
    refine WS.ishr hx dX6_tryOrders_35 ?_
    refine WS.iconst (v := 1) hx dX6_tryOrders_36 (by decide) ?_
    refine WS.iand hx dX6_tryOrders_37 ?_
    refine WS.iconst (v := 1) hx dX6_tryOrders_38 (by decide) ?_
    refine WS.icmp_ne (tgt := 81) hx dX6_tryOrders_39 (by decide) (fun c39 => ?_) (fun c39 => ?_)
    · skip
      show WS layC V 5 X τ 81 [(4, .int (nI i)), (0, rf V 5), (1, .int (nI dp)), (2, .int cl), (3, .int wd)] []
      refine WS.iinc (v := nI (i + 1)) (lo' := [(4, .int (nI (i + 1))), (0, rf V 5), (1, .int (nI dp)), (2, .int cl), (3, .int wd)]) hx dX6_tryOrders_81 0 rfl (nI_1 i) (by decide) rfl ?_
      refine WS.goto (tgt := 20) hx dX6_tryOrders_84 (by decide) ?_
      have hf2 : fdN (fun i s => if bitP cl i = true then tryF (σ0.1 24) n ol r (dp + 1) (clr cl i) (wd ||| ((1 : Int32) <<< (σ0.1 24 (10 * dp + i) &&& 31))) (upd s.1 dp (nI i), s.2) else s) u (i + 1) s = sF := by rw [← hf]; show _ = fdN _ u (i + 1) (if _ then _ else _); rw [if_neg (by unfold bitP; rw [decide_eq_true_eq]; exact c39)]
      exact WS.los [0, 1, 2, 3, 4] rfl (ih (i + 1) s τ (by omega) hE hf2)
    · skip
      show WS layC V 5 X τ 42 [(4, .int (nI i)), (0, rf V 5), (1, .int (nI dp)), (2, .int cl), (3, .int wd)] []
      refine WS.aload_n hx dX6_tryOrders_42 rfl 1 rfl ?_
      refine WS.getR hx okX6 lf6_15 rfl rfl dX6_tryOrders_43 ?_
      refine WS.iload_n hx dX6_tryOrders_46 rfl 2 rfl ?_
      refine WS.iload hx dX6_tryOrders_47 0 rfl ?_
      refine WS.iast hx rfl (vp_in_nI (by omega) (by decide)) dX6_tryOrders_49 ?_
      refine WS.aload_n hx dX6_tryOrders_50 rfl 1 rfl ?_
      refine WS.iload_n hx dX6_tryOrders_51 rfl 2 rfl ?_
      refine WS.iconst (v := 1) hx dX6_tryOrders_52 (by decide) ?_
      refine WS.iadd hx dX6_tryOrders_53 ?_
      refine WS.as rfl rfl (congrArg (fun z => Value.int z :: _) (show (nI dp) + 1 = nI (dp + 1) from nI_1 dp)) ?_
      skip
      refine WS.iload_n hx dX6_tryOrders_54 rfl 3 rfl ?_
      refine WS.iconst (v := 1) hx dX6_tryOrders_55 (by decide) ?_
      refine WS.iload hx dX6_tryOrders_56 0 rfl ?_
      refine WS.ishl hx dX6_tryOrders_58 ?_
      refine WS.iconst (v := (-1)) hx dX6_tryOrders_59 (by decide) ?_
      refine WS.ixor hx dX6_tryOrders_60 ?_
      refine WS.iand hx dX6_tryOrders_61 ?_
      refine WS.as rfl rfl (congrArg (fun z => Value.int z :: _) (show cl &&& ((1 <<< ((nI i) &&& 31)) ^^^ (-1)) = clr cl i from rfl)) ?_
      skip
      refine WS.iload_n hx dX6_tryOrders_62 rfl 4 rfl ?_
      refine WS.iconst (v := 1) hx dX6_tryOrders_63 (by decide) ?_
      refine WS.aload_n hx dX6_tryOrders_64 rfl 1 rfl ?_
      refine WS.getR hx okX6 lf6_9 rfl rfl dX6_tryOrders_65 ?_
      refine WS.iload_n hx dX6_tryOrders_68 rfl 2 rfl ?_
      refine WS.bipush (v := 10) hx dX6_tryOrders_69 (by decide) ?_
      refine WS.imul hx dX6_tryOrders_71 ?_
      refine WS.iload hx dX6_tryOrders_72 0 rfl ?_
      refine WS.iadd hx dX6_tryOrders_74 ?_
      refine WS.as rfl rfl (congrArg (fun z => Value.int z :: _) (show ((nI dp) * 10) + (nI i) = nI (10 * dp + i) from hix)) ?_
      skip
      refine WS.iald hx rfl (vp_in_nI (by omega) (by decide)) dX6_tryOrders_75 ?_
      refine WS.as rfl rfl (congrArg (fun z => Value.int z :: _) (show (stI τ 25 (nn (nI dp)) (nI i)).1 24 (nn (nI (10 * dp + i))) = σ0.1 24 (10 * dp + i) from by rw [nn_nI (show 10 * dp + i < 2 ^ 31 by omega), ← h24]; rfl)) ?_
      skip
      refine WS.ishl hx dX6_tryOrders_76 ?_
      refine WS.ior hx dX6_tryOrders_77 ?_
      refine WS.callVv (st := []) [.int (nI (dp + 1)), .int (clr cl i), .int (wd ||| (1 <<< ((σ0.1 24 (10 * dp + i)) &&& 31)))] hx (hT (clr cl i) (wd ||| (1 <<< ((σ0.1 24 (10 * dp + i)) &&& 31))) (upd s.1 dp (nI i), s.2) _ ⟨fun q a b e => (stI_o _ _ _ _ b).trans (h1 q a b e), h2, h3, h4, by rw [nI_clamp (show dp < 2 ^ 31 by omega), ← h5]; simp [stI, va_up], h6⟩) okX6_tryOrders lm6_88 rfl rfl rfl rfl (Nat.le_of_ble_eq_true rfl) dX6_tryOrders_78 (fun σ5 h6 => ?_)
      have oe78 := h6
      show WS layC V 5 X σ5 81 [(4, .int (nI i)), (0, rf V 5), (1, .int (nI dp)), (2, .int cl), (3, .int wd)] []
      refine WS.iinc (v := nI (i + 1)) (lo' := [(4, .int (nI (i + 1))), (0, rf V 5), (1, .int (nI dp)), (2, .int cl), (3, .int wd)]) hx dX6_tryOrders_81 0 rfl (nI_1 i) (by decide) rfl ?_
      refine WS.goto (tgt := 20) hx dX6_tryOrders_84 (by decide) ?_
      have hf2 : fdN (fun i s => if bitP cl i = true then tryF (σ0.1 24) n ol r (dp + 1) (clr cl i) (wd ||| ((1 : Int32) <<< (σ0.1 24 (10 * dp + i) &&& 31))) (upd s.1 dp (nI i), s.2) else s) u (i + 1) (tryF (σ0.1 24) n ol r (dp + 1) (clr cl i) (wd ||| ((1 : Int32) <<< (σ0.1 24 (10 * dp + i) &&& 31))) (upd s.1 dp (nI i), s.2)) = sF := by rw [← hf]; show _ = fdN _ u (i + 1) (if _ then _ else _); rw [if_pos (by unfold bitP; rw [decide_eq_true_eq]; exact c39)]
      exact WS.los [0, 1, 2, 3, 4] rfl (ih (i + 1) _ σ5 (by omega) oe78 hf2)
set_option maxHeartbeats 1000000 in
theorem c_X6_tryOrdersS (V : Vt) (d : Nat) (σ : Sg) (σ0 : Sg) (n : Nat) (hQ : QI σ0 n) (ol : Nat) (hol : ol ≤ 4) (dp r : Nat) (hdp : dp + (r + 1) = ol) (hT : ∀ (cl wd : Int32) (s : Od) (τ : Sg), OE σ0 τ ol s → CT layC V mX6_tryOrders (d + 2) [rf V 5, .int (nI (dp + 1)), .int cl, .int wd] τ (Rv fun σ' => OE σ0 σ' ol (tryF (σ0.1 24) n ol r (dp + 1) cl wd s))) (cl wd : Int32) (s : Od) (hE : OE σ0 σ ol s) : CT layC V mX6_tryOrders (d + 3) [rf V 5, .int (nI dp), .int cl, .int wd] σ (Rv fun σ' => OE σ0 σ' ol (tryF (σ0.1 24) n ol (r + 1) dp cl wd s)) := by
  refine CT.of (own := RX6) rfl (by decide) (Nat.le_of_ble_eq_true rfl) (fun X (hx : Ok V RX6 cX6_tryOrders 5 (d + 3) X) (he : En layC V none (Rv fun σ' => OE σ0 σ' ol (tryF (σ0.1 24) n ol (r + 1) dp cl wd s)) X) => ?_)
  change WS layC V 5 X σ 0 [(0, rf V 5), (1, .int (nI dp)), (2, .int cl), (3, .int wd)] []
  have hdI : (nI dp).toInt = (dp : Int) := nI_c (by omega)
  have hoI : (nI ol).toInt = (ol : Int) := nI_c (by omega)
  refine WS.iload_n hx dX6_tryOrders_0 rfl 1 rfl ?_
  refine WS.aload_n hx dX6_tryOrders_1 rfl 0 rfl ?_
  refine WS.getI hx okX6 lf6_76 rfl rfl dX6_tryOrders_2 ?_
  refine WS.as rfl rfl (congrArg (fun z => Value.int z :: _) (show σ.1 5 5 = nI ol from hE.2.2.1)) ?_
  skip
  refine WS.icmp_lt (tgt := 17) hx dX6_tryOrders_5 (by decide) (fun c5 => ?_) (fun c5 => by exfalso; (try simp only [i_le, i_lt, i_eq, tI_m1, tI_0, tI_1, tI_10] at c5); (try simp only [i_le, i_lt, i_eq, tI_m1, tI_0, tI_1, tI_10]); omega)
  refine WS.iconst (v := 0) hx dX6_tryOrders_17 (by decide) ?_
  refine WS.istore (lo' := [(4, .int 0), (0, rf V 5), (1, .int (nI dp)), (2, .int cl), (3, .int wd)]) hx dX6_tryOrders_18 (by decide) rfl ?_
  exact WS.los [0, 1, 2, 3, 4] rfl (lp_X6_tryOrders V d σ0 n hQ ol hol dp r hdp hT cl wd _ X hx he n 0 s σ (Nat.zero_add n) hE rfl)
theorem c_X6_tryOrders (V : Vt) (σ0 : Sg) (n : Nat) (hQ : QI σ0 n) (ol : Nat) (hol : ol ≤ 4) : ∀ (r d dp : Nat), dp + r = ol → ∀ (cl wd : Int32) (s : Od) (τ : Sg), OE σ0 τ ol s → CT layC V mX6_tryOrders (d + r + 2) [rf V 5, .int (nI dp), .int cl, .int wd] τ (Rv fun σ' => OE σ0 σ' ol (tryF (σ0.1 24) n ol r dp cl wd s))
  | 0, d, dp, hdp, cl, wd, s, τ, hE => c_X6_tryOrders0 V (d + 0) τ σ0 n hQ ol hol dp hdp cl wd s hE
  | r + 1, d, dp, hdp, cl, wd, s, τ, hE => by
    have h := c_X6_tryOrdersS V (d + r) τ σ0 n hQ ol hol dp r hdp (fun cl wd s τ hE => c_X6_tryOrders V σ0 n hQ ol hol r d (dp + 1) (by omega) cl wd s τ hE) cl wd s hE
    rw [show d + r + 3 = d + (r + 1) + 2 by omega] at h
    exact h
/-- all words foretold -/
def ftB (W : Wd) (n : Nat) (f : Nat → Int32) : Nat → Int32 := fun j => if j % 10 < n ∧ j / 10 < 4 then W.2.2.1 (ftS W (j % 10) (j / 10)).1 else f j
def ftC (W : Wd) (f : Nat → Int32) (i : Nat) : Nat → Int32 := fun j => if j % 10 < i ∧ j / 10 < 4 then W.2.2.1 (ftS W (j % 10) (j / 10)).1 else f j
theorem ftC_s {W : Wd} {f : Nat → Int32} {i : Nat} : ftA W i (ftC W f i) 4 = ftC W f (i + 1) := by
  funext j
  unfold ftA ftC
  by_cases e : j % 10 = i ∧ j / 10 < 4
  · rw [if_pos e, if_pos (by omega), e.1]
  · rw [if_neg e]
    by_cases e2 : j % 10 < i ∧ j / 10 < 4
    · rw [if_pos e2, if_pos (by omega)]
    · rw [if_neg e2, if_neg (by omega)]
def skF (σ : Sg) (n m c k : Nat) : Od := tryF (ftC (wdS σ n m c) (σ.1 24) n) n (min (min k (n - cnt (σ.1 14) n)) 4) (min (min k (n - cnt (σ.1 14) n)) 4) 0 (orW (fun b => decide (¬ σ.1 14 b = 1)) nI n) 0 (σ.1 25, σ.1 26, -1)
theorem mn_nI {a b : Nat} (ha : a ≤ 2147483647) (hb : b ≤ 2147483647) : mn (nI a) (nI b) = nI (min a b) := by
  have h1 := nI_c ha
  have h2 := nI_c hb
  unfold mn
  by_cases c : nI b < nI a
  · rw [if_pos c]; rw [i_lt] at c; rw [show min a b = b by omega]
  · rw [if_neg c]; rw [i_lt] at c; rw [show min a b = a by omega]
set_option maxHeartbeats 1000000 in
theorem lp_X6_seekBestOrder (V : Vt) (d : Nat) (σ : Sg) (n : Nat) (hQ : QI σ n) (m c : Nat) (hL : LI V σ m c) (k : Nat) (hk : k ≤ 4) (X : Xt) (hx : Ok V RX6 cX6_seekBestOrder 3 (d + 7) X) (he : En layC V none (Rv fun σ' => SE σ σ' ∧ LI V σ' m c ∧ σ'.1 5 5 = nI (min (min k (n - cnt (σ.1 14) n)) 4) ∧ σ'.1 5 6 = (skF σ n m c k).2.2 ∧ σ'.1 26 = (skF σ n m c k).2.1) X) : ∀ (i : Nat) (τ : Sg), i ≤ n → SE σ τ ∧ τ.1 5 5 = nI (min (min k (n - cnt (σ.1 14) n)) 4) ∧ τ.1 5 6 = -1 ∧ τ.1 25 = σ.1 25 ∧ τ.1 26 = σ.1 26 ∧ τ.1 24 = ftC (wdS σ n m c) (σ.1 24) i → LI V τ m c → WS layC V 3 X τ 23 [(2, .int (nI i)), (0, rf V 5), (1, .int (nI k))] [] := by
  intro i
  induction hm : n - i using Nat.strongRecOn generalizing i with
  | _ m9 ih =>
    intro τ hi hE hLt
    obtain ⟨h1, h2, h3, h4, h5, h6⟩ := id hE
    have hn10 := hQ.n
    have hiI : (nI i).toInt = (i : Int) := nI_c (by omega)
    have hnI : (nI n).toInt = (n : Int) := nI_c (by omega)
    have hQt := hQ.se h1
    have hcc := hL.c.2.2
    have hwt : wdS τ n m c = wdS σ n m c := wdS_se h1 hcc
    refine WS.iload_n hx dX6_seekBestOrder_23 rfl 0 rfl ?_
    refine WS.aload_n hx dX6_seekBestOrder_24 rfl 1 rfl ?_
    refine WS.getR hx okX6 lf6_21 rfl rfl dX6_seekBestOrder_25 ?_
    refine WS.callVi (st := [.int (nI i)]) [] hx (c_X7_size V (d + 6) τ n hQt) okX7_size lm6_34 rfl rfl rfl rfl (Nat.le_of_ble_eq_true rfl) dX6_seekBestOrder_28 (fun v1 σ2 h3 => ?_)
    obtain ⟨rfl, rfl⟩ := h3
    show WS layC V 3 X τ 31 [(2, .int (nI i)), (0, rf V 5), (1, .int (nI k))] [.int (nI n), .int (nI i)]
    refine WS.icmp_ge (tgt := 45) hx dX6_seekBestOrder_31 (by decide) (fun c31 => ?_) (fun c31 => ?_)
    · skip
      show WS layC V 3 X τ 45 [(2, .int (nI i)), (0, rf V 5), (1, .int (nI k))] []
      refine WS.aload_n hx dX6_seekBestOrder_45 rfl 1 rfl ?_
      refine WS.iconst (v := 0) hx dX6_seekBestOrder_46 (by decide) ?_
      refine WS.aload_n hx dX6_seekBestOrder_47 rfl 1 rfl ?_
      refine WS.callVi (st := [.int 0, rf V 5]) [] hx (c_X6_closedBits V (d + 3) τ n hQt) okX6_closedBits lm6_57 rfl rfl rfl rfl (Nat.le_of_ble_eq_true rfl) dX6_seekBestOrder_48 (fun v4 σ5 h6 => ?_)
      obtain ⟨rfl, rfl⟩ := h6
      show WS layC V 3 X τ 51 [(2, .int (nI i)), (0, rf V 5), (1, .int (nI k))] [.int (orW (fun b => decide (¬ τ.1 14 b = 1)) nI n), .int 0, rf V 5]
      refine WS.as rfl rfl (congrArg (fun z => Value.int z :: _) (show orW (fun b => decide (¬ τ.1 14 b = 1)) nI n = orW (fun b => decide (¬ σ.1 14 b = 1)) nI n from by rw [h1.1 14 (ns (by decide))])) ?_
      skip
      refine WS.iconst (v := 0) hx dX6_seekBestOrder_51 (by decide) ?_
      refine WS.callVv (st := []) [.int 0, .int (orW (fun b => decide (¬ σ.1 14 b = 1)) nI n), .int 0] hx (by have h9 := c_X6_tryOrders V τ n hQt (min (min k (n - cnt (σ.1 14) n)) 4) (by omega) (min (min k (n - cnt (σ.1 14) n)) 4) (d + 4 - (min (min k (n - cnt (σ.1 14) n)) 4)) 0 (Nat.zero_add _) (orW (fun b => decide (¬ σ.1 14 b = 1)) nI n) 0 (σ.1 25, σ.1 26, -1) τ ⟨fun _ _ _ _ => rfl, rfl, h2, h3, h4, h5⟩; rw [show d + 4 - (min (min k (n - cnt (σ.1 14) n)) 4) + (min (min k (n - cnt (σ.1 14) n)) 4) + 2 = d + 6 by omega] at h9; exact h9) okX6_tryOrders lm6_88 rfl rfl rfl rfl (Nat.le_of_ble_eq_true rfl) dX6_seekBestOrder_52 (fun σ8 h9 => ?_)
      have oe52 := h9
      show WS layC V 3 X σ8 55 [(2, .int (nI i)), (0, rf V 5), (1, .int (nI k))] []
      exact WS.vret hx he dX6_seekBestOrder_55 (by
      have hin : n = i := by (try simp only [i_le, i_lt, i_eq, tI_m1, tI_0, tI_1, tI_4] at c31); (try simp only [i_le, i_lt, i_eq, tI_m1, tI_0, tI_1, tI_4]); omega
      rw [h6, ← hin] at oe52
      obtain ⟨a1, a2, a3, a4, a5, a6⟩ := id oe52
      have l9 : LI V σ8 m c := by
        have hc9 : (σ8).1 c = τ.1 c := by rcases hcc with rfl | rfl <;> exact a1 _ (by decide) (by decide) (by decide)
        unfold LI
        rw [hc9, a1 2 (by decide) (by decide) (by decide), a1 23 (by decide) (by decide) (by decide), a2]
        exact hLt
      exact ⟨rfl, h1.tr oe52.se, l9, a3, a4, a6⟩)
    · skip
      show WS layC V 3 X τ 34 [(2, .int (nI i)), (0, rf V 5), (1, .int (nI k))] []
      refine WS.aload_n hx dX6_seekBestOrder_34 rfl 1 rfl ?_
      refine WS.iload_n hx dX6_seekBestOrder_35 rfl 0 rfl ?_
      refine WS.callVv (st := []) [.int (nI i)] hx (c_X6_foretell V (d + 2) τ n hQt m c hLt i (by (try simp only [i_le, i_lt, i_eq, tI_m1, tI_0, tI_1, tI_4] at c31); (try simp only [i_le, i_lt, i_eq, tI_m1, tI_0, tI_1, tI_4]); omega)) okX6_foretell lm6_85 rfl rfl rfl rfl (Nat.le_of_ble_eq_true rfl) dX6_seekBestOrder_36 (fun σ11 h12 => ?_)
      obtain ⟨fe36, sd36, li36⟩ := h12
      rw [hwt] at sd36
      show WS layC V 3 X σ11 39 [(2, .int (nI i)), (0, rf V 5), (1, .int (nI k))] []
      refine WS.iinc (v := nI (i + 1)) (lo' := [(2, .int (nI (i + 1))), (0, rf V 5), (1, .int (nI k))]) hx dX6_seekBestOrder_39 0 rfl (nI_1 i) (by decide) rfl ?_
      refine WS.goto (tgt := 23) hx dX6_seekBestOrder_42 (by decide) ?_
      exact WS.los [0, 1, 2] rfl (ih _ (by (try simp only [i_le, i_lt, i_eq, tI_m1, tI_0, tI_1, tI_4] at c31); (try simp only [i_le, i_lt, i_eq, tI_m1, tI_0, tI_1, tI_4]); omega) (i + 1) rfl σ11 (by (try simp only [i_le, i_lt, i_eq, tI_m1, tI_0, tI_1, tI_4] at c31); (try simp only [i_le, i_lt, i_eq, tI_m1, tI_0, tI_1, tI_4]); omega) ⟨h1.tr fe36.se, (congrFun (fe36.1 5 (by decide) (by decide) (by decide) (by decide) (by decide)) 5).trans h2, (congrFun (fe36.1 5 (by decide) (by decide) (by decide) (by decide) (by decide)) 6).trans h3, (fe36.1 25 (by decide) (by decide) (by decide) (by decide) (by decide)).trans h4, (fe36.1 26 (by decide) (by decide) (by decide) (by decide) (by decide)).trans h5, by rw [sd36, h6, ftC_s]⟩ li36)
set_option maxHeartbeats 1000000 in
theorem c_X6_seekBestOrder (V : Vt) (d : Nat) (σ : Sg) (n : Nat) (hQ : QI σ n) (m c : Nat) (hL : LI V σ m c) (k : Nat) (hk : k ≤ 4) : CT layC V mX6_seekBestOrder (d + 7) [rf V 5, .int (nI k)] σ (Rv fun σ' => SE σ σ' ∧ LI V σ' m c ∧ σ'.1 5 5 = nI (min (min k (n - cnt (σ.1 14) n)) 4) ∧ σ'.1 5 6 = (skF σ n m c k).2.2 ∧ σ'.1 26 = (skF σ n m c k).2.1) := by
  refine CT.of (own := RX6) rfl (by decide) (Nat.le_of_ble_eq_true rfl) (fun X (hx : Ok V RX6 cX6_seekBestOrder 3 (d + 7) X) (he : En layC V none (Rv fun σ' => SE σ σ' ∧ LI V σ' m c ∧ σ'.1 5 5 = nI (min (min k (n - cnt (σ.1 14) n)) 4) ∧ σ'.1 5 6 = (skF σ n m c k).2.2 ∧ σ'.1 26 = (skF σ n m c k).2.1) X) => ?_)
  change WS layC V 3 X σ 0 [(0, rf V 5), (1, .int (nI k))] []
  have hn10 := hQ.n
  refine WS.aload_n hx dX6_seekBestOrder_0 rfl 0 rfl ?_
  refine WS.iload_n hx dX6_seekBestOrder_1 rfl 1 rfl ?_
  refine WS.aload_n hx dX6_seekBestOrder_2 rfl 0 rfl ?_
  refine WS.callVi (st := [.int (nI k), rf V 5]) [] hx (c_X6_closedOnes V (d + 5) σ n hQ ) okX6_closedOnes lm6_51 rfl rfl rfl rfl (Nat.le_of_ble_eq_true rfl) dX6_seekBestOrder_3 (fun v1 σ2 h3 => ?_)
  obtain ⟨rfl, rfl⟩ := h3
  show WS layC V 3 X σ 6 [(0, rf V 5), (1, .int (nI k))] [.int (nI (n - cnt (σ.1 14) n)), .int (nI k), rf V 5]
  refine WS.mmin hx lm6_79 (Nat.le_of_ble_eq_true rfl) dX6_seekBestOrder_6 ?_
  refine WS.as rfl rfl (congrArg (fun z => Value.int z :: _) (show mn (nI k) (nI (n - cnt (σ.1 14) n)) = nI (min k (n - cnt (σ.1 14) n)) from mn_nI (by omega) (by omega))) ?_
  skip
  refine WS.iconst (v := 4) hx dX6_seekBestOrder_9 (by decide) ?_
  refine WS.mmin hx lm6_79 (Nat.le_of_ble_eq_true rfl) dX6_seekBestOrder_10 ?_
  refine WS.as rfl rfl (congrArg (fun z => Value.int z :: _) (show mn (nI (min k (n - cnt (σ.1 14) n))) 4 = nI (min (min k (n - cnt (σ.1 14) n)) 4) from mn_nI (by omega) (by decide))) ?_
  skip
  refine WS.putI hx okX6 lf6_76 rfl rfl rfl rfl dX6_seekBestOrder_13 ?_
  refine WS.aload_n hx dX6_seekBestOrder_16 rfl 0 rfl ?_
  refine WS.iconst (v := (-1)) hx dX6_seekBestOrder_17 (by decide) ?_
  refine WS.putI hx okX6 lf6_72 rfl rfl rfl rfl dX6_seekBestOrder_18 ?_
  refine WS.iconst (v := 0) hx dX6_seekBestOrder_21 (by decide) ?_
  refine WS.istore_n (lo' := [(2, .int 0), (0, rf V 5), (1, .int (nI k))]) hx dX6_seekBestOrder_22 rfl (by decide) rfl ?_
  exact WS.los [0, 1, 2] rfl (lp_X6_seekBestOrder V d σ n hQ m c hL k hk X hx he 0 (stI (stI σ 5 5 (nI (min (min k (n - cnt (σ.1 14) n)) 4))) 5 6 (-1)) (Nat.zero_le n) ⟨(SE.st (Or.inl rfl)).tr (SE.st (Or.inl rfl)), rfl, rfl, rfl, rfl, by funext j; simp [ftC, stI, va_up]⟩ ((hL.ne (by decide)).ne (by decide)))
set_option maxHeartbeats 1000000 in
theorem c_X6_mostUnlike (V : Vt) (d : Nat) (σ : Sg) (n : Nat) (hQ : QI σ n) (m c : Nat) (hL : LI V σ m c) (k : Nat) (hk : k ≤ 4) : CT layC V mX6_mostUnlike (d + 8) [rf V 5, .int (nI k)] σ (Ri fun v σ' => (skF σ n m c k).2.2 = v ∧ SE σ σ' ∧ LI V σ' m c) := by
  refine CT.of (own := RX6) rfl (by decide) (Nat.le_of_ble_eq_true rfl) (fun X (hx : Ok V RX6 cX6_mostUnlike 2 (d + 8) X) (he : En layC V (some .int) (Ri fun v σ' => (skF σ n m c k).2.2 = v ∧ SE σ σ' ∧ LI V σ' m c) X) => ?_)
  change WS layC V 2 X σ 0 [(0, rf V 5), (1, .int (nI k))] []
  refine WS.aload_n hx dX6_mostUnlike_0 rfl 0 rfl ?_
  refine WS.iload_n hx dX6_mostUnlike_1 rfl 1 rfl ?_
  refine WS.callVv (st := []) [.int (nI k)] hx (c_X6_seekBestOrder V d σ n hQ m c hL k hk) okX6_seekBestOrder lm6_68 rfl rfl rfl rfl (Nat.le_of_ble_eq_true rfl) dX6_mostUnlike_2 (fun σ2 h3 => ?_)
  obtain ⟨se2, li2, ol2, mw2, bo2⟩ := h3
  show WS layC V 2 X σ2 5 [(0, rf V 5), (1, .int (nI k))] []
  refine WS.aload_n hx dX6_mostUnlike_5 rfl 0 rfl ?_
  refine WS.getI hx okX6 lf6_72 rfl rfl dX6_mostUnlike_6 ?_
  exact WS.iret hx he dX6_mostUnlike_9 ⟨_, rfl, mw2.symm, se2, li2⟩
set_option maxHeartbeats 1000000 in
theorem c_X6_openedInOrder (V : Vt) (d : Nat) (σ : Sg) (n : Nat) (hQ : QI σ n) (m c : Nat) (hL : LI V σ m c) (k : Nat) (hk : k ≤ 4) (i : Int32) (hi : 0 ≤ i.toInt) : CT layC V mX6_openedInOrder (d + 8) [rf V 5, .int (nI k), .int i] σ (Ri fun v σ' => (if i.toInt < ((min (min k (n - cnt (σ.1 14) n)) 4 : Nat) : Int) then (skF σ n m c k).2.1 (nn i) else -2) = v ∧ SE σ σ' ∧ LI V σ' m c) := by
  refine CT.of (own := RX6) rfl (by decide) (Nat.le_of_ble_eq_true rfl) (fun X (hx : Ok V RX6 cX6_openedInOrder 3 (d + 8) X) (he : En layC V (some .int) (Ri fun v σ' => (if i.toInt < ((min (min k (n - cnt (σ.1 14) n)) 4 : Nat) : Int) then (skF σ n m c k).2.1 (nn i) else -2) = v ∧ SE σ σ' ∧ LI V σ' m c) X) => ?_)
  change WS layC V 3 X σ 0 [(0, rf V 5), (1, .int (nI k)), (2, .int i)] []
  have hoI : (nI (min (min k (n - cnt (σ.1 14) n)) 4)).toInt = (((min (min k (n - cnt (σ.1 14) n)) 4) : Nat) : Int) := nI_c (by omega)
  have hii := nn_int hi
  refine WS.aload_n hx dX6_openedInOrder_0 rfl 0 rfl ?_
  refine WS.iload_n hx dX6_openedInOrder_1 rfl 1 rfl ?_
  refine WS.callVv (st := []) [.int (nI k)] hx (c_X6_seekBestOrder V d σ n hQ m c hL k hk) okX6_seekBestOrder lm6_68 rfl rfl rfl rfl (Nat.le_of_ble_eq_true rfl) dX6_openedInOrder_2 (fun σ2 h3 => ?_)
  obtain ⟨se2, li2, ol2, mw2, bo2⟩ := h3
  show WS layC V 3 X σ2 5 [(0, rf V 5), (1, .int (nI k)), (2, .int i)] []
  refine WS.iload_n hx dX6_openedInOrder_5 rfl 2 rfl ?_
  refine WS.if_lt (tgt := 26) hx dX6_openedInOrder_6 (by decide) (fun c6 => by exfalso; (try simp only [i_le, i_lt, i_eq, tI_m2, tI_0, tI_1] at c6); (try simp only [i_le, i_lt, i_eq, tI_m2, tI_0, tI_1]); omega) (fun c6 => ?_)
  refine WS.iload_n hx dX6_openedInOrder_9 rfl 2 rfl ?_
  refine WS.aload_n hx dX6_openedInOrder_10 rfl 0 rfl ?_
  refine WS.getI hx okX6 lf6_76 rfl rfl dX6_openedInOrder_11 ?_
  refine WS.as rfl rfl (congrArg (fun z => Value.int z :: _) (show σ2.1 5 5 = nI (min (min k (n - cnt (σ.1 14) n)) 4) from ol2)) ?_
  skip
  refine WS.icmp_ge (tgt := 26) hx dX6_openedInOrder_14 (by decide) (fun c14 => ?_) (fun c14 => ?_)
  · skip
    show WS layC V 3 X σ2 26 [(0, rf V 5), (1, .int (nI k)), (2, .int i)] []
    refine WS.bipush (v := (-2)) hx dX6_openedInOrder_26 (by decide) ?_
    exact WS.iret hx he dX6_openedInOrder_28 ⟨_, rfl, by rw [if_neg (by (try simp only [i_le, i_lt, i_eq, tI_m2, tI_0, tI_1] at c6); (try simp only [i_le, i_lt, i_eq, tI_m2, tI_0, tI_1] at c14); (try simp only [i_le, i_lt, i_eq, tI_m2, tI_0, tI_1]); omega)], se2, li2⟩
  · skip
    show WS layC V 3 X σ2 17 [(0, rf V 5), (1, .int (nI k)), (2, .int i)] []
    refine WS.aload_n hx dX6_openedInOrder_17 rfl 0 rfl ?_
    refine WS.getR hx okX6 lf6_18 rfl rfl dX6_openedInOrder_18 ?_
    refine WS.iload_n hx dX6_openedInOrder_21 rfl 2 rfl ?_
    refine WS.iald hx rfl (vp_in_iff.mpr (by (try simp only [i_le, i_lt, i_eq, tI_m2, tI_0, tI_1] at c6); (try simp only [i_le, i_lt, i_eq, tI_m2, tI_0, tI_1] at c14); omega)) dX6_openedInOrder_22 ?_
    refine WS.goto (tgt := 28) hx dX6_openedInOrder_23 (by decide) ?_
    exact WS.iret hx he dX6_openedInOrder_28 ⟨_, rfl, by rw [if_pos (by (try simp only [i_le, i_lt, i_eq, tI_m2, tI_0, tI_1] at c6); (try simp only [i_le, i_lt, i_eq, tI_m2, tI_0, tI_1] at c14); (try simp only [i_le, i_lt, i_eq, tI_m2, tI_0, tI_1]); omega), bo2], se2, li2⟩

theorem LI.nr {V : Vt} {σ : Sg} {m c o : Nat} {f : Nat → Int32} (h : LI V σ m c) (ho : o ≠ 2 ∧ o ≠ 19 ∧ o ≠ 20 ∧ o ≠ 23) : LI V (stR σ o f) m c := by
  have hc : (stR σ o f).1 c = σ.1 c := stR_o _ _ _ (by rcases h.c.2.2 with rfl | rfl <;> omega)
  unfold LI
  rw [hc, stR_o _ _ _ (Ne.symm ho.1), stR_o _ _ _ (Ne.symm ho.2.2.2)]
  exact h
theorem WS.weak {lay : List LK} {V : Vt} {nL : Nat} {ret : Option FieldType} {post post' : Option Value → Sg → Prop} {X : Xt} {σ : Sg} {pc : Nat} {lo : List (Nat × Value)} {st : List Value} (he : En lay V ret post X) (hp : ∀ r σ', post' r σ' → post r σ') (k : ∀ X', En lay V ret post' X' → (∀ own cc d, Ok V own cc nL d X → Ok V own cc nL d X') → WS lay V nL X' σ pc lo st) : WS lay V nL X σ pc lo st := by
  obtain ⟨p, l, e, R, s, m, args, below, meth, c, A, Q⟩ := X
  obtain ⟨hr, rfl⟩ := he
  intro H locs ls hP hD hS hl T hT hX
  obtain ⟨t, h1, o, h2, h3, ⟨⟨r, σ', b1, b2, b3⟩, b4⟩, h5⟩ := k (p, l, e, R, s, m, args, below, meth, c, A, MQ below (Post9 lay V A post') args s 0 0 A) ⟨hr, rfl⟩ (fun own cc d h => h) H locs ls hP hD hS hl T hT hX
  exact ⟨t, h1, o, h2, h3, ⟨⟨r, σ', b1, hp r σ' b2, b3⟩, b4⟩, h5⟩
/-- ages one behind the other: the draw, what was said, how often each was open -/
abbrev Ax : Type := Int32 × Int32 × (Nat → Int32)
def axT (P : Nat → Bool) (f : Nat → Int32) (i : Nat) : Nat → Int32 := fun b => if b < i ∧ P b = true then f b + 1 else f b
noncomputable def axE (W : Wd) (n zeal u : Nat) (x : Ax) : Ag := agR W n zeal u (ag0 W n x.1 x.2.1)
noncomputable def axA (W : Wd) (n zeal u : Nat) (x : Ax) : Ax := ((axE W n zeal u x).2.2.2.2.1, (axE W n zeal u x).2.2.2.2.2, axT (axE W n zeal u x).2.1 x.2.2 n)
noncomputable def axR (W : Wd) (n zeal u : Nat) : Nat → Ax → Ax
  | 0, x => x
  | k + 1, x => axR W n zeal u k (axA W n zeal u x)
def XE (σ0 τ : Sg) (zeal : Nat) (x : Ax) : Prop := SE σ0 τ ∧ τ.1 6 4 = nI zeal ∧ τ.1 6 3 = x.1 ∧ τ.1 6 6 = x.2.1 ∧ τ.1 28 = x.2.2
theorem axT_0 {P : Nat → Bool} {f : Nat → Int32} : axT P f 0 = f := by funext b; simp [axT]
theorem axT_t {P : Nat → Bool} {f : Nat → Int32} {i : Nat} (h : P i = true) : upd (axT P f i) i (f i + 1) = axT P f (i + 1) := by
  funext b
  unfold upd axT
  by_cases e : b = i
  · rw [if_pos e, if_pos ⟨by omega, e ▸ h⟩, e]
  · rw [if_neg e]; simp only [show b < i + 1 ↔ b < i by omega]
theorem axT_f {P : Nat → Bool} {f : Nat → Int32} {i : Nat} (h : ¬ P i = true) : axT P f i = axT P f (i + 1) := by
  funext b
  unfold axT
  by_cases e : b = i
  · rw [if_neg (fun q => h (e ▸ q.2)), if_neg (fun q => h (e ▸ q.2))]
  · simp only [show b < i + 1 ↔ b < i by omega]
set_option maxHeartbeats 1000000 in
theorem lp2_X0_pass (V : Vt) (d : Nat) (σ0 : Sg) (n : Nat) (hQ : QI σ0 n) (m c : Nat) (hL0 : LI V σ0 m c) (zeal : Nat) (hz2 : zeal ≤ 100) (u : Nat) (hu : u ≤ 100) (k9 : Nat) (hk9 : k9 ≤ 100) (xF : Ax) (X : Xt) (hx : Ok V RX0 cX0_pass 7 (d + 5) X) (he : En layC V none (Rv fun σ' => XE σ0 σ' zeal xF ∧ LI V σ' m c) X) (sd : Int32) (A : Ag) (f : Nat → Int32) (x1 x2 : Int32) (j : Nat) (kk : ∀ τ : Sg, XE σ0 τ zeal (x1, x2, axT A.2.1 f n) → LI V τ m c → ∀ v6 : Int32, WS layC V 7 X τ 83 [(6, .int v6), (5, .int (nI j)), (0, rf V 6), (1, .int sd), (2, .int (nI k9)), (3, .int (nI u)), (4, .int (nI zeal))] []) : ∀ (i : Nat) (τ : Sg), i ≤ n → XE σ0 τ zeal (x1, x2, axT A.2.1 f i) → (∀ b, b < n → TA (wdS σ0 n m c) τ b (A.1 b) A.2.2.1 (A.2.1 b)) → LI V τ m c → WS layC V 7 X τ 41 [(6, .int (nI i)), (5, .int (nI j)), (0, rf V 6), (1, .int sd), (2, .int (nI k9)), (3, .int (nI u)), (4, .int (nI zeal))] [] := by
  intro i
  induction hm : n - i using Nat.strongRecOn generalizing i with
  | _ m9 ih =>
    intro τ hi hE hT hLt
    obtain ⟨h1, h2, h3, h4, h5⟩ := id hE
    have hn10 := hQ.n
    have hiI : (nI i).toInt = (i : Int) := nI_c (by omega)
    have hnI : (nI n).toInt = (n : Int) := nI_c (by omega)
    have hQt := hQ.se h1
    refine WS.iload hx dX0_pass_41 0 rfl ?_
    refine WS.aload_n hx dX0_pass_43 rfl 2 rfl ?_
    refine WS.getR hx okX0 lf0_21 rfl rfl dX0_pass_44 ?_
    refine WS.callVi (st := [.int (nI i)]) [] hx (c_X7_size V (d + 4) τ n hQt) okX7_size lm0_52 rfl rfl rfl rfl (Nat.le_of_ble_eq_true rfl) dX0_pass_47 (fun v1 σ2 h3 => ?_)
    obtain ⟨rfl, rfl⟩ := h3
    show WS layC V 7 X τ 50 [(6, .int (nI i)), (5, .int (nI j)), (0, rf V 6), (1, .int sd), (2, .int (nI k9)), (3, .int (nI u)), (4, .int (nI zeal))] [.int (nI n), .int (nI i)]
    refine WS.icmp_ge (tgt := 83) hx dX0_pass_50 (by decide) (fun c50 => ?_) (fun c50 => ?_)
    · skip
      show WS layC V 7 X τ 83 [(6, .int (nI i)), (5, .int (nI j)), (0, rf V 6), (1, .int sd), (2, .int (nI k9)), (3, .int (nI u)), (4, .int (nI zeal))] []
      exact kk _ (by rw [show n = i by (try simp only [i_le, i_lt, i_eq, tI_0, tI_1] at c50); (try simp only [i_le, i_lt, i_eq, tI_0, tI_1]); omega]; exact hE) hLt _
    · skip
      show WS layC V 7 X τ 53 [(6, .int (nI i)), (5, .int (nI j)), (0, rf V 6), (1, .int sd), (2, .int (nI k9)), (3, .int (nI u)), (4, .int (nI zeal))] []
      have hil : i < n := by (try simp only [i_le, i_lt, i_eq, tI_0, tI_1] at c50); (try simp only [i_le, i_lt, i_eq, tI_0, tI_1]); omega
      have hti : 38 ≤ 42 + i ∧ 42 + i ≤ 51 := by omega
      obtain ⟨o7, ol7, ho7, tq⟩ := hT i hil
      have tp := tq.2.2.2.2.2.2.2
      refine WS.aload_n hx dX0_pass_53 rfl 2 rfl ?_
      refine WS.getR hx okX0 lf0_11 rfl rfl dX0_pass_54 ?_
      refine WS.iload hx dX0_pass_57 0 rfl ?_
      refine WS.aald hx rfl rfl (vp_in_nI (by (try simp only [i_le, i_lt, i_eq, tI_0, tI_1] at c50); (try simp only [i_le, i_lt, i_eq, tI_0, tI_1]); omega) (by decide)) dX0_pass_59 ?_
      refine WS.as rfl rfl (congrArg (fun z => rf V z :: _) (show 42 + (nn (nI i)) = 42 + i from by rw [nn_nI (by omega)])) ?_
      skip
      refine WS.callVi (st := []) [] hx (c_X9_isOpened V (d + 4) τ (42 + i) hti _ tp) okX9_isOpened lm0_58 rfl (lay_th hti) rfl rfl (Nat.le_of_ble_eq_true rfl) dX0_pass_60 (fun v4 σ5 h6 => ?_)
      rcases h6 with ⟨rfl, rfl, hb60⟩ | ⟨rfl, rfl, hb60⟩
      · skip
        show WS layC V 7 X τ 63 [(6, .int (nI i)), (5, .int (nI j)), (0, rf V 6), (1, .int sd), (2, .int (nI k9)), (3, .int (nI u)), (4, .int (nI zeal))] [.int 1]
        refine WS.if_eq (tgt := 77) hx dX0_pass_63 (by decide) (fun h => absurd h (by decide)) (fun _ => ?_)
        refine WS.aload_n hx dX0_pass_66 rfl 2 rfl ?_
        refine WS.getR hx okX0 lf0_17 rfl rfl dX0_pass_67 ?_
        refine WS.iload hx dX0_pass_70 0 rfl ?_
        refine WS.dup2 hx dX0_pass_72 rfl rfl ?_
        refine WS.iald hx rfl (vp_in_nI (by omega) (by decide)) dX0_pass_73 ?_
        refine WS.as rfl rfl (congrArg (fun z => Value.int z :: _) (show τ.1 28 (nn (nI i)) = f i from by rw [nn_nI (by omega), h5]; exact if_neg (fun q => Nat.lt_irrefl i q.1))) ?_
        skip
        refine WS.iconst (v := 1) hx dX0_pass_74 (by decide) ?_
        refine WS.iadd hx dX0_pass_75 ?_
        refine WS.iast hx rfl (vp_in_nI (by omega) (by decide)) dX0_pass_76 ?_
        refine WS.iinc (v := nI (i + 1)) (lo' := [(6, .int (nI (i + 1))), (5, .int (nI j)), (0, rf V 6), (1, .int sd), (2, .int (nI k9)), (3, .int (nI u)), (4, .int (nI zeal))]) hx dX0_pass_77 0 rfl (nI_1 i) (by decide) rfl ?_
        refine WS.goto (tgt := 41) hx dX0_pass_80 (by decide) ?_
        refine WS.as (show stI τ 28 (nn (nI i)) ((f i) + 1) = stI τ 28 i (f i + 1) from by rw [nn_nI (by omega)]) rfl rfl ?_
        exact WS.los [0, 1, 2, 3, 4, 5, 6] rfl (ih _ (by omega) (i + 1) rfl _ (by omega) ⟨h1.tr (SE.st (Or.inr (Or.inr (Or.inr (Or.inl rfl))))), h2, h3, h4, by show (stI τ 28 i (f i + 1)).1 28 = axT A.2.1 f (i + 1); rw [← axT_t hb60, ← (show τ.1 28 = axT A.2.1 f i from h5)]; simp [stI, va_up]⟩ (fun b hb => (hT b hb).no (by decide)) (hLt.ne (by decide)))
      · skip
        show WS layC V 7 X τ 63 [(6, .int (nI i)), (5, .int (nI j)), (0, rf V 6), (1, .int sd), (2, .int (nI k9)), (3, .int (nI u)), (4, .int (nI zeal))] [.int 0]
        refine WS.if_eq (tgt := 77) hx dX0_pass_63 (by decide) (fun _ => ?_) (fun h => absurd (by decide) h)
        refine WS.iinc (v := nI (i + 1)) (lo' := [(6, .int (nI (i + 1))), (5, .int (nI j)), (0, rf V 6), (1, .int sd), (2, .int (nI k9)), (3, .int (nI u)), (4, .int (nI zeal))]) hx dX0_pass_77 0 rfl (nI_1 i) (by decide) rfl ?_
        refine WS.goto (tgt := 41) hx dX0_pass_80 (by decide) ?_
        exact WS.los [0, 1, 2, 3, 4, 5, 6] rfl (ih _ (by omega) (i + 1) rfl τ (by omega) ⟨h1, h2, h3, h4, h5.trans (axT_f hb60)⟩ hT hLt)
set_option maxHeartbeats 1000000 in
theorem lp1_X0_pass (V : Vt) (d : Nat) (σ0 : Sg) (n : Nat) (hQ : QI σ0 n) (m c : Nat) (hL0 : LI V σ0 m c) (zeal : Nat) (hz2 : zeal ≤ 100) (u : Nat) (hu : u ≤ 100) (k9 : Nat) (hk9 : k9 ≤ 100) (xF : Ax) (X : Xt) (hx : Ok V RX0 cX0_pass 7 (d + 5) X) (he : En layC V none (Rv fun σ' => XE σ0 σ' zeal xF ∧ LI V σ' m c) X) (sd : Int32) : ∀ (k j : Nat) (x : Ax) (τ : Sg), j + k = k9 → XE σ0 τ zeal x → LI V τ m c → axR (wdS σ0 n m c) n zeal u k x = xF → WS layC V 7 X τ 27 [(5, .int (nI j)), (0, rf V 6), (1, .int sd), (2, .int (nI k9)), (3, .int (nI u)), (4, .int (nI zeal))] [] := by
  intro k
  induction k with
  | zero =>
    intro j x τ hjk hE hLt hf
    have hjI : (nI j).toInt = (j : Int) := nI_c (by omega)
    have hkI : (nI k9).toInt = (k9 : Int) := nI_c (by omega)
    refine WS.iload hx dX0_pass_27 0 rfl ?_
    refine WS.iload_n hx dX0_pass_29 rfl 3 rfl ?_
    refine WS.icmp_ge (tgt := 89) hx dX0_pass_30 (by decide) (fun c30 => ?_) (fun c30 => by exfalso; (try simp only [i_le, i_lt, i_eq, tI_0, tI_1] at c30); (try simp only [i_le, i_lt, i_eq, tI_0, tI_1]); omega)
    exact WS.vret hx he dX0_pass_89 ⟨rfl, by rw [← hf]; exact hE, hLt⟩
  | succ k ih =>
    intro j x τ hjk hE hLt hf
    have hjI : (nI j).toInt = (j : Int) := nI_c (by omega)
    have hkI : (nI k9).toInt = (k9 : Int) := nI_c (by omega)
    obtain ⟨h1, h2, h3, h4, h5⟩ := id hE
    have hwt : wdS τ n m c = wdS σ0 n m c := wdS_se h1 hL0.c.2.2
    refine WS.iload hx dX0_pass_27 0 rfl ?_
    refine WS.iload_n hx dX0_pass_29 rfl 3 rfl ?_
    refine WS.icmp_ge (tgt := 89) hx dX0_pass_30 (by decide) (fun c30 => by exfalso; (try simp only [i_le, i_lt, i_eq, tI_0, tI_1] at c30); (try simp only [i_le, i_lt, i_eq, tI_0, tI_1]); omega) (fun c30 => ?_)
    refine WS.aload_n hx dX0_pass_33 rfl 1 rfl ?_
    refine WS.iload_n hx dX0_pass_34 rfl 4 rfl ?_
    refine WS.callVv (st := []) [.int (nI u)] hx (c_X0_passAge V d τ n (hQ.se h1) m c hLt zeal h2 hz2 u hu) okX0_passAge lm0_48 rfl rfl rfl rfl (Nat.le_of_ble_eq_true rfl) dX0_pass_35 (fun σ2 h3 => ?_)
    obtain ⟨ae35, li35⟩ := h3
    rw [hwt, h3, h4] at ae35
    obtain ⟨a1, a2, a3, a4, a5, a6, a7, a8, a9, a10⟩ := ae35
    rw [hwt] at a7
    show WS layC V 7 X σ2 38 [(5, .int (nI j)), (0, rf V 6), (1, .int sd), (2, .int (nI k9)), (3, .int (nI u)), (4, .int (nI zeal))] []
    refine WS.iconst (v := 0) hx dX0_pass_38 (by decide) ?_
    refine WS.istore (lo' := [(6, .int 0), (5, .int (nI j)), (0, rf V 6), (1, .int sd), (2, .int (nI k9)), (3, .int (nI u)), (4, .int (nI zeal))]) hx dX0_pass_39 (by decide) rfl ?_
    refine WS.los [0, 1, 2, 3, 4, 5, 6] rfl ?_
    refine lp2_X0_pass V d σ0 n hQ m c hL0 zeal hz2 u hu k9 hk9 xF X hx he sd (axE (wdS σ0 n m c) n zeal u x) x.2.2 (axE (wdS σ0 n m c) n zeal u x).2.2.2.2.1 (axE (wdS σ0 n m c) n zeal u x).2.2.2.2.2 j (fun τ2 hE2 hL2 v6 => ?_) 0 σ2 (Nat.zero_le n) ⟨h1.tr a1, a3.trans h2, a5, a6, by rw [a2, h5]; exact (axT_0 (P := (axE (wdS σ0 n m c) n zeal u x).2.1)).symm⟩ a7 li35
    refine WS.iinc (v := nI (j + 1)) (lo' := [(5, .int (nI (j + 1))), (6, .int v6), (0, rf V 6), (1, .int sd), (2, .int (nI k9)), (3, .int (nI u)), (4, .int (nI zeal))]) hx dX0_pass_83 1 rfl (nI_1 j) (by decide) rfl ?_
    refine WS.goto (tgt := 27) hx dX0_pass_86 (by decide) ?_
    exact WS.los [0, 2, 3, 4, 5, 6] rfl (ih (j + 1) _ τ2 (by omega) hE2 hL2 hf)
set_option maxHeartbeats 1000000 in
theorem c_X0_pass (V : Vt) (d : Nat) (σ : Sg) (n : Nat) (hQ : QI σ n) (m c : Nat) (hL : LI V σ m c) (sd : Int32) (k9 : Nat) (hk9 : k9 ≤ 100) (u : Nat) (hu : u ≤ 100) (zeal : Nat) (hz2 : zeal ≤ 100) : CT layC V mX0_pass (d + 5) [rf V 6, .int sd, .int (nI k9), .int (nI u), .int (nI zeal)] σ (Rv fun σ' => SE σ σ' ∧ σ'.1 6 6 = (axR (wdS σ n m c) n zeal u k9 (sd, 0, fillF 10 0 (σ.1 28))).2.1 ∧ σ'.1 28 = (axR (wdS σ n m c) n zeal u k9 (sd, 0, fillF 10 0 (σ.1 28))).2.2 ∧ LI V σ' m c) := by
  refine CT.of (own := RX0) rfl (by decide) (Nat.le_of_ble_eq_true rfl) (fun X (hx : Ok V RX0 cX0_pass 7 (d + 5) X) (he : En layC V none (Rv fun σ' => SE σ σ' ∧ σ'.1 6 6 = (axR (wdS σ n m c) n zeal u k9 (sd, 0, fillF 10 0 (σ.1 28))).2.1 ∧ σ'.1 28 = (axR (wdS σ n m c) n zeal u k9 (sd, 0, fillF 10 0 (σ.1 28))).2.2 ∧ LI V σ' m c) X) => ?_)
  change WS layC V 7 X σ 0 [(0, rf V 6), (1, .int sd), (2, .int (nI k9)), (3, .int (nI u)), (4, .int (nI zeal))] []
  refine WS.aload_n hx dX0_pass_0 rfl 0 rfl ?_
  refine WS.iload_n hx dX0_pass_1 rfl 1 rfl ?_
  refine WS.putI hx okX0 lf0_36 rfl rfl rfl rfl dX0_pass_2 ?_
  refine WS.aload_n hx dX0_pass_5 rfl 0 rfl ?_
  refine WS.iload hx dX0_pass_6 4 rfl ?_
  refine WS.putI hx okX0 lf0_39 rfl rfl rfl rfl dX0_pass_8 ?_
  refine WS.aload_n hx dX0_pass_11 rfl 0 rfl ?_
  refine WS.iconst (v := 0) hx dX0_pass_12 (by decide) ?_
  refine WS.putI hx okX0 lf0_28 rfl rfl rfl rfl dX0_pass_13 ?_
  refine WS.aload_n hx dX0_pass_16 rfl 0 rfl ?_
  refine WS.getR hx okX0 lf0_17 rfl rfl dX0_pass_17 ?_
  refine WS.iconst (v := 0) hx dX0_pass_20 (by decide) ?_
  refine WS.callSv (st := []) [rf V 28, .int 0] hx (c_J_fillI V (d + 4) (stI (stI (stI σ 6 3 sd) 6 4 (nI zeal)) 6 6 0) 28 0 10 (by decide) rfl) okJ_fillI lm0_42 rfl rfl (Nat.le_of_ble_eq_true rfl) dX0_pass_21 (fun σ2 h3 => ?_)
  obtain rfl := h3
  show WS layC V 7 X (stR (stI (stI (stI σ 6 3 sd) 6 4 (nI zeal)) 6 6 0) 28 (fillF 10 0 ((stI (stI (stI σ 6 3 sd) 6 4 (nI zeal)) 6 6 0).1 28))) 24 [(0, rf V 6), (1, .int sd), (2, .int (nI k9)), (3, .int (nI u)), (4, .int (nI zeal))] []
  refine WS.iconst (v := 0) hx dX0_pass_24 (by decide) ?_
  refine WS.istore (lo' := [(5, .int 0), (0, rf V 6), (1, .int sd), (2, .int (nI k9)), (3, .int (nI u)), (4, .int (nI zeal))]) hx dX0_pass_25 (by decide) rfl ?_
  have e1 : SE σ (stR (stI (stI (stI σ 6 3 sd) 6 4 (nI zeal)) 6 6 0) 28 (fillF 10 0 ((stI (stI (stI σ 6 3 sd) 6 4 (nI zeal)) 6 6 0).1 28))) := (((SE.st (Or.inr (Or.inl rfl))).tr (SE.st (Or.inr (Or.inl rfl)))).tr (SE.st (Or.inr (Or.inl rfl)))).tr (SE.sr (Or.inr (Or.inr (Or.inr (Or.inl rfl)))))
  have hw : wdS (stR (stI (stI (stI σ 6 3 sd) 6 4 (nI zeal)) 6 6 0) 28 (fillF 10 0 ((stI (stI (stI σ 6 3 sd) 6 4 (nI zeal)) 6 6 0).1 28))) n m c = wdS σ n m c := wdS_se e1 hL.c.2.2
  have l1 : LI V (stR (stI (stI (stI σ 6 3 sd) 6 4 (nI zeal)) 6 6 0) 28 (fillF 10 0 ((stI (stI (stI σ 6 3 sd) 6 4 (nI zeal)) 6 6 0).1 28))) m c := (((hL.ne (by decide)).ne (by decide)).ne (by decide)).nr (by decide)
  refine WS.los [0, 1, 2, 3, 4, 5] rfl ?_
  refine WS.weak he (post' := Rv fun σ' => XE (stR (stI (stI (stI σ 6 3 sd) 6 4 (nI zeal)) 6 6 0) 28 (fillF 10 0 ((stI (stI (stI σ 6 3 sd) 6 4 (nI zeal)) 6 6 0).1 28))) σ' zeal (axR (wdS σ n m c) n zeal u k9 (sd, 0, fillF 10 0 (σ.1 28))) ∧ LI V σ' m c) (fun r σ' h => ⟨h.1, e1.tr h.2.1.1, h.2.1.2.2.2.1, h.2.1.2.2.2.2, h.2.2⟩) (fun X' he' hx' => ?_)
  exact lp1_X0_pass V d (stR (stI (stI (stI σ 6 3 sd) 6 4 (nI zeal)) 6 6 0) 28 (fillF 10 0 ((stI (stI (stI σ 6 3 sd) 6 4 (nI zeal)) 6 6 0).1 28))) n (hQ.se e1) m c l1 zeal hz2 u hu k9 hk9 _ X' (hx' _ _ _ hx) he' sd k9 0 (sd, 0, fillF 10 0 (σ.1 28)) (stR (stI (stI (stI σ 6 3 sd) 6 4 (nI zeal)) 6 6 0) 28 (fillF 10 0 ((stI (stI (stI σ 6 3 sd) 6 4 (nI zeal)) 6 6 0).1 28))) (Nat.zero_add k9) ⟨SE.rf, rfl, rfl, rfl, rfl⟩ l1 (by rw [hw])

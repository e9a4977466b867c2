theorem as_0_0 (me x : Int32) (g : Nat → Int32) : (frmF (runF 0 me 20) 0 0 x (g, 0)).isSome = true := rfl
theorem as_0_1 (me x : Int32) (g : Nat → Int32) : (frmF (runF 0 me 20) 0 1 x (g, 0)).isSome = true := rfl
theorem as_0_2 (me x : Int32) (g : Nat → Int32) : (frmF (runF 0 me 20) 0 2 x (g, 0)).isSome = true := rfl
theorem as_0_3 (me x : Int32) (g : Nat → Int32) : (frmF (runF 0 me 20) 0 3 x (g, 0)).isSome = true := rfl
theorem as_1_0 (me x : Int32) (g : Nat → Int32) : (frmF (runF 1 me 20) 1 0 x (g, 0)).isSome = true := rfl
theorem as_1_1 (me x : Int32) (g : Nat → Int32) : (frmF (runF 1 me 20) 1 1 x (g, 0)).isSome = true := rfl
theorem as_1_2 (me x : Int32) (g : Nat → Int32) : (frmF (runF 1 me 20) 1 2 x (g, 0)).isSome = true := rfl
theorem as_1_3 (me x : Int32) (g : Nat → Int32) : (frmF (runF 1 me 20) 1 3 x (g, 0)).isSome = true := rfl
theorem as_2_0 (me x : Int32) (g : Nat → Int32) : (frmF (runF 2 me 20) 2 0 x (g, 0)).isSome = true := rfl
theorem as_2_1 (me x : Int32) (g : Nat → Int32) : (frmF (runF 2 me 20) 2 1 x (g, 0)).isSome = true := rfl
theorem as_2_2 (me x : Int32) (g : Nat → Int32) : (frmF (runF 2 me 20) 2 2 x (g, 0)).isSome = true := rfl
theorem as_2_3 (me x : Int32) (g : Nat → Int32) : (frmF (runF 2 me 20) 2 3 x (g, 0)).isSome = true := rfl
theorem as_3_0 (me x : Int32) (g : Nat → Int32) : (frmF (runF 3 me 20) 3 0 x (g, 0)).isSome = true := rfl
theorem as_3_1 (me x : Int32) (g : Nat → Int32) : (frmF (runF 3 me 20) 3 1 x (g, 0)).isSome = true := rfl
theorem as_3_2 (me x : Int32) (g : Nat → Int32) : (frmF (runF 3 me 20) 3 2 x (g, 0)).isSome = true := rfl
theorem as_3_3 (me x : Int32) (g : Nat → Int32) : (frmF (runF 3 me 20) 3 3 x (g, 0)).isSome = true := rfl
theorem as_4_0 (me x : Int32) (g : Nat → Int32) : (frmF (runF 4 me 20) 4 0 x (g, 0)).isSome = true := rfl
theorem as_4_1 (me x : Int32) (g : Nat → Int32) : (frmF (runF 4 me 20) 4 1 x (g, 0)).isSome = true := rfl
theorem as_4_2 (me x : Int32) (g : Nat → Int32) : (frmF (runF 4 me 20) 4 2 x (g, 0)).isSome = true := rfl
theorem as_4_3 (me x : Int32) (g : Nat → Int32) : (frmF (runF 4 me 20) 4 3 x (g, 0)).isSome = true := rfl
theorem as_5_0 (me x : Int32) (g : Nat → Int32) : (frmF (runF 5 me 20) 5 0 x (g, 0)).isSome = true := rfl
theorem as_5_1 (me x : Int32) (g : Nat → Int32) : (frmF (runF 5 me 20) 5 1 x (g, 0)).isSome = true := rfl
theorem as_5_2 (me x : Int32) (g : Nat → Int32) : (frmF (runF 5 me 20) 5 2 x (g, 0)).isSome = true := rfl
theorem as_5_3 (me x : Int32) (g : Nat → Int32) : (frmF (runF 5 me 20) 5 3 x (g, 0)).isSome = true := rfl
theorem as_6_0 (me x : Int32) (g : Nat → Int32) : (frmF (runF 6 me 20) 6 0 x (g, 0)).isSome = true := rfl
theorem as_6_1 (me x : Int32) (g : Nat → Int32) : (frmF (runF 6 me 20) 6 1 x (g, 0)).isSome = true := rfl
theorem as_6_2 (me x : Int32) (g : Nat → Int32) : (frmF (runF 6 me 20) 6 2 x (g, 0)).isSome = true := rfl
theorem as_6_3 (me x : Int32) (g : Nat → Int32) : (frmF (runF 6 me 20) 6 3 x (g, 0)).isSome = true := rfl
theorem as_7_0 (me x : Int32) (g : Nat → Int32) : (frmF (runF 7 me 20) 7 0 x (g, 0)).isSome = true := rfl
theorem as_7_1 (me x : Int32) (g : Nat → Int32) : (frmF (runF 7 me 20) 7 1 x (g, 0)).isSome = true := rfl
theorem as_7_2 (me x : Int32) (g : Nat → Int32) : (frmF (runF 7 me 20) 7 2 x (g, 0)).isSome = true := rfl
theorem as_7_3 (me x : Int32) (g : Nat → Int32) : (frmF (runF 7 me 20) 7 3 x (g, 0)).isSome = true := rfl
theorem act_some {K act : Int32} (hK : rg K 7) (ha : 0 ≤ act.toInt ∧ act.toInt ≤ 3) (me x : Int32) (g : Nat → Int32) : ∃ p, frmF (runF K me 20) K act x (g, 0) = some p := by
  have hk := hK.le
  have e := hK.i
  obtain ⟨a, h2, rfl⟩ := i_of (n := 4) ha.1 (by omega)
  rw [e]
  have c1 : nn K = 0 ∨ nn K = 1 ∨ nn K = 2 ∨ nn K = 3 ∨ nn K = 4 ∨ nn K = 5 ∨ nn K = 6 ∨ nn K = 7 := by omega
  have c2 : a = 0 ∨ a = 1 ∨ a = 2 ∨ a = 3 := by omega
  apply Option.isSome_iff_exists.mp
  rcases c1 with h | h | h | h | h | h | h | h <;> rw [h] <;> rcases c2 with rfl | rfl | rfl | rfl
  · exact as_0_0 me x g
  · exact as_0_1 me x g
  · exact as_0_2 me x g
  · exact as_0_3 me x g
  · exact as_1_0 me x g
  · exact as_1_1 me x g
  · exact as_1_2 me x g
  · exact as_1_3 me x g
  · exact as_2_0 me x g
  · exact as_2_1 me x g
  · exact as_2_2 me x g
  · exact as_2_3 me x g
  · exact as_3_0 me x g
  · exact as_3_1 me x g
  · exact as_3_2 me x g
  · exact as_3_3 me x g
  · exact as_4_0 me x g
  · exact as_4_1 me x g
  · exact as_4_2 me x g
  · exact as_4_3 me x g
  · exact as_5_0 me x g
  · exact as_5_1 me x g
  · exact as_5_2 me x g
  · exact as_5_3 me x g
  · exact as_6_0 me x g
  · exact as_6_1 me x g
  · exact as_6_2 me x g
  · exact as_6_3 me x g
  · exact as_7_0 me x g
  · exact as_7_1 me x g
  · exact as_7_2 me x g
  · exact as_7_3 me x g
set_option maxHeartbeats 1000000 in
theorem c_X1_perform (V : Vt) (d : Nat) (σ : Sg) (z : Nat) (hz : σ.1 9 2 = nI z) (hz2 : z ≤ 50) (hK : ∀ j, j < z → rg (σ.1 36 j) 7) (b act x : Int32) : CT layC V mX1_perform (d + 66) [rf V 9, .int b, .int act, .int x] σ (Ri fun v σ' => (¬ (0 ≤ b.toInt ∧ b.toInt < z ∧ 0 ≤ act.toInt ∧ act.toInt ≤ 3) → v = 0 ∧ σ' = stI σ 9 3 0) ∧ ((0 ≤ b.toInt ∧ b.toInt < z ∧ 0 ≤ act.toInt ∧ act.toInt ≤ 3) → ∃ p, frmF (runF (σ.1 36 (nn b)) b 20) (σ.1 36 (nn b)) act x (σ.1 37, 0) = some p ∧ v = p.1 ∧ BE (stI (stI σ 9 3 0) 9 4 b) σ' p.2)) := by
  refine CT.of (own := RX1) rfl (by decide) (Nat.le_of_ble_eq_true rfl) (fun X (hx : Ok V RX1 cX1_perform 4 (d + 66) X) (he : En layC V (some .int) (Ri fun v σ' => (¬ (0 ≤ b.toInt ∧ b.toInt < z ∧ 0 ≤ act.toInt ∧ act.toInt ≤ 3) → v = 0 ∧ σ' = stI σ 9 3 0) ∧ ((0 ≤ b.toInt ∧ b.toInt < z ∧ 0 ≤ act.toInt ∧ act.toInt ≤ 3) → ∃ p, frmF (runF (σ.1 36 (nn b)) b 20) (σ.1 36 (nn b)) act x (σ.1 37, 0) = some p ∧ v = p.1 ∧ BE (stI (stI σ 9 3 0) 9 4 b) σ' p.2)) X) => ?_)
  change WS layC V 4 X σ 0 [(0, rf V 9), (1, .int b), (2, .int act), (3, .int x)] []
  refine WS.aload_n hx dX1_perform_0 rfl 0 rfl ?_
  refine WS.iconst (v := 0) hx dX1_perform_1 (by decide) ?_
  refine WS.putI hx okX1 lf1_22 rfl rfl rfl rfl dX1_perform_2 ?_
  refine WS.aload_n hx dX1_perform_5 rfl 0 rfl ?_
  refine WS.iload_n hx dX1_perform_6 rfl 1 rfl ?_
  refine WS.callVi (st := []) [.int b] hx (c_X1_has V (d + 64) (stI σ 9 3 0) z hz hz2 b) okX1_has lm1_33 rfl rfl rfl rfl (Nat.le_of_ble_eq_true rfl) dX1_perform_7 (fun v1 σ2 h3 => ?_)
  rcases h3 with ⟨rfl, rfl, hb7⟩ | ⟨rfl, rfl, hb7⟩
  · skip
    show WS layC V 4 X (stI σ 9 3 0) 10 [(0, rf V 9), (1, .int b), (2, .int act), (3, .int x)] [.int 1]
    refine WS.if_eq (tgt := 22) hx dX1_perform_10 (by decide) (fun h => absurd h (by decide)) (fun _ => ?_)
    refine WS.iload_n hx dX1_perform_13 rfl 2 rfl ?_
    refine WS.iconst (v := 0) hx dX1_perform_14 (by decide) ?_
    refine WS.iconst (v := 3) hx dX1_perform_15 (by decide) ?_
    refine WS.callNi (st := []) [.int act, .int 0, .int 3] hx (c_X10_within V (d + 65) (stI σ 9 3 0) act 0 3) okX10_within (by decide) rfl rfl rfl (Nat.le_of_ble_eq_true rfl) dX1_perform_16 (fun v4 σ5 h6 => ?_)
    rcases h6 with ⟨rfl, rfl, hb16⟩ | ⟨rfl, rfl, hb16⟩
    · skip
      show WS layC V 4 X (stI σ 9 3 0) 19 [(0, rf V 9), (1, .int b), (2, .int act), (3, .int x)] [.int 1]
      have hbb : b = nI (nn b) := (nI_nn hb7.1).symm
      have hbn : nn b < z := by have := nn_int hb7.1; omega
      have hb4 : (stI (stI σ 9 3 0) 9 4 b).1 9 4 = nI (nn b) := hbb
      have hbI : nI (nn b) = b := hbb.symm
      obtain ⟨p, hp⟩ := act_some (hK _ hbn) (act := act) (by simp only [i_le, tI_0, tI_3] at hb16; exact hb16) b x (σ.1 37)
      refine WS.if_ne (tgt := 24) hx dX1_perform_19 (by decide) (fun _ => ?_) (fun h => absurd h (by decide))
      refine WS.aload_n hx dX1_perform_24 rfl 0 rfl ?_
      refine WS.iload_n hx dX1_perform_25 rfl 1 rfl ?_
      refine WS.putI hx okX1 lf1_49 rfl rfl rfl rfl dX1_perform_26 ?_
      refine WS.aload_n hx dX1_perform_29 rfl 0 rfl ?_
      refine WS.iload_n hx dX1_perform_30 rfl 2 rfl ?_
      refine WS.iload_n hx dX1_perform_31 rfl 3 rfl ?_
      refine WS.iconst (v := 0) hx dX1_perform_32 (by decide) ?_
      refine WS.callVi (st := []) [.int act, .int x, .int 0] hx (c_X1_own V (d + 60) (stI (stI σ 9 3 0) 9 4 b) (stI (stI σ 9 3 0) 9 4 b) z (nn b) hz hz2 hbn hb4 20 (fun b8 x8 dep s τ p8 hr hd hE => by have h9 := c_X1_run V (stI (stI σ 9 3 0) 9 4 b) z (nn b) hz hz2 hbn hb4 20 d b8 x8 dep s τ p8 hr hd hE; rw [show d + 3 * 20 + 3 = d + 60 + 3 by omega] at h9; exact h9) act x (by (try simp only [i_le, i_lt, i_eq, tI_0, tI_1, tI_3] at hb7); (try simp only [i_le, i_lt, i_eq, tI_0, tI_1, tI_3] at hb16); (try simp only [i_le, i_lt, i_eq, tI_0, tI_1, tI_3]); omega) 0 (by decide) (σ.1 37, 0) ⟨fun _ _ _ => rfl, rfl, rfl, rfl, fun _ _ => rfl⟩ p (by rw [hbI]; exact hp)) okX1_own lm1_52 rfl rfl rfl rfl (Nat.le_of_ble_eq_true rfl) dX1_perform_33 (fun v7 σ8 h9 => ?_)
      obtain ⟨hv33, be33⟩ := h9
      show WS layC V 4 X σ8 36 [(0, rf V 9), (1, .int b), (2, .int act), (3, .int x)] [.int v7]
      exact WS.iret hx he dX1_perform_36 ⟨_, rfl, fun h => absurd (by (try simp only [i_le, i_lt, i_eq, tI_0, tI_1, tI_3] at hb7); (try simp only [i_le, i_lt, i_eq, tI_0, tI_1, tI_3] at hb16); (try simp only [i_le, i_lt, i_eq, tI_0, tI_1, tI_3]); omega) h, fun _ => ⟨p, hp, hv33.symm, be33⟩⟩
    · skip
      show WS layC V 4 X (stI σ 9 3 0) 19 [(0, rf V 9), (1, .int b), (2, .int act), (3, .int x)] [.int 0]
      refine WS.if_ne (tgt := 24) hx dX1_perform_19 (by decide) (fun h => absurd (by decide) h) (fun _ => ?_)
      refine WS.iconst (v := 0) hx dX1_perform_22 (by decide) ?_
      exact WS.iret hx he dX1_perform_23 ⟨_, rfl, fun _ => ⟨rfl, rfl⟩, fun h => by exfalso; (try simp only [i_le, i_lt, i_eq, tI_0, tI_1, tI_3] at hb7); (try simp only [i_le, i_lt, i_eq, tI_0, tI_1, tI_3] at hb16); (try simp only [i_le, i_lt, i_eq, tI_0, tI_1, tI_3]); omega⟩
  · skip
    show WS layC V 4 X (stI σ 9 3 0) 10 [(0, rf V 9), (1, .int b), (2, .int act), (3, .int x)] [.int 0]
    refine WS.if_eq (tgt := 22) hx dX1_perform_10 (by decide) (fun _ => ?_) (fun h => absurd (by decide) h)
    refine WS.iconst (v := 0) hx dX1_perform_22 (by decide) ?_
    exact WS.iret hx he dX1_perform_23 ⟨_, rfl, fun _ => ⟨rfl, rfl⟩, fun h => by exfalso; (try simp only [i_le, i_lt, i_eq, tI_0, tI_1, tI_3] at hb7); (try simp only [i_le, i_lt, i_eq, tI_0, tI_1, tI_3]); omega⟩
def udF (told : Int32) : Nat → Int32 → Bool
  | 0, _ => false
  | u + 1, k => if 0 ≤ k.toInt ∧ k.toInt ≤ 7 then (if k = told then true else udF told u (zt_f 3 (nn k))) else false
set_option maxHeartbeats 1000000 in
theorem lp_X1_isUnder (V : Vt) (d : Nat) (σ : Sg) (k0 tl : Int32) (B : Bool) (X : Xt) (hx : Ok V RX1 cX1_isUnder 4 (d + 2) X) (he : En layC V (some .boolean) (Rb (B = true) σ) X) : ∀ (u i : Nat) (k : Int32), i + u = 8 → udF tl u k = B → WS layC V 4 X σ 4 [(3, .int (nI i)), (2, .int k), (0, .int k0), (1, .int tl)] [] := by
  intro u
  induction u with
  | zero =>
    intro i k hiu hb
    have hiI : (nI i).toInt = (i : Int) := nI_c (by omega)
    refine WS.iload_n hx dX1_isUnder_4 rfl 0 rfl ?_
    refine WS.bipush (v := 8) hx dX1_isUnder_5 (by decide) ?_
    refine WS.icmp_ge (tgt := 36) hx dX1_isUnder_7 (by decide) (fun c7 => ?_) (fun c7 => by exfalso; (try simp only [i_le, i_lt, i_eq, tI_0, tI_1, tI_8] at c7); (try simp only [i_le, i_lt, i_eq, tI_0, tI_1, tI_8]); omega)
    refine WS.iconst (v := 0) hx dX1_isUnder_36 (by decide) ?_
    exact WS.zret hx he dX1_isUnder_37 (Or.inl rfl) (Rb.f (by rw [← hb]; show ¬ false = true; decide))
  | succ u ih =>
    intro i k hiu hb
    have hiI : (nI i).toInt = (i : Int) := nI_c (by omega)
    unfold udF at hb
    refine WS.iload_n hx dX1_isUnder_4 rfl 0 rfl ?_
    refine WS.bipush (v := 8) hx dX1_isUnder_5 (by decide) ?_
    refine WS.icmp_ge (tgt := 36) hx dX1_isUnder_7 (by decide) (fun c7 => by exfalso; (try simp only [i_le, i_lt, i_eq, tI_0, tI_1, tI_8] at c7); (try simp only [i_le, i_lt, i_eq, tI_0, tI_1, tI_8]); omega) (fun c7 => ?_)
    refine WS.iload_n hx dX1_isUnder_10 rfl 1 rfl ?_
    refine WS.callSi (st := []) [.int k] hx (c_X1_isKind V d σ k) okX1_isKind lm1_37 rfl rfl (Nat.le_of_ble_eq_true rfl) dX1_isUnder_11 (fun v1 σ2 h3 => ?_)
    rcases h3 with ⟨rfl, rfl, hb11⟩ | ⟨rfl, rfl, hb11⟩
    · skip
      show WS layC V 4 X σ 14 [(3, .int (nI i)), (2, .int k), (0, .int k0), (1, .int tl)] [.int 1]
      rw [if_pos hb11] at hb
      refine WS.if_eq (tgt := 36) hx dX1_isUnder_14 (by decide) (fun h => absurd h (by decide)) (fun _ => ?_)
      refine WS.iload_n hx dX1_isUnder_17 rfl 1 rfl ?_
      refine WS.iload_n hx dX1_isUnder_18 rfl 3 rfl ?_
      refine WS.icmp_ne (tgt := 24) hx dX1_isUnder_19 (by decide) (fun c19 => ?_) (fun c19 => ?_)
      · skip
        show WS layC V 4 X σ 24 [(3, .int (nI i)), (2, .int k), (0, .int k0), (1, .int tl)] []
        rw [if_neg c19] at hb
        refine WS.gets (k := 3) hx rfl ls1_40 dX1_isUnder_24 ?_
        refine WS.iload_n hx dX1_isUnder_27 rfl 1 rfl ?_
        refine WS.tald (k := 3) hx rfl (show vp_in k 8 from (vp_in_iff.mpr (by omega))) dX1_isUnder_28 ?_
        refine WS.istore_n (lo' := [(2, .int (zt_f 3 (nn k))), (3, .int (nI i)), (0, .int k0), (1, .int tl)]) hx dX1_isUnder_29 rfl (by decide) rfl ?_
        refine WS.iinc (v := nI (i + 1)) (lo' := [(3, .int (nI (i + 1))), (2, .int (zt_f 3 (nn k))), (0, .int k0), (1, .int tl)]) hx dX1_isUnder_30 1 rfl (nI_1 i) (by decide) rfl ?_
        refine WS.goto (tgt := 4) hx dX1_isUnder_33 (by decide) ?_
        exact WS.los [0, 1, 2, 3] rfl (ih (i + 1) _ (by omega) hb)
      · skip
        show WS layC V 4 X σ 22 [(3, .int (nI i)), (2, .int k), (0, .int k0), (1, .int tl)] []
        rw [if_pos c19] at hb
        refine WS.iconst (v := 1) hx dX1_isUnder_22 (by decide) ?_
        exact WS.zret hx he dX1_isUnder_23 (Or.inr rfl) (Rb.t hb.symm)
    · skip
      show WS layC V 4 X σ 14 [(3, .int (nI i)), (2, .int k), (0, .int k0), (1, .int tl)] [.int 0]
      rw [if_neg hb11] at hb
      refine WS.if_eq (tgt := 36) hx dX1_isUnder_14 (by decide) (fun _ => ?_) (fun h => absurd (by decide) h)
      refine WS.iconst (v := 0) hx dX1_isUnder_36 (by decide) ?_
      exact WS.zret hx he dX1_isUnder_37 (Or.inl rfl) (Rb.f (by rw [← hb]; decide))
set_option maxHeartbeats 1000000 in
theorem c_X1_isUnder (V : Vt) (d : Nat) (σ : Sg) (k tl : Int32) : CT layC V mX1_isUnder (d + 2) [.int k, .int tl] σ (Rb (udF tl 8 k = true) σ) := by
  refine CT.of (own := RX1) rfl (by decide) (Nat.le_of_ble_eq_true rfl) (fun X (hx : Ok V RX1 cX1_isUnder 4 (d + 2) X) (he : En layC V (some .boolean) (Rb (udF tl 8 k = true) σ) X) => ?_)
  change WS layC V 4 X σ 0 [(0, .int k), (1, .int tl)] []
  refine WS.iload_n hx dX1_isUnder_0 rfl 0 rfl ?_
  refine WS.istore_n (lo' := [(2, .int k), (0, .int k), (1, .int tl)]) hx dX1_isUnder_1 rfl (by decide) rfl ?_
  refine WS.iconst (v := 0) hx dX1_isUnder_2 (by decide) ?_
  refine WS.istore_n (lo' := [(3, .int 0), (2, .int k), (0, .int k), (1, .int tl)]) hx dX1_isUnder_3 rfl (by decide) rfl ?_
  exact WS.los [0, 1, 2, 3] rfl (lp_X1_isUnder V d σ k tl _ X hx he 8 0 k rfl rfl)

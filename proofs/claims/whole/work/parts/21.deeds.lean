set_option maxHeartbeats 1000000 in
theorem c_X3_tell (V : Vt) (d : Nat) (σ : Sg) (k : Nat) (hk : k < 5) : CT layC V mX3_tell (d + 1) [rf V 7, .int (nI k)] σ (Ro (σ.1 29 k) σ) := by
  refine CT.of (own := RX3) rfl (by decide) (Nat.le_of_ble_eq_true rfl) (fun X (hx : Ok V RX3 cX3_tell 2 (d + 1) X) (he : En layC V (some .int) (Ro (σ.1 29 k) σ) X) => ?_)
  change WS layC V 2 X σ 0 [(0, rf V 7), (1, .int (nI k))] []
  have hkI : (nI k).toInt = (k : Int) := nI_c (by omega)
  refine WS.iload_n hx dX3_tell_0 rfl 1 rfl ?_
  refine WS.iconst (v := 0) hx dX3_tell_1 (by decide) ?_
  refine WS.iconst (v := 4) hx dX3_tell_2 (by decide) ?_
  refine WS.callNi (st := []) [.int (nI k), .int 0, .int 4] hx (c_X10_within V d σ (nI k) 0 4) okX10_within (by decide) rfl rfl rfl (Nat.le_of_ble_eq_true rfl) dX3_tell_3 (fun v1 σ2 h3 => ?_)
  rcases h3 with ⟨rfl, rfl, hb3⟩ | ⟨rfl, rfl, hb3⟩
  · skip
    show WS layC V 2 X σ 6 [(0, rf V 7), (1, .int (nI k))] [.int 1]
    refine WS.if_eq (tgt := 18) hx dX3_tell_6 (by decide) (fun h => absurd h (by decide)) (fun _ => ?_)
    refine WS.aload_n hx dX3_tell_9 rfl 0 rfl ?_
    refine WS.getR hx okX3 lf3_11 rfl rfl dX3_tell_10 ?_
    refine WS.iload_n hx dX3_tell_13 rfl 1 rfl ?_
    refine WS.iald hx rfl (vp_in_nI (by omega) (by decide)) dX3_tell_14 ?_
    refine WS.as rfl rfl (congrArg (fun z => Value.int z :: _) (show σ.1 29 (nn (nI k)) = σ.1 29 k from by rw [nn_nI (by omega)])) ?_
    skip
    refine WS.goto (tgt := 19) hx dX3_tell_15 (by decide) ?_
    exact WS.iret hx he dX3_tell_19 (Ro.i rfl)
  · skip
    show WS layC V 2 X σ 6 [(0, rf V 7), (1, .int (nI k))] [.int 0]
    refine WS.if_eq (tgt := 18) hx dX3_tell_6 (by decide) (fun _ => ?_) (fun h => absurd (by decide) h)
    refine WS.iconst (v := (-1)) hx dX3_tell_18 (by decide) ?_
    exact WS.iret hx he dX3_tell_19 (by exfalso; (try simp only [i_le, i_lt, i_eq, tI_m1, tI_0, tI_1, tI_4] at hb3); (try simp only [i_le, i_lt, i_eq, tI_m1, tI_0, tI_1, tI_4]); omega)
set_option maxHeartbeats 1000000 in
theorem c_X3_hasImage (V : Vt) (d : Nat) (σ : Sg) (k : Bool) (hk : σ.1 7 7 = bI k) : CT layC V mX3_hasImage (d) [rf V 7] σ (Rb (k = true) σ) := by
  refine CT.of (own := RX3) rfl (by decide) (Nat.le_of_ble_eq_true rfl) (fun X (hx : Ok V RX3 cX3_hasImage 1 (d) X) (he : En layC V (some .boolean) (Rb (k = true) σ) X) => ?_)
  change WS layC V 1 X σ 0 [(0, rf V 7)] []
  refine WS.aload_n hx dX3_hasImage_0 rfl 0 rfl ?_
  refine WS.getI hx okX3 lf3_81 rfl rfl dX3_hasImage_1 ?_
  refine WS.as rfl rfl (congrArg (fun z => Value.int z :: _) (show σ.1 7 7 = bI k from hk)) ?_
  skip
  exact WS.zret hx he dX3_hasImage_4 (by cases k <;> decide) (by cases k; exact Rb.f (by decide); exact Rb.t rfl)
def opnQ (σ : Sg) (b : Nat) (w : Int32) : Sg := stI (stI (stI (stI σ 14 b 1) 29 1 (σ.1 29 1 + 1)) 29 2 (σ.1 29 2 + w)) 29 3 (σ.1 29 3 ||| ((1 : Int32) <<< (w &&& 31)))
theorem hasC_b {n b : Nat} (h : b < n) (hn : n ≤ 10) {q : Int32} (h1 : 0 ≤ q.toInt) (h2 : q.toInt ≤ 4) : hasC n (nI b) q := by
  have := nI_c (k := b) (by omega)
  unfold hasC; omega
set_option maxHeartbeats 1000000 in
theorem c_X3_openOne (V : Vt) (d : Nat) (σ : Sg) (n : Nat) (hQ : QI σ n) (b : Nat) (hb : b < n) : CT layC V mX3_openOne (d + 3) [rf V 7, .int (nI b)] σ (Ri fun v σ' => σ.1 17 (nn (σ.1 12 b)) = v ∧ opnQ σ b (σ.1 17 (nn (σ.1 12 b))) = σ') := by
  refine CT.of (own := RX3) rfl (by decide) (Nat.le_of_ble_eq_true rfl) (fun X (hx : Ok V RX3 cX3_openOne 3 (d + 3) X) (he : En layC V (some .int) (Ri fun v σ' => σ.1 17 (nn (σ.1 12 b)) = v ∧ opnQ σ b (σ.1 17 (nn (σ.1 12 b))) = σ') X) => ?_)
  change WS layC V 3 X σ 0 [(0, rf V 7), (1, .int (nI b))] []
  refine WS.aload_n hx dX3_openOne_0 rfl 0 rfl ?_
  refine WS.getR hx okX3 lf3_21 rfl rfl dX3_openOne_1 ?_
  refine WS.iload_n hx dX3_openOne_4 rfl 1 rfl ?_
  refine WS.callVi (st := []) [.int (nI b)] hx (c_X7_wordNow V d σ n hQ b hb) okX7_wordNow lm3_67 rfl rfl rfl rfl (Nat.le_of_ble_eq_true rfl) dX3_openOne_5 (fun v1 σ2 h3 => ?_)
  obtain ⟨rfl, rfl⟩ := h3
  show WS layC V 3 X σ 8 [(0, rf V 7), (1, .int (nI b))] [.int (σ.1 17 (nn (σ.1 12 (b))))]
  refine WS.istore_n (lo' := [(2, .int (σ.1 17 (nn (σ.1 12 (b))))), (0, rf V 7), (1, .int (nI b))]) hx dX3_openOne_8 rfl (by decide) rfl ?_
  refine WS.aload_n hx dX3_openOne_9 rfl 1 rfl ?_
  refine WS.getR hx okX3 lf3_21 rfl rfl dX3_openOne_10 ?_
  refine WS.iload_n hx dX3_openOne_13 rfl 2 rfl ?_
  refine WS.iconst (v := 3) hx dX3_openOne_14 (by decide) ?_
  refine WS.iconst (v := 1) hx dX3_openOne_15 (by decide) ?_
  refine WS.callVv (st := []) [.int (nI b), .int 3, .int 1] hx (c_X7_become V d σ n hQ (nI b) 3 (hasC_b hb hQ.n (by decide) (by decide)) 1 (by unfold isSoC; decide +kernel)) okX7_become lm3_54 rfl rfl rfl rfl (Nat.le_of_ble_eq_true rfl) dX3_openOne_16 (fun σ5 h6 => ?_)
  obtain rfl := h6
  show WS layC V 3 X (stI σ (numId 3) (nn (nI b)) 1) 19 [(2, .int (σ.1 17 (nn (σ.1 12 (b))))), (0, rf V 7), (1, .int (nI b))] []
  refine WS.aload_n hx dX3_openOne_19 rfl 1 rfl ?_
  refine WS.getR hx okX3 lf3_11 rfl rfl dX3_openOne_20 ?_
  refine WS.iconst (v := 1) hx dX3_openOne_23 (by decide) ?_
  refine WS.dup2 hx dX3_openOne_24 rfl rfl ?_
  refine WS.iald hx rfl (vp_dec (by decide)) dX3_openOne_25 ?_
  refine WS.iconst (v := 1) hx dX3_openOne_26 (by decide) ?_
  refine WS.iadd hx dX3_openOne_27 ?_
  refine WS.iast hx rfl (vp_dec (by decide)) dX3_openOne_28 ?_
  refine WS.aload_n hx dX3_openOne_29 rfl 1 rfl ?_
  refine WS.getR hx okX3 lf3_11 rfl rfl dX3_openOne_30 ?_
  refine WS.iconst (v := 2) hx dX3_openOne_33 (by decide) ?_
  refine WS.dup2 hx dX3_openOne_34 rfl rfl ?_
  refine WS.iald hx rfl (vp_dec (by decide)) dX3_openOne_35 ?_
  refine WS.iload_n hx dX3_openOne_36 rfl 0 rfl ?_
  refine WS.iadd hx dX3_openOne_37 ?_
  refine WS.iast hx rfl (vp_dec (by decide)) dX3_openOne_38 ?_
  refine WS.aload_n hx dX3_openOne_39 rfl 1 rfl ?_
  refine WS.getR hx okX3 lf3_11 rfl rfl dX3_openOne_40 ?_
  refine WS.iconst (v := 3) hx dX3_openOne_43 (by decide) ?_
  refine WS.dup2 hx dX3_openOne_44 rfl rfl ?_
  refine WS.iald hx rfl (vp_dec (by decide)) dX3_openOne_45 ?_
  refine WS.iconst (v := 1) hx dX3_openOne_46 (by decide) ?_
  refine WS.iload_n hx dX3_openOne_47 rfl 0 rfl ?_
  refine WS.ishl hx dX3_openOne_48 ?_
  refine WS.ior hx dX3_openOne_49 ?_
  refine WS.iast hx rfl (vp_dec (by decide)) dX3_openOne_50 ?_
  refine WS.iload_n hx dX3_openOne_51 rfl 0 rfl ?_
  exact WS.iret hx he dX3_openOne_52 ⟨_, rfl, rfl, by unfold opnQ; simp only [show numId 3 = 14 from rfl, nn_nI (show b < 2 ^ 31 by have := hQ.n; omega)]; rfl⟩
def nwA (σ : Sg) (n m c i : Nat) : Nat → Int32 := fun j => if j < i then nI ((wdS σ n m c).cn j ((wdS σ n m c).bd j) ((wdS σ n m c).s0 j)).1 else σ.1 12 j
/-- in the midst of a century in deed -/
def DE (σ τ : Sg) (n m c i : Nat) : Prop := (∀ q, ¬ scr q → q ≠ 12 → τ.1 q = σ.1 q) ∧ τ.2 = σ.2 ∧ τ.1 12 = nwA σ n m c i
theorem QI.de {σ τ : Sg} {n m c i : Nat} (h : QI σ n) (hi : i ≤ n) (e : DE σ τ n m c i) : QI τ n := by
  obtain ⟨e1, e2, e3⟩ := e
  unfold QI
  rw [e1 1 (ns (by decide)) (by decide), e1 11 (ns (by decide)) (by decide), e3, e1 13 (ns (by decide)) (by decide), e1 14 (ns (by decide)) (by decide), e1 15 (ns (by decide)) (by decide), e1 16 (ns (by decide)) (by decide), e1 17 (ns (by decide)) (by decide), e1 18 (ns (by decide)) (by decide)]
  refine ⟨h.1, h.2.1, h.2.2.1, fun j hj => ?_, h.2.2.2.2⟩
  unfold nwA
  split
  · have := (cn_r (m := m) (c := c) (k := j) (b := (wdS σ n m c).bd j) h (s0_r (m := m) (c := c) (k := j) h (by omega)).1).1
    exact rg_nI (by omega) (by decide)
  · exact h.2.2.2.1 j hj
theorem wdS_de {σ τ : Sg} {n m c i : Nat} (hc : c = 19 ∨ c = 20) (e : DE σ τ n m c i) : (wdS τ n m c).cn i = (wdS σ n m c).cn i ∧ (wdS τ n m c).bd i = (wdS σ n m c).bd i ∧ (wdS τ n m c).s0 i = (wdS σ n m c).s0 i := by
  obtain ⟨e1, e2, e3⟩ := e
  unfold wdS Wd.cn Wd.bd Wd.s0 Lc
  rw [e1 c (ns (by omega)) (by omega), e1 11 (ns (by decide)) (by decide), e1 14 (ns (by decide)) (by decide), e1 16 (ns (by decide)) (by decide), e1 17 (ns (by decide)) (by decide), e1 18 (ns (by decide)) (by decide), e3]
  exact ⟨rfl, rfl, by show (nn (nwA σ n m c i i), _) = (nn (σ.1 12 i), _); unfold nwA; rw [if_neg (Nat.lt_irrefl i)]⟩
theorem nwA_s {σ : Sg} {n m c i : Nat} : upd (nwA σ n m c i) i (nI ((wdS σ n m c).cn i ((wdS σ n m c).bd i) ((wdS σ n m c).s0 i)).1) = nwA σ n m c (i + 1) := by
  funext j
  unfold upd nwA
  by_cases h : j = i
  · rw [if_pos h, if_pos (by omega), h]
  · rw [if_neg h]
    by_cases h2 : j < i
    · rw [if_pos h2, if_pos (by omega)]
    · rw [if_neg h2, if_neg (by omega)]
theorem LI.ne {V : Vt} {σ : Sg} {m c o k : Nat} {v : Int32} (h : LI V σ m c) (ho : o ≠ 2 ∧ o ≠ 19 ∧ o ≠ 20 ∧ o ≠ 23) : LI V (stI σ o k v) m c := by
  have hc : (stI σ o k v).1 c = σ.1 c := stI_o _ _ _ _ (by rcases h.c.2.2 with rfl | rfl <;> omega)
  unfold LI
  rw [hc, stI_o _ _ _ _ (Ne.symm ho.1), stI_o _ _ _ _ (Ne.symm ho.2.2.2)]
  exact h
/-- a century in deed -/
def cenQ (σ τ : Sg) (n m c : Nat) : Prop := (∀ q, ¬ scr q → q ≠ 12 → q ≠ 18 → q ≠ 29 → τ.1 q = σ.1 q) ∧ τ.2 = σ.2 ∧ τ.1 12 = nwA σ n m c n ∧ τ.1 18 = upd (σ.1 18) 0 (nI (min (nn (σ.1 18 0) + 1) 99)) ∧ τ.1 29 = upd (σ.1 29) 0 (σ.1 29 0 + 1)
theorem QI9 {τ : Sg} {n y : Nat} {v : Int32} (h : QI τ n) (hy : y ≤ 99) : QI (stI (stI τ (numId 7) (nn 0) (nI (min (y + 1) 99))) 29 0 v) n := ⟨h.1, h.2.1, h.2.2.1, h.2.2.2.1, h.2.2.2.2.1, h.2.2.2.2.2.1, h.2.2.2.2.2.2.1, h.2.2.2.2.2.2.2.1, h.2.2.2.2.2.2.2.2.1, rg_nI (by omega) (by decide)⟩
set_option maxHeartbeats 1000000 in
theorem lp_X3_passCentury (V : Vt) (d : Nat) (σ : Sg) (n : Nat) (hQ : QI σ n) (m c : Nat) (hL : LI V σ m c) (X : Xt) (hx : Ok V RX3 cX3_passCentury 2 (d + 5) X) (he : En layC V (some .int) (Ri fun v σ' => nI (min (nn (σ.1 18 0) + 1) 99) = v ∧ cenQ σ σ' n m c ∧ LI V σ' m c) X) : ∀ (i : Nat) (τ : Sg), i ≤ n → DE σ τ n m c i → LI V τ m c → WS layC V 2 X τ 2 [(1, .int (nI i)), (0, rf V 7)] [] := by
  intro i
  induction hm : n - i using Nat.strongRecOn generalizing i with
  | _ m9 ih =>
    intro τ hi hE hLt
    have hn10 := hQ.n
    have hiI : (nI i).toInt = (i : Int) := nI_c (by omega)
    have hnI : (nI n).toInt = (n : Int) := nI_c (by omega)
    have hQt := hQ.de hi hE
    have hcc := hL.c.2.2
    obtain ⟨hw1, hw2, hw3⟩ := wdS_de hcc hE
    have hy := hQ.2.2.2.2.2.2.2.2.2
    have hyl := hy.le
    have h18 : τ.1 18 = σ.1 18 := hE.1 18 (ns (by decide)) (by decide)
    refine WS.iload_n hx dX3_passCentury_2 rfl 0 rfl ?_
    refine WS.aload_n hx dX3_passCentury_3 rfl 1 rfl ?_
    refine WS.getR hx okX3 lf3_21 rfl rfl dX3_passCentury_4 ?_
    refine WS.callVi (st := [.int (nI i)]) [] hx (c_X7_size V (d + 4) τ n hQt) okX7_size lm3_38 rfl rfl rfl rfl (Nat.le_of_ble_eq_true rfl) dX3_passCentury_7 (fun v1 σ2 h3 => ?_)
    obtain ⟨rfl, rfl⟩ := h3
    show WS layC V 2 X τ 10 [(1, .int (nI i)), (0, rf V 7)] [.int (nI n), .int (nI i)]
    refine WS.icmp_ge (tgt := 51) hx dX3_passCentury_10 (by decide) (fun c10 => ?_) (fun c10 => ?_)
    · skip
      show WS layC V 2 X τ 51 [(1, .int (nI i)), (0, rf V 7)] []
      refine WS.aload_n hx dX3_passCentury_51 rfl 1 rfl ?_
      refine WS.getR hx okX3 lf3_21 rfl rfl dX3_passCentury_52 ?_
      refine WS.iconst (v := 0) hx dX3_passCentury_55 (by decide) ?_
      refine WS.bipush (v := 7) hx dX3_passCentury_56 (by decide) ?_
      refine WS.aload_n hx dX3_passCentury_58 rfl 1 rfl ?_
      refine WS.getR hx okX3 lf3_21 rfl rfl dX3_passCentury_59 ?_
      refine WS.callVi (st := [.int 7, .int 0, rf V 1]) [] hx (c_X7_centuryNow V (d + 4) τ n hQt) okX7_centuryNow lm3_58 rfl rfl rfl rfl (Nat.le_of_ble_eq_true rfl) dX3_passCentury_62 (fun v4 σ5 h6 => ?_)
      obtain ⟨rfl, rfl⟩ := h6
      show WS layC V 2 X τ 65 [(1, .int (nI i)), (0, rf V 7)] [.int (τ.1 18 0), .int 7, .int 0, rf V 1]
      refine WS.as rfl rfl (congrArg (fun z => Value.int z :: _) (show τ.1 18 0 = nI (nn (σ.1 18 0)) from by rw [h18]; exact hy.i)) ?_
      skip
      refine WS.iconst (v := 1) hx dX3_passCentury_65 (by decide) ?_
      refine WS.iadd hx dX3_passCentury_66 ?_
      refine WS.bipush (v := 99) hx dX3_passCentury_67 (by decide) ?_
      refine WS.mmin hx lm3_61 (Nat.le_of_ble_eq_true rfl) dX3_passCentury_69 ?_
      refine WS.as rfl rfl (congrArg (fun z => Value.int z :: _) (show mn ((nI (nn (σ.1 18 0))) + 1) 99 = nI (min (nn (σ.1 18 0) + 1) 99) from mn_99 hyl)) ?_
      skip
      refine WS.callVv (st := []) [.int 0, .int 7, .int (nI (min (nn (σ.1 18 0) + 1) 99))] hx (c_X7_become V (d + 2) τ n hQt 0 7 (by unfold hasC; rw [tI_7, tI_0]; omega) (nI (min (nn (σ.1 18 0) + 1) 99)) (by unfold isSoC; rw [nI_c (by omega), show zt_f 0 (nn 7) = 99 from rfl, tI_99, tI_7]; omega)) okX7_become lm3_54 rfl rfl rfl rfl (Nat.le_of_ble_eq_true rfl) dX3_passCentury_72 (fun σ8 h9 => ?_)
      obtain rfl := h9
      show WS layC V 2 X (stI τ (numId 7) (nn 0) (nI (min (nn (σ.1 18 0) + 1) 99))) 75 [(1, .int (nI i)), (0, rf V 7)] []
      refine WS.aload_n hx dX3_passCentury_75 rfl 1 rfl ?_
      refine WS.getR hx okX3 lf3_11 rfl rfl dX3_passCentury_76 ?_
      refine WS.iconst (v := 0) hx dX3_passCentury_79 (by decide) ?_
      refine WS.dup2 hx dX3_passCentury_80 rfl rfl ?_
      refine WS.iald hx rfl (vp_dec (by decide)) dX3_passCentury_81 ?_
      refine WS.iconst (v := 1) hx dX3_passCentury_82 (by decide) ?_
      refine WS.iadd hx dX3_passCentury_83 ?_
      refine WS.iast hx rfl (vp_dec (by decide)) dX3_passCentury_84 ?_
      refine WS.aload_n hx dX3_passCentury_85 rfl 1 rfl ?_
      refine WS.getR hx okX3 lf3_21 rfl rfl dX3_passCentury_86 ?_
      refine WS.callVi (st := []) [] hx (c_X7_centuryNow V (d + 4) (stI (stI τ (numId 7) (nn 0) (nI (min (nn (σ.1 18 0) + 1) 99))) 29 0 (((stI τ (numId 7) (nn 0) (nI (min (nn (σ.1 18 0) + 1) 99))).1 29 0) + 1)) n (QI9 hQt hyl)) okX7_centuryNow lm3_58 rfl rfl rfl rfl (Nat.le_of_ble_eq_true rfl) dX3_passCentury_89 (fun v10 σ11 h12 => ?_)
      obtain ⟨rfl, rfl⟩ := h12
      show WS layC V 2 X (stI (stI τ (numId 7) (nn 0) (nI (min (nn (σ.1 18 0) + 1) 99))) 29 0 (((stI τ (numId 7) (nn 0) (nI (min (nn (σ.1 18 0) + 1) 99))).1 29 0) + 1)) 92 [(1, .int (nI i)), (0, rf V 7)] [.int ((stI (stI τ (numId 7) (nn 0) (nI (min (nn (σ.1 18 0) + 1) 99))) 29 0 (((stI τ (numId 7) (nn 0) (nI (min (nn (σ.1 18 0) + 1) 99))).1 29 0) + 1)).1 18 0)]
      exact WS.iret hx he dX3_passCentury_92 (by
      have hin : n = i := by (try simp only [i_le, i_lt, i_eq, tI_0, tI_1, tI_7, tI_99] at c10); (try simp only [i_le, i_lt, i_eq, tI_0, tI_1, tI_7, tI_99]); omega
      subst hin
      refine ⟨_, rfl, ?_, ⟨fun q hq h12 h18q h29 => ?_, hE.2.1, ?_, ?_, ?_⟩, (hLt.ne (by decide)).ne (by decide)⟩
      · rfl
      · rw [stI_o _ _ _ _ h29, stI_o _ _ _ _ (show q ≠ numId 7 from h18q)]; exact hE.1 q hq h12
      · exact hE.2.2
      · rw [← h18]; rfl
      · rw [← hE.1 29 (ns (by decide)) (by decide)]; rfl)
    · skip
      show WS layC V 2 X τ 13 [(1, .int (nI i)), (0, rf V 7)] []
      refine WS.aload_n hx dX3_passCentury_13 rfl 1 rfl ?_
      refine WS.getR hx okX3 lf3_30 rfl rfl dX3_passCentury_14 ?_
      refine WS.iload_n hx dX3_passCentury_17 rfl 0 rfl ?_
      refine WS.callVv (st := []) [.int (nI i)] hx (ck_begin V (d + 1) τ 41 (by decide) n hQt m c hLt i (by (try simp only [i_le, i_lt, i_eq, tI_0, tI_1, tI_7, tI_99] at c10); (try simp only [i_le, i_lt, i_eq, tI_0, tI_1, tI_7, tI_99]); omega)) okX9_begin lm3_44 rfl rfl rfl rfl (Nat.le_of_ble_eq_true rfl) dX3_passCentury_18 (fun σ14 h15 => ?_)
      obtain ⟨the18, li18, tk18⟩ := h15
      rw [hw2, hw3] at tk18
      have hilt : i < n := by (try simp only [i_le, i_lt, i_eq, tI_0, tI_1, tI_7, tI_99] at c10); (try simp only [i_le, i_lt, i_eq, tI_0, tI_1, tI_7, tI_99]); omega
      have hr18 := s0_r (m := m) (c := c) hQ hilt
      have hb18 := bd_r (m := m) (c := c) hQ hilt
      have hcr := cn_r (m := m) (c := c) (k := i) (b := (wdS σ n m c).bd i) hQ hr18.1
      have hQ18 := hQt.the (by decide) the18
      have hw18 : wdS σ14 n m c = wdS τ n m c := wdS_the (by decide) the18 hcc
      show WS layC V 2 X σ14 21 [(1, .int (nI i)), (0, rf V 7)] []
      refine WS.aload_n hx dX3_passCentury_21 rfl 1 rfl ?_
      refine WS.getR hx okX3 lf3_30 rfl rfl dX3_passCentury_22 ?_
      refine WS.iconst (v := 1) hx dX3_passCentury_25 (by decide) ?_
      refine WS.callVv (st := []) [.int 1] hx (ck_pass V d σ14 41 (by decide) n hQ18 m c li18 i (by (try simp only [i_le, i_lt, i_eq, tI_0, tI_1, tI_7, tI_99] at c10); (try simp only [i_le, i_lt, i_eq, tI_0, tI_1, tI_7, tI_99]); omega) _ hb18 _ hr18.1 hr18.2 (by rw [hw18]; exact tk18) 1 (by decide)) okX9_passCenturies lm3_48 rfl rfl rfl rfl (Nat.le_of_ble_eq_true rfl) dX3_passCentury_26 (fun σ17 h18 => ?_)
      obtain ⟨the26, li26, tk26⟩ := h18
      rw [hw18, hw1] at tk26
      have se26 := (SE.the (by decide) the18).tr (SE.the (by decide) the26)
      show WS layC V 2 X σ17 29 [(1, .int (nI i)), (0, rf V 7)] []
      refine WS.aload_n hx dX3_passCentury_29 rfl 1 rfl ?_
      refine WS.getR hx okX3 lf3_21 rfl rfl dX3_passCentury_30 ?_
      refine WS.iload_n hx dX3_passCentury_33 rfl 0 rfl ?_
      refine WS.iconst (v := 1) hx dX3_passCentury_34 (by decide) ?_
      refine WS.aload_n hx dX3_passCentury_35 rfl 1 rfl ?_
      refine WS.getR hx okX3 lf3_30 rfl rfl dX3_passCentury_36 ?_
      refine WS.callVi (st := [.int 1, .int (nI i), rf V 1]) [] hx (c_X9_place V (d + 4) σ17 41 (by decide)) okX9_place lm3_51 rfl rfl rfl rfl (Nat.le_of_ble_eq_true rfl) dX3_passCentury_39 (fun v19 σ20 h21 => ?_)
      obtain ⟨rfl, rfl⟩ := h21
      show WS layC V 2 X σ17 42 [(1, .int (nI i)), (0, rf V 7)] [.int (σ17.1 41 4), .int 1, .int (nI i), rf V 1]
      refine WS.as rfl rfl (congrArg (fun z => Value.int z :: _) (show σ17.1 41 4 = nI ((wdS σ n m c).cn i ((wdS σ n m c).bd i) ((wdS σ n m c).s0 i)).1 from tk26.at)) ?_
      skip
      refine WS.callVv (st := []) [.int (nI i), .int 1, .int (nI ((wdS σ n m c).cn i ((wdS σ n m c).bd i) ((wdS σ n m c).s0 i)).1)] hx (c_X7_become V (d + 2) σ17 n (hQ18.the (by decide) the26) (nI i) 1 (hasC_b (by (try simp only [i_le, i_lt, i_eq, tI_0, tI_1, tI_7, tI_99] at c10); (try simp only [i_le, i_lt, i_eq, tI_0, tI_1, tI_7, tI_99]); omega) hn10 (by decide) (by decide)) (nI ((wdS σ n m c).cn i ((wdS σ n m c).bd i) ((wdS σ n m c).s0 i)).1) (by have := hcr.1; unfold isSoC; rw [nI_c (by omega), show zt_f 0 (nn 1) = 15 from rfl, tI_15, tI_1]; omega)) okX7_become lm3_54 rfl rfl rfl rfl (Nat.le_of_ble_eq_true rfl) dX3_passCentury_42 (fun σ23 h24 => ?_)
      obtain rfl := h24
      show WS layC V 2 X (stI σ17 (numId 1) (nn (nI i)) (nI ((wdS σ n m c).cn i ((wdS σ n m c).bd i) ((wdS σ n m c).s0 i)).1)) 45 [(1, .int (nI i)), (0, rf V 7)] []
      refine WS.iinc (v := nI (i + 1)) (lo' := [(1, .int (nI (i + 1))), (0, rf V 7)]) hx dX3_passCentury_45 0 rfl (nI_1 i) (by decide) rfl ?_
      refine WS.goto (tgt := 2) hx dX3_passCentury_48 (by decide) ?_
      have e9 : stI σ17 (numId 1) (nn (nI i)) (nI ((wdS σ n m c).cn i ((wdS σ n m c).bd i) ((wdS σ n m c).s0 i)).1) = stI σ17 12 i (nI ((wdS σ n m c).cn i ((wdS σ n m c).bd i) ((wdS σ n m c).s0 i)).1) := by simp only [show numId 1 = 12 from rfl, nn_nI (show i < 2 ^ 31 by omega)]
      refine WS.as e9 rfl rfl ?_
      exact WS.los [0, 1] rfl (ih _ (by (try simp only [i_le, i_lt, i_eq, tI_0, tI_1, tI_7, tI_99] at c10); (try simp only [i_le, i_lt, i_eq, tI_0, tI_1, tI_7, tI_99]); omega) (i + 1) rfl _ (by (try simp only [i_le, i_lt, i_eq, tI_0, tI_1, tI_7, tI_99] at c10); (try simp only [i_le, i_lt, i_eq, tI_0, tI_1, tI_7, tI_99]); omega) ⟨fun q hq h12 => by rw [stI_o _ _ _ _ h12, se26.1 q hq]; exact hE.1 q hq h12, se26.2.trans hE.2.1, by rw [← nwA_s, ← hE.2.2, ← se26.1 12 (ns (by decide))]; simp [stI, va_up]⟩ (li26.ne (by decide)))
set_option maxHeartbeats 1000000 in
theorem c_X3_passCentury (V : Vt) (d : Nat) (σ : Sg) (n : Nat) (hQ : QI σ n) (m c : Nat) (hL : LI V σ m c) : CT layC V mX3_passCentury (d + 5) [rf V 7] σ (Ri fun v σ' => nI (min (nn (σ.1 18 0) + 1) 99) = v ∧ cenQ σ σ' n m c ∧ LI V σ' m c) := by
  refine CT.of (own := RX3) rfl (by decide) (Nat.le_of_ble_eq_true rfl) (fun X (hx : Ok V RX3 cX3_passCentury 2 (d + 5) X) (he : En layC V (some .int) (Ri fun v σ' => nI (min (nn (σ.1 18 0) + 1) 99) = v ∧ cenQ σ σ' n m c ∧ LI V σ' m c) X) => ?_)
  change WS layC V 2 X σ 0 [(0, rf V 7)] []
  refine WS.iconst (v := 0) hx dX3_passCentury_0 (by decide) ?_
  refine WS.istore_n (lo' := [(1, .int 0), (0, rf V 7)]) hx dX3_passCentury_1 rfl (by decide) rfl ?_
  exact lp_X3_passCentury V d σ n hQ m c hL X hx he 0 σ (Nat.zero_le n) ⟨fun _ _ _ => rfl, rfl, by funext j; rfl⟩ hL
def hrc (σ : Sg) (j : Nat) : Prop := σ.1 14 j = 1 ∧ σ.1 15 j = 0
def hrL (σ : Sg) (h i : Nat) : Nat → Int32 := fun j => if j < i ∧ σ.1 14 j = 1 ∧ σ.1 15 j = 0 then nI (nn (σ.1 13 j) - h) else σ.1 13 j
def hrD (σ : Sg) (h i : Nat) : Nat → Int32 := fun j => if j < i ∧ σ.1 14 j = 1 ∧ σ.1 15 j = 0 ∧ nn (σ.1 13 j) - h = 0 then 1 else σ.1 15 j
def hrN (σ : Sg) (h : Nat) : Nat → Nat
  | 0 => 0
  | i + 1 => hrN σ h i + (if σ.1 14 i = 1 ∧ σ.1 15 i = 0 ∧ nn (σ.1 13 i) - h = 0 then 1 else 0)
theorem hr_skip {σ : Sg} {h i : Nat} (hc : ¬ (σ.1 14 i = 1 ∧ σ.1 15 i = 0)) : hrL σ h (i + 1) = hrL σ h i ∧ hrD σ h (i + 1) = hrD σ h i ∧ hrN σ h (i + 1) = hrN σ h i := by
  refine ⟨?_, ?_, ?_⟩
  · funext j
    unfold hrL
    by_cases e : j = i
    · rw [if_neg (fun q => hc (e ▸ q.2)), if_neg (fun q => hc (e ▸ q.2))]
    · simp only [show j < i + 1 ↔ j < i by omega]
  · funext j
    unfold hrD
    by_cases e : j = i
    · rw [if_neg (fun q => hc (e ▸ ⟨q.2.1, q.2.2.1⟩)), if_neg (fun q => hc (e ▸ ⟨q.2.1, q.2.2.1⟩))]
    · simp only [show j < i + 1 ↔ j < i by omega]
  · show hrN σ h i + _ = _
    rw [if_neg (fun q => hc ⟨q.1, q.2.1⟩)]; omega
theorem hr_less {σ : Sg} {h i : Nat} (hc : σ.1 14 i = 1 ∧ σ.1 15 i = 0) : hrL σ h (i + 1) = upd (hrL σ h i) i (nI (nn (σ.1 13 i) - h)) := by
  funext j
  unfold hrL upd
  by_cases e : j = i
  · rw [if_pos e, if_pos ⟨by omega, e ▸ hc⟩, e]
  · rw [if_neg e]; simp only [show j < i + 1 ↔ j < i by omega]
theorem hr_live {σ : Sg} {h i : Nat} (hz : ¬ nn (σ.1 13 i) - h = 0) : hrD σ h (i + 1) = hrD σ h i ∧ hrN σ h (i + 1) = hrN σ h i := by
  refine ⟨?_, ?_⟩
  · funext j
    unfold hrD
    by_cases e : j = i
    · rw [if_neg (fun q => hz (e ▸ q.2.2.2)), if_neg (fun q => hz (e ▸ q.2.2.2))]
    · simp only [show j < i + 1 ↔ j < i by omega]
  · show hrN σ h i + _ = _
    rw [if_neg (fun q => hz q.2.2)]; omega
theorem hr_dies {σ : Sg} {h i : Nat} (hc : σ.1 14 i = 1 ∧ σ.1 15 i = 0) (hz : nn (σ.1 13 i) - h = 0) : hrD σ h (i + 1) = upd (hrD σ h i) i 1 ∧ hrN σ h (i + 1) = hrN σ h i + 1 := by
  refine ⟨?_, ?_⟩
  · funext j
    unfold hrD upd
    by_cases e : j = i
    · rw [if_pos e, if_pos ⟨by omega, e ▸ hc.1, e ▸ hc.2, e ▸ hz⟩]
    · rw [if_neg e]; simp only [show j < i + 1 ↔ j < i by omega]
  · show hrN σ h i + _ = _
    rw [if_pos ⟨hc.1, hc.2, hz⟩]
theorem hrN_le {σ : Sg} {h : Nat} : ∀ i, hrN σ h i ≤ i
  | 0 => Nat.le_refl _
  | i + 1 => by
    have := hrN_le (σ := σ) (h := h) i
    unfold hrN; split <;> omega
def HE (σ τ : Sg) (h i : Nat) : Prop := (∀ q, q ≠ 13 → q ≠ 15 → τ.1 q = σ.1 q) ∧ τ.2 = σ.2 ∧ τ.1 13 = hrL σ h i ∧ τ.1 15 = hrD σ h i
theorem QI.he {σ τ : Sg} {n h i : Nat} (q : QI σ n) (e : HE σ τ h i) : QI τ n := by
  obtain ⟨e1, e2, e3, e4⟩ := e
  unfold QI
  rw [e1 1 (by decide) (by decide), e1 11 (by decide) (by decide), e1 12 (by decide) (by decide), e3, e1 14 (by decide) (by decide), e4, e1 16 (by decide) (by decide), e1 17 (by decide) (by decide), e1 18 (by decide) (by decide)]
  refine ⟨q.1, q.2.1, q.2.2.1, q.2.2.2.1, fun j hj => ?_, q.2.2.2.2.2.1, fun j hj => ?_, q.2.2.2.2.2.2.2⟩
  · unfold hrL
    have := (q.2.2.2.2.1 j hj).le
    split
    · exact rg_nI (by omega) (by decide)
    · exact q.2.2.2.2.1 j hj
  · unfold hrD
    split
    · exact ⟨by decide, by decide⟩
    · exact q.2.2.2.2.2.2.1 j hj
theorem mx_sub {l h : Nat} (h1 : l ≤ 1000) (h2 : h ≤ 1000) : mx 0 (nI l - nI h) = nI (l - h) := by
  have e1 : (nI l).toInt = (l : Int) := nI_c (by omega)
  have e2 : (nI h).toInt = (h : Int) := nI_c (by omega)
  have e3 : (nI l - nI h).toInt = (l : Int) - h := by rw [i_sub (by omega) (by omega), e1, e2]
  unfold mx
  by_cases c : (0 : Int32) < nI l - nI h
  · rw [if_pos c]
    rw [i_lt, tI_0, e3] at c
    rw [i_eq, e3, nI_c (by omega)]; omega
  · rw [if_neg c]
    rw [i_lt, tI_0, e3] at c
    rw [i_eq, tI_0, nI_c (by omega)]; omega
set_option maxHeartbeats 1000000 in
theorem lp_X3_passHours (V : Vt) (d : Nat) (σ : Sg) (n : Nat) (hQ : QI σ n) (h : Nat) (hh : h ≤ 99) (X : Xt) (hx : Ok V RX3 cX3_passHours 5 (d + 3) X) (he : En layC V (some .int) (Ri fun v σ' => nI (hrN σ h n) = v ∧ (∀ q, q ≠ 13 → q ≠ 15 → q ≠ 29 → σ'.1 q = σ.1 q) ∧ σ'.2 = σ.2 ∧ σ'.1 13 = hrL σ h n ∧ σ'.1 15 = hrD σ h n ∧ σ'.1 29 = upd (σ.1 29) 4 (σ.1 29 4 + nI (hrN σ h n))) X) : ∀ (i : Nat) (τ : Sg), i ≤ n → HE σ τ h i → WS layC V 5 X τ 4 [(3, .int (nI i)), (2, .int (nI (hrN σ h i))), (0, rf V 7), (1, .int (nI h))] [] := by
  intro i
  induction hm : n - i using Nat.strongRecOn generalizing i with
  | _ m9 ih =>
    intro τ hi hE
    have hn10 := hQ.n
    have hiI : (nI i).toInt = (i : Int) := nI_c (by omega)
    have hnI : (nI n).toInt = (n : Int) := nI_c (by omega)
    have hQt := hQ.he hE
    have h14 : τ.1 14 = σ.1 14 := hE.1 14 (by decide) (by decide)
    have h13 : τ.1 13 i = σ.1 13 i := by rw [hE.2.2.1]; exact if_neg (fun q => Nat.lt_irrefl i q.1)
    have h15 : τ.1 15 i = σ.1 15 i := by rw [hE.2.2.2]; exact if_neg (fun q => Nat.lt_irrefl i q.1)
    refine WS.iload_n hx dX3_passHours_4 rfl 0 rfl ?_
    refine WS.aload_n hx dX3_passHours_5 rfl 2 rfl ?_
    refine WS.getR hx okX3 lf3_21 rfl rfl dX3_passHours_6 ?_
    refine WS.callVi (st := [.int (nI i)]) [] hx (c_X7_size V (d + 2) τ n hQt) okX7_size lm3_38 rfl rfl rfl rfl (Nat.le_of_ble_eq_true rfl) dX3_passHours_9 (fun v1 σ2 h3 => ?_)
    obtain ⟨rfl, rfl⟩ := h3
    show WS layC V 5 X τ 12 [(3, .int (nI i)), (2, .int (nI (hrN σ h i))), (0, rf V 7), (1, .int (nI h))] [.int (nI n), .int (nI i)]
    refine WS.icmp_ge (tgt := 90) hx dX3_passHours_12 (by decide) (fun c12 => ?_) (fun c12 => ?_)
    · skip
      show WS layC V 5 X τ 90 [(3, .int (nI i)), (2, .int (nI (hrN σ h i))), (0, rf V 7), (1, .int (nI h))] []
      refine WS.aload_n hx dX3_passHours_90 rfl 2 rfl ?_
      refine WS.getR hx okX3 lf3_11 rfl rfl dX3_passHours_91 ?_
      refine WS.iconst (v := 4) hx dX3_passHours_94 (by decide) ?_
      refine WS.dup2 hx dX3_passHours_95 rfl rfl ?_
      refine WS.iald hx rfl (vp_dec (by decide)) dX3_passHours_96 ?_
      refine WS.iload_n hx dX3_passHours_97 rfl 1 rfl ?_
      refine WS.iadd hx dX3_passHours_98 ?_
      refine WS.iast hx rfl (vp_dec (by decide)) dX3_passHours_99 ?_
      refine WS.iload_n hx dX3_passHours_100 rfl 1 rfl ?_
      exact WS.iret hx he dX3_passHours_101 (by
      have hin : n = i := by (try simp only [i_le, i_lt, i_eq, tI_0, tI_1, tI_2, tI_4] at c12); (try simp only [i_le, i_lt, i_eq, tI_0, tI_1, tI_2, tI_4]); omega
      subst hin
      exact ⟨_, rfl, rfl, fun q a b e => (stI_o _ _ _ _ e).trans (hE.1 q a b), hE.2.1, hE.2.2.1, hE.2.2.2, by rw [← hE.1 29 (by decide) (by decide)]; simp [stI, va_up]⟩)
    · skip
      show WS layC V 5 X τ 15 [(3, .int (nI i)), (2, .int (nI (hrN σ h i))), (0, rf V 7), (1, .int (nI h))] []
      refine WS.aload_n hx dX3_passHours_15 rfl 2 rfl ?_
      refine WS.getR hx okX3 lf3_21 rfl rfl dX3_passHours_16 ?_
      refine WS.iload_n hx dX3_passHours_19 rfl 0 rfl ?_
      refine WS.callVi (st := []) [.int (nI i)] hx (c_X7_isOpen V d τ n hQt i (by (try simp only [i_le, i_lt, i_eq, tI_0, tI_1, tI_2, tI_4] at c12); (try simp only [i_le, i_lt, i_eq, tI_0, tI_1, tI_2, tI_4]); omega)) okX7_isOpen lm3_71 rfl rfl rfl rfl (Nat.le_of_ble_eq_true rfl) dX3_passHours_20 (fun v4 σ5 h6 => ?_)
      rcases h6 with ⟨rfl, rfl, hb20⟩ | ⟨rfl, rfl, hb20⟩
      · skip
        show WS layC V 5 X τ 23 [(3, .int (nI i)), (2, .int (nI (hrN σ h i))), (0, rf V 7), (1, .int (nI h))] [.int 1]
        rw [h14] at hb20
        have h13r := hQ.2.2.2.2.1 i (by (try simp only [i_le, i_lt, i_eq, tI_0, tI_1, tI_2, tI_4] at c12); (try simp only [i_le, i_lt, i_eq, tI_0, tI_1, tI_2, tI_4]); omega)
        have h13l := h13r.le
        refine WS.if_eq (tgt := 84) hx dX3_passHours_23 (by decide) (fun h => absurd h (by decide)) (fun _ => ?_)
        refine WS.aload_n hx dX3_passHours_26 rfl 2 rfl ?_
        refine WS.getR hx okX3 lf3_21 rfl rfl dX3_passHours_27 ?_
        refine WS.iload_n hx dX3_passHours_30 rfl 0 rfl ?_
        refine WS.iconst (v := 4) hx dX3_passHours_31 (by decide) ?_
        refine WS.callVi (st := []) [.int (nI i), .int 4] hx (c_X7_told V (d + 1) τ n hQt (nI i) 4 (hasC_b (by (try simp only [i_le, i_lt, i_eq, tI_0, tI_1, tI_2, tI_4] at c12); (try simp only [i_le, i_lt, i_eq, tI_0, tI_1, tI_2, tI_4] at hb20); (try simp only [i_le, i_lt, i_eq, tI_0, tI_1, tI_2, tI_4]); omega) hn10 (by decide) (by decide))) okX7_told lm3_75 rfl rfl rfl rfl (Nat.le_of_ble_eq_true rfl) dX3_passHours_32 (fun v7 σ8 h9 => ?_)
        obtain ⟨rfl, rfl⟩ := h9
        show WS layC V 5 X τ 35 [(3, .int (nI i)), (2, .int (nI (hrN σ h i))), (0, rf V 7), (1, .int (nI h))] [.int (τ.1 (numId 4) (nn (nI i)))]
        refine WS.as rfl rfl (congrArg (fun z => Value.int z :: _) (show τ.1 (numId 4) (nn (nI i)) = σ.1 15 i from by rw [show numId 4 = 15 from rfl, nn_nI (by omega)]; exact h15)) ?_
        skip
        refine WS.if_ne (tgt := 84) hx dX3_passHours_35 (by decide) (fun c35 => ?_) (fun c35 => ?_)
        · skip
          show WS layC V 5 X τ 84 [(3, .int (nI i)), (2, .int (nI (hrN σ h i))), (0, rf V 7), (1, .int (nI h))] []
          have hsk := hr_skip (σ := σ) (h := h) (i := i) (fun q => c35 q.2)
          refine WS.iinc (v := nI (i + 1)) (lo' := [(3, .int (nI (i + 1))), (2, .int (nI (hrN σ h i))), (0, rf V 7), (1, .int (nI h))]) hx dX3_passHours_84 0 rfl (nI_1 i) (by decide) rfl ?_
          refine WS.goto (tgt := 4) hx dX3_passHours_87 (by decide) ?_
          rw [← hsk.2.2]
          exact WS.los [0, 1, 2, 3] rfl (ih _ (by (try simp only [i_le, i_lt, i_eq, tI_0, tI_1, tI_2, tI_4] at c12); (try simp only [i_le, i_lt, i_eq, tI_0, tI_1, tI_2, tI_4] at hb20); (try simp only [i_le, i_lt, i_eq, tI_0, tI_1, tI_2, tI_4] at c35); (try simp only [i_le, i_lt, i_eq, tI_0, tI_1, tI_2, tI_4]); omega) (i + 1) rfl τ (by (try simp only [i_le, i_lt, i_eq, tI_0, tI_1, tI_2, tI_4] at c12); (try simp only [i_le, i_lt, i_eq, tI_0, tI_1, tI_2, tI_4] at hb20); (try simp only [i_le, i_lt, i_eq, tI_0, tI_1, tI_2, tI_4] at c35); (try simp only [i_le, i_lt, i_eq, tI_0, tI_1, tI_2, tI_4]); omega) ⟨hE.1, hE.2.1, by rw [hsk.1]; exact hE.2.2.1, by rw [hsk.2.1]; exact hE.2.2.2⟩)
        · skip
          show WS layC V 5 X τ 38 [(3, .int (nI i)), (2, .int (nI (hrN σ h i))), (0, rf V 7), (1, .int (nI h))] []
          have hc : σ.1 14 i = 1 ∧ σ.1 15 i = 0 := ⟨hb20, c35⟩
          refine WS.iconst (v := 0) hx dX3_passHours_38 (by decide) ?_
          refine WS.aload_n hx dX3_passHours_39 rfl 2 rfl ?_
          refine WS.getR hx okX3 lf3_21 rfl rfl dX3_passHours_40 ?_
          refine WS.iload_n hx dX3_passHours_43 rfl 0 rfl ?_
          refine WS.iconst (v := 2) hx dX3_passHours_44 (by decide) ?_
          refine WS.callVi (st := [.int 0]) [.int (nI i), .int 2] hx (c_X7_told V (d + 1) τ n hQt (nI i) 2 (hasC_b (by (try simp only [i_le, i_lt, i_eq, tI_0, tI_1, tI_2, tI_4] at c12); (try simp only [i_le, i_lt, i_eq, tI_0, tI_1, tI_2, tI_4] at hb20); (try simp only [i_le, i_lt, i_eq, tI_0, tI_1, tI_2, tI_4] at c35); (try simp only [i_le, i_lt, i_eq, tI_0, tI_1, tI_2, tI_4]); omega) hn10 (by decide) (by decide))) okX7_told lm3_75 rfl rfl rfl rfl (Nat.le_of_ble_eq_true rfl) dX3_passHours_45 (fun v10 σ11 h12 => ?_)
          obtain ⟨rfl, rfl⟩ := h12
          show WS layC V 5 X τ 48 [(3, .int (nI i)), (2, .int (nI (hrN σ h i))), (0, rf V 7), (1, .int (nI h))] [.int (τ.1 (numId 2) (nn (nI i))), .int 0]
          refine WS.as rfl rfl (congrArg (fun z => Value.int z :: _) (show τ.1 (numId 2) (nn (nI i)) = nI (nn (σ.1 13 i)) from by rw [show numId 2 = 13 from rfl, nn_nI (by omega), h13]; exact h13r.i)) ?_
          skip
          refine WS.iload_n hx dX3_passHours_48 rfl 3 rfl ?_
          refine WS.isub hx dX3_passHours_49 ?_
          refine WS.mmax hx lm3_78 (Nat.le_of_ble_eq_true rfl) dX3_passHours_50 ?_
          refine WS.as rfl rfl (congrArg (fun z => Value.int z :: _) (show mx 0 ((nI (nn (σ.1 13 i))) - (nI h)) = nI (nn (σ.1 13 i) - h) from mx_sub (by omega) (by omega))) ?_
          skip
          refine WS.istore (lo' := [(4, .int (nI (nn (σ.1 13 i) - h))), (3, .int (nI i)), (2, .int (nI (hrN σ h i))), (0, rf V 7), (1, .int (nI h))]) hx dX3_passHours_53 (by decide) rfl ?_
          refine WS.aload_n hx dX3_passHours_55 rfl 3 rfl ?_
          refine WS.getR hx okX3 lf3_21 rfl rfl dX3_passHours_56 ?_
          refine WS.iload_n hx dX3_passHours_59 rfl 1 rfl ?_
          refine WS.iconst (v := 2) hx dX3_passHours_60 (by decide) ?_
          refine WS.iload hx dX3_passHours_61 0 rfl ?_
          refine WS.callVv (st := []) [.int (nI i), .int 2, .int (nI (nn (σ.1 13 i) - h))] hx (c_X7_become V d τ n hQt (nI i) 2 (hasC_b (by (try simp only [i_le, i_lt, i_eq, tI_0, tI_1, tI_2, tI_4] at c12); (try simp only [i_le, i_lt, i_eq, tI_0, tI_1, tI_2, tI_4] at hb20); (try simp only [i_le, i_lt, i_eq, tI_0, tI_1, tI_2, tI_4] at c35); (try simp only [i_le, i_lt, i_eq, tI_0, tI_1, tI_2, tI_4]); omega) hn10 (by decide) (by decide)) (nI (nn (σ.1 13 i) - h)) (by unfold isSoC; rw [nI_c (by omega), show zt_f 0 (nn 2) = 9 from rfl, tI_9, tI_2]; omega)) okX7_become lm3_54 rfl rfl rfl rfl (Nat.le_of_ble_eq_true rfl) dX3_passHours_63 (fun σ14 h15 => ?_)
          obtain rfl := h15
          have e63 : stI τ (numId 2) (nn (nI i)) (nI (nn (σ.1 13 i) - h)) = stI τ 13 i (nI (nn (σ.1 13 i) - h)) := by simp only [show numId 2 = 13 from rfl, nn_nI (show i < 2 ^ 31 by omega)]
          rw [e63]
          have hQ63 : QI (stI τ 13 i (nI (nn (σ.1 13 i) - h))) n := by
            obtain ⟨a1, a2, a3, a4, a5, a6, a7, a8, a9, a10⟩ := hQt
            refine ⟨a1, a2, a3, a4, fun j hj => ?_, a6, a7, a8, a9, a10⟩
            by_cases e : j = i
            · rw [e, stI_1]; exact rg_nI (by omega) (by decide)
            · rw [stI_k _ _ _ _ e]; exact a5 j hj
          have e13 : (stI τ 13 i (nI (nn (σ.1 13 i) - h))).1 13 = hrL σ h (i + 1) := by rw [hr_less hc, ← hE.2.2.1]; simp [stI, va_up]
          show WS layC V 5 X (stI τ 13 i (nI (nn (σ.1 13 i) - h))) 66 [(4, .int (nI (nn (σ.1 13 i) - h))), (3, .int (nI i)), (2, .int (nI (hrN σ h i))), (0, rf V 7), (1, .int (nI h))] []
          refine WS.iload hx dX3_passHours_66 0 rfl ?_
          refine WS.if_ne (tgt := 84) hx dX3_passHours_68 (by decide) (fun c68 => ?_) (fun c68 => ?_)
          · skip
            show WS layC V 5 X (stI τ 13 i (nI (nn (σ.1 13 i) - h))) 84 [(4, .int (nI (nn (σ.1 13 i) - h))), (3, .int (nI i)), (2, .int (nI (hrN σ h i))), (0, rf V 7), (1, .int (nI h))] []
            have hsk := hr_live (σ := σ) (h := h) (i := i) (fun q => c68 (by rw [q]; rfl))
            refine WS.iinc (v := nI (i + 1)) (lo' := [(3, .int (nI (i + 1))), (4, .int (nI (nn (σ.1 13 i) - h))), (2, .int (nI (hrN σ h i))), (0, rf V 7), (1, .int (nI h))]) hx dX3_passHours_84 1 rfl (nI_1 i) (by decide) rfl ?_
            refine WS.goto (tgt := 4) hx dX3_passHours_87 (by decide) ?_
            rw [← hsk.2]
            exact WS.los [0, 2, 3, 4] rfl (ih _ (by (try simp only [i_le, i_lt, i_eq, tI_0, tI_1, tI_2, tI_4] at c12); (try simp only [i_le, i_lt, i_eq, tI_0, tI_1, tI_2, tI_4] at hb20); (try simp only [i_le, i_lt, i_eq, tI_0, tI_1, tI_2, tI_4] at c35); (try simp only [i_le, i_lt, i_eq, tI_0, tI_1, tI_2, tI_4] at c68); (try simp only [i_le, i_lt, i_eq, tI_0, tI_1, tI_2, tI_4]); omega) (i + 1) rfl _ (by (try simp only [i_le, i_lt, i_eq, tI_0, tI_1, tI_2, tI_4] at c12); (try simp only [i_le, i_lt, i_eq, tI_0, tI_1, tI_2, tI_4] at hb20); (try simp only [i_le, i_lt, i_eq, tI_0, tI_1, tI_2, tI_4] at c35); (try simp only [i_le, i_lt, i_eq, tI_0, tI_1, tI_2, tI_4] at c68); (try simp only [i_le, i_lt, i_eq, tI_0, tI_1, tI_2, tI_4]); omega) ⟨fun q a b => (stI_o _ _ _ _ a).trans (hE.1 q a b), hE.2.1, e13, by rw [hsk.1]; exact hE.2.2.2⟩)
          · skip
            show WS layC V 5 X (stI τ 13 i (nI (nn (σ.1 13 i) - h))) 71 [(4, .int (nI (nn (σ.1 13 i) - h))), (3, .int (nI i)), (2, .int (nI (hrN σ h i))), (0, rf V 7), (1, .int (nI h))] []
            have hz : nn (σ.1 13 i) - h = 0 := by
              have := nI_c (k := nn (σ.1 13 i) - h) (by omega)
              (try simp only [i_le, i_lt, i_eq, tI_0, tI_1, tI_2, tI_4] at c12); (try simp only [i_le, i_lt, i_eq, tI_0, tI_1, tI_2, tI_4] at hb20); (try simp only [i_le, i_lt, i_eq, tI_0, tI_1, tI_2, tI_4] at c35); (try simp only [i_le, i_lt, i_eq, tI_0, tI_1, tI_2, tI_4] at c68); omega
            have hsk := hr_dies hc hz
            refine WS.aload_n hx dX3_passHours_71 rfl 3 rfl ?_
            refine WS.getR hx okX3 lf3_21 rfl rfl dX3_passHours_72 ?_
            refine WS.iload_n hx dX3_passHours_75 rfl 1 rfl ?_
            refine WS.iconst (v := 4) hx dX3_passHours_76 (by decide) ?_
            refine WS.iconst (v := 1) hx dX3_passHours_77 (by decide) ?_
            refine WS.callVv (st := []) [.int (nI i), .int 4, .int 1] hx (c_X7_become V d (stI τ 13 i (nI (nn (σ.1 13 i) - h))) n (hQ63) (nI i) 4 (hasC_b (by (try simp only [i_le, i_lt, i_eq, tI_0, tI_1, tI_2, tI_4] at c12); (try simp only [i_le, i_lt, i_eq, tI_0, tI_1, tI_2, tI_4] at hb20); (try simp only [i_le, i_lt, i_eq, tI_0, tI_1, tI_2, tI_4] at c35); (try simp only [i_le, i_lt, i_eq, tI_0, tI_1, tI_2, tI_4] at c68); (try simp only [i_le, i_lt, i_eq, tI_0, tI_1, tI_2, tI_4]); omega) hn10 (by decide) (by decide)) 1 (by unfold isSoC; decide +kernel)) okX7_become lm3_54 rfl rfl rfl rfl (Nat.le_of_ble_eq_true rfl) dX3_passHours_78 (fun σ17 h18 => ?_)
            obtain rfl := h18
            show WS layC V 5 X (stI (stI τ 13 i (nI (nn (σ.1 13 i) - h))) (numId 4) (nn (nI i)) 1) 81 [(4, .int (nI (nn (σ.1 13 i) - h))), (3, .int (nI i)), (2, .int (nI (hrN σ h i))), (0, rf V 7), (1, .int (nI h))] []
            refine WS.iinc (v := nI (hrN σ h i + 1)) (lo' := [(2, .int (nI (hrN σ h i + 1))), (4, .int (nI (nn (σ.1 13 i) - h))), (3, .int (nI i)), (0, rf V 7), (1, .int (nI h))]) hx dX3_passHours_81 2 rfl (nI_1 _) (by decide) rfl ?_
            refine WS.iinc (v := nI (i + 1)) (lo' := [(3, .int (nI (i + 1))), (2, .int (nI (hrN σ h i + 1))), (4, .int (nI (nn (σ.1 13 i) - h))), (0, rf V 7), (1, .int (nI h))]) hx dX3_passHours_84 2 rfl (nI_1 i) (by decide) rfl ?_
            refine WS.goto (tgt := 4) hx dX3_passHours_87 (by decide) ?_
            rw [← hsk.2]
            refine WS.as (show stI (stI τ 13 i (nI (nn (σ.1 13 i) - h))) (numId 4) (nn (nI i)) 1 = stI (stI τ 13 i (nI (nn (σ.1 13 i) - h))) 15 i 1 from by simp only [show numId 4 = 15 from rfl, nn_nI (show i < 2 ^ 31 by omega)]) rfl rfl ?_
            exact WS.los [0, 1, 3, 4] rfl (ih _ (by (try simp only [i_le, i_lt, i_eq, tI_0, tI_1, tI_2, tI_4] at c12); (try simp only [i_le, i_lt, i_eq, tI_0, tI_1, tI_2, tI_4] at hb20); (try simp only [i_le, i_lt, i_eq, tI_0, tI_1, tI_2, tI_4] at c35); (try simp only [i_le, i_lt, i_eq, tI_0, tI_1, tI_2, tI_4] at c68); (try simp only [i_le, i_lt, i_eq, tI_0, tI_1, tI_2, tI_4]); omega) (i + 1) rfl _ (by (try simp only [i_le, i_lt, i_eq, tI_0, tI_1, tI_2, tI_4] at c12); (try simp only [i_le, i_lt, i_eq, tI_0, tI_1, tI_2, tI_4] at hb20); (try simp only [i_le, i_lt, i_eq, tI_0, tI_1, tI_2, tI_4] at c35); (try simp only [i_le, i_lt, i_eq, tI_0, tI_1, tI_2, tI_4] at c68); (try simp only [i_le, i_lt, i_eq, tI_0, tI_1, tI_2, tI_4]); omega) ⟨fun q a b => (stI_o _ _ _ _ b).trans ((stI_o _ _ _ _ a).trans (hE.1 q a b)), hE.2.1, e13, by rw [hsk.1, ← hE.2.2.2]; simp [stI, va_up]⟩)
      · skip
        show WS layC V 5 X τ 23 [(3, .int (nI i)), (2, .int (nI (hrN σ h i))), (0, rf V 7), (1, .int (nI h))] [.int 0]
        rw [h14] at hb20
        have hsk := hr_skip (σ := σ) (h := h) (i := i) (fun q => hb20 q.1)
        refine WS.if_eq (tgt := 84) hx dX3_passHours_23 (by decide) (fun _ => ?_) (fun h => absurd (by decide) h)
        refine WS.iinc (v := nI (i + 1)) (lo' := [(3, .int (nI (i + 1))), (2, .int (nI (hrN σ h i))), (0, rf V 7), (1, .int (nI h))]) hx dX3_passHours_84 0 rfl (nI_1 i) (by decide) rfl ?_
        refine WS.goto (tgt := 4) hx dX3_passHours_87 (by decide) ?_
        rw [← hsk.2.2]
        exact WS.los [0, 1, 2, 3] rfl (ih _ (by (try simp only [i_le, i_lt, i_eq, tI_0, tI_1, tI_2, tI_4] at c12); (try simp only [i_le, i_lt, i_eq, tI_0, tI_1, tI_2, tI_4] at hb20); (try simp only [i_le, i_lt, i_eq, tI_0, tI_1, tI_2, tI_4]); omega) (i + 1) rfl τ (by (try simp only [i_le, i_lt, i_eq, tI_0, tI_1, tI_2, tI_4] at c12); (try simp only [i_le, i_lt, i_eq, tI_0, tI_1, tI_2, tI_4] at hb20); (try simp only [i_le, i_lt, i_eq, tI_0, tI_1, tI_2, tI_4]); omega) ⟨hE.1, hE.2.1, by rw [hsk.1]; exact hE.2.2.1, by rw [hsk.2.1]; exact hE.2.2.2⟩)
set_option maxHeartbeats 1000000 in
theorem c_X3_passHours (V : Vt) (d : Nat) (σ : Sg) (n : Nat) (hQ : QI σ n) (h : Nat) (hh : h ≤ 99) : CT layC V mX3_passHours (d + 3) [rf V 7, .int (nI h)] σ (Ri fun v σ' => nI (hrN σ h n) = v ∧ (∀ q, q ≠ 13 → q ≠ 15 → q ≠ 29 → σ'.1 q = σ.1 q) ∧ σ'.2 = σ.2 ∧ σ'.1 13 = hrL σ h n ∧ σ'.1 15 = hrD σ h n ∧ σ'.1 29 = upd (σ.1 29) 4 (σ.1 29 4 + nI (hrN σ h n))) := by
  refine CT.of (own := RX3) rfl (by decide) (Nat.le_of_ble_eq_true rfl) (fun X (hx : Ok V RX3 cX3_passHours 5 (d + 3) X) (he : En layC V (some .int) (Ri fun v σ' => nI (hrN σ h n) = v ∧ (∀ q, q ≠ 13 → q ≠ 15 → q ≠ 29 → σ'.1 q = σ.1 q) ∧ σ'.2 = σ.2 ∧ σ'.1 13 = hrL σ h n ∧ σ'.1 15 = hrD σ h n ∧ σ'.1 29 = upd (σ.1 29) 4 (σ.1 29 4 + nI (hrN σ h n))) X) => ?_)
  change WS layC V 5 X σ 0 [(0, rf V 7), (1, .int (nI h))] []
  refine WS.iconst (v := 0) hx dX3_passHours_0 (by decide) ?_
  refine WS.istore_n (lo' := [(2, .int 0), (0, rf V 7), (1, .int (nI h))]) hx dX3_passHours_1 rfl (by decide) rfl ?_
  refine WS.iconst (v := 0) hx dX3_passHours_2 (by decide) ?_
  refine WS.istore_n (lo' := [(3, .int 0), (2, .int 0), (0, rf V 7), (1, .int (nI h))]) hx dX3_passHours_3 rfl (by decide) rfl ?_
  exact lp_X3_passHours V d σ n hQ h hh X hx he 0 σ (Nat.zero_le n) ⟨fun _ _ _ => rfl, rfl, by funext j; exact (if_neg (fun q => Nat.not_lt_zero j q.1)).symm, by funext j; exact (if_neg (fun q => Nat.not_lt_zero j q.1)).symm⟩

def eJ (σ : Sg) (s p : Nat) : Int32 := Int64.toInt32 (σ.2.1 (58 + s) p)
def camC (σ : Sg) (n s z : Nat) (p : Int32) : Prop := n < 10 ∧ plc z p 3 ∧ isSoC 0 (eJ σ s (nn p)) ∧ isSoC 1 (eJ σ s (nn p + 1)) ∧ isSoC 2 (eJ σ s (nn p + 2))
noncomputable def blF (s z : Nat) (i : Int32) : Nat → Nat → Nat → Sg → Nat × Sg
  | 0, c, _, σ => (c, σ)
  | u + 1, c, n, σ => @ite _ (camC σ n s z (i + nI (3 * c))) (Classical.propDecidable _) (blF s z i u (c + 1) (n + 1) (addQ σ n (eJ σ s (nn (i + nI (3 * c)))) (eJ σ s (nn (i + nI (3 * c)) + 1)) (eJ σ s (nn (i + nI (3 * c)) + 2)))) (c, σ)
theorem isSo0 {v : Int32} (h : isSoC 0 v) : rg v 9 := ⟨h.2.2.1, h.2.2.2⟩
theorem isSo1 {v : Int32} (h : isSoC 1 v) : rg v 15 := ⟨h.2.2.1, h.2.2.2⟩
theorem isSo2 {v : Int32} (h : isSoC 2 v) : rg v 9 := ⟨h.2.2.1, h.2.2.2⟩
theorem QI_add {σ : Sg} {n : Nat} {b a l : Int32} (h : QI σ n) (hn : n < 10) (hb : rg b 9) (ha : rg a 15) (hl : rg l 9) : QI (addQ σ n b a l) (n + 1) := by
  obtain ⟨h1, h2, q1, q2, q3, q4, q5, q6, q7, q8⟩ := h
  refine ⟨by omega, rfl, fun j hj => ?_, fun j hj => ?_, fun j hj => ?_, q4, q5, q6, q7, q8⟩
  · show rg (upd (σ.1 11) n b j) 9
    by_cases e : j = n
    · rw [e, pk_us]; exact hb
    · rw [pk_un e]; exact q1 j hj
  · show rg (upd (σ.1 12) n a j) 15
    by_cases e : j = n
    · rw [e, pk_us]; exact ha
    · rw [pk_un e]; exact q2 j hj
  · show rg (upd (σ.1 13) n l j) 9
    by_cases e : j = n
    · rw [e, pk_us]; exact hl
    · rw [pk_un e]; exact q3 j hj
theorem addQ_o {σ : Sg} {n : Nat} {b a l : Int32} {q : Nat} (h : 18 < q) : (addQ σ n b a l).1 q = σ.1 q := by
  unfold addQ
  rw [stI_o _ _ _ _ (by omega), stI_o _ _ _ _ (by omega), stI_o _ _ _ _ (by omega), stI_o _ _ _ _ (by omega)]
set_option maxHeartbeats 1000000 in
theorem c_X10_cameFrom (V : Vt) (d : Nat) (σ : Sg) (n : Nat) (hQ : QI σ n) (s : Nat) (hsh : s < 6) (z : Nat) (hz : σ.1 (52 + s) 4 = nI z) (hz2 : z ≤ 60) (p : Int32) : CT layC V mX10_cameFrom (d + 2) [rf V 0, rf V (52 + s), .int p] σ (Ri fun v σ' => (camC σ n s z p ∧ 1 = v ∧ addQ σ n (eJ σ s (nn p)) (eJ σ s (nn p + 1)) (eJ σ s (nn p + 2)) = σ') ∨ (¬ camC σ n s z p ∧ 0 = v ∧ σ = σ')) := by
  refine CT.of (own := RX10) rfl (by decide) (Nat.le_of_ble_eq_true rfl) (fun X (hx : Ok V RX10 cX10_cameFrom 6 (d + 2) X) (he : En layC V (some .boolean) (Ri fun v σ' => (camC σ n s z p ∧ 1 = v ∧ addQ σ n (eJ σ s (nn p)) (eJ σ s (nn p + 1)) (eJ σ s (nn p + 2)) = σ') ∨ (¬ camC σ n s z p ∧ 0 = v ∧ σ = σ')) X) => ?_)
  change WS layC V 6 X σ 0 [(0, rf V 0), (1, rf V (52 + s)), (2, .int p)] []
  have hn10 := hQ.n
  refine WS.aload_n hx dX10_cameFrom_0 rfl 0 rfl ?_
  refine WS.getR hx okX10 lf10_12 rfl rfl dX10_cameFrom_1 ?_
  refine WS.callVi (st := []) [] hx (c_X7_isFull V (d + 1) σ n hQ) okX7_isFull lm10_84 rfl rfl rfl rfl (Nat.le_of_ble_eq_true rfl) dX10_cameFrom_4 (fun v1 σ2 h3 => ?_)
  rcases h3 with ⟨rfl, rfl, hb4⟩ | ⟨rfl, rfl, hb4⟩
  · skip
    show WS layC V 6 X σ 7 [(0, rf V 0), (1, rf V (52 + s)), (2, .int p)] [.int 1]
    refine WS.if_ne (tgt := 19) hx dX10_cameFrom_7 (by decide) (fun _ => ?_) (fun h => absurd h (by decide))
    refine WS.iconst (v := 0) hx dX10_cameFrom_19 (by decide) ?_
    exact WS.zret hx he dX10_cameFrom_20 (Or.inl rfl) ⟨_, rfl, Or.inr ⟨fun h => by first | exact absurd h.1 (by omega) | exact hb13 h.2.1 | exact hb50 h.2.2.1 | exact hb59 h.2.2.2.1 | exact hb68 h.2.2.2.2, rfl, rfl⟩⟩
  · skip
    show WS layC V 6 X σ 7 [(0, rf V 0), (1, rf V (52 + s)), (2, .int p)] [.int 0]
    refine WS.if_ne (tgt := 19) hx dX10_cameFrom_7 (by decide) (fun h => absurd (by decide) h) (fun _ => ?_)
    refine WS.aload_n hx dX10_cameFrom_10 rfl 1 rfl ?_
    refine WS.iload_n hx dX10_cameFrom_11 rfl 2 rfl ?_
    refine WS.iconst (v := 3) hx dX10_cameFrom_12 (by decide) ?_
    refine WS.callVi (st := []) [.int p, .int 3] hx (c_X8_hasPlaces V (d + 1) σ s hsh z hz hz2 p 3) okX8_hasPlaces lm10_106 rfl (lay_sh hsh) rfl rfl (Nat.le_of_ble_eq_true rfl) dX10_cameFrom_13 (fun v4 σ5 h6 => ?_)
    rcases h6 with ⟨rfl, rfl, hb13⟩ | ⟨rfl, rfl, hb13⟩
    · skip
      show WS layC V 6 X σ 16 [(0, rf V 0), (1, rf V (52 + s)), (2, .int p)] [.int 1]
      have hp9 := (nI_nn hb13.1).symm
      have hpn := nn_int hb13.1
      have hp3 : (nn p : Int) ≤ z - 3 := by have h9 := hb13.2.2.2; rw [tI_3] at h9; omega
      refine WS.if_ne (tgt := 21) hx dX10_cameFrom_16 (by decide) (fun _ => ?_) (fun h => absurd h (by decide))
      refine WS.aload_n hx dX10_cameFrom_21 rfl 1 rfl ?_
      refine WS.iload_n hx dX10_cameFrom_22 rfl 2 rfl ?_
      refine WS.as rfl rfl (congrArg (fun z => Value.int z :: _) (show p = nI (nn p) from hp9)) ?_
      skip
      refine WS.callVl (st := []) [.int (nI (nn p))] hx (c_X8_at V d σ s hsh z hz hz2 (nn p) (by omega)) okX8_at lm10_110 rfl (lay_sh hsh) rfl rfl (Nat.le_of_ble_eq_true rfl) dX10_cameFrom_23 (fun v7 σ8 h9 => ?_)
      obtain ⟨rfl, rfl⟩ := h9
      show WS layC V 6 X σ 26 [(0, rf V 0), (1, rf V (52 + s)), (2, .int p)] [.long (σ.2.1 (58 + s) (nn p))]
      refine WS.l2i hx dX10_cameFrom_26 ?_
      refine WS.istore_n (lo' := [(3, .int (Int64.toInt32 (σ.2.1 (58 + s) (nn p)))), (0, rf V 0), (1, rf V (52 + s)), (2, .int p)]) hx dX10_cameFrom_27 rfl (by decide) rfl ?_
      refine WS.aload_n hx dX10_cameFrom_28 rfl 2 rfl ?_
      refine WS.iload_n hx dX10_cameFrom_29 rfl 3 rfl ?_
      refine WS.as rfl rfl (congrArg (fun z => Value.int z :: _) (show p = nI (nn p) from hp9)) ?_
      skip
      refine WS.iconst (v := 1) hx dX10_cameFrom_30 (by decide) ?_
      refine WS.iadd hx dX10_cameFrom_31 ?_
      refine WS.as rfl rfl (congrArg (fun z => Value.int z :: _) (show (nI (nn p)) + 1 = nI (nn p + 1) from nI_1 _)) ?_
      skip
      refine WS.callVl (st := []) [.int (nI (nn p + 1))] hx (c_X8_at V d σ s hsh z hz hz2 (nn p + 1) (by omega)) okX8_at lm10_110 rfl (lay_sh hsh) rfl rfl (Nat.le_of_ble_eq_true rfl) dX10_cameFrom_32 (fun v10 σ11 h12 => ?_)
      obtain ⟨rfl, rfl⟩ := h12
      show WS layC V 6 X σ 35 [(3, .int (Int64.toInt32 (σ.2.1 (58 + s) (nn p)))), (0, rf V 0), (1, rf V (52 + s)), (2, .int p)] [.long (σ.2.1 (58 + s) (nn p + 1))]
      refine WS.l2i hx dX10_cameFrom_35 ?_
      refine WS.istore (lo' := [(4, .int (Int64.toInt32 (σ.2.1 (58 + s) (nn p + 1)))), (3, .int (Int64.toInt32 (σ.2.1 (58 + s) (nn p)))), (0, rf V 0), (1, rf V (52 + s)), (2, .int p)]) hx dX10_cameFrom_36 (by decide) rfl ?_
      refine WS.aload_n hx dX10_cameFrom_38 rfl 3 rfl ?_
      refine WS.iload_n hx dX10_cameFrom_39 rfl 4 rfl ?_
      refine WS.as rfl rfl (congrArg (fun z => Value.int z :: _) (show p = nI (nn p) from hp9)) ?_
      skip
      refine WS.iconst (v := 2) hx dX10_cameFrom_40 (by decide) ?_
      refine WS.iadd hx dX10_cameFrom_41 ?_
      refine WS.as rfl rfl (congrArg (fun z => Value.int z :: _) (show (nI (nn p)) + 2 = nI (nn p + 2) from nI_add _ 2)) ?_
      skip
      refine WS.callVl (st := []) [.int (nI (nn p + 2))] hx (c_X8_at V d σ s hsh z hz hz2 (nn p + 2) (by omega)) okX8_at lm10_110 rfl (lay_sh hsh) rfl rfl (Nat.le_of_ble_eq_true rfl) dX10_cameFrom_42 (fun v13 σ14 h15 => ?_)
      obtain ⟨rfl, rfl⟩ := h15
      show WS layC V 6 X σ 45 [(4, .int (Int64.toInt32 (σ.2.1 (58 + s) (nn p + 1)))), (3, .int (Int64.toInt32 (σ.2.1 (58 + s) (nn p)))), (0, rf V 0), (1, rf V (52 + s)), (2, .int p)] [.long (σ.2.1 (58 + s) (nn p + 2))]
      refine WS.l2i hx dX10_cameFrom_45 ?_
      refine WS.istore (lo' := [(5, .int (Int64.toInt32 (σ.2.1 (58 + s) (nn p + 2)))), (4, .int (Int64.toInt32 (σ.2.1 (58 + s) (nn p + 1)))), (3, .int (Int64.toInt32 (σ.2.1 (58 + s) (nn p)))), (0, rf V 0), (1, rf V (52 + s)), (2, .int p)]) hx dX10_cameFrom_46 (by decide) rfl ?_
      refine WS.iconst (v := 0) hx dX10_cameFrom_48 (by decide) ?_
      refine WS.iload_n hx dX10_cameFrom_49 rfl 2 rfl ?_
      refine WS.callSi (st := []) [.int 0, .int (Int64.toInt32 (σ.2.1 (58 + s) (nn p)))] hx (c_X7_isSo V d σ 0 (Int64.toInt32 (σ.2.1 (58 + s) (nn p)))) okX7_isSo lm10_114 rfl rfl (Nat.le_of_ble_eq_true rfl) dX10_cameFrom_50 (fun v16 σ17 h18 => ?_)
      rcases h18 with ⟨rfl, rfl, hb50⟩ | ⟨rfl, rfl, hb50⟩
      · skip
        show WS layC V 6 X σ 53 [(5, .int (Int64.toInt32 (σ.2.1 (58 + s) (nn p + 2)))), (4, .int (Int64.toInt32 (σ.2.1 (58 + s) (nn p + 1)))), (3, .int (Int64.toInt32 (σ.2.1 (58 + s) (nn p)))), (0, rf V 0), (1, rf V (52 + s)), (2, .int p)] [.int 1]
        refine WS.if_eq (tgt := 74) hx dX10_cameFrom_53 (by decide) (fun h => absurd h (by decide)) (fun _ => ?_)
        refine WS.iconst (v := 1) hx dX10_cameFrom_56 (by decide) ?_
        refine WS.iload hx dX10_cameFrom_57 1 rfl ?_
        refine WS.callSi (st := []) [.int 1, .int (Int64.toInt32 (σ.2.1 (58 + s) (nn p + 1)))] hx (c_X7_isSo V d σ 1 (Int64.toInt32 (σ.2.1 (58 + s) (nn p + 1)))) okX7_isSo lm10_114 rfl rfl (Nat.le_of_ble_eq_true rfl) dX10_cameFrom_59 (fun v19 σ20 h21 => ?_)
        rcases h21 with ⟨rfl, rfl, hb59⟩ | ⟨rfl, rfl, hb59⟩
        · skip
          show WS layC V 6 X σ 62 [(5, .int (Int64.toInt32 (σ.2.1 (58 + s) (nn p + 2)))), (4, .int (Int64.toInt32 (σ.2.1 (58 + s) (nn p + 1)))), (3, .int (Int64.toInt32 (σ.2.1 (58 + s) (nn p)))), (0, rf V 0), (1, rf V (52 + s)), (2, .int p)] [.int 1]
          refine WS.if_eq (tgt := 74) hx dX10_cameFrom_62 (by decide) (fun h => absurd h (by decide)) (fun _ => ?_)
          refine WS.iconst (v := 2) hx dX10_cameFrom_65 (by decide) ?_
          refine WS.iload hx dX10_cameFrom_66 0 rfl ?_
          refine WS.callSi (st := []) [.int 2, .int (Int64.toInt32 (σ.2.1 (58 + s) (nn p + 2)))] hx (c_X7_isSo V d σ 2 (Int64.toInt32 (σ.2.1 (58 + s) (nn p + 2)))) okX7_isSo lm10_114 rfl rfl (Nat.le_of_ble_eq_true rfl) dX10_cameFrom_68 (fun v22 σ23 h24 => ?_)
          rcases h24 with ⟨rfl, rfl, hb68⟩ | ⟨rfl, rfl, hb68⟩
          · skip
            show WS layC V 6 X σ 71 [(5, .int (Int64.toInt32 (σ.2.1 (58 + s) (nn p + 2)))), (4, .int (Int64.toInt32 (σ.2.1 (58 + s) (nn p + 1)))), (3, .int (Int64.toInt32 (σ.2.1 (58 + s) (nn p)))), (0, rf V 0), (1, rf V (52 + s)), (2, .int p)] [.int 1]
            refine WS.if_ne (tgt := 76) hx dX10_cameFrom_71 (by decide) (fun _ => ?_) (fun h => absurd h (by decide))
            refine WS.aload_n hx dX10_cameFrom_76 rfl 3 rfl ?_
            refine WS.getR hx okX10 lf10_12 rfl rfl dX10_cameFrom_77 ?_
            refine WS.iload_n hx dX10_cameFrom_80 rfl 2 rfl ?_
            refine WS.iload hx dX10_cameFrom_81 1 rfl ?_
            refine WS.iload hx dX10_cameFrom_83 0 rfl ?_
            refine WS.callVi (st := []) [.int (Int64.toInt32 (σ.2.1 (58 + s) (nn p))), .int (Int64.toInt32 (σ.2.1 (58 + s) (nn p + 1))), .int (Int64.toInt32 (σ.2.1 (58 + s) (nn p + 2)))] hx (c_X7_add V d σ n hQ (by omega) (Int64.toInt32 (σ.2.1 (58 + s) (nn p))) (Int64.toInt32 (σ.2.1 (58 + s) (nn p + 1))) (Int64.toInt32 (σ.2.1 (58 + s) (nn p + 2)))) okX7_add lm10_88 rfl rfl rfl rfl (Nat.le_of_ble_eq_true rfl) dX10_cameFrom_85 (fun v25 σ26 h27 => ?_)
            obtain ⟨rfl, rfl⟩ := h27
            show WS layC V 6 X (addQ σ n (Int64.toInt32 (σ.2.1 (58 + s) (nn p))) (Int64.toInt32 (σ.2.1 (58 + s) (nn p + 1))) (Int64.toInt32 (σ.2.1 (58 + s) (nn p + 2)))) 88 [(5, .int (Int64.toInt32 (σ.2.1 (58 + s) (nn p + 2)))), (4, .int (Int64.toInt32 (σ.2.1 (58 + s) (nn p + 1)))), (3, .int (Int64.toInt32 (σ.2.1 (58 + s) (nn p)))), (0, rf V 0), (1, rf V (52 + s)), (2, .int p)] [.int (nI n)]
            refine WS.pop hx dX10_cameFrom_88 rfl ?_
            refine WS.iconst (v := 1) hx dX10_cameFrom_89 (by decide) ?_
            exact WS.zret hx he dX10_cameFrom_90 (Or.inr rfl) ⟨_, rfl, Or.inl ⟨⟨by omega, hb13, hb50, hb59, hb68⟩, rfl, rfl⟩⟩
          · skip
            show WS layC V 6 X σ 71 [(5, .int (Int64.toInt32 (σ.2.1 (58 + s) (nn p + 2)))), (4, .int (Int64.toInt32 (σ.2.1 (58 + s) (nn p + 1)))), (3, .int (Int64.toInt32 (σ.2.1 (58 + s) (nn p)))), (0, rf V 0), (1, rf V (52 + s)), (2, .int p)] [.int 0]
            refine WS.if_ne (tgt := 76) hx dX10_cameFrom_71 (by decide) (fun h => absurd (by decide) h) (fun _ => ?_)
            refine WS.iconst (v := 0) hx dX10_cameFrom_74 (by decide) ?_
            exact WS.zret hx he dX10_cameFrom_75 (Or.inl rfl) ⟨_, rfl, Or.inr ⟨fun h => by first | exact absurd h.1 (by omega) | exact hb13 h.2.1 | exact hb50 h.2.2.1 | exact hb59 h.2.2.2.1 | exact hb68 h.2.2.2.2, rfl, rfl⟩⟩
        · skip
          show WS layC V 6 X σ 62 [(5, .int (Int64.toInt32 (σ.2.1 (58 + s) (nn p + 2)))), (4, .int (Int64.toInt32 (σ.2.1 (58 + s) (nn p + 1)))), (3, .int (Int64.toInt32 (σ.2.1 (58 + s) (nn p)))), (0, rf V 0), (1, rf V (52 + s)), (2, .int p)] [.int 0]
          refine WS.if_eq (tgt := 74) hx dX10_cameFrom_62 (by decide) (fun _ => ?_) (fun h => absurd (by decide) h)
          refine WS.iconst (v := 0) hx dX10_cameFrom_74 (by decide) ?_
          exact WS.zret hx he dX10_cameFrom_75 (Or.inl rfl) ⟨_, rfl, Or.inr ⟨fun h => by first | exact absurd h.1 (by omega) | exact hb13 h.2.1 | exact hb50 h.2.2.1 | exact hb59 h.2.2.2.1 | exact hb68 h.2.2.2.2, rfl, rfl⟩⟩
      · skip
        show WS layC V 6 X σ 53 [(5, .int (Int64.toInt32 (σ.2.1 (58 + s) (nn p + 2)))), (4, .int (Int64.toInt32 (σ.2.1 (58 + s) (nn p + 1)))), (3, .int (Int64.toInt32 (σ.2.1 (58 + s) (nn p)))), (0, rf V 0), (1, rf V (52 + s)), (2, .int p)] [.int 0]
        refine WS.if_eq (tgt := 74) hx dX10_cameFrom_53 (by decide) (fun _ => ?_) (fun h => absurd (by decide) h)
        refine WS.iconst (v := 0) hx dX10_cameFrom_74 (by decide) ?_
        exact WS.zret hx he dX10_cameFrom_75 (Or.inl rfl) ⟨_, rfl, Or.inr ⟨fun h => by first | exact absurd h.1 (by omega) | exact hb13 h.2.1 | exact hb50 h.2.2.1 | exact hb59 h.2.2.2.1 | exact hb68 h.2.2.2.2, rfl, rfl⟩⟩
    · skip
      show WS layC V 6 X σ 16 [(0, rf V 0), (1, rf V (52 + s)), (2, .int p)] [.int 0]
      refine WS.if_ne (tgt := 21) hx dX10_cameFrom_16 (by decide) (fun h => absurd (by decide) h) (fun _ => ?_)
      refine WS.iconst (v := 0) hx dX10_cameFrom_19 (by decide) ?_
      exact WS.zret hx he dX10_cameFrom_20 (Or.inl rfl) ⟨_, rfl, Or.inr ⟨fun h => by first | exact absurd h.1 (by omega) | exact hb13 h.2.1 | exact hb50 h.2.2.1 | exact hb59 h.2.2.2.1 | exact hb68 h.2.2.2.2, rfl, rfl⟩⟩
set_option maxHeartbeats 1000000 in
theorem lp_X10_blocks (V : Vt) (d : Nat) (s : Nat) (hsh : s < 6) (z : Nat) (hz2 : z ≤ 60) (f i x : Int32) (K : Nat) (hK : K ≤ 10) (hKI : x.toInt = (K : Int)) (R : Nat × Sg) (P : Int32 → Sg → Prop) (X : Xt) (hx : Ok V RX10 cX10_blocks 6 (d + 3) X) (he : En layC V (some .int) (Ri P) X) (hP : P (nI R.1) R.2) : ∀ (u c n : Nat) (σ : Sg), c + u = K → QI σ n → σ.1 (52 + s) 4 = nI z → blF s z i u c n σ = R → WS layC V 6 X σ 51 [(5, .int (nI c)), (4, rf V (52 + s)), (0, rf V 0), (1, .int f), (2, .int i), (3, .int x)] [] := by
  intro u
  induction u with
  | zero =>
    intro c n σ hcu hQ hz hR
    have hcI : (nI c).toInt = (c : Int) := nI_c (by omega)
    refine WS.iload hx dX10_blocks_51 0 rfl ?_
    refine WS.iload_n hx dX10_blocks_53 rfl 5 rfl ?_
    refine WS.icmp_ge (tgt := 78) hx dX10_blocks_54 (by decide) (fun c54 => ?_) (fun c54 => by exfalso; (try simp only [i_le, i_lt, i_eq, tI_m12, tI_m1, tI_0, tI_1, tI_3, tI_10] at c54); (try simp only [i_le, i_lt, i_eq, tI_m12, tI_m1, tI_0, tI_1, tI_3, tI_10]); omega)
    refine WS.iload hx dX10_blocks_78 0 rfl ?_
    exact WS.iret hx he dX10_blocks_80 ⟨_, rfl, by rw [← hR] at hP; exact hP⟩
  | succ u ih =>
    intro c n σ hcu hQ hz hR
    have hcI : (nI c).toInt = (c : Int) := nI_c (by omega)
    unfold blF at hR
    refine WS.iload hx dX10_blocks_51 0 rfl ?_
    refine WS.iload_n hx dX10_blocks_53 rfl 5 rfl ?_
    refine WS.icmp_ge (tgt := 78) hx dX10_blocks_54 (by decide) (fun c54 => by exfalso; (try simp only [i_le, i_lt, i_eq, tI_m12, tI_m1, tI_0, tI_1, tI_3, tI_10] at c54); (try simp only [i_le, i_lt, i_eq, tI_m12, tI_m1, tI_0, tI_1, tI_3, tI_10]); omega) (fun c54 => ?_)
    refine WS.aload_n hx dX10_blocks_57 rfl 2 rfl ?_
    refine WS.aload hx dX10_blocks_58 1 rfl ?_
    refine WS.iload_n hx dX10_blocks_60 rfl 4 rfl ?_
    refine WS.iconst (v := 3) hx dX10_blocks_61 (by decide) ?_
    refine WS.iload hx dX10_blocks_62 0 rfl ?_
    refine WS.imul hx dX10_blocks_64 ?_
    refine WS.as rfl rfl (congrArg (fun z => Value.int z :: _) (show 3 * (nI c) = nI (3 * c) from pk_mul 3 c)) ?_
    skip
    refine WS.iadd hx dX10_blocks_65 ?_
    refine WS.callVi (st := []) [rf V (52 + s), .int (i + (nI (3 * c)))] hx (c_X10_cameFrom V d σ n hQ s hsh z hz hz2 (i + (nI (3 * c)))) okX10_cameFrom lm10_102 rfl rfl rfl rfl (Nat.le_of_ble_eq_true rfl) dX10_blocks_66 (fun v1 σ2 h3 => ?_)
    rcases h3 with ⟨hcm, rfl, rfl⟩ | ⟨hcm, rfl, rfl⟩
    · skip
      show WS layC V 6 X (addQ σ n (eJ σ s (nn (i + (nI (3 * c))))) (eJ σ s (nn (i + (nI (3 * c))) + 1)) (eJ σ s (nn (i + (nI (3 * c))) + 2))) 69 [(5, .int (nI c)), (4, rf V (52 + s)), (0, rf V 0), (1, .int f), (2, .int i), (3, .int x)] [.int 1]
      rw [if_pos hcm] at hR
      refine WS.if_eq (tgt := 78) hx dX10_blocks_69 (by decide) (fun h => absurd h (by decide)) (fun _ => ?_)
      refine WS.iinc (v := nI (c + 1)) (lo' := [(5, .int (nI (c + 1))), (4, rf V (52 + s)), (0, rf V 0), (1, .int f), (2, .int i), (3, .int x)]) hx dX10_blocks_72 0 rfl (nI_1 c) (by decide) rfl ?_
      refine WS.goto (tgt := 51) hx dX10_blocks_75 (by decide) ?_
      exact WS.los [0, 1, 2, 3, 4, 5] rfl (ih (c + 1) (n + 1) _ (by omega) (QI_add hQ hcm.1 (isSo0 hcm.2.2.1) (isSo1 hcm.2.2.2.1) (isSo2 hcm.2.2.2.2)) (by rw [addQ_o (by omega)]; exact hz) hR)
    · skip
      show WS layC V 6 X σ 69 [(5, .int (nI c)), (4, rf V (52 + s)), (0, rf V 0), (1, .int f), (2, .int i), (3, .int x)] [.int 0]
      rw [if_neg hcm] at hR
      refine WS.if_eq (tgt := 78) hx dX10_blocks_69 (by decide) (fun _ => ?_) (fun h => absurd (by decide) h)
      refine WS.iload hx dX10_blocks_78 0 rfl ?_
      exact WS.iret hx he dX10_blocks_80 ⟨_, rfl, by rw [← hR] at hP; exact hP⟩
set_option maxHeartbeats 1000000 in
theorem c_X10_blocks (V : Vt) (d : Nat) (σ : Sg) (n : Nat) (hQ : QI σ n) (hZ : ∀ s, s < 6 → rg (σ.1 (52 + s) 4) 60) (f i x : Int32) : CT layC V mX10_blocks (d + 3) [rf V 0, .int f, .int i, .int x] σ (Ri fun v σ' => if ¬ ((0 ≤ f.toInt ∧ f.toInt ≤ 5) ∧ (1 ≤ x.toInt ∧ x.toInt ≤ 10)) then v = -1 ∧ σ' = σ else if σ.1 (52 + nn f) 1 = 0 then v = 0 ∧ σ' = σ else if ¬ (σ.1 (52 + nn f) 1 = 2 ∧ σ.1 (52 + nn f) 3 = 0) then v = -12 ∧ σ' = σ else v = nI (blF (nn f) (nn (σ.1 (52 + nn f) 4)) i (nn x) 0 n σ).1 ∧ σ' = (blF (nn f) (nn (σ.1 (52 + nn f) 4)) i (nn x) 0 n σ).2) := by
  refine CT.of (own := RX10) rfl (by decide) (Nat.le_of_ble_eq_true rfl) (fun X (hx : Ok V RX10 cX10_blocks 6 (d + 3) X) (he : En layC V (some .int) (Ri fun v σ' => if ¬ ((0 ≤ f.toInt ∧ f.toInt ≤ 5) ∧ (1 ≤ x.toInt ∧ x.toInt ≤ 10)) then v = -1 ∧ σ' = σ else if σ.1 (52 + nn f) 1 = 0 then v = 0 ∧ σ' = σ else if ¬ (σ.1 (52 + nn f) 1 = 2 ∧ σ.1 (52 + nn f) 3 = 0) then v = -12 ∧ σ' = σ else v = nI (blF (nn f) (nn (σ.1 (52 + nn f) 4)) i (nn x) 0 n σ).1 ∧ σ' = (blF (nn f) (nn (σ.1 (52 + nn f) 4)) i (nn x) 0 n σ).2) X) => ?_)
  change WS layC V 6 X σ 0 [(0, rf V 0), (1, .int f), (2, .int i), (3, .int x)] []
  refine WS.iload_n hx dX10_blocks_0 rfl 1 rfl ?_
  refine WS.callSi (st := []) [.int f] hx (c_X10_isShelf V (d + 1) σ f) okX10_isShelf lm10_92 rfl rfl (Nat.le_of_ble_eq_true rfl) dX10_blocks_1 (fun v1 σ2 h3 => ?_)
  rcases h3 with ⟨rfl, rfl, hb1⟩ | ⟨rfl, rfl, hb1⟩
  · skip
    show WS layC V 6 X σ 4 [(0, rf V 0), (1, .int f), (2, .int i), (3, .int x)] [.int 1]
    have hsh := sh_nn hb1
    have hz := (nI_nn (hZ (nn f) hsh).1).symm
    have hz2 : nn (σ.1 (52 + nn f) 4) ≤ 60 := by have h9 := hZ (nn f) hsh; have := nn_int h9.1; unfold rg at h9; omega
    refine WS.if_eq (tgt := 17) hx dX10_blocks_4 (by decide) (fun h => absurd h (by decide)) (fun _ => ?_)
    refine WS.iload_n hx dX10_blocks_7 rfl 3 rfl ?_
    refine WS.iconst (v := 1) hx dX10_blocks_8 (by decide) ?_
    refine WS.bipush (v := 10) hx dX10_blocks_9 (by decide) ?_
    refine WS.callSi (st := []) [.int x, .int 1, .int 10] hx (c_X10_within V (d + 2) σ x 1 10) okX10_within lm10_80 rfl rfl (Nat.le_of_ble_eq_true rfl) dX10_blocks_11 (fun v4 σ5 h6 => ?_)
    rcases h6 with ⟨rfl, rfl, hb11⟩ | ⟨rfl, rfl, hb11⟩
    · skip
      show WS layC V 6 X σ 14 [(0, rf V 0), (1, .int f), (2, .int i), (3, .int x)] [.int 1]
      have h11 : 1 ≤ x.toInt ∧ x.toInt ≤ 10 := by simp only [i_le, tI_1, tI_10] at hb11; exact hb11
      refine WS.if_ne (tgt := 19) hx dX10_blocks_14 (by decide) (fun _ => ?_) (fun h => absurd h (by decide))
      refine WS.aload_n hx dX10_blocks_19 rfl 0 rfl ?_
      refine WS.getR hx okX10 lf10_75 rfl rfl dX10_blocks_20 ?_
      refine WS.iload_n hx dX10_blocks_23 rfl 1 rfl ?_
      refine WS.aald hx rfl rfl (sh_in hb1) dX10_blocks_24 ?_
      refine WS.astore (lo' := [(4, rf V (52 + (nn f))), (0, rf V 0), (1, .int f), (2, .int i), (3, .int x)]) hx dX10_blocks_25 (by decide) rfl ?_
      refine WS.aload hx dX10_blocks_27 0 rfl ?_
      refine WS.callVi (st := []) [] hx (c_X8_isBare V (d + 2) σ (nn f) hsh) okX8_isBare lm10_96 rfl (lay_sh hsh) rfl rfl (Nat.le_of_ble_eq_true rfl) dX10_blocks_29 (fun v7 σ8 h9 => ?_)
      rcases h9 with ⟨rfl, rfl, hb29⟩ | ⟨rfl, rfl, hb29⟩
      · skip
        show WS layC V 6 X σ 32 [(4, rf V (52 + (nn f))), (0, rf V 0), (1, .int f), (2, .int i), (3, .int x)] [.int 1]
        refine WS.if_eq (tgt := 37) hx dX10_blocks_32 (by decide) (fun h => absurd h (by decide)) (fun _ => ?_)
        refine WS.iconst (v := 0) hx dX10_blocks_35 (by decide) ?_
        exact WS.iret hx he dX10_blocks_36 ⟨_, rfl, (by (try dsimp only); rw [if_neg (fun h => h ⟨hb1, h11⟩)]; rw [if_pos (hb29)]; exact ⟨rfl, rfl⟩)⟩
      · skip
        show WS layC V 6 X σ 32 [(4, rf V (52 + (nn f))), (0, rf V 0), (1, .int f), (2, .int i), (3, .int x)] [.int 0]
        refine WS.if_eq (tgt := 37) hx dX10_blocks_32 (by decide) (fun _ => ?_) (fun h => absurd (by decide) h)
        refine WS.aload hx dX10_blocks_37 0 rfl ?_
        refine WS.callVi (st := []) [] hx (c_X8_isRowOfBytes V (d + 2) σ (nn f) hsh) okX8_isRowOfBytes lm10_99 rfl (lay_sh hsh) rfl rfl (Nat.le_of_ble_eq_true rfl) dX10_blocks_39 (fun v10 σ11 h12 => ?_)
        rcases h12 with ⟨rfl, rfl, hb39⟩ | ⟨rfl, rfl, hb39⟩
        · skip
          show WS layC V 6 X σ 42 [(4, rf V (52 + (nn f))), (0, rf V 0), (1, .int f), (2, .int i), (3, .int x)] [.int 1]
          refine WS.if_ne (tgt := 48) hx dX10_blocks_42 (by decide) (fun _ => ?_) (fun h => absurd h (by decide))
          refine WS.iconst (v := 0) hx dX10_blocks_48 (by decide) ?_
          refine WS.istore (lo' := [(5, .int 0), (4, rf V (52 + (nn f))), (0, rf V 0), (1, .int f), (2, .int i), (3, .int x)]) hx dX10_blocks_49 (by decide) rfl ?_
          exact WS.los [0, 1, 2, 3, 4, 5] rfl (lp_X10_blocks V d (nn f) hsh _ hz2 f i x (nn x) (by have := nn_int (show 0 ≤ x.toInt by omega); omega) (nn_int (show 0 ≤ x.toInt by omega)).symm _ _ X hx he (by (try dsimp only); rw [if_neg (fun h => h ⟨hb1, h11⟩)]; rw [if_neg (hb29)]; rw [if_neg (fun h => h hb39)]; exact ⟨rfl, rfl⟩) (nn x) 0 n σ (by omega) hQ hz rfl)
        · skip
          show WS layC V 6 X σ 42 [(4, rf V (52 + (nn f))), (0, rf V 0), (1, .int f), (2, .int i), (3, .int x)] [.int 0]
          refine WS.if_ne (tgt := 48) hx dX10_blocks_42 (by decide) (fun h => absurd (by decide) h) (fun _ => ?_)
          refine WS.bipush (v := (-12)) hx dX10_blocks_45 (by decide) ?_
          exact WS.iret hx he dX10_blocks_47 ⟨_, rfl, (by (try dsimp only); rw [if_neg (fun h => h ⟨hb1, h11⟩)]; rw [if_neg (hb29)]; rw [if_pos (hb39)]; exact ⟨rfl, rfl⟩)⟩
    · skip
      show WS layC V 6 X σ 14 [(0, rf V 0), (1, .int f), (2, .int i), (3, .int x)] [.int 0]
      have h11 : ¬ (1 ≤ x.toInt ∧ x.toInt ≤ 10) := by simp only [i_le, tI_1, tI_10] at hb11; exact hb11
      refine WS.if_ne (tgt := 19) hx dX10_blocks_14 (by decide) (fun h => absurd (by decide) h) (fun _ => ?_)
      refine WS.iconst (v := (-1)) hx dX10_blocks_17 (by decide) ?_
      exact WS.iret hx he dX10_blocks_18 ⟨_, rfl, (by (try dsimp only); rw [if_pos (fun h => by first | exact hb1 h.1 | exact h11 h.2)]; exact ⟨rfl, rfl⟩)⟩
  · skip
    show WS layC V 6 X σ 4 [(0, rf V 0), (1, .int f), (2, .int i), (3, .int x)] [.int 0]
    refine WS.if_eq (tgt := 17) hx dX10_blocks_4 (by decide) (fun _ => ?_) (fun h => absurd (by decide) h)
    refine WS.iconst (v := (-1)) hx dX10_blocks_17 (by decide) ?_
    exact WS.iret hx he dX10_blocks_18 ⟨_, rfl, (by (try dsimp only); rw [if_pos (fun h => by first | exact hb1 h.1 | exact h11 h.2)]; exact ⟨rfl, rfl⟩)⟩
set_option maxHeartbeats 1000000 in
theorem c_X10_law (V : Vt) (d : Nat) (σ : Sg) (d9 c : Nat) (hd9 : d9 = 19 ∨ d9 = 20) (hc : σ.2.2 2 0 = rf V c) (hd : σ.2.2 2 1 = rf V d9) (L : Nat) (hL : L ≤ 120) (h3 : σ.1 0 3 = nI L) : CT layC V mX10_law (d + 52) [rf V 0] σ (Ri fun v σ' => (¬ ((txF (σ.1 3) L (σ.1 d9)).1 = true ∧ ¬ (txF (σ.1 3) L (σ.1 d9)).2.1 < L) → v = -100 - nI (txF (σ.1 3) L (σ.1 d9)).2.1 ∧ ∃ τ, PS (stI (stI (stI (stI (stT σ 2 6 (rf V 3)) 2 7 (nI L)) 2 8 0) 2 3 0) 2 5 0) τ d9 L (txF (σ.1 3) L (σ.1 d9)).2 ∧ σ' = stI τ 0 3 0) ∧ (((txF (σ.1 3) L (σ.1 d9)).1 = true ∧ ¬ (txF (σ.1 3) L (σ.1 d9)).2.1 < L) → v = 1 ∧ ∃ τ, PS (stI (stI (stI (stI (stT σ 2 6 (rf V 3)) 2 7 (nI L)) 2 8 0) 2 3 0) 2 5 0) τ d9 L (txF (σ.1 3) L (σ.1 d9)).2 ∧ σ' = stI (adpQ V τ c d9) 0 3 0)) := by
  refine CT.of (own := RX10) rfl (by decide) (Nat.le_of_ble_eq_true rfl) (fun X (hx : Ok V RX10 cX10_law 2 (d + 52) X) (he : En layC V (some .int) (Ri fun v σ' => (¬ ((txF (σ.1 3) L (σ.1 d9)).1 = true ∧ ¬ (txF (σ.1 3) L (σ.1 d9)).2.1 < L) → v = -100 - nI (txF (σ.1 3) L (σ.1 d9)).2.1 ∧ ∃ τ, PS (stI (stI (stI (stI (stT σ 2 6 (rf V 3)) 2 7 (nI L)) 2 8 0) 2 3 0) 2 5 0) τ d9 L (txF (σ.1 3) L (σ.1 d9)).2 ∧ σ' = stI τ 0 3 0) ∧ (((txF (σ.1 3) L (σ.1 d9)).1 = true ∧ ¬ (txF (σ.1 3) L (σ.1 d9)).2.1 < L) → v = 1 ∧ ∃ τ, PS (stI (stI (stI (stI (stT σ 2 6 (rf V 3)) 2 7 (nI L)) 2 8 0) 2 3 0) 2 5 0) τ d9 L (txF (σ.1 3) L (σ.1 d9)).2 ∧ σ' = stI (adpQ V τ c d9) 0 3 0)) X) => ?_)
  change WS layC V 2 X σ 0 [(0, rf V 0)] []
  refine WS.aload_n hx dX10_law_0 rfl 0 rfl ?_
  refine WS.getR hx okX10 lf10_19 rfl rfl dX10_law_1 ?_
  refine WS.aload_n hx dX10_law_4 rfl 0 rfl ?_
  refine WS.getR hx okX10 lf10_23 rfl rfl dX10_law_5 ?_
  refine WS.aload_n hx dX10_law_8 rfl 0 rfl ?_
  refine WS.getI hx okX10 lf10_132 rfl rfl dX10_law_9 ?_
  refine WS.as rfl rfl (congrArg (fun z => Value.int z :: _) (show σ.1 0 3 = nI L from h3)) ?_
  skip
  refine WS.callVi (st := []) [rf V 3, .int (nI L)] hx (c_X5_take V d σ d9 c hd9 hc hd L hL) okX5_take lm10_136 rfl rfl rfl rfl (Nat.le_of_ble_eq_true rfl) dX10_law_12 (fun v1 σ2 h3 => ?_)
  obtain ⟨tn12, ty12⟩ := h3
  show WS layC V 2 X σ2 15 [(0, rf V 0)] [.int v1]
  refine WS.istore_n (lo' := [(1, .int v1), (0, rf V 0)]) hx dX10_law_15 rfl (by decide) rfl ?_
  refine WS.aload_n hx dX10_law_16 rfl 1 rfl ?_
  refine WS.iconst (v := 0) hx dX10_law_17 (by decide) ?_
  refine WS.putI hx okX10 lf10_132 rfl rfl rfl rfl dX10_law_18 ?_
  refine WS.iload_n hx dX10_law_21 rfl 0 rfl ?_
  refine WS.if_ge (tgt := 29) hx dX10_law_22 (by decide) (fun c22 => ?_) (fun c22 => ?_)
  · skip
    show WS layC V 2 X (stI σ2 0 3 0) 29 [(1, .int v1), (0, rf V 0)] []
    refine WS.bipush (v := (-100)) hx dX10_law_29 (by decide) ?_
    refine WS.iload_n hx dX10_law_31 rfl 0 rfl ?_
    refine WS.isub hx dX10_law_32 ?_
    exact WS.iret hx he dX10_law_33 ⟨_, rfl, fun h => ⟨by rw [(tn12 h).1], _, (tn12 h).2, rfl⟩, fun h => by exfalso; rw [(ty12 h).1] at c22; exact absurd c22 (by decide)⟩
  · skip
    show WS layC V 2 X (stI σ2 0 3 0) 25 [(1, .int v1), (0, rf V 0)] []
    refine WS.iconst (v := 1) hx dX10_law_25 (by decide) ?_
    refine WS.goto (tgt := 33) hx dX10_law_26 (by decide) ?_
    exact WS.iret hx he dX10_law_33 ⟨_, rfl, fun h => by exfalso; obtain ⟨e1, e2⟩ := tn12 h; rw [e1] at c22; obtain ⟨-, -, -, -, -, -, -, h8, -⟩ := e2; simp only [i_le, tI_0] at c22; rw [nI_c (by omega)] at c22; omega, fun h => ⟨rfl, by obtain ⟨e1, τ, e2, e3⟩ := ty12 h; exact ⟨τ, e2, by rw [e3]⟩⟩⟩
set_option maxHeartbeats 1000000 in
theorem c_X10_body (V : Vt) (d : Nat) (σ : Sg) (z : Nat) (hz : σ.1 9 2 = nI z) (hz2 : z ≤ 50) (k : Int32) : CT layC V mX10_body (d + 2) [rf V 0, .int k] σ (Ri fun v σ' => (if ¬ (0 ≤ k.toInt ∧ k.toInt ≤ 7) then v = -1 ∧ σ' = σ else (if z = 50 then v = -3 ∧ σ' = σ else (v = nI z ∧ σ' = bodQ σ z k)))) := by
  refine CT.of (own := RX10) rfl (by decide) (Nat.le_of_ble_eq_true rfl) (fun X (hx : Ok V RX10 cX10_body 2 (d + 2) X) (he : En layC V (some .int) (Ri fun v σ' => (if ¬ (0 ≤ k.toInt ∧ k.toInt ≤ 7) then v = -1 ∧ σ' = σ else (if z = 50 then v = -3 ∧ σ' = σ else (v = nI z ∧ σ' = bodQ σ z k)))) X) => ?_)
  change WS layC V 2 X σ 0 [(0, rf V 0), (1, .int k)] []
  refine WS.iload_n hx dX10_body_0 rfl 1 rfl ?_
  refine WS.callSi (st := []) [.int k] hx (c_X1_isKind V d σ k) okX1_isKind lm10_282 rfl rfl (Nat.le_of_ble_eq_true rfl) dX10_body_1 (fun v1 σ2 h3 => ?_)
  rcases h3 with ⟨rfl, rfl, hb1⟩ | ⟨rfl, rfl, hb1⟩
  · skip
    show WS layC V 2 X σ 4 [(0, rf V 0), (1, .int k)] [.int 1]
    refine WS.if_ne (tgt := 9) hx dX10_body_4 (by decide) (fun _ => ?_) (fun h => absurd h (by decide))
    refine WS.aload_n hx dX10_body_9 rfl 0 rfl ?_
    refine WS.getR hx okX10 lf10_69 rfl rfl dX10_body_10 ?_
    refine WS.callVi (st := []) [] hx (c_X1_isFull V (d + 1) σ z hz hz2) okX1_isFull lm10_285 rfl rfl rfl rfl (Nat.le_of_ble_eq_true rfl) dX10_body_13 (fun v4 σ5 h6 => ?_)
    rcases h6 with ⟨rfl, rfl, hb13⟩ | ⟨rfl, rfl, hb13⟩
    · skip
      show WS layC V 2 X σ 16 [(0, rf V 0), (1, .int k)] [.int 1]
      refine WS.if_eq (tgt := 24) hx dX10_body_16 (by decide) (fun h => absurd h (by decide)) (fun _ => ?_)
      refine WS.bipush (v := (-3)) hx dX10_body_19 (by decide) ?_
      refine WS.goto (tgt := 32) hx dX10_body_21 (by decide) ?_
      exact WS.iret hx he dX10_body_32 ⟨_, rfl, by (try simp only [i_le, i_lt, i_eq, tI_m3, tI_m1, tI_0, tI_1] at hb1); (try simp only [i_le, i_lt, i_eq, tI_m3, tI_m1, tI_0, tI_1] at hb13); (repeat' split) <;> first | (exfalso; omega) | exact ⟨rfl, rfl⟩⟩
    · skip
      show WS layC V 2 X σ 16 [(0, rf V 0), (1, .int k)] [.int 0]
      refine WS.if_eq (tgt := 24) hx dX10_body_16 (by decide) (fun _ => ?_) (fun h => absurd (by decide) h)
      refine WS.aload_n hx dX10_body_24 rfl 0 rfl ?_
      refine WS.getR hx okX10 lf10_69 rfl rfl dX10_body_25 ?_
      refine WS.iload_n hx dX10_body_28 rfl 1 rfl ?_
      refine WS.callVi (st := []) [.int k] hx (c_X1_add V d σ z hz (by omega) k) okX1_add lm10_286 rfl rfl rfl rfl (Nat.le_of_ble_eq_true rfl) dX10_body_29 (fun v7 σ8 h9 => ?_)
      obtain ⟨rfl, rfl⟩ := h9
      show WS layC V 2 X (bodQ σ z k) 32 [(0, rf V 0), (1, .int k)] [.int (nI z)]
      exact WS.iret hx he dX10_body_32 ⟨_, rfl, by (try simp only [i_le, i_lt, i_eq, tI_m3, tI_m1, tI_0, tI_1] at hb1); (try simp only [i_le, i_lt, i_eq, tI_m3, tI_m1, tI_0, tI_1] at hb13); (repeat' split) <;> first | (exfalso; omega) | exact ⟨rfl, rfl⟩⟩
  · skip
    show WS layC V 2 X σ 4 [(0, rf V 0), (1, .int k)] [.int 0]
    refine WS.if_ne (tgt := 9) hx dX10_body_4 (by decide) (fun h => absurd (by decide) h) (fun _ => ?_)
    refine WS.iconst (v := (-1)) hx dX10_body_7 (by decide) ?_
    exact WS.iret hx he dX10_body_8 ⟨_, rfl, by (try simp only [i_le, i_lt, i_eq, tI_m3, tI_m1, tI_0, tI_1] at hb1); (repeat' split) <;> first | (exfalso; omega) | exact ⟨rfl, rfl⟩⟩
set_option maxHeartbeats 1000000 in
theorem c_X10_act (V : Vt) (d : Nat) (σ : Sg) (z : Nat) (hz : σ.1 9 2 = nI z) (hz2 : z ≤ 50) (hK : ∀ j, j < z → rg (σ.1 36 j) 7) (b act x : Int32) : CT layC V mX10_act (d + 67) [rf V 0, .int b, .int act, .int x] σ (Ri fun v σ' => (¬ (0 ≤ b.toInt ∧ b.toInt < z ∧ 0 ≤ act.toInt ∧ act.toInt ≤ 3) → v = 0 ∧ σ' = stI σ 9 3 0) ∧ ((0 ≤ b.toInt ∧ b.toInt < z ∧ 0 ≤ act.toInt ∧ act.toInt ≤ 3) → ∃ p, frmF (runF (σ.1 36 (nn b)) b 20) (σ.1 36 (nn b)) act x (σ.1 37, 0) = some p ∧ v = p.1 ∧ BE (stI (stI σ 9 3 0) 9 4 b) σ' p.2)) := by
  refine CT.of (own := RX10) rfl (by decide) (Nat.le_of_ble_eq_true rfl) (fun X (hx : Ok V RX10 cX10_act 4 (d + 67) X) (he : En layC V (some .int) (Ri fun v σ' => (¬ (0 ≤ b.toInt ∧ b.toInt < z ∧ 0 ≤ act.toInt ∧ act.toInt ≤ 3) → v = 0 ∧ σ' = stI σ 9 3 0) ∧ ((0 ≤ b.toInt ∧ b.toInt < z ∧ 0 ≤ act.toInt ∧ act.toInt ≤ 3) → ∃ p, frmF (runF (σ.1 36 (nn b)) b 20) (σ.1 36 (nn b)) act x (σ.1 37, 0) = some p ∧ v = p.1 ∧ BE (stI (stI σ 9 3 0) 9 4 b) σ' p.2)) X) => ?_)
  change WS layC V 4 X σ 0 [(0, rf V 0), (1, .int b), (2, .int act), (3, .int x)] []
  refine WS.aload_n hx dX10_act_0 rfl 0 rfl ?_
  refine WS.getR hx okX10 lf10_69 rfl rfl dX10_act_1 ?_
  refine WS.iload_n hx dX10_act_4 rfl 1 rfl ?_
  refine WS.iload_n hx dX10_act_5 rfl 2 rfl ?_
  refine WS.iload_n hx dX10_act_6 rfl 3 rfl ?_
  refine WS.callVi (st := []) [.int b, .int act, .int x] hx (c_X1_perform V d σ z hz hz2 hK b act x) okX1_perform lm10_288 rfl rfl rfl rfl (Nat.le_of_ble_eq_true rfl) dX10_act_7 (fun v1 σ2 h3 => ?_)
  show WS layC V 4 X σ2 10 [(0, rf V 0), (1, .int b), (2, .int act), (3, .int x)] [.int v1]
  exact WS.iret hx he dX10_act_10 ⟨_, rfl, h3⟩
set_option maxHeartbeats 1000000 in
theorem c_X10_trace (V : Vt) (d : Nat) (σ : Sg) (r : Nat) (hr : σ.1 9 3 = nI r) (hr2 : r ≤ 2147483647) (i : Int32) : CT layC V mX10_trace (d + 2) [rf V 0, .int i] σ (Ri fun v σ' => σ = σ' ∧ (trcC r i → v = σ.1 37 (nn i)) ∧ (¬ trcC r i → v = -1)) := by
  refine CT.of (own := RX10) rfl (by decide) (Nat.le_of_ble_eq_true rfl) (fun X (hx : Ok V RX10 cX10_trace 2 (d + 2) X) (he : En layC V (some .int) (Ri fun v σ' => σ = σ' ∧ (trcC r i → v = σ.1 37 (nn i)) ∧ (¬ trcC r i → v = -1)) X) => ?_)
  change WS layC V 2 X σ 0 [(0, rf V 0), (1, .int i)] []
  refine WS.aload_n hx dX10_trace_0 rfl 0 rfl ?_
  refine WS.getR hx okX10 lf10_69 rfl rfl dX10_trace_1 ?_
  refine WS.iload_n hx dX10_trace_4 rfl 1 rfl ?_
  refine WS.callVi (st := []) [.int i] hx (c_X1_traced V d σ r hr hr2 i) okX1_traced lm10_291 rfl rfl rfl rfl (Nat.le_of_ble_eq_true rfl) dX10_trace_5 (fun v1 σ2 h3 => ?_)
  obtain ⟨rfl, ht5⟩ := h3
  show WS layC V 2 X σ 8 [(0, rf V 0), (1, .int i)] [.int v1]
  exact WS.iret hx he dX10_trace_8 ⟨_, rfl, rfl, ht5⟩
set_option maxHeartbeats 1000000 in
theorem c_X10_keep (V : Vt) (d : Nat) (σ : Sg) (z : Nat) (hz : σ.1 9 2 = nI z) (hz2 : z ≤ 50) (f x : Int32) : CT layC V mX10_keep (d + 2) [rf V 0, .int f, .int x] σ (Ri fun v σ' => if ¬ ((0 ≤ f.toInt ∧ f.toInt ≤ 5) ∧ (x.toInt = -1 ∨ (0 ≤ x.toInt ∧ x.toInt < z))) then v = -1 ∧ σ' = σ else if x.toInt = -1 then v = 1 ∧ σ' = stI σ (52 + nn f) 1 0 else v = 1 ∧ σ' = stI (stI σ (52 + nn f) 1 1) (52 + nn f) 2 x) := by
  refine CT.of (own := RX10) rfl (by decide) (Nat.le_of_ble_eq_true rfl) (fun X (hx : Ok V RX10 cX10_keep 3 (d + 2) X) (he : En layC V (some .int) (Ri fun v σ' => if ¬ ((0 ≤ f.toInt ∧ f.toInt ≤ 5) ∧ (x.toInt = -1 ∨ (0 ≤ x.toInt ∧ x.toInt < z))) then v = -1 ∧ σ' = σ else if x.toInt = -1 then v = 1 ∧ σ' = stI σ (52 + nn f) 1 0 else v = 1 ∧ σ' = stI (stI σ (52 + nn f) 1 1) (52 + nn f) 2 x) X) => ?_)
  change WS layC V 3 X σ 0 [(0, rf V 0), (1, .int f), (2, .int x)] []
  refine WS.iload_n hx dX10_keep_0 rfl 1 rfl ?_
  refine WS.callSi (st := []) [.int f] hx (c_X10_isShelf V d σ f) okX10_isShelf lm10_92 rfl rfl (Nat.le_of_ble_eq_true rfl) dX10_keep_1 (fun v1 σ2 h3 => ?_)
  rcases h3 with ⟨rfl, rfl, hb1⟩ | ⟨rfl, rfl, hb1⟩
  · skip
    show WS layC V 3 X σ 4 [(0, rf V 0), (1, .int f), (2, .int x)] [.int 1]
    have hsh := sh_nn hb1
    refine WS.if_eq (tgt := 23) hx dX10_keep_4 (by decide) (fun h => absurd h (by decide)) (fun _ => ?_)
    refine WS.iload_n hx dX10_keep_7 rfl 2 rfl ?_
    refine WS.iconst (v := (-1)) hx dX10_keep_8 (by decide) ?_
    refine WS.icmp_eq (tgt := 25) hx dX10_keep_9 (by decide) (fun c9 => ?_) (fun c9 => ?_)
    · skip
      show WS layC V 3 X σ 25 [(0, rf V 0), (1, .int f), (2, .int x)] []
      refine WS.iload_n hx dX10_keep_25 rfl 2 rfl ?_
      refine WS.iconst (v := (-1)) hx dX10_keep_26 (by decide) ?_
      refine WS.icmp_ne (tgt := 42) hx dX10_keep_27 (by decide) (fun c27 => ?_) (fun c27 => ?_)
      · skip
        show WS layC V 3 X σ 42 [(0, rf V 0), (1, .int f), (2, .int x)] []
        refine WS.aload_n hx dX10_keep_42 rfl 0 rfl ?_
        refine WS.getR hx okX10 lf10_75 rfl rfl dX10_keep_43 ?_
        refine WS.iload_n hx dX10_keep_46 rfl 1 rfl ?_
        refine WS.aald hx rfl rfl (sh_in hb1) dX10_keep_47 ?_
        refine WS.iload_n hx dX10_keep_48 rfl 2 rfl ?_
        refine WS.callVv (st := []) [.int x] hx (c_X8_holdToad V (d + 1) σ (nn f) hsh x) okX8_holdToad lm10_299 rfl (lay_sh hsh) rfl rfl (Nat.le_of_ble_eq_true rfl) dX10_keep_49 (fun σ5 h6 => ?_)
        obtain rfl := h6
        show WS layC V 3 X (stI (stI σ (52 + (nn f)) 1 1) (52 + (nn f)) 2 x) 52 [(0, rf V 0), (1, .int f), (2, .int x)] []
        refine WS.iconst (v := 1) hx dX10_keep_52 (by decide) ?_
        exact WS.iret hx he dX10_keep_53 ⟨_, rfl, by (try simp only [i_le, i_lt, i_eq, tI_m1, tI_0, tI_1] at hb1); (try simp only [i_le, i_lt, i_eq, tI_m1, tI_0, tI_1] at c9); (try simp only [i_le, i_lt, i_eq, tI_m1, tI_0, tI_1] at c27); (repeat' split) <;> first | (exfalso; omega) | exact ⟨rfl, rfl⟩⟩
      · skip
        show WS layC V 3 X σ 30 [(0, rf V 0), (1, .int f), (2, .int x)] []
        refine WS.aload_n hx dX10_keep_30 rfl 0 rfl ?_
        refine WS.getR hx okX10 lf10_75 rfl rfl dX10_keep_31 ?_
        refine WS.iload_n hx dX10_keep_34 rfl 1 rfl ?_
        refine WS.aald hx rfl rfl (sh_in hb1) dX10_keep_35 ?_
        refine WS.callVv (st := []) [] hx (c_X8_clear V (d + 1) σ (nn f) hsh) okX8_clear lm10_296 rfl (lay_sh hsh) rfl rfl (Nat.le_of_ble_eq_true rfl) dX10_keep_36 (fun σ8 h9 => ?_)
        obtain rfl := h9
        show WS layC V 3 X (stI σ (52 + (nn f)) 1 0) 39 [(0, rf V 0), (1, .int f), (2, .int x)] []
        refine WS.goto (tgt := 52) hx dX10_keep_39 (by decide) ?_
        refine WS.iconst (v := 1) hx dX10_keep_52 (by decide) ?_
        exact WS.iret hx he dX10_keep_53 ⟨_, rfl, by (try simp only [i_le, i_lt, i_eq, tI_m1, tI_0, tI_1] at hb1); (try simp only [i_le, i_lt, i_eq, tI_m1, tI_0, tI_1] at c9); (try simp only [i_le, i_lt, i_eq, tI_m1, tI_0, tI_1] at c27); (repeat' split) <;> first | (exfalso; omega) | exact ⟨rfl, rfl⟩⟩
    · skip
      show WS layC V 3 X σ 12 [(0, rf V 0), (1, .int f), (2, .int x)] []
      refine WS.aload_n hx dX10_keep_12 rfl 0 rfl ?_
      refine WS.getR hx okX10 lf10_69 rfl rfl dX10_keep_13 ?_
      refine WS.iload_n hx dX10_keep_16 rfl 2 rfl ?_
      refine WS.callVi (st := []) [.int x] hx (c_X1_has V d σ z hz hz2 x) okX1_has lm10_294 rfl rfl rfl rfl (Nat.le_of_ble_eq_true rfl) dX10_keep_17 (fun v10 σ11 h12 => ?_)
      rcases h12 with ⟨rfl, rfl, hb17⟩ | ⟨rfl, rfl, hb17⟩
      · skip
        show WS layC V 3 X σ 20 [(0, rf V 0), (1, .int f), (2, .int x)] [.int 1]
        refine WS.if_ne (tgt := 25) hx dX10_keep_20 (by decide) (fun _ => ?_) (fun h => absurd h (by decide))
        refine WS.iload_n hx dX10_keep_25 rfl 2 rfl ?_
        refine WS.iconst (v := (-1)) hx dX10_keep_26 (by decide) ?_
        refine WS.icmp_ne (tgt := 42) hx dX10_keep_27 (by decide) (fun c27 => ?_) (fun c27 => ?_)
        · skip
          show WS layC V 3 X σ 42 [(0, rf V 0), (1, .int f), (2, .int x)] []
          refine WS.aload_n hx dX10_keep_42 rfl 0 rfl ?_
          refine WS.getR hx okX10 lf10_75 rfl rfl dX10_keep_43 ?_
          refine WS.iload_n hx dX10_keep_46 rfl 1 rfl ?_
          refine WS.aald hx rfl rfl (sh_in hb1) dX10_keep_47 ?_
          refine WS.iload_n hx dX10_keep_48 rfl 2 rfl ?_
          refine WS.callVv (st := []) [.int x] hx (c_X8_holdToad V (d + 1) σ (nn f) hsh x) okX8_holdToad lm10_299 rfl (lay_sh hsh) rfl rfl (Nat.le_of_ble_eq_true rfl) dX10_keep_49 (fun σ14 h15 => ?_)
          obtain rfl := h15
          show WS layC V 3 X (stI (stI σ (52 + (nn f)) 1 1) (52 + (nn f)) 2 x) 52 [(0, rf V 0), (1, .int f), (2, .int x)] []
          refine WS.iconst (v := 1) hx dX10_keep_52 (by decide) ?_
          exact WS.iret hx he dX10_keep_53 ⟨_, rfl, by (try simp only [i_le, i_lt, i_eq, tI_m1, tI_0, tI_1] at hb1); (try simp only [i_le, i_lt, i_eq, tI_m1, tI_0, tI_1] at c9); (try simp only [i_le, i_lt, i_eq, tI_m1, tI_0, tI_1] at hb17); (try simp only [i_le, i_lt, i_eq, tI_m1, tI_0, tI_1] at c27); (repeat' split) <;> first | (exfalso; omega) | exact ⟨rfl, rfl⟩⟩
        · skip
          show WS layC V 3 X σ 30 [(0, rf V 0), (1, .int f), (2, .int x)] []
          refine WS.aload_n hx dX10_keep_30 rfl 0 rfl ?_
          refine WS.getR hx okX10 lf10_75 rfl rfl dX10_keep_31 ?_
          refine WS.iload_n hx dX10_keep_34 rfl 1 rfl ?_
          refine WS.aald hx rfl rfl (sh_in hb1) dX10_keep_35 ?_
          refine WS.callVv (st := []) [] hx (c_X8_clear V (d + 1) σ (nn f) hsh) okX8_clear lm10_296 rfl (lay_sh hsh) rfl rfl (Nat.le_of_ble_eq_true rfl) dX10_keep_36 (fun σ17 h18 => ?_)
          obtain rfl := h18
          show WS layC V 3 X (stI σ (52 + (nn f)) 1 0) 39 [(0, rf V 0), (1, .int f), (2, .int x)] []
          refine WS.goto (tgt := 52) hx dX10_keep_39 (by decide) ?_
          refine WS.iconst (v := 1) hx dX10_keep_52 (by decide) ?_
          exact WS.iret hx he dX10_keep_53 ⟨_, rfl, by (try simp only [i_le, i_lt, i_eq, tI_m1, tI_0, tI_1] at hb1); (try simp only [i_le, i_lt, i_eq, tI_m1, tI_0, tI_1] at c9); (try simp only [i_le, i_lt, i_eq, tI_m1, tI_0, tI_1] at hb17); (try simp only [i_le, i_lt, i_eq, tI_m1, tI_0, tI_1] at c27); (repeat' split) <;> first | (exfalso; omega) | exact ⟨rfl, rfl⟩⟩
      · skip
        show WS layC V 3 X σ 20 [(0, rf V 0), (1, .int f), (2, .int x)] [.int 0]
        refine WS.if_ne (tgt := 25) hx dX10_keep_20 (by decide) (fun h => absurd (by decide) h) (fun _ => ?_)
        refine WS.iconst (v := (-1)) hx dX10_keep_23 (by decide) ?_
        exact WS.iret hx he dX10_keep_24 ⟨_, rfl, by (try simp only [i_le, i_lt, i_eq, tI_m1, tI_0, tI_1] at hb1); (try simp only [i_le, i_lt, i_eq, tI_m1, tI_0, tI_1] at c9); (try simp only [i_le, i_lt, i_eq, tI_m1, tI_0, tI_1] at hb17); (repeat' split) <;> first | (exfalso; omega) | exact ⟨rfl, rfl⟩⟩
  · skip
    show WS layC V 3 X σ 4 [(0, rf V 0), (1, .int f), (2, .int x)] [.int 0]
    refine WS.if_eq (tgt := 23) hx dX10_keep_4 (by decide) (fun _ => ?_) (fun h => absurd (by decide) h)
    refine WS.iconst (v := (-1)) hx dX10_keep_23 (by decide) ?_
    exact WS.iret hx he dX10_keep_24 ⟨_, rfl, by (try simp only [i_le, i_lt, i_eq, tI_m1, tI_0, tI_1] at hb1); (repeat' split) <;> first | (exfalso; omega) | exact ⟨rfl, rfl⟩⟩
set_option maxHeartbeats 1000000 in
theorem c_X10_row (V : Vt) (d : Nat) (σ : Sg) (f q x : Int32) : CT layC V mX10_row (d + 3) [rf V 0, .int f, .int q, .int x] σ (Ri fun v σ' => if ¬ ((0 ≤ f.toInt ∧ f.toInt ≤ 5) ∧ (0 ≤ q.toInt ∧ q.toInt ≤ 4) ∧ x.toInt ≤ 60) then v = -1 ∧ σ' = σ else if x.toInt < 0 then v = -14 ∧ σ' = σ else v = 1 ∧ σ' = rowQ σ (nn f) q (nn x)) := by
  refine CT.of (own := RX10) rfl (by decide) (Nat.le_of_ble_eq_true rfl) (fun X (hx : Ok V RX10 cX10_row 4 (d + 3) X) (he : En layC V (some .int) (Ri fun v σ' => if ¬ ((0 ≤ f.toInt ∧ f.toInt ≤ 5) ∧ (0 ≤ q.toInt ∧ q.toInt ≤ 4) ∧ x.toInt ≤ 60) then v = -1 ∧ σ' = σ else if x.toInt < 0 then v = -14 ∧ σ' = σ else v = 1 ∧ σ' = rowQ σ (nn f) q (nn x)) X) => ?_)
  change WS layC V 4 X σ 0 [(0, rf V 0), (1, .int f), (2, .int q), (3, .int x)] []
  refine WS.iload_n hx dX10_row_0 rfl 1 rfl ?_
  refine WS.callSi (st := []) [.int f] hx (c_X10_isShelf V (d + 1) σ f) okX10_isShelf lm10_92 rfl rfl (Nat.le_of_ble_eq_true rfl) dX10_row_1 (fun v1 σ2 h3 => ?_)
  rcases h3 with ⟨rfl, rfl, hb1⟩ | ⟨rfl, rfl, hb1⟩
  · skip
    show WS layC V 4 X σ 4 [(0, rf V 0), (1, .int f), (2, .int q), (3, .int x)] [.int 1]
    have hsh := sh_nn hb1
    refine WS.if_eq (tgt := 20) hx dX10_row_4 (by decide) (fun h => absurd h (by decide)) (fun _ => ?_)
    refine WS.iload_n hx dX10_row_7 rfl 2 rfl ?_
    refine WS.callSi (st := []) [.int q] hx (c_X8_isSort V (d + 1) σ q) okX8_isSort lm10_303 rfl rfl (Nat.le_of_ble_eq_true rfl) dX10_row_8 (fun v4 σ5 h6 => ?_)
    rcases h6 with ⟨rfl, rfl, hb8⟩ | ⟨rfl, rfl, hb8⟩
    · skip
      show WS layC V 4 X σ 11 [(0, rf V 0), (1, .int f), (2, .int q), (3, .int x)] [.int 1]
      refine WS.if_eq (tgt := 20) hx dX10_row_11 (by decide) (fun h => absurd h (by decide)) (fun _ => ?_)
      refine WS.iload_n hx dX10_row_14 rfl 3 rfl ?_
      refine WS.bipush (v := 60) hx dX10_row_15 (by decide) ?_
      refine WS.icmp_le (tgt := 22) hx dX10_row_17 (by decide) (fun c17 => ?_) (fun c17 => ?_)
      · skip
        show WS layC V 4 X σ 22 [(0, rf V 0), (1, .int f), (2, .int q), (3, .int x)] []
        refine WS.iload_n hx dX10_row_22 rfl 3 rfl ?_
        refine WS.if_ge (tgt := 29) hx dX10_row_23 (by decide) (fun c23 => ?_) (fun c23 => ?_)
        · skip
          show WS layC V 4 X σ 29 [(0, rf V 0), (1, .int f), (2, .int q), (3, .int x)] []
          refine WS.aload_n hx dX10_row_29 rfl 0 rfl ?_
          refine WS.getR hx okX10 lf10_75 rfl rfl dX10_row_30 ?_
          refine WS.iload_n hx dX10_row_33 rfl 1 rfl ?_
          refine WS.aald hx rfl rfl (sh_in hb1) dX10_row_34 ?_
          refine WS.iload_n hx dX10_row_35 rfl 2 rfl ?_
          refine WS.iload_n hx dX10_row_36 rfl 3 rfl ?_
          refine WS.as rfl rfl (congrArg (fun z => Value.int z :: _) (show x = nI (nn x) from (nI_nn (by (try simp only [i_le, i_lt, i_eq, tI_m14, tI_m1, tI_0, tI_1, tI_60] at hb1); (try simp only [i_le, i_lt, i_eq, tI_m14, tI_m1, tI_0, tI_1, tI_60] at hb8); (try simp only [i_le, i_lt, i_eq, tI_m14, tI_m1, tI_0, tI_1, tI_60] at c17); (try simp only [i_le, i_lt, i_eq, tI_m14, tI_m1, tI_0, tI_1, tI_60] at c23); omega)).symm)) ?_
          skip
          refine WS.callVv (st := []) [.int q, .int (nI (nn x))] hx (c_X8_holdRow V (d + 1) σ (nn f) hsh q (nn x) (by have h9 := nn_int (show 0 ≤ x.toInt by (try simp only [i_le, i_lt, i_eq, tI_m14, tI_m1, tI_0, tI_1, tI_60] at hb1); (try simp only [i_le, i_lt, i_eq, tI_m14, tI_m1, tI_0, tI_1, tI_60] at hb8); (try simp only [i_le, i_lt, i_eq, tI_m14, tI_m1, tI_0, tI_1, tI_60] at c17); (try simp only [i_le, i_lt, i_eq, tI_m14, tI_m1, tI_0, tI_1, tI_60] at c23); omega); (try simp only [i_le, i_lt, i_eq, tI_m14, tI_m1, tI_0, tI_1, tI_60] at hb1); (try simp only [i_le, i_lt, i_eq, tI_m14, tI_m1, tI_0, tI_1, tI_60] at hb8); (try simp only [i_le, i_lt, i_eq, tI_m14, tI_m1, tI_0, tI_1, tI_60] at c17); (try simp only [i_le, i_lt, i_eq, tI_m14, tI_m1, tI_0, tI_1, tI_60] at c23); omega)) okX8_holdRow lm10_306 rfl (lay_sh hsh) rfl rfl (Nat.le_of_ble_eq_true rfl) dX10_row_37 (fun σ8 h9 => ?_)
          obtain rfl := h9
          show WS layC V 4 X (rowQ σ (nn f) q (nn x)) 40 [(0, rf V 0), (1, .int f), (2, .int q), (3, .int x)] []
          refine WS.iconst (v := 1) hx dX10_row_40 (by decide) ?_
          exact WS.iret hx he dX10_row_41 ⟨_, rfl, by (try simp only [i_le, i_lt, i_eq, tI_m14, tI_m1, tI_0, tI_1, tI_60] at hb1); (try simp only [i_le, i_lt, i_eq, tI_m14, tI_m1, tI_0, tI_1, tI_60] at hb8); (try simp only [i_le, i_lt, i_eq, tI_m14, tI_m1, tI_0, tI_1, tI_60] at c17); (try simp only [i_le, i_lt, i_eq, tI_m14, tI_m1, tI_0, tI_1, tI_60] at c23); (repeat' split) <;> first | (exfalso; omega) | exact ⟨rfl, rfl⟩⟩
        · skip
          show WS layC V 4 X σ 26 [(0, rf V 0), (1, .int f), (2, .int q), (3, .int x)] []
          refine WS.bipush (v := (-14)) hx dX10_row_26 (by decide) ?_
          exact WS.iret hx he dX10_row_28 ⟨_, rfl, by (try simp only [i_le, i_lt, i_eq, tI_m14, tI_m1, tI_0, tI_1, tI_60] at hb1); (try simp only [i_le, i_lt, i_eq, tI_m14, tI_m1, tI_0, tI_1, tI_60] at hb8); (try simp only [i_le, i_lt, i_eq, tI_m14, tI_m1, tI_0, tI_1, tI_60] at c17); (try simp only [i_le, i_lt, i_eq, tI_m14, tI_m1, tI_0, tI_1, tI_60] at c23); (repeat' split) <;> first | (exfalso; omega) | exact ⟨rfl, rfl⟩⟩
      · skip
        show WS layC V 4 X σ 20 [(0, rf V 0), (1, .int f), (2, .int q), (3, .int x)] []
        refine WS.iconst (v := (-1)) hx dX10_row_20 (by decide) ?_
        exact WS.iret hx he dX10_row_21 ⟨_, rfl, by (try simp only [i_le, i_lt, i_eq, tI_m14, tI_m1, tI_0, tI_1, tI_60] at hb1); (try simp only [i_le, i_lt, i_eq, tI_m14, tI_m1, tI_0, tI_1, tI_60] at hb8); (try simp only [i_le, i_lt, i_eq, tI_m14, tI_m1, tI_0, tI_1, tI_60] at c17); (repeat' split) <;> first | (exfalso; omega) | exact ⟨rfl, rfl⟩⟩
    · skip
      show WS layC V 4 X σ 11 [(0, rf V 0), (1, .int f), (2, .int q), (3, .int x)] [.int 0]
      refine WS.if_eq (tgt := 20) hx dX10_row_11 (by decide) (fun _ => ?_) (fun h => absurd (by decide) h)
      refine WS.iconst (v := (-1)) hx dX10_row_20 (by decide) ?_
      exact WS.iret hx he dX10_row_21 ⟨_, rfl, by (try simp only [i_le, i_lt, i_eq, tI_m14, tI_m1, tI_0, tI_1, tI_60] at hb1); (try simp only [i_le, i_lt, i_eq, tI_m14, tI_m1, tI_0, tI_1, tI_60] at hb8); (repeat' split) <;> first | (exfalso; omega) | exact ⟨rfl, rfl⟩⟩
  · skip
    show WS layC V 4 X σ 4 [(0, rf V 0), (1, .int f), (2, .int q), (3, .int x)] [.int 0]
    refine WS.if_eq (tgt := 20) hx dX10_row_4 (by decide) (fun _ => ?_) (fun h => absurd (by decide) h)
    refine WS.iconst (v := (-1)) hx dX10_row_20 (by decide) ?_
    exact WS.iret hx he dX10_row_21 ⟨_, rfl, by (try simp only [i_le, i_lt, i_eq, tI_m14, tI_m1, tI_0, tI_1, tI_60] at hb1); (repeat' split) <;> first | (exfalso; omega) | exact ⟨rfl, rfl⟩⟩
set_option maxHeartbeats 1000000 in
theorem c_X10_placeRefusal (V : Vt) (d : Nat) (σ : Sg) (hZ : ∀ s, s < 6 → rg (σ.1 (52 + s) 4) 60) (f i : Int32) : CT layC V mX10_placeRefusal (d + 2) [rf V 0, .int f, .int i] σ (Ri fun v σ' => (¬ (0 ≤ f.toInt ∧ f.toInt ≤ 5) ∧ -1 = v ∧ σ = σ') ∨ ((0 ≤ f.toInt ∧ f.toInt ≤ 5) ∧ σ.1 (52 + nn f) 1 = 0 ∧ -11 = v ∧ σ = σ') ∨ ((0 ≤ f.toInt ∧ f.toInt ≤ 5) ∧ ¬ σ.1 (52 + nn f) 1 = 0 ∧ ¬ σ.1 (52 + nn f) 1 = 2 ∧ -12 = v ∧ σ = σ') ∨ ((0 ≤ f.toInt ∧ f.toInt ≤ 5) ∧ ¬ σ.1 (52 + nn f) 1 = 0 ∧ σ.1 (52 + nn f) 1 = 2 ∧ ¬ (0 ≤ i.toInt ∧ i.toInt < nn (σ.1 (52 + nn f) 4)) ∧ -13 = v ∧ σ = σ') ∨ ((0 ≤ f.toInt ∧ f.toInt ≤ 5) ∧ ¬ σ.1 (52 + nn f) 1 = 0 ∧ σ.1 (52 + nn f) 1 = 2 ∧ (0 ≤ i.toInt ∧ i.toInt < nn (σ.1 (52 + nn f) 4)) ∧ 0 = v ∧ σ = σ')) := by
  refine CT.of (own := RX10) rfl (by decide) (Nat.le_of_ble_eq_true rfl) (fun X (hx : Ok V RX10 cX10_placeRefusal 4 (d + 2) X) (he : En layC V (some .int) (Ri fun v σ' => (¬ (0 ≤ f.toInt ∧ f.toInt ≤ 5) ∧ -1 = v ∧ σ = σ') ∨ ((0 ≤ f.toInt ∧ f.toInt ≤ 5) ∧ σ.1 (52 + nn f) 1 = 0 ∧ -11 = v ∧ σ = σ') ∨ ((0 ≤ f.toInt ∧ f.toInt ≤ 5) ∧ ¬ σ.1 (52 + nn f) 1 = 0 ∧ ¬ σ.1 (52 + nn f) 1 = 2 ∧ -12 = v ∧ σ = σ') ∨ ((0 ≤ f.toInt ∧ f.toInt ≤ 5) ∧ ¬ σ.1 (52 + nn f) 1 = 0 ∧ σ.1 (52 + nn f) 1 = 2 ∧ ¬ (0 ≤ i.toInt ∧ i.toInt < nn (σ.1 (52 + nn f) 4)) ∧ -13 = v ∧ σ = σ') ∨ ((0 ≤ f.toInt ∧ f.toInt ≤ 5) ∧ ¬ σ.1 (52 + nn f) 1 = 0 ∧ σ.1 (52 + nn f) 1 = 2 ∧ (0 ≤ i.toInt ∧ i.toInt < nn (σ.1 (52 + nn f) 4)) ∧ 0 = v ∧ σ = σ')) X) => ?_)
  change WS layC V 4 X σ 0 [(0, rf V 0), (1, .int f), (2, .int i)] []
  refine WS.iload_n hx dX10_placeRefusal_0 rfl 1 rfl ?_
  refine WS.callSi (st := []) [.int f] hx (c_X10_isShelf V d σ f) okX10_isShelf lm10_92 rfl rfl (Nat.le_of_ble_eq_true rfl) dX10_placeRefusal_1 (fun v1 σ2 h3 => ?_)
  rcases h3 with ⟨rfl, rfl, hb1⟩ | ⟨rfl, rfl, hb1⟩
  · skip
    show WS layC V 4 X σ 4 [(0, rf V 0), (1, .int f), (2, .int i)] [.int 1]
    have hsh := sh_nn hb1
    have hz := (nI_nn (hZ (nn f) hsh).1).symm
    have hz2 : nn (σ.1 (52 + nn f) 4) ≤ 60 := by have h9 := hZ (nn f) hsh; have := nn_int h9.1; unfold rg at h9; omega
    have e1 : (nI (nn (σ.1 (52 + nn f) 4)) - 1).toInt = (nn (σ.1 (52 + nn f) 4) : Int) - 1 := by rw [i_sub (by rw [nI_c (by omega), tI_1]; omega) (by rw [nI_c (by omega), tI_1]; omega), nI_c (by omega), tI_1]
    refine WS.if_ne (tgt := 9) hx dX10_placeRefusal_4 (by decide) (fun _ => ?_) (fun h => absurd h (by decide))
    refine WS.aload_n hx dX10_placeRefusal_9 rfl 0 rfl ?_
    refine WS.getR hx okX10 lf10_75 rfl rfl dX10_placeRefusal_10 ?_
    refine WS.iload_n hx dX10_placeRefusal_13 rfl 1 rfl ?_
    refine WS.aald hx rfl rfl (sh_in hb1) dX10_placeRefusal_14 ?_
    refine WS.astore_n (lo' := [(3, rf V (52 + (nn f))), (0, rf V 0), (1, .int f), (2, .int i)]) hx dX10_placeRefusal_15 rfl (by decide) rfl ?_
    refine WS.aload_n hx dX10_placeRefusal_16 rfl 0 rfl ?_
    refine WS.callVi (st := []) [] hx (c_X8_isBare V (d + 1) σ (nn f) hsh) okX8_isBare lm10_96 rfl (lay_sh hsh) rfl rfl (Nat.le_of_ble_eq_true rfl) dX10_placeRefusal_17 (fun v4 σ5 h6 => ?_)
    rcases h6 with ⟨rfl, rfl, hb17⟩ | ⟨rfl, rfl, hb17⟩
    · skip
      show WS layC V 4 X σ 20 [(3, rf V (52 + (nn f))), (0, rf V 0), (1, .int f), (2, .int i)] [.int 1]
      refine WS.if_eq (tgt := 26) hx dX10_placeRefusal_20 (by decide) (fun h => absurd h (by decide)) (fun _ => ?_)
      refine WS.bipush (v := (-11)) hx dX10_placeRefusal_23 (by decide) ?_
      exact WS.iret hx he dX10_placeRefusal_25 ⟨_, rfl, Or.inr (Or.inl ⟨hb1, hb17, rfl, rfl⟩)⟩
    · skip
      show WS layC V 4 X σ 20 [(3, rf V (52 + (nn f))), (0, rf V 0), (1, .int f), (2, .int i)] [.int 0]
      refine WS.if_eq (tgt := 26) hx dX10_placeRefusal_20 (by decide) (fun _ => ?_) (fun h => absurd (by decide) h)
      refine WS.aload_n hx dX10_placeRefusal_26 rfl 0 rfl ?_
      refine WS.callVi (st := []) [] hx (c_X8_isRow V (d + 1) σ (nn f) hsh) okX8_isRow lm10_317 rfl (lay_sh hsh) rfl rfl (Nat.le_of_ble_eq_true rfl) dX10_placeRefusal_27 (fun v7 σ8 h9 => ?_)
      rcases h9 with ⟨rfl, rfl, hb27⟩ | ⟨rfl, rfl, hb27⟩
      · skip
        show WS layC V 4 X σ 30 [(3, rf V (52 + (nn f))), (0, rf V 0), (1, .int f), (2, .int i)] [.int 1]
        refine WS.if_ne (tgt := 36) hx dX10_placeRefusal_30 (by decide) (fun _ => ?_) (fun h => absurd h (by decide))
        refine WS.iload_n hx dX10_placeRefusal_36 rfl 3 rfl ?_
        refine WS.iconst (v := 0) hx dX10_placeRefusal_37 (by decide) ?_
        refine WS.aload_n hx dX10_placeRefusal_38 rfl 0 rfl ?_
        refine WS.callVi (st := [.int 0, .int i]) [] hx (c_X8_size V (d + 1) σ (nn f) hsh) okX8_size lm10_320 rfl (lay_sh hsh) rfl rfl (Nat.le_of_ble_eq_true rfl) dX10_placeRefusal_39 (fun v10 σ11 h12 => ?_)
        obtain ⟨rfl, rfl⟩ := h12
        show WS layC V 4 X σ 42 [(3, rf V (52 + (nn f))), (0, rf V 0), (1, .int f), (2, .int i)] [.int (σ.1 (52 + (nn f)) 4), .int 0, .int i]
        refine WS.as rfl rfl (congrArg (fun z => Value.int z :: _) (show σ.1 (52 + (nn f)) 4 = nI (nn (σ.1 (52 + nn f) 4)) from hz)) ?_
        skip
        refine WS.iconst (v := 1) hx dX10_placeRefusal_42 (by decide) ?_
        refine WS.isub hx dX10_placeRefusal_43 ?_
        refine WS.callSi (st := []) [.int i, .int 0, .int ((nI (nn (σ.1 (52 + nn f) 4))) - 1)] hx (c_X10_within V (d + 1) σ i 0 ((nI (nn (σ.1 (52 + nn f) 4))) - 1)) okX10_within lm10_80 rfl rfl (Nat.le_of_ble_eq_true rfl) dX10_placeRefusal_44 (fun v13 σ14 h15 => ?_)
        rcases h15 with ⟨rfl, rfl, hb44⟩ | ⟨rfl, rfl, hb44⟩
        · skip
          show WS layC V 4 X σ 47 [(3, rf V (52 + (nn f))), (0, rf V 0), (1, .int f), (2, .int i)] [.int 1]
          refine WS.if_eq (tgt := 54) hx dX10_placeRefusal_47 (by decide) (fun h => absurd h (by decide)) (fun _ => ?_)
          refine WS.iconst (v := 0) hx dX10_placeRefusal_50 (by decide) ?_
          refine WS.goto (tgt := 56) hx dX10_placeRefusal_51 (by decide) ?_
          exact WS.iret hx he dX10_placeRefusal_56 ⟨_, rfl, Or.inr (Or.inr (Or.inr (Or.inr ⟨hb1, hb17, hb27, by simp only [i_le, tI_0, e1] at hb44; omega, rfl, rfl⟩)))⟩
        · skip
          show WS layC V 4 X σ 47 [(3, rf V (52 + (nn f))), (0, rf V 0), (1, .int f), (2, .int i)] [.int 0]
          refine WS.if_eq (tgt := 54) hx dX10_placeRefusal_47 (by decide) (fun _ => ?_) (fun h => absurd (by decide) h)
          refine WS.bipush (v := (-13)) hx dX10_placeRefusal_54 (by decide) ?_
          exact WS.iret hx he dX10_placeRefusal_56 ⟨_, rfl, Or.inr (Or.inr (Or.inr (Or.inl ⟨hb1, hb17, hb27, by simp only [i_le, tI_0, e1] at hb44; omega, rfl, rfl⟩)))⟩
      · skip
        show WS layC V 4 X σ 30 [(3, rf V (52 + (nn f))), (0, rf V 0), (1, .int f), (2, .int i)] [.int 0]
        refine WS.if_ne (tgt := 36) hx dX10_placeRefusal_30 (by decide) (fun h => absurd (by decide) h) (fun _ => ?_)
        refine WS.bipush (v := (-12)) hx dX10_placeRefusal_33 (by decide) ?_
        exact WS.iret hx he dX10_placeRefusal_35 ⟨_, rfl, Or.inr (Or.inr (Or.inl ⟨hb1, hb17, hb27, rfl, rfl⟩))⟩
  · skip
    show WS layC V 4 X σ 4 [(0, rf V 0), (1, .int f), (2, .int i)] [.int 0]
    refine WS.if_ne (tgt := 9) hx dX10_placeRefusal_4 (by decide) (fun h => absurd (by decide) h) (fun _ => ?_)
    refine WS.iconst (v := (-1)) hx dX10_placeRefusal_7 (by decide) ?_
    exact WS.iret hx he dX10_placeRefusal_8 ⟨_, rfl, Or.inl ⟨hb1, rfl, rfl⟩⟩
set_option maxHeartbeats 1000000 in
theorem c_X10_put (V : Vt) (d : Nat) (σ : Sg) (hZ : ∀ s, s < 6 → rg (σ.1 (52 + s) 4) 60) (f i : Int32) (x : Int64) : CT layC V mX10_put (d + 3) [rf V 0, .int f, .int i, .long x] σ (Ri fun v σ' => (if ¬ (0 ≤ f.toInt ∧ f.toInt ≤ 5) then v = -1 ∧ σ' = σ else (if σ.1 (52 + nn f) 1 = 0 then v = -11 ∧ σ' = σ else (if ¬ σ.1 (52 + nn f) 1 = 2 then v = -12 ∧ σ' = σ else (if ¬ (0 ≤ i.toInt ∧ i.toInt < nn (σ.1 (52 + nn f) 4)) then v = -13 ∧ σ' = σ else (v = 1 ∧ σ' = stL σ (58 + nn f) (nn i) (cutV (σ.1 (52 + nn f) 3) x))))))) := by
  refine CT.of (own := RX10) rfl (by decide) (Nat.le_of_ble_eq_true rfl) (fun X (hx : Ok V RX10 cX10_put 6 (d + 3) X) (he : En layC V (some .int) (Ri fun v σ' => (if ¬ (0 ≤ f.toInt ∧ f.toInt ≤ 5) then v = -1 ∧ σ' = σ else (if σ.1 (52 + nn f) 1 = 0 then v = -11 ∧ σ' = σ else (if ¬ σ.1 (52 + nn f) 1 = 2 then v = -12 ∧ σ' = σ else (if ¬ (0 ≤ i.toInt ∧ i.toInt < nn (σ.1 (52 + nn f) 4)) then v = -13 ∧ σ' = σ else (v = 1 ∧ σ' = stL σ (58 + nn f) (nn i) (cutV (σ.1 (52 + nn f) 3) x))))))) X) => ?_)
  change WS layC V 6 X σ 0 [(0, rf V 0), (1, .int f), (2, .int i), (3, .long x)] []
  refine WS.aload_n hx dX10_put_0 rfl 0 rfl ?_
  refine WS.iload_n hx dX10_put_1 rfl 1 rfl ?_
  refine WS.iload_n hx dX10_put_2 rfl 2 rfl ?_
  refine WS.callVi (st := []) [.int f, .int i] hx (c_X10_placeRefusal V d σ hZ f i) okX10_placeRefusal lm10_310 rfl rfl rfl rfl (Nat.le_of_ble_eq_true rfl) dX10_put_3 (fun v1 σ2 h3 => ?_)
  rcases h3 with ⟨hr, rfl, rfl⟩ | ⟨hr, ha, rfl, rfl⟩ | ⟨hr, ha, hc, rfl, rfl⟩ | ⟨hr, ha, hc, hp, rfl, rfl⟩ | ⟨hr, ha, hc, hp, rfl, rfl⟩
  · skip
    show WS layC V 6 X σ 6 [(0, rf V 0), (1, .int f), (2, .int i), (3, .long x)] [.int (-1)]
    refine WS.istore (lo' := [(5, .int (-1)), (0, rf V 0), (1, .int f), (2, .int i), (3, .long x)]) hx dX10_put_6 (by decide) rfl ?_
    refine WS.iload hx dX10_put_8 0 rfl ?_
    refine WS.if_ge (tgt := 16) hx dX10_put_10 (by decide) (fun h => absurd h (by decide)) (fun _ => ?_)
    refine WS.iload hx dX10_put_13 0 rfl ?_
    exact WS.iret hx he dX10_put_15 ⟨_, rfl, by (repeat' split) <;> first | (exfalso; omega) | exact ⟨rfl, rfl⟩ | contradiction⟩
  · skip
    show WS layC V 6 X σ 6 [(0, rf V 0), (1, .int f), (2, .int i), (3, .long x)] [.int (-11)]
    refine WS.istore (lo' := [(5, .int (-11)), (0, rf V 0), (1, .int f), (2, .int i), (3, .long x)]) hx dX10_put_6 (by decide) rfl ?_
    refine WS.iload hx dX10_put_8 0 rfl ?_
    refine WS.if_ge (tgt := 16) hx dX10_put_10 (by decide) (fun h => absurd h (by decide)) (fun _ => ?_)
    refine WS.iload hx dX10_put_13 0 rfl ?_
    exact WS.iret hx he dX10_put_15 ⟨_, rfl, by (repeat' split) <;> first | (exfalso; omega) | exact ⟨rfl, rfl⟩ | contradiction⟩
  · skip
    show WS layC V 6 X σ 6 [(0, rf V 0), (1, .int f), (2, .int i), (3, .long x)] [.int (-12)]
    refine WS.istore (lo' := [(5, .int (-12)), (0, rf V 0), (1, .int f), (2, .int i), (3, .long x)]) hx dX10_put_6 (by decide) rfl ?_
    refine WS.iload hx dX10_put_8 0 rfl ?_
    refine WS.if_ge (tgt := 16) hx dX10_put_10 (by decide) (fun h => absurd h (by decide)) (fun _ => ?_)
    refine WS.iload hx dX10_put_13 0 rfl ?_
    exact WS.iret hx he dX10_put_15 ⟨_, rfl, by (repeat' split) <;> first | (exfalso; omega) | exact ⟨rfl, rfl⟩ | contradiction⟩
  · skip
    show WS layC V 6 X σ 6 [(0, rf V 0), (1, .int f), (2, .int i), (3, .long x)] [.int (-13)]
    refine WS.istore (lo' := [(5, .int (-13)), (0, rf V 0), (1, .int f), (2, .int i), (3, .long x)]) hx dX10_put_6 (by decide) rfl ?_
    refine WS.iload hx dX10_put_8 0 rfl ?_
    refine WS.if_ge (tgt := 16) hx dX10_put_10 (by decide) (fun h => absurd h (by decide)) (fun _ => ?_)
    refine WS.iload hx dX10_put_13 0 rfl ?_
    exact WS.iret hx he dX10_put_15 ⟨_, rfl, by (repeat' split) <;> first | (exfalso; omega) | exact ⟨rfl, rfl⟩ | contradiction⟩
  · skip
    show WS layC V 6 X σ 6 [(0, rf V 0), (1, .int f), (2, .int i), (3, .long x)] [.int 0]
    have hsh := sh_nn hr
    have hz := (nI_nn (hZ (nn f) hsh).1).symm
    have hz2 : nn (σ.1 (52 + nn f) 4) ≤ 60 := by have h9 := hZ (nn f) hsh; have := nn_int h9.1; unfold rg at h9; omega
    have hin : nn i < nn (σ.1 (52 + nn f) 4) := by have := nn_int hp.1; omega
    refine WS.istore (lo' := [(5, .int 0), (0, rf V 0), (1, .int f), (2, .int i), (3, .long x)]) hx dX10_put_6 (by decide) rfl ?_
    refine WS.iload hx dX10_put_8 0 rfl ?_
    refine WS.if_ge (tgt := 16) hx dX10_put_10 (by decide) (fun _ => ?_) (fun h => absurd (by decide) h)
    refine WS.aload_n hx dX10_put_16 rfl 1 rfl ?_
    refine WS.getR hx okX10 lf10_75 rfl rfl dX10_put_17 ?_
    refine WS.iload_n hx dX10_put_20 rfl 2 rfl ?_
    refine WS.aald hx rfl rfl (sh_in hr) dX10_put_21 ?_
    refine WS.iload_n hx dX10_put_22 rfl 3 rfl ?_
    refine WS.as rfl rfl (congrArg (fun z => Value.int z :: _) (show i = nI (nn i) from (nI_nn hp.1).symm)) ?_
    skip
    refine WS.lload_n hx dX10_put_23 rfl 4 rfl ?_
    refine WS.callVv (st := []) [.int (nI (nn i)), .long x] hx (c_X8_set V (d + 1) σ (nn f) hsh _ hz hz2 (nn i) hin x) okX8_set lm10_313 rfl (lay_sh hsh) rfl rfl (Nat.le_of_ble_eq_true rfl) dX10_put_24 (fun σ5 h6 => ?_)
    obtain rfl := h6
    show WS layC V 6 X (stL σ (58 + (nn f)) (nn i) (cutV (σ.1 (52 + (nn f)) 3) x)) 27 [(5, .int 0), (0, rf V 0), (1, .int f), (2, .int i), (3, .long x)] []
    refine WS.iconst (v := 1) hx dX10_put_27 (by decide) ?_
    exact WS.iret hx he dX10_put_28 ⟨_, rfl, by (repeat' split) <;> first | (exfalso; omega) | exact ⟨rfl, rfl⟩ | contradiction⟩
set_option maxHeartbeats 1000000 in
theorem c_X10_element (V : Vt) (d : Nat) (σ : Sg) (hZ : ∀ s, s < 6 → rg (σ.1 (52 + s) 4) 60) (f i : Int32) : CT layC V mX10_element (d + 3) [rf V 0, .int f, .int i] σ (Rl fun v σ' => (if ¬ (0 ≤ f.toInt ∧ f.toInt ≤ 5) then v = -9223372036854775808 ∧ σ' = σ else (if σ.1 (52 + nn f) 1 = 0 then v = -9223372036854775808 ∧ σ' = σ else (if ¬ σ.1 (52 + nn f) 1 = 2 then v = -9223372036854775808 ∧ σ' = σ else (if ¬ (0 ≤ i.toInt ∧ i.toInt < nn (σ.1 (52 + nn f) 4)) then v = -9223372036854775808 ∧ σ' = σ else (v = σ.2.1 (58 + nn f) (nn i) ∧ σ' = σ)))))) := by
  refine CT.of (own := RX10) rfl (by decide) (Nat.le_of_ble_eq_true rfl) (fun X (hx : Ok V RX10 cX10_element 3 (d + 3) X) (he : En layC V (some .long) (Rl fun v σ' => (if ¬ (0 ≤ f.toInt ∧ f.toInt ≤ 5) then v = -9223372036854775808 ∧ σ' = σ else (if σ.1 (52 + nn f) 1 = 0 then v = -9223372036854775808 ∧ σ' = σ else (if ¬ σ.1 (52 + nn f) 1 = 2 then v = -9223372036854775808 ∧ σ' = σ else (if ¬ (0 ≤ i.toInt ∧ i.toInt < nn (σ.1 (52 + nn f) 4)) then v = -9223372036854775808 ∧ σ' = σ else (v = σ.2.1 (58 + nn f) (nn i) ∧ σ' = σ)))))) X) => ?_)
  change WS layC V 3 X σ 0 [(0, rf V 0), (1, .int f), (2, .int i)] []
  refine WS.aload_n hx dX10_element_0 rfl 0 rfl ?_
  refine WS.iload_n hx dX10_element_1 rfl 1 rfl ?_
  refine WS.iload_n hx dX10_element_2 rfl 2 rfl ?_
  refine WS.callVi (st := []) [.int f, .int i] hx (c_X10_placeRefusal V d σ hZ f i) okX10_placeRefusal lm10_310 rfl rfl rfl rfl (Nat.le_of_ble_eq_true rfl) dX10_element_3 (fun v1 σ2 h3 => ?_)
  rcases h3 with ⟨hr, rfl, rfl⟩ | ⟨hr, ha, rfl, rfl⟩ | ⟨hr, ha, hc, rfl, rfl⟩ | ⟨hr, ha, hc, hp, rfl, rfl⟩ | ⟨hr, ha, hc, hp, rfl, rfl⟩
  · skip
    show WS layC V 3 X σ 6 [(0, rf V 0), (1, .int f), (2, .int i)] [.int (-1)]
    refine WS.if_ge (tgt := 15) hx dX10_element_6 (by decide) (fun h => absurd h (by decide)) (fun _ => ?_)
    refine WS.ldc2 (v := (-9223372036854775808)) hx lc10_196 dX10_element_9 ?_
    refine WS.goto (tgt := 25) hx dX10_element_12 (by decide) ?_
    exact WS.lret hx he dX10_element_25 ⟨_, rfl, by (repeat' split) <;> first | (exfalso; omega) | exact ⟨rfl, rfl⟩ | contradiction⟩
  · skip
    show WS layC V 3 X σ 6 [(0, rf V 0), (1, .int f), (2, .int i)] [.int (-11)]
    refine WS.if_ge (tgt := 15) hx dX10_element_6 (by decide) (fun h => absurd h (by decide)) (fun _ => ?_)
    refine WS.ldc2 (v := (-9223372036854775808)) hx lc10_196 dX10_element_9 ?_
    refine WS.goto (tgt := 25) hx dX10_element_12 (by decide) ?_
    exact WS.lret hx he dX10_element_25 ⟨_, rfl, by (repeat' split) <;> first | (exfalso; omega) | exact ⟨rfl, rfl⟩ | contradiction⟩
  · skip
    show WS layC V 3 X σ 6 [(0, rf V 0), (1, .int f), (2, .int i)] [.int (-12)]
    refine WS.if_ge (tgt := 15) hx dX10_element_6 (by decide) (fun h => absurd h (by decide)) (fun _ => ?_)
    refine WS.ldc2 (v := (-9223372036854775808)) hx lc10_196 dX10_element_9 ?_
    refine WS.goto (tgt := 25) hx dX10_element_12 (by decide) ?_
    exact WS.lret hx he dX10_element_25 ⟨_, rfl, by (repeat' split) <;> first | (exfalso; omega) | exact ⟨rfl, rfl⟩ | contradiction⟩
  · skip
    show WS layC V 3 X σ 6 [(0, rf V 0), (1, .int f), (2, .int i)] [.int (-13)]
    refine WS.if_ge (tgt := 15) hx dX10_element_6 (by decide) (fun h => absurd h (by decide)) (fun _ => ?_)
    refine WS.ldc2 (v := (-9223372036854775808)) hx lc10_196 dX10_element_9 ?_
    refine WS.goto (tgt := 25) hx dX10_element_12 (by decide) ?_
    exact WS.lret hx he dX10_element_25 ⟨_, rfl, by (repeat' split) <;> first | (exfalso; omega) | exact ⟨rfl, rfl⟩ | contradiction⟩
  · skip
    show WS layC V 3 X σ 6 [(0, rf V 0), (1, .int f), (2, .int i)] [.int 0]
    have hsh := sh_nn hr
    have hz := (nI_nn (hZ (nn f) hsh).1).symm
    have hz2 : nn (σ.1 (52 + nn f) 4) ≤ 60 := by have h9 := hZ (nn f) hsh; have := nn_int h9.1; unfold rg at h9; omega
    have hin : nn i < nn (σ.1 (52 + nn f) 4) := by have := nn_int hp.1; omega
    refine WS.if_ge (tgt := 15) hx dX10_element_6 (by decide) (fun _ => ?_) (fun h => absurd (by decide) h)
    refine WS.aload_n hx dX10_element_15 rfl 0 rfl ?_
    refine WS.getR hx okX10 lf10_75 rfl rfl dX10_element_16 ?_
    refine WS.iload_n hx dX10_element_19 rfl 1 rfl ?_
    refine WS.aald hx rfl rfl (sh_in hr) dX10_element_20 ?_
    refine WS.iload_n hx dX10_element_21 rfl 2 rfl ?_
    refine WS.as rfl rfl (congrArg (fun z => Value.int z :: _) (show i = nI (nn i) from (nI_nn hp.1).symm)) ?_
    skip
    refine WS.callVl (st := []) [.int (nI (nn i))] hx (c_X8_at V (d + 1) σ (nn f) hsh _ hz hz2 (nn i) hin) okX8_at lm10_110 rfl (lay_sh hsh) rfl rfl (Nat.le_of_ble_eq_true rfl) dX10_element_22 (fun v4 σ5 h6 => ?_)
    obtain ⟨rfl, rfl⟩ := h6
    show WS layC V 3 X σ 25 [(0, rf V 0), (1, .int f), (2, .int i)] [.long (σ.2.1 (58 + (nn f)) (nn i))]
    exact WS.lret hx he dX10_element_25 ⟨_, rfl, by (repeat' split) <;> first | (exfalso; omega) | exact ⟨rfl, rfl⟩ | contradiction⟩

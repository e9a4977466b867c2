theorem numId_r (q : Int32) : 11 ≤ numId q ∧ numId q ≤ 18 := by
  unfold numId
  split
  · have := nn_int (x := q) (by omega); omega
  · omega
def undQ (σ : Sg) (p u : Nat) : Sg := stI (stI (stI σ 8 5 (nI p)) 8 6 (nI (u + 1))) (numId (σ.1 33 p)) (nn (σ.1 32 p)) (σ.1 34 p)
def rdoQ (σ : Sg) (m u : Nat) : Sg := stI (stI (stI σ (numId (σ.1 33 m)) (nn (σ.1 32 m)) (σ.1 35 m)) 8 5 (nI (m + 1))) 8 6 (nI u)
set_option maxHeartbeats 1000000 in
theorem c_X2_undoLatest (V : Vt) (d : Nat) (σ : Sg) (p u : Nat) (hm : p + 1 ≤ 40) (hd : σ.1 8 5 = nI (p + 1)) (hu : σ.1 8 6 = nI u) (n : Nat) (hQ : QI σ n) (hh : hasC n (σ.1 32 p) (σ.1 33 p)) (hv : isSoC (σ.1 33 p) (σ.1 34 p)) : CT layC V mX2_undoLatest (d + 3) [rf V 8] σ (Ri fun v σ' => nI p = v ∧ undQ σ p u = σ') := by
  refine CT.of (own := RX2) rfl (by decide) (Nat.le_of_ble_eq_true rfl) (fun X (hx : Ok V RX2 cX2_undoLatest 1 (d + 3) X) (he : En layC V (some .int) (Ri fun v σ' => nI p = v ∧ undQ σ p u = σ') X) => ?_)
  change WS layC V 1 X σ 0 [(0, rf V 8)] []
  have hpI : (nI (p + 1)).toInt = ((p + 1 : Nat) : Int) := nI_c (by omega)
  have hvp : vp_in (nI p) 40 := vp_in_nI (by omega) (by decide)
  have hnr := numId_r (σ.1 33 p)
  refine WS.aload_n hx dX2_undoLatest_0 rfl 0 rfl ?_
  refine WS.getI hx okX2 lf2_28 rfl rfl dX2_undoLatest_1 ?_
  refine WS.as rfl rfl (congrArg (fun z => Value.int z :: _) (show σ.1 8 5 = nI (p + 1) from hd)) ?_
  skip
  refine WS.if_gt (tgt := 10) hx dX2_undoLatest_4 (by decide) (fun c4 => ?_) (fun c4 => by exfalso; (try simp only [i_le, i_lt, i_eq, tI_m5, tI_0, tI_1] at c4); (try simp only [i_le, i_lt, i_eq, tI_m5, tI_0, tI_1]); omega)
  refine WS.aload_n hx dX2_undoLatest_10 rfl 0 rfl ?_
  refine WS.dup hx dX2_undoLatest_11 rfl ?_
  refine WS.getI hx okX2 lf2_28 rfl rfl dX2_undoLatest_12 ?_
  refine WS.as rfl rfl (congrArg (fun z => Value.int z :: _) (show σ.1 8 5 = nI (p + 1) from hd)) ?_
  skip
  refine WS.iconst (v := 1) hx dX2_undoLatest_15 (by decide) ?_
  refine WS.isub hx dX2_undoLatest_16 ?_
  refine WS.as rfl rfl (congrArg (fun z => Value.int z :: _) (show (nI (p + 1)) - 1 = nI p from nI_pred p)) ?_
  skip
  refine WS.putI hx okX2 lf2_28 rfl rfl rfl rfl dX2_undoLatest_17 ?_
  refine WS.aload_n hx dX2_undoLatest_20 rfl 0 rfl ?_
  refine WS.dup hx dX2_undoLatest_21 rfl ?_
  refine WS.getI hx okX2 lf2_32 rfl rfl dX2_undoLatest_22 ?_
  refine WS.as rfl rfl (congrArg (fun z => Value.int z :: _) (show (stI σ 8 5 (nI p)).1 8 6 = nI u from hu)) ?_
  skip
  refine WS.iconst (v := 1) hx dX2_undoLatest_25 (by decide) ?_
  refine WS.iadd hx dX2_undoLatest_26 ?_
  refine WS.as rfl rfl (congrArg (fun z => Value.int z :: _) (show (nI u) + 1 = nI (u + 1) from nI_1 u)) ?_
  skip
  refine WS.putI hx okX2 lf2_32 rfl rfl rfl rfl dX2_undoLatest_27 ?_
  refine WS.aload_n hx dX2_undoLatest_30 rfl 0 rfl ?_
  refine WS.getR hx okX2 lf2_24 rfl rfl dX2_undoLatest_31 ?_
  refine WS.aload_n hx dX2_undoLatest_34 rfl 0 rfl ?_
  refine WS.getR hx okX2 lf2_11 rfl rfl dX2_undoLatest_35 ?_
  refine WS.aload_n hx dX2_undoLatest_38 rfl 0 rfl ?_
  refine WS.getI hx okX2 lf2_28 rfl rfl dX2_undoLatest_39 ?_
  refine WS.iald hx rfl hvp dX2_undoLatest_42 ?_
  refine WS.as rfl rfl (congrArg (fun z => Value.int z :: _) (show (stI (stI σ 8 5 (nI p)) 8 6 (nI (u + 1))).1 32 (nn ((stI (stI σ 8 5 (nI p)) 8 6 (nI (u + 1))).1 8 5)) = σ.1 32 p from by rw [show nn ((stI (stI σ 8 5 (nI p)) 8 6 (nI (u + 1))).1 8 5) = p from nn_nI (by omega)]; rfl)) ?_
  skip
  refine WS.aload_n hx dX2_undoLatest_43 rfl 0 rfl ?_
  refine WS.getR hx okX2 lf2_15 rfl rfl dX2_undoLatest_44 ?_
  refine WS.aload_n hx dX2_undoLatest_47 rfl 0 rfl ?_
  refine WS.getI hx okX2 lf2_28 rfl rfl dX2_undoLatest_48 ?_
  refine WS.iald hx rfl hvp dX2_undoLatest_51 ?_
  refine WS.as rfl rfl (congrArg (fun z => Value.int z :: _) (show (stI (stI σ 8 5 (nI p)) 8 6 (nI (u + 1))).1 33 (nn ((stI (stI σ 8 5 (nI p)) 8 6 (nI (u + 1))).1 8 5)) = σ.1 33 p from by rw [show nn ((stI (stI σ 8 5 (nI p)) 8 6 (nI (u + 1))).1 8 5) = p from nn_nI (by omega)]; rfl)) ?_
  skip
  refine WS.aload_n hx dX2_undoLatest_52 rfl 0 rfl ?_
  refine WS.getR hx okX2 lf2_18 rfl rfl dX2_undoLatest_53 ?_
  refine WS.aload_n hx dX2_undoLatest_56 rfl 0 rfl ?_
  refine WS.getI hx okX2 lf2_28 rfl rfl dX2_undoLatest_57 ?_
  refine WS.iald hx rfl hvp dX2_undoLatest_60 ?_
  refine WS.as rfl rfl (congrArg (fun z => Value.int z :: _) (show (stI (stI σ 8 5 (nI p)) 8 6 (nI (u + 1))).1 34 (nn ((stI (stI σ 8 5 (nI p)) 8 6 (nI (u + 1))).1 8 5)) = σ.1 34 p from by rw [show nn ((stI (stI σ 8 5 (nI p)) 8 6 (nI (u + 1))).1 8 5) = p from nn_nI (by omega)]; rfl)) ?_
  skip
  refine WS.callVv (st := []) [.int (σ.1 32 p), .int (σ.1 33 p), .int (σ.1 34 p)] hx (c_X7_become V d (stI (stI σ 8 5 (nI p)) 8 6 (nI (u + 1))) n (show QI _ n from hQ) (σ.1 32 p) (σ.1 33 p) hh (σ.1 34 p) hv) okX7_become lm2_44 rfl rfl rfl rfl (Nat.le_of_ble_eq_true rfl) dX2_undoLatest_61 (fun σ2 h3 => ?_)
  obtain rfl := h3
  show WS layC V 1 X (stI (stI (stI σ 8 5 (nI p)) 8 6 (nI (u + 1))) (numId (σ.1 33 p)) (nn (σ.1 32 p)) (σ.1 34 p)) 64 [(0, rf V 8)] []
  refine WS.aload_n hx dX2_undoLatest_64 rfl 0 rfl ?_
  refine WS.getI hx okX2 lf2_28 rfl rfl dX2_undoLatest_65 ?_
  refine WS.as rfl rfl (congrArg (fun z => Value.int z :: _) (show (stI (stI (stI σ 8 5 (nI p)) 8 6 (nI (u + 1))) (numId (σ.1 33 p)) (nn (σ.1 32 p)) (σ.1 34 p)).1 8 5 = nI p from by rw [stI_o _ _ _ _ (by omega)]; rfl)) ?_
  skip
  exact WS.iret hx he dX2_undoLatest_68 ⟨_, rfl, rfl, rfl⟩
set_option maxHeartbeats 1000000 in
theorem c_X2_redoNext (V : Vt) (d : Nat) (σ : Sg) (m u : Nat) (hm : m < 40) (hu2 : u + 1 ≤ 40) (hd : σ.1 8 5 = nI m) (hu : σ.1 8 6 = nI (u + 1)) (n : Nat) (hQ : QI σ n) (hh : hasC n (σ.1 32 m) (σ.1 33 m)) (hv : isSoC (σ.1 33 m) (σ.1 35 m)) : CT layC V mX2_redoNext (d + 3) [rf V 8] σ (Ri fun v σ' => nI u = v ∧ rdoQ σ m u = σ') := by
  refine CT.of (own := RX2) rfl (by decide) (Nat.le_of_ble_eq_true rfl) (fun X (hx : Ok V RX2 cX2_redoNext 1 (d + 3) X) (he : En layC V (some .int) (Ri fun v σ' => nI u = v ∧ rdoQ σ m u = σ') X) => ?_)
  change WS layC V 1 X σ 0 [(0, rf V 8)] []
  have hmI : (nI m).toInt = (m : Int) := nI_c (by omega)
  have huI : (nI (u + 1)).toInt = ((u + 1 : Nat) : Int) := nI_c (by omega)
  have hvp : vp_in (nI m) 40 := vp_in_nI (by omega) (by decide)
  have hnr := numId_r (σ.1 33 m)
  refine WS.aload_n hx dX2_redoNext_0 rfl 0 rfl ?_
  refine WS.getI hx okX2 lf2_32 rfl rfl dX2_redoNext_1 ?_
  refine WS.as rfl rfl (congrArg (fun z => Value.int z :: _) (show σ.1 8 6 = nI (u + 1) from hu)) ?_
  skip
  refine WS.if_le (tgt := 16) hx dX2_redoNext_4 (by decide) (fun c4 => by exfalso; (try simp only [i_le, i_lt, i_eq, tI_m5, tI_0, tI_1, tI_40] at c4); (try simp only [i_le, i_lt, i_eq, tI_m5, tI_0, tI_1, tI_40]); omega) (fun c4 => ?_)
  refine WS.aload_n hx dX2_redoNext_7 rfl 0 rfl ?_
  refine WS.getI hx okX2 lf2_28 rfl rfl dX2_redoNext_8 ?_
  refine WS.as rfl rfl (congrArg (fun z => Value.int z :: _) (show σ.1 8 5 = nI m from hd)) ?_
  skip
  refine WS.bipush (v := 40) hx dX2_redoNext_11 (by decide) ?_
  refine WS.icmp_lt (tgt := 19) hx dX2_redoNext_13 (by decide) (fun c13 => ?_) (fun c13 => by exfalso; (try simp only [i_le, i_lt, i_eq, tI_m5, tI_0, tI_1, tI_40] at c4); (try simp only [i_le, i_lt, i_eq, tI_m5, tI_0, tI_1, tI_40] at c13); (try simp only [i_le, i_lt, i_eq, tI_m5, tI_0, tI_1, tI_40]); omega)
  refine WS.aload_n hx dX2_redoNext_19 rfl 0 rfl ?_
  refine WS.getR hx okX2 lf2_24 rfl rfl dX2_redoNext_20 ?_
  refine WS.aload_n hx dX2_redoNext_23 rfl 0 rfl ?_
  refine WS.getR hx okX2 lf2_11 rfl rfl dX2_redoNext_24 ?_
  refine WS.aload_n hx dX2_redoNext_27 rfl 0 rfl ?_
  refine WS.getI hx okX2 lf2_28 rfl rfl dX2_redoNext_28 ?_
  refine WS.as rfl rfl (congrArg (fun z => Value.int z :: _) (show σ.1 8 5 = nI m from hd)) ?_
  skip
  refine WS.iald hx rfl hvp dX2_redoNext_31 ?_
  refine WS.as rfl rfl (congrArg (fun z => Value.int z :: _) (show σ.1 32 (nn (nI m)) = σ.1 32 m from by rw [nn_nI (by omega)])) ?_
  skip
  refine WS.aload_n hx dX2_redoNext_32 rfl 0 rfl ?_
  refine WS.getR hx okX2 lf2_15 rfl rfl dX2_redoNext_33 ?_
  refine WS.aload_n hx dX2_redoNext_36 rfl 0 rfl ?_
  refine WS.getI hx okX2 lf2_28 rfl rfl dX2_redoNext_37 ?_
  refine WS.as rfl rfl (congrArg (fun z => Value.int z :: _) (show σ.1 8 5 = nI m from hd)) ?_
  skip
  refine WS.iald hx rfl hvp dX2_redoNext_40 ?_
  refine WS.as rfl rfl (congrArg (fun z => Value.int z :: _) (show σ.1 33 (nn (nI m)) = σ.1 33 m from by rw [nn_nI (by omega)])) ?_
  skip
  refine WS.aload_n hx dX2_redoNext_41 rfl 0 rfl ?_
  refine WS.getR hx okX2 lf2_21 rfl rfl dX2_redoNext_42 ?_
  refine WS.aload_n hx dX2_redoNext_45 rfl 0 rfl ?_
  refine WS.getI hx okX2 lf2_28 rfl rfl dX2_redoNext_46 ?_
  refine WS.as rfl rfl (congrArg (fun z => Value.int z :: _) (show σ.1 8 5 = nI m from hd)) ?_
  skip
  refine WS.iald hx rfl hvp dX2_redoNext_49 ?_
  refine WS.as rfl rfl (congrArg (fun z => Value.int z :: _) (show σ.1 35 (nn (nI m)) = σ.1 35 m from by rw [nn_nI (by omega)])) ?_
  skip
  refine WS.callVv (st := []) [.int (σ.1 32 m), .int (σ.1 33 m), .int (σ.1 35 m)] hx (c_X7_become V d σ n hQ (σ.1 32 m) (σ.1 33 m) hh (σ.1 35 m) hv) okX7_become lm2_44 rfl rfl rfl rfl (Nat.le_of_ble_eq_true rfl) dX2_redoNext_50 (fun σ2 h3 => ?_)
  obtain rfl := h3
  show WS layC V 1 X (stI σ (numId (σ.1 33 m)) (nn (σ.1 32 m)) (σ.1 35 m)) 53 [(0, rf V 8)] []
  refine WS.aload_n hx dX2_redoNext_53 rfl 0 rfl ?_
  refine WS.dup hx dX2_redoNext_54 rfl ?_
  refine WS.getI hx okX2 lf2_28 rfl rfl dX2_redoNext_55 ?_
  refine WS.as rfl rfl (congrArg (fun z => Value.int z :: _) (show (stI σ (numId (σ.1 33 m)) (nn (σ.1 32 m)) (σ.1 35 m)).1 8 5 = nI m from by rw [stI_o _ _ _ _ (by omega)]; exact hd)) ?_
  skip
  refine WS.iconst (v := 1) hx dX2_redoNext_58 (by decide) ?_
  refine WS.iadd hx dX2_redoNext_59 ?_
  refine WS.as rfl rfl (congrArg (fun z => Value.int z :: _) (show (nI m) + 1 = nI (m + 1) from nI_1 m)) ?_
  skip
  refine WS.putI hx okX2 lf2_28 rfl rfl rfl rfl dX2_redoNext_60 ?_
  refine WS.aload_n hx dX2_redoNext_63 rfl 0 rfl ?_
  refine WS.dup hx dX2_redoNext_64 rfl ?_
  refine WS.getI hx okX2 lf2_32 rfl rfl dX2_redoNext_65 ?_
  refine WS.as rfl rfl (congrArg (fun z => Value.int z :: _) (show (stI (stI σ (numId (σ.1 33 m)) (nn (σ.1 32 m)) (σ.1 35 m)) 8 5 (nI (m + 1))).1 8 6 = nI (u + 1) from by rw [stI_k _ _ _ _ (by decide), stI_o _ _ _ _ (by omega)]; exact hu)) ?_
  skip
  refine WS.iconst (v := 1) hx dX2_redoNext_68 (by decide) ?_
  refine WS.isub hx dX2_redoNext_69 ?_
  refine WS.as rfl rfl (congrArg (fun z => Value.int z :: _) (show (nI (u + 1)) - 1 = nI u from nI_pred u)) ?_
  skip
  refine WS.putI hx okX2 lf2_32 rfl rfl rfl rfl dX2_redoNext_70 ?_
  refine WS.aload_n hx dX2_redoNext_73 rfl 0 rfl ?_
  refine WS.getI hx okX2 lf2_32 rfl rfl dX2_redoNext_74 ?_
  refine WS.as rfl rfl (congrArg (fun z => Value.int z :: _) (show (stI (stI (stI σ (numId (σ.1 33 m)) (nn (σ.1 32 m)) (σ.1 35 m)) 8 5 (nI (m + 1))) 8 6 (nI u)).1 8 6 = nI u from stI_1 _ _ _ _)) ?_
  skip
  exact WS.iret hx he dX2_redoNext_77 ⟨_, rfl, rfl, rfl⟩
set_option maxHeartbeats 1000000 in
theorem c_X1_size (V : Vt) (d : Nat) (σ : Sg) : CT layC V mX1_size (d) [rf V 9] σ (Ro (σ.1 9 2) σ) := by
  refine CT.of (own := RX1) rfl (by decide) (Nat.le_of_ble_eq_true rfl) (fun X (hx : Ok V RX1 cX1_size 1 (d) X) (he : En layC V (some .int) (Ro (σ.1 9 2) σ) X) => ?_)
  change WS layC V 1 X σ 0 [(0, rf V 9)] []
  refine WS.aload_n hx dX1_size_0 rfl 0 rfl ?_
  refine WS.getI hx okX1 lf1_18 rfl rfl dX1_size_1 ?_
  exact WS.iret hx he dX1_size_4 (Ro.i rfl)
set_option maxHeartbeats 1000000 in
theorem c_X1_ran (V : Vt) (d : Nat) (σ : Sg) : CT layC V mX1_ran (d) [rf V 9] σ (Ro (σ.1 9 3) σ) := by
  refine CT.of (own := RX1) rfl (by decide) (Nat.le_of_ble_eq_true rfl) (fun X (hx : Ok V RX1 cX1_ran 1 (d) X) (he : En layC V (some .int) (Ro (σ.1 9 3) σ) X) => ?_)
  change WS layC V 1 X σ 0 [(0, rf V 9)] []
  refine WS.aload_n hx dX1_ran_0 rfl 0 rfl ?_
  refine WS.getI hx okX1 lf1_22 rfl rfl dX1_ran_1 ?_
  exact WS.iret hx he dX1_ran_4 (Ro.i rfl)
set_option maxHeartbeats 1000000 in
theorem c_X1_isFull (V : Vt) (d : Nat) (σ : Sg) (z : Nat) (hz : σ.1 9 2 = nI z) (hz2 : z ≤ 50) : CT layC V mX1_isFull (d) [rf V 9] σ (Rb (z = 50) σ) := by
  refine CT.of (own := RX1) rfl (by decide) (Nat.le_of_ble_eq_true rfl) (fun X (hx : Ok V RX1 cX1_isFull 1 (d) X) (he : En layC V (some .boolean) (Rb (z = 50) σ) X) => ?_)
  change WS layC V 1 X σ 0 [(0, rf V 9)] []
  have hzI : (nI z).toInt = (z : Int) := nI_c (by omega)
  have e1 : (nI z - 1).toInt = (z : Int) - 1 := by rw [i_sub (by rw [hzI, tI_1]; omega) (by rw [hzI, tI_1]; omega), hzI, tI_1]
  refine WS.aload_n hx dX1_isFull_0 rfl 0 rfl ?_
  refine WS.getI hx okX1 lf1_18 rfl rfl dX1_isFull_1 ?_
  refine WS.as rfl rfl (congrArg (fun z => Value.int z :: _) (show σ.1 9 2 = nI z from hz)) ?_
  skip
  refine WS.bipush (v := 50) hx dX1_isFull_4 (by decide) ?_
  refine WS.icmp_lt (tgt := 13) hx dX1_isFull_6 (by decide) (fun c6 => ?_) (fun c6 => ?_)
  · skip
    show WS layC V 1 X σ 13 [(0, rf V 9)] []
    refine WS.iconst (v := 0) hx dX1_isFull_13 (by decide) ?_
    exact WS.zret hx he dX1_isFull_14 (Or.inl rfl) (Rb.f (by (try simp only [i_le, i_lt, i_eq, tI_0, tI_1, tI_50] at c6); (try simp only [i_le, i_lt, i_eq, tI_0, tI_1, tI_50]); omega))
  · skip
    show WS layC V 1 X σ 9 [(0, rf V 9)] []
    refine WS.iconst (v := 1) hx dX1_isFull_9 (by decide) ?_
    refine WS.goto (tgt := 14) hx dX1_isFull_10 (by decide) ?_
    exact WS.zret hx he dX1_isFull_14 (Or.inr rfl) (Rb.t (by (try simp only [i_le, i_lt, i_eq, tI_0, tI_1, tI_50] at c6); (try simp only [i_le, i_lt, i_eq, tI_0, tI_1, tI_50]); omega))
set_option maxHeartbeats 1000000 in
theorem c_X1_has (V : Vt) (d : Nat) (σ : Sg) (z : Nat) (hz : σ.1 9 2 = nI z) (hz2 : z ≤ 50) (b : Int32) : CT layC V mX1_has (d + 1) [rf V 9, .int b] σ (Rb (0 ≤ b.toInt ∧ b.toInt < z) σ) := by
  refine CT.of (own := RX1) rfl (by decide) (Nat.le_of_ble_eq_true rfl) (fun X (hx : Ok V RX1 cX1_has 2 (d + 1) X) (he : En layC V (some .boolean) (Rb (0 ≤ b.toInt ∧ b.toInt < z) σ) X) => ?_)
  change WS layC V 2 X σ 0 [(0, rf V 9), (1, .int b)] []
  have hzI : (nI z).toInt = (z : Int) := nI_c (by omega)
  have e1 : (nI z - 1).toInt = (z : Int) - 1 := by rw [i_sub (by rw [hzI, tI_1]; omega) (by rw [hzI, tI_1]; omega), hzI, tI_1]
  refine WS.iload_n hx dX1_has_0 rfl 1 rfl ?_
  refine WS.iconst (v := 0) hx dX1_has_1 (by decide) ?_
  refine WS.aload_n hx dX1_has_2 rfl 0 rfl ?_
  refine WS.getI hx okX1 lf1_18 rfl rfl dX1_has_3 ?_
  refine WS.as rfl rfl (congrArg (fun z => Value.int z :: _) (show σ.1 9 2 = nI z from hz)) ?_
  skip
  refine WS.iconst (v := 1) hx dX1_has_6 (by decide) ?_
  refine WS.isub hx dX1_has_7 ?_
  refine WS.callNi (st := []) [.int b, .int 0, .int ((nI z) - 1)] hx (c_X10_within V d σ b 0 ((nI z) - 1)) okX10_within (by decide) rfl rfl rfl (Nat.le_of_ble_eq_true rfl) dX1_has_8 (fun v1 σ2 h3 => ?_)
  rcases h3 with ⟨rfl, rfl, hb8⟩ | ⟨rfl, rfl, hb8⟩
  · skip
    show WS layC V 2 X σ 11 [(0, rf V 9), (1, .int b)] [.int 1]
    exact WS.zret hx he dX1_has_11 (Or.inr rfl) (Rb.t (by (try simp only [i_le, i_lt, i_eq, tI_0, tI_1] at hb8); (try simp only [i_le, i_lt, i_eq, tI_0, tI_1]); omega))
  · skip
    show WS layC V 2 X σ 11 [(0, rf V 9), (1, .int b)] [.int 0]
    exact WS.zret hx he dX1_has_11 (Or.inl rfl) (Rb.f (by (try simp only [i_le, i_lt, i_eq, tI_0, tI_1] at hb8); (try simp only [i_le, i_lt, i_eq, tI_0, tI_1]); omega))
set_option maxHeartbeats 1000000 in
theorem c_X1_isKind (V : Vt) (d : Nat) (σ : Sg) (a : Int32) : CT layC V mX1_isKind (d + 1) [.int a] σ (Rb (0 ≤ a.toInt ∧ a.toInt ≤ 7) σ) := by
  refine CT.of (own := RX1) rfl (by decide) (Nat.le_of_ble_eq_true rfl) (fun X (hx : Ok V RX1 cX1_isKind 1 (d + 1) X) (he : En layC V (some .boolean) (Rb (0 ≤ a.toInt ∧ a.toInt ≤ 7) σ) X) => ?_)
  change WS layC V 1 X σ 0 [(0, .int a)] []
  refine WS.iload_n hx dX1_isKind_0 rfl 0 rfl ?_
  refine WS.iconst (v := 0) hx dX1_isKind_1 (by decide) ?_
  refine WS.bipush (v := 7) hx dX1_isKind_2 (by decide) ?_
  refine WS.callNi (st := []) [.int a, .int 0, .int 7] hx (c_X10_within V d σ a 0 7) okX10_within (by decide) rfl rfl rfl (Nat.le_of_ble_eq_true rfl) dX1_isKind_4 (fun v1 σ2 h3 => ?_)
  rcases h3 with ⟨rfl, rfl, hb4⟩ | ⟨rfl, rfl, hb4⟩
  · skip
    show WS layC V 1 X σ 7 [(0, .int a)] [.int 1]
    exact WS.zret hx he dX1_isKind_7 (Or.inr rfl) (Rb.t (by (try simp only [i_le, i_lt, i_eq, tI_0, tI_1, tI_7] at hb4); (try simp only [i_le, i_lt, i_eq, tI_0, tI_1, tI_7]); omega))
  · skip
    show WS layC V 1 X σ 7 [(0, .int a)] [.int 0]
    exact WS.zret hx he dX1_isKind_7 (Or.inl rfl) (Rb.f (by (try simp only [i_le, i_lt, i_eq, tI_0, tI_1, tI_7] at hb4); (try simp only [i_le, i_lt, i_eq, tI_0, tI_1, tI_7]); omega))
def bodQ (σ : Sg) (z : Nat) (k : Int32) : Sg := stI (stI σ 36 z k) 9 2 (nI (z + 1))
set_option maxHeartbeats 1000000 in
theorem c_X1_add (V : Vt) (d : Nat) (σ : Sg) (z : Nat) (hz : σ.1 9 2 = nI z) (hz2 : z < 50) (k : Int32) : CT layC V mX1_add (d + 1) [rf V 9, .int k] σ (Ri fun v σ' => nI z = v ∧ bodQ σ z k = σ') := by
  refine CT.of (own := RX1) rfl (by decide) (Nat.le_of_ble_eq_true rfl) (fun X (hx : Ok V RX1 cX1_add 2 (d + 1) X) (he : En layC V (some .int) (Ri fun v σ' => nI z = v ∧ bodQ σ z k = σ') X) => ?_)
  change WS layC V 2 X σ 0 [(0, rf V 9), (1, .int k)] []
  have hv : vp_in (nI z) 50 := vp_in_nI hz2 (by decide)
  refine WS.aload_n hx dX1_add_0 rfl 0 rfl ?_
  refine WS.callVi (st := []) [] hx (c_X1_isFull V d σ z hz (by omega)) okX1_isFull lm1_29 rfl rfl rfl rfl (Nat.le_of_ble_eq_true rfl) dX1_add_1 (fun v1 σ2 h3 => ?_)
  rcases h3 with ⟨rfl, rfl, hb1⟩ | ⟨rfl, rfl, hb1⟩
  · skip
    show WS layC V 2 X σ 4 [(0, rf V 9), (1, .int k)] [.int 1]
    refine WS.if_eq (tgt := 10) hx dX1_add_4 (by decide) (fun h => absurd h (by decide)) (fun _ => ?_)
    refine WS.bipush (v := (-3)) hx dX1_add_7 (by decide) ?_
    exact WS.iret hx he dX1_add_9 (by exfalso; omega)
  · skip
    show WS layC V 2 X σ 4 [(0, rf V 9), (1, .int k)] [.int 0]
    refine WS.if_eq (tgt := 10) hx dX1_add_4 (by decide) (fun _ => ?_) (fun h => absurd (by decide) h)
    refine WS.aload_n hx dX1_add_10 rfl 0 rfl ?_
    refine WS.getR hx okX1 lf1_11 rfl rfl dX1_add_11 ?_
    refine WS.aload_n hx dX1_add_14 rfl 0 rfl ?_
    refine WS.getI hx okX1 lf1_18 rfl rfl dX1_add_15 ?_
    refine WS.as rfl rfl (congrArg (fun z => Value.int z :: _) (show σ.1 9 2 = nI z from hz)) ?_
    skip
    refine WS.iload_n hx dX1_add_18 rfl 1 rfl ?_
    refine WS.iast hx rfl hv dX1_add_19 ?_
    refine WS.aload_n hx dX1_add_20 rfl 0 rfl ?_
    refine WS.dup hx dX1_add_21 rfl ?_
    refine WS.getI hx okX1 lf1_18 rfl rfl dX1_add_22 ?_
    refine WS.as rfl rfl (congrArg (fun z => Value.int z :: _) (show (stI σ 36 (nn (nI z)) k).1 9 2 = nI z from hz)) ?_
    skip
    refine WS.iconst (v := 1) hx dX1_add_25 (by decide) ?_
    refine WS.iadd hx dX1_add_26 ?_
    refine WS.putI hx okX1 lf1_18 rfl rfl rfl rfl dX1_add_27 ?_
    refine WS.aload_n hx dX1_add_30 rfl 0 rfl ?_
    refine WS.getI hx okX1 lf1_18 rfl rfl dX1_add_31 ?_
    refine WS.iconst (v := 1) hx dX1_add_34 (by decide) ?_
    refine WS.isub hx dX1_add_35 ?_
    exact WS.iret hx he dX1_add_36 ⟨_, rfl, by show nI z = nI z + 1 - 1; rw [Int32.add_sub_cancel], by unfold bodQ; rw [← nI_1]; simp only [nI_clamp (show z < 2 ^ 31 by omega)]⟩
set_option maxHeartbeats 1000000 in
theorem c_X1_kindOf (V : Vt) (d : Nat) (σ : Sg) (z : Nat) (hz : σ.1 9 2 = nI z) (hz2 : z ≤ 50) (b : Nat) (hb : b < z) : CT layC V mX1_kindOf (d + 2) [rf V 9, .int (nI b)] σ (Ro (σ.1 36 b) σ) := by
  refine CT.of (own := RX1) rfl (by decide) (Nat.le_of_ble_eq_true rfl) (fun X (hx : Ok V RX1 cX1_kindOf 2 (d + 2) X) (he : En layC V (some .int) (Ro (σ.1 36 b) σ) X) => ?_)
  change WS layC V 2 X σ 0 [(0, rf V 9), (1, .int (nI b))] []
  have hbI : (nI b).toInt = (b : Int) := nI_c (by omega)
  refine WS.aload_n hx dX1_kindOf_0 rfl 0 rfl ?_
  refine WS.iload_n hx dX1_kindOf_1 rfl 1 rfl ?_
  refine WS.callVi (st := []) [.int (nI b)] hx (c_X1_has V d σ z hz hz2 (nI b)) okX1_has lm1_33 rfl rfl rfl rfl (Nat.le_of_ble_eq_true rfl) dX1_kindOf_2 (fun v1 σ2 h3 => ?_)
  rcases h3 with ⟨rfl, rfl, hb2⟩ | ⟨rfl, rfl, hb2⟩
  · skip
    show WS layC V 2 X σ 5 [(0, rf V 9), (1, .int (nI b))] [.int 1]
    refine WS.if_eq (tgt := 17) hx dX1_kindOf_5 (by decide) (fun h => absurd h (by decide)) (fun _ => ?_)
    refine WS.aload_n hx dX1_kindOf_8 rfl 0 rfl ?_
    refine WS.getR hx okX1 lf1_11 rfl rfl dX1_kindOf_9 ?_
    refine WS.iload_n hx dX1_kindOf_12 rfl 1 rfl ?_
    refine WS.iald hx rfl (vp_in_nI (by omega) (by decide)) dX1_kindOf_13 ?_
    refine WS.as rfl rfl (congrArg (fun z => Value.int z :: _) (show σ.1 36 (nn (nI b)) = σ.1 36 b from by rw [nn_nI (by omega)])) ?_
    skip
    refine WS.goto (tgt := 18) hx dX1_kindOf_14 (by decide) ?_
    exact WS.iret hx he dX1_kindOf_18 (Ro.i rfl)
  · skip
    show WS layC V 2 X σ 5 [(0, rf V 9), (1, .int (nI b))] [.int 0]
    refine WS.if_eq (tgt := 17) hx dX1_kindOf_5 (by decide) (fun _ => ?_) (fun h => absurd (by decide) h)
    refine WS.iconst (v := (-1)) hx dX1_kindOf_17 (by decide) ?_
    exact WS.iret hx he dX1_kindOf_18 (by exfalso; (try simp only [i_le, i_lt, i_eq, tI_m1, tI_0, tI_1] at hb2); (try simp only [i_le, i_lt, i_eq, tI_m1, tI_0, tI_1]); omega)
def trcC (r : Nat) (i : Int32) : Prop := 0 ≤ i.toInt ∧ i.toInt < r ∧ i.toInt < 24
theorem mn_int {a b : Int32} : (mn a b).toInt = if b.toInt < a.toInt then b.toInt else a.toInt := by
  unfold mn
  by_cases h : b < a
  · rw [if_pos h, if_pos (i_lt.mp h)]
  · rw [if_neg h, if_neg (fun q => h (i_lt.mpr q))]
set_option maxHeartbeats 1000000 in
theorem c_X1_traced (V : Vt) (d : Nat) (σ : Sg) (r : Nat) (hr : σ.1 9 3 = nI r) (hr2 : r ≤ 2147483647) (i : Int32) : CT layC V mX1_traced (d + 1) [rf V 9, .int i] σ (Ri fun v σ' => σ = σ' ∧ (trcC r i → v = σ.1 37 (nn i)) ∧ (¬ trcC r i → v = -1)) := by
  refine CT.of (own := RX1) rfl (by decide) (Nat.le_of_ble_eq_true rfl) (fun X (hx : Ok V RX1 cX1_traced 2 (d + 1) X) (he : En layC V (some .int) (Ri fun v σ' => σ = σ' ∧ (trcC r i → v = σ.1 37 (nn i)) ∧ (¬ trcC r i → v = -1)) X) => ?_)
  change WS layC V 2 X σ 0 [(0, rf V 9), (1, .int i)] []
  have hrI : (nI r).toInt = (r : Int) := nI_c hr2
  have hm := mn_int (a := nI r) (b := 24)
  rw [hrI, tI_24] at hm
  have e1 : (mn (nI r) 24 - 1).toInt = (mn (nI r) 24).toInt - 1 := by
    rw [i_sub (by rw [tI_1]; split at hm <;> omega) (by rw [tI_1]; split at hm <;> omega), tI_1]
  refine WS.iload_n hx dX1_traced_0 rfl 1 rfl ?_
  refine WS.iconst (v := 0) hx dX1_traced_1 (by decide) ?_
  refine WS.aload_n hx dX1_traced_2 rfl 0 rfl ?_
  refine WS.getI hx okX1 lf1_22 rfl rfl dX1_traced_3 ?_
  refine WS.as rfl rfl (congrArg (fun z => Value.int z :: _) (show σ.1 9 3 = nI r from hr)) ?_
  skip
  refine WS.bipush (v := 24) hx dX1_traced_6 (by decide) ?_
  refine WS.mmin hx lm1_43 (Nat.le_of_ble_eq_true rfl) dX1_traced_8 ?_
  refine WS.iconst (v := 1) hx dX1_traced_11 (by decide) ?_
  refine WS.isub hx dX1_traced_12 ?_
  refine WS.callNi (st := []) [.int i, .int 0, .int ((mn (nI r) 24) - 1)] hx (c_X10_within V d σ i 0 ((mn (nI r) 24) - 1)) okX10_within (by decide) rfl rfl rfl (Nat.le_of_ble_eq_true rfl) dX1_traced_13 (fun v1 σ2 h3 => ?_)
  rcases h3 with ⟨rfl, rfl, hb13⟩ | ⟨rfl, rfl, hb13⟩
  · skip
    show WS layC V 2 X σ 16 [(0, rf V 9), (1, .int i)] [.int 1]
    refine WS.if_eq (tgt := 28) hx dX1_traced_16 (by decide) (fun h => absurd h (by decide)) (fun _ => ?_)
    refine WS.aload_n hx dX1_traced_19 rfl 0 rfl ?_
    refine WS.getR hx okX1 lf1_15 rfl rfl dX1_traced_20 ?_
    refine WS.iload_n hx dX1_traced_23 rfl 1 rfl ?_
    refine WS.iald hx rfl (vp_in_iff.mpr (by (try simp only [i_le, i_lt, i_eq, tI_m1, tI_0, tI_1, tI_24] at hb13); split at hm <;> omega)) dX1_traced_24 ?_
    refine WS.goto (tgt := 29) hx dX1_traced_25 (by decide) ?_
    exact WS.iret hx he dX1_traced_29 ⟨_, rfl, rfl, fun _ => rfl, fun h => absurd (by unfold trcC; (try simp only [i_le, i_lt, i_eq, tI_m1, tI_0, tI_1, tI_24] at hb13); split at hm <;> omega) h⟩
  · skip
    show WS layC V 2 X σ 16 [(0, rf V 9), (1, .int i)] [.int 0]
    refine WS.if_eq (tgt := 28) hx dX1_traced_16 (by decide) (fun _ => ?_) (fun h => absurd (by decide) h)
    refine WS.iconst (v := (-1)) hx dX1_traced_28 (by decide) ?_
    exact WS.iret hx he dX1_traced_29 ⟨_, rfl, rfl, fun h => by unfold trcC at h; exfalso; (try simp only [i_le, i_lt, i_eq, tI_m1, tI_0, tI_1, tI_24] at hb13); split at hm <;> omega, fun _ => rfl⟩

set_option maxHeartbeats 1000000 in
theorem c_X10_block (V : Vt) (d : Nat) (σ : Sg) (n : Nat) (hQ : QI σ n) (b : Int32) : CT layC V mX10_block (d + 2) [rf V 0, .int b] σ (Ri fun v σ' => (if ¬ (0 ≤ b.toInt ∧ b.toInt ≤ 9) then v = -1 ∧ σ' = σ else (if n = 10 then v = -3 ∧ σ' = σ else (v = nI n ∧ σ' = addQ σ n b 0 3)))) := by
  refine CT.of (own := RX10) rfl (by decide) (Nat.le_of_ble_eq_true rfl) (fun X (hx : Ok V RX10 cX10_block 2 (d + 2) X) (he : En layC V (some .int) (Ri fun v σ' => (if ¬ (0 ≤ b.toInt ∧ b.toInt ≤ 9) then v = -1 ∧ σ' = σ else (if n = 10 then v = -3 ∧ σ' = σ else (v = nI n ∧ σ' = addQ σ n b 0 3)))) X) => ?_)
  change WS layC V 2 X σ 0 [(0, rf V 0), (1, .int b)] []
  have hn10 := hQ.n
  refine WS.iload_n hx dX10_block_0 rfl 1 rfl ?_
  refine WS.iconst (v := 0) hx dX10_block_1 (by decide) ?_
  refine WS.bipush (v := 9) hx dX10_block_2 (by decide) ?_
  refine WS.callSi (st := []) [.int b, .int 0, .int 9] hx (c_X10_within V (d + 1) σ b 0 9) okX10_within lm10_80 rfl rfl (Nat.le_of_ble_eq_true rfl) dX10_block_4 (fun v1 σ2 h3 => ?_)
  rcases h3 with ⟨rfl, rfl, hb4⟩ | ⟨rfl, rfl, hb4⟩
  · skip
    show WS layC V 2 X σ 7 [(0, rf V 0), (1, .int b)] [.int 1]
    refine WS.if_ne (tgt := 12) hx dX10_block_7 (by decide) (fun _ => ?_) (fun h => absurd h (by decide))
    refine WS.aload_n hx dX10_block_12 rfl 0 rfl ?_
    refine WS.getR hx okX10 lf10_12 rfl rfl dX10_block_13 ?_
    refine WS.callVi (st := []) [] hx (c_X7_isFull V (d + 1) σ n hQ) okX7_isFull lm10_84 rfl rfl rfl rfl (Nat.le_of_ble_eq_true rfl) dX10_block_16 (fun v4 σ5 h6 => ?_)
    rcases h6 with ⟨rfl, rfl, hb16⟩ | ⟨rfl, rfl, hb16⟩
    · skip
      show WS layC V 2 X σ 19 [(0, rf V 0), (1, .int b)] [.int 1]
      refine WS.if_eq (tgt := 25) hx dX10_block_19 (by decide) (fun h => absurd h (by decide)) (fun _ => ?_)
      refine WS.bipush (v := (-3)) hx dX10_block_22 (by decide) ?_
      exact WS.iret hx he dX10_block_24 ⟨_, rfl, by (try simp only [i_le, i_lt, i_eq, tI_m3, tI_m1, tI_0, tI_1, tI_3, tI_9] at hb4); (try simp only [i_le, i_lt, i_eq, tI_m3, tI_m1, tI_0, tI_1, tI_3, tI_9] at hb16); (repeat' split) <;> first | (exfalso; omega) | exact ⟨rfl, rfl⟩⟩
    · skip
      show WS layC V 2 X σ 19 [(0, rf V 0), (1, .int b)] [.int 0]
      refine WS.if_eq (tgt := 25) hx dX10_block_19 (by decide) (fun _ => ?_) (fun h => absurd (by decide) h)
      refine WS.aload_n hx dX10_block_25 rfl 0 rfl ?_
      refine WS.getR hx okX10 lf10_12 rfl rfl dX10_block_26 ?_
      refine WS.iload_n hx dX10_block_29 rfl 1 rfl ?_
      refine WS.iconst (v := 0) hx dX10_block_30 (by decide) ?_
      refine WS.iconst (v := 3) hx dX10_block_31 (by decide) ?_
      refine WS.callVi (st := []) [.int b, .int 0, .int 3] hx (c_X7_add V d σ n hQ (by have := hQ.n; omega) b 0 3) okX7_add lm10_88 rfl rfl rfl rfl (Nat.le_of_ble_eq_true rfl) dX10_block_32 (fun v7 σ8 h9 => ?_)
      obtain ⟨rfl, rfl⟩ := h9
      show WS layC V 2 X (addQ σ n b 0 3) 35 [(0, rf V 0), (1, .int b)] [.int (nI n)]
      exact WS.iret hx he dX10_block_35 ⟨_, rfl, by (try simp only [i_le, i_lt, i_eq, tI_m3, tI_m1, tI_0, tI_1, tI_3, tI_9] at hb4); (try simp only [i_le, i_lt, i_eq, tI_m3, tI_m1, tI_0, tI_1, tI_3, tI_9] at hb16); (repeat' split) <;> first | (exfalso; omega) | exact ⟨rfl, rfl⟩⟩
  · skip
    show WS layC V 2 X σ 7 [(0, rf V 0), (1, .int b)] [.int 0]
    refine WS.if_ne (tgt := 12) hx dX10_block_7 (by decide) (fun h => absurd (by decide) h) (fun _ => ?_)
    refine WS.iconst (v := (-1)) hx dX10_block_10 (by decide) ?_
    exact WS.iret hx he dX10_block_11 ⟨_, rfl, by (try simp only [i_le, i_lt, i_eq, tI_m3, tI_m1, tI_0, tI_1, tI_3, tI_9] at hb4); (repeat' split) <;> first | (exfalso; omega) | exact ⟨rfl, rfl⟩⟩
noncomputable def dcP (p : Prop) : Decidable p := Classical.propDecidable p
set_option maxHeartbeats 1000000 in
theorem c_X10_of (V : Vt) (d : Nat) (σ : Sg) (n : Nat) (hQ : QI σ n) (b q : Int32) : CT layC V mX10_of (d + 2) [rf V 0, .int b, .int q] σ (Ri fun v σ' => σ' = σ ∧ (¬ hasC n b q → v = -1) ∧ (hasC n b q → v = σ.1 (numId q) (nn b))) := by
  refine CT.of (own := RX10) rfl (by decide) (Nat.le_of_ble_eq_true rfl) (fun X (hx : Ok V RX10 cX10_of 3 (d + 2) X) (he : En layC V (some .int) (Ri fun v σ' => σ' = σ ∧ (¬ hasC n b q → v = -1) ∧ (hasC n b q → v = σ.1 (numId q) (nn b))) X) => ?_)
  change WS layC V 3 X σ 0 [(0, rf V 0), (1, .int b), (2, .int q)] []
  refine WS.aload_n hx dX10_of_0 rfl 0 rfl ?_
  refine WS.getR hx okX10 lf10_12 rfl rfl dX10_of_1 ?_
  refine WS.iload_n hx dX10_of_4 rfl 1 rfl ?_
  refine WS.iload_n hx dX10_of_5 rfl 2 rfl ?_
  refine WS.callVi (st := []) [.int b, .int q] hx (c_X7_has V (d + 1) σ n hQ b q) okX7_has lm10_117 rfl rfl rfl rfl (Nat.le_of_ble_eq_true rfl) dX10_of_6 (fun v1 σ2 h3 => ?_)
  rcases h3 with ⟨rfl, rfl, hb6⟩ | ⟨rfl, rfl, hb6⟩
  · skip
    show WS layC V 3 X σ 9 [(0, rf V 0), (1, .int b), (2, .int q)] [.int 1]
    refine WS.if_eq (tgt := 24) hx dX10_of_9 (by decide) (fun h => absurd h (by decide)) (fun _ => ?_)
    refine WS.aload_n hx dX10_of_12 rfl 0 rfl ?_
    refine WS.getR hx okX10 lf10_12 rfl rfl dX10_of_13 ?_
    refine WS.iload_n hx dX10_of_16 rfl 1 rfl ?_
    refine WS.iload_n hx dX10_of_17 rfl 2 rfl ?_
    refine WS.callVi (st := []) [.int b, .int q] hx (c_X7_told V d σ n hQ b q hb6) okX7_told lm10_120 rfl rfl rfl rfl (Nat.le_of_ble_eq_true rfl) dX10_of_18 (fun v4 σ5 h6 => ?_)
    obtain ⟨rfl, rfl⟩ := h6
    show WS layC V 3 X σ 21 [(0, rf V 0), (1, .int b), (2, .int q)] [.int (σ.1 (numId q) (nn b))]
    refine WS.goto (tgt := 25) hx dX10_of_21 (by decide) ?_
    exact WS.iret hx he dX10_of_25 ⟨_, rfl, rfl, fun h => absurd hb6 h, fun _ => rfl⟩
  · skip
    show WS layC V 3 X σ 9 [(0, rf V 0), (1, .int b), (2, .int q)] [.int 0]
    refine WS.if_eq (tgt := 24) hx dX10_of_9 (by decide) (fun _ => ?_) (fun h => absurd (by decide) h)
    refine WS.iconst (v := (-1)) hx dX10_of_24 (by decide) ?_
    exact WS.iret hx he dX10_of_25 ⟨_, rfl, rfl, fun _ => rfl, fun h => absurd h hb6⟩
theorem QI_rem {σ : Sg} {n m : Nat} {b q v u : Int32} (h : QI σ n) : QI (rembQ σ m b q v u) n := by
  unfold rembQ
  split
  · exact h
  · exact h
set_option maxHeartbeats 1000000 in
theorem c_X10_mend (V : Vt) (d : Nat) (σ : Sg) (n : Nat) (hQ : QI σ n) (dn : Nat) (hdn : dn ≤ 40) (hd5 : σ.1 8 5 = nI dn) (b q x : Int32) : CT layC V mX10_mend (d + 3) [rf V 0, .int b, .int q, .int x] σ (Ri fun v σ' => (¬ (hasC n b q ∧ isSoC q x) → v = -1 ∧ σ' = σ) ∧ (hasC n b q ∧ isSoC q x → v = σ.1 (numId q) (nn b) ∧ (σ.1 (numId q) (nn b) = x → σ' = σ) ∧ (¬ σ.1 (numId q) (nn b) = x → σ' = stI (rembQ σ dn b q (σ.1 (numId q) (nn b)) x) (numId q) (nn b) x))) := by
  refine CT.of (own := RX10) rfl (by decide) (Nat.le_of_ble_eq_true rfl) (fun X (hx : Ok V RX10 cX10_mend 5 (d + 3) X) (he : En layC V (some .int) (Ri fun v σ' => (¬ (hasC n b q ∧ isSoC q x) → v = -1 ∧ σ' = σ) ∧ (hasC n b q ∧ isSoC q x → v = σ.1 (numId q) (nn b) ∧ (σ.1 (numId q) (nn b) = x → σ' = σ) ∧ (¬ σ.1 (numId q) (nn b) = x → σ' = stI (rembQ σ dn b q (σ.1 (numId q) (nn b)) x) (numId q) (nn b) x))) X) => ?_)
  change WS layC V 5 X σ 0 [(0, rf V 0), (1, .int b), (2, .int q), (3, .int x)] []
  refine WS.aload_n hx dX10_mend_0 rfl 0 rfl ?_
  refine WS.getR hx okX10 lf10_12 rfl rfl dX10_mend_1 ?_
  refine WS.iload_n hx dX10_mend_4 rfl 1 rfl ?_
  refine WS.iload_n hx dX10_mend_5 rfl 2 rfl ?_
  refine WS.callVi (st := []) [.int b, .int q] hx (c_X7_has V (d + 2) σ n hQ b q) okX7_has lm10_117 rfl rfl rfl rfl (Nat.le_of_ble_eq_true rfl) dX10_mend_6 (fun v1 σ2 h3 => ?_)
  rcases h3 with ⟨rfl, rfl, hb6⟩ | ⟨rfl, rfl, hb6⟩
  · skip
    show WS layC V 5 X σ 9 [(0, rf V 0), (1, .int b), (2, .int q), (3, .int x)] [.int 1]
    refine WS.if_eq (tgt := 20) hx dX10_mend_9 (by decide) (fun h => absurd h (by decide)) (fun _ => ?_)
    refine WS.iload_n hx dX10_mend_12 rfl 2 rfl ?_
    refine WS.iload_n hx dX10_mend_13 rfl 3 rfl ?_
    refine WS.callSi (st := []) [.int q, .int x] hx (c_X7_isSo V (d + 1) σ q x) okX7_isSo lm10_114 rfl rfl (Nat.le_of_ble_eq_true rfl) dX10_mend_14 (fun v4 σ5 h6 => ?_)
    rcases h6 with ⟨rfl, rfl, hb14⟩ | ⟨rfl, rfl, hb14⟩
    · skip
      show WS layC V 5 X σ 17 [(0, rf V 0), (1, .int b), (2, .int q), (3, .int x)] [.int 1]
      refine WS.if_ne (tgt := 22) hx dX10_mend_17 (by decide) (fun _ => ?_) (fun h => absurd h (by decide))
      refine WS.aload_n hx dX10_mend_22 rfl 0 rfl ?_
      refine WS.getR hx okX10 lf10_12 rfl rfl dX10_mend_23 ?_
      refine WS.iload_n hx dX10_mend_26 rfl 1 rfl ?_
      refine WS.iload_n hx dX10_mend_27 rfl 2 rfl ?_
      refine WS.callVi (st := []) [.int b, .int q] hx (c_X7_told V (d + 1) σ n hQ b q hb6) okX7_told lm10_120 rfl rfl rfl rfl (Nat.le_of_ble_eq_true rfl) dX10_mend_28 (fun v7 σ8 h9 => ?_)
      obtain ⟨rfl, rfl⟩ := h9
      show WS layC V 5 X σ 31 [(0, rf V 0), (1, .int b), (2, .int q), (3, .int x)] [.int (σ.1 (numId q) (nn b))]
      refine WS.istore (lo' := [(4, .int (σ.1 (numId q) (nn b))), (0, rf V 0), (1, .int b), (2, .int q), (3, .int x)]) hx dX10_mend_31 (by decide) rfl ?_
      refine WS.iload hx dX10_mend_33 0 rfl ?_
      refine WS.iload_n hx dX10_mend_35 rfl 4 rfl ?_
      refine WS.icmp_eq (tgt := 61) hx dX10_mend_36 (by decide) (fun c36 => ?_) (fun c36 => ?_)
      · skip
        show WS layC V 5 X σ 61 [(4, .int (σ.1 (numId q) (nn b))), (0, rf V 0), (1, .int b), (2, .int q), (3, .int x)] []
        refine WS.iload hx dX10_mend_61 0 rfl ?_
        exact WS.iret hx he dX10_mend_63 ⟨_, rfl, fun h => absurd ⟨hb6, hb14⟩ h, fun _ => ⟨rfl, fun _ => rfl, fun h => absurd c36 h⟩⟩
      · skip
        show WS layC V 5 X σ 39 [(4, .int (σ.1 (numId q) (nn b))), (0, rf V 0), (1, .int b), (2, .int q), (3, .int x)] []
        refine WS.aload_n hx dX10_mend_39 rfl 1 rfl ?_
        refine WS.getR hx okX10 lf10_62 rfl rfl dX10_mend_40 ?_
        refine WS.iload_n hx dX10_mend_43 rfl 2 rfl ?_
        refine WS.iload_n hx dX10_mend_44 rfl 3 rfl ?_
        refine WS.iload hx dX10_mend_45 0 rfl ?_
        refine WS.iload_n hx dX10_mend_47 rfl 4 rfl ?_
        refine WS.callVv (st := []) [.int b, .int q, .int (σ.1 (numId q) (nn b)), .int x] hx (c_X2_remember V d σ dn hdn hd5 b q (σ.1 (numId q) (nn b)) x) okX2_remember lm10_124 rfl rfl rfl rfl (Nat.le_of_ble_eq_true rfl) dX10_mend_48 (fun σ11 h12 => ?_)
        obtain rfl := h12
        show WS layC V 5 X (rembQ σ dn b q (σ.1 (numId q) (nn b)) x) 51 [(4, .int (σ.1 (numId q) (nn b))), (0, rf V 0), (1, .int b), (2, .int q), (3, .int x)] []
        refine WS.aload_n hx dX10_mend_51 rfl 1 rfl ?_
        refine WS.getR hx okX10 lf10_12 rfl rfl dX10_mend_52 ?_
        refine WS.iload_n hx dX10_mend_55 rfl 2 rfl ?_
        refine WS.iload_n hx dX10_mend_56 rfl 3 rfl ?_
        refine WS.iload_n hx dX10_mend_57 rfl 4 rfl ?_
        refine WS.callVv (st := []) [.int b, .int q, .int x] hx (c_X7_become V d (rembQ σ dn b q (σ.1 (numId q) (nn b)) x) n (QI_rem hQ) b q hb6 x hb14) okX7_become lm10_128 rfl rfl rfl rfl (Nat.le_of_ble_eq_true rfl) dX10_mend_58 (fun σ14 h15 => ?_)
        obtain rfl := h15
        show WS layC V 5 X (stI (rembQ σ dn b q (σ.1 (numId q) (nn b)) x) (numId q) (nn b) x) 61 [(4, .int (σ.1 (numId q) (nn b))), (0, rf V 0), (1, .int b), (2, .int q), (3, .int x)] []
        refine WS.iload hx dX10_mend_61 0 rfl ?_
        exact WS.iret hx he dX10_mend_63 ⟨_, rfl, fun h => absurd ⟨hb6, hb14⟩ h, fun _ => ⟨rfl, fun h => absurd h c36, fun _ => rfl⟩⟩
    · skip
      show WS layC V 5 X σ 17 [(0, rf V 0), (1, .int b), (2, .int q), (3, .int x)] [.int 0]
      refine WS.if_ne (tgt := 22) hx dX10_mend_17 (by decide) (fun h => absurd (by decide) h) (fun _ => ?_)
      refine WS.iconst (v := (-1)) hx dX10_mend_20 (by decide) ?_
      exact WS.iret hx he dX10_mend_21 ⟨_, rfl, fun _ => ⟨rfl, rfl⟩, fun h => by first | exact absurd h.1 hb6 | exact absurd h.2 hb14⟩
  · skip
    show WS layC V 5 X σ 9 [(0, rf V 0), (1, .int b), (2, .int q), (3, .int x)] [.int 0]
    refine WS.if_eq (tgt := 20) hx dX10_mend_9 (by decide) (fun _ => ?_) (fun h => absurd (by decide) h)
    refine WS.iconst (v := (-1)) hx dX10_mend_20 (by decide) ?_
    exact WS.iret hx he dX10_mend_21 ⟨_, rfl, fun _ => ⟨rfl, rfl⟩, fun h => by first | exact absurd h.1 hb6 | exact absurd h.2 hb14⟩
set_option maxHeartbeats 1000000 in
theorem c_X10_feed (V : Vt) (d : Nat) (σ : Sg) (tl : Nat) (htl : tl ≤ 120) (h3 : σ.1 0 3 = nI tl) (x : Int32) : CT layC V mX10_feed (d + 1) [rf V 0, .int x] σ (Ri fun v σ' => (if ¬ (0 ≤ x.toInt ∧ x.toInt ≤ 255) then v = -1 ∧ σ' = σ else (if tl = 120 then v = -3 ∧ σ' = σ else (v = nI (tl + 1) ∧ σ' = stI (stI σ 3 tl x) 0 3 (nI (tl + 1)))))) := by
  refine CT.of (own := RX10) rfl (by decide) (Nat.le_of_ble_eq_true rfl) (fun X (hx : Ok V RX10 cX10_feed 2 (d + 1) X) (he : En layC V (some .int) (Ri fun v σ' => (if ¬ (0 ≤ x.toInt ∧ x.toInt ≤ 255) then v = -1 ∧ σ' = σ else (if tl = 120 then v = -3 ∧ σ' = σ else (v = nI (tl + 1) ∧ σ' = stI (stI σ 3 tl x) 0 3 (nI (tl + 1)))))) X) => ?_)
  change WS layC V 2 X σ 0 [(0, rf V 0), (1, .int x)] []
  have htI : (nI tl).toInt = (tl : Int) := nI_c (by omega)
  refine WS.iload_n hx dX10_feed_0 rfl 1 rfl ?_
  refine WS.iconst (v := 0) hx dX10_feed_1 (by decide) ?_
  refine WS.sipush (v := 255) hx dX10_feed_2 (by decide) ?_
  refine WS.callSi (st := []) [.int x, .int 0, .int 255] hx (c_X10_within V d σ x 0 255) okX10_within lm10_80 rfl rfl (Nat.le_of_ble_eq_true rfl) dX10_feed_5 (fun v1 σ2 h3 => ?_)
  rcases h3 with ⟨rfl, rfl, hb5⟩ | ⟨rfl, rfl, hb5⟩
  · skip
    show WS layC V 2 X σ 8 [(0, rf V 0), (1, .int x)] [.int 1]
    refine WS.if_ne (tgt := 13) hx dX10_feed_8 (by decide) (fun _ => ?_) (fun h => absurd h (by decide))
    refine WS.aload_n hx dX10_feed_13 rfl 0 rfl ?_
    refine WS.getI hx okX10 lf10_132 rfl rfl dX10_feed_14 ?_
    refine WS.as rfl rfl (congrArg (fun z => Value.int z :: _) (show σ.1 0 3 = nI tl from h3)) ?_
    skip
    refine WS.bipush (v := 120) hx dX10_feed_17 (by decide) ?_
    refine WS.icmp_lt (tgt := 25) hx dX10_feed_19 (by decide) (fun c19 => ?_) (fun c19 => ?_)
    · skip
      show WS layC V 2 X σ 25 [(0, rf V 0), (1, .int x)] []
      refine WS.aload_n hx dX10_feed_25 rfl 0 rfl ?_
      refine WS.getR hx okX10 lf10_23 rfl rfl dX10_feed_26 ?_
      refine WS.aload_n hx dX10_feed_29 rfl 0 rfl ?_
      refine WS.getI hx okX10 lf10_132 rfl rfl dX10_feed_30 ?_
      refine WS.as rfl rfl (congrArg (fun z => Value.int z :: _) (show σ.1 0 3 = nI tl from h3)) ?_
      skip
      refine WS.iload_n hx dX10_feed_33 rfl 1 rfl ?_
      refine WS.iast hx rfl (vp_in_nI (by (try simp only [i_le, i_lt, i_eq, tI_m3, tI_m1, tI_0, tI_1, tI_120, tI_255] at hb5); (try simp only [i_le, i_lt, i_eq, tI_m3, tI_m1, tI_0, tI_1, tI_120, tI_255] at c19); omega) (by decide)) dX10_feed_34 ?_
      refine WS.aload_n hx dX10_feed_35 rfl 0 rfl ?_
      refine WS.dup hx dX10_feed_36 rfl ?_
      refine WS.getI hx okX10 lf10_132 rfl rfl dX10_feed_37 ?_
      refine WS.as rfl rfl (congrArg (fun z => Value.int z :: _) (show (stI σ 3 (nn (nI tl)) x).1 0 3 = nI tl from h3)) ?_
      skip
      refine WS.iconst (v := 1) hx dX10_feed_40 (by decide) ?_
      refine WS.iadd hx dX10_feed_41 ?_
      refine WS.as rfl rfl (congrArg (fun z => Value.int z :: _) (show (nI tl) + 1 = nI (tl + 1) from nI_1 _)) ?_
      skip
      refine WS.putI hx okX10 lf10_132 rfl rfl rfl rfl dX10_feed_42 ?_
      refine WS.aload_n hx dX10_feed_45 rfl 0 rfl ?_
      refine WS.getI hx okX10 lf10_132 rfl rfl dX10_feed_46 ?_
      refine WS.as rfl rfl (congrArg (fun z => Value.int z :: _) (show (stI (stI σ 3 (nn (nI tl)) x) 0 3 (nI (tl + 1))).1 0 3 = nI (tl + 1) from rfl)) ?_
      skip
      exact WS.iret hx he dX10_feed_49 ⟨_, rfl, by (try simp only [i_le, i_lt, i_eq, tI_m3, tI_m1, tI_0, tI_1, tI_120, tI_255] at hb5); (try simp only [i_le, i_lt, i_eq, tI_m3, tI_m1, tI_0, tI_1, tI_120, tI_255] at c19); (repeat' split) <;> first | (exfalso; omega) | exact ⟨rfl, rfl⟩ | (refine ⟨rfl, ?_⟩; rw [nI_clamp (show tl < 2 ^ 31 by omega)])⟩
    · skip
      show WS layC V 2 X σ 22 [(0, rf V 0), (1, .int x)] []
      refine WS.bipush (v := (-3)) hx dX10_feed_22 (by decide) ?_
      exact WS.iret hx he dX10_feed_24 ⟨_, rfl, by (try simp only [i_le, i_lt, i_eq, tI_m3, tI_m1, tI_0, tI_1, tI_120, tI_255] at hb5); (try simp only [i_le, i_lt, i_eq, tI_m3, tI_m1, tI_0, tI_1, tI_120, tI_255] at c19); (repeat' split) <;> first | (exfalso; omega) | exact ⟨rfl, rfl⟩ | (refine ⟨rfl, ?_⟩; rw [nI_clamp (show tl < 2 ^ 31 by omega)])⟩
  · skip
    show WS layC V 2 X σ 8 [(0, rf V 0), (1, .int x)] [.int 0]
    refine WS.if_ne (tgt := 13) hx dX10_feed_8 (by decide) (fun h => absurd (by decide) h) (fun _ => ?_)
    refine WS.iconst (v := (-1)) hx dX10_feed_11 (by decide) ?_
    exact WS.iret hx he dX10_feed_12 ⟨_, rfl, by (try simp only [i_le, i_lt, i_eq, tI_m3, tI_m1, tI_0, tI_1, tI_120, tI_255] at hb5); (repeat' split) <;> first | (exfalso; omega) | exact ⟨rfl, rfl⟩ | (refine ⟨rfl, ?_⟩; rw [nI_clamp (show tl < 2 ^ 31 by omega)])⟩
set_option maxHeartbeats 1000000 in
theorem c_X10_goes (V : Vt) (d : Nat) (σ : Sg) (n : Nat) (hQ : QI σ n) (m c : Nat) (hL : LI V σ m c) (b : Int32) : CT layC V mX10_goes (d + 5) [rf V 0, .int b] σ (Ri fun v σ' => (if ¬ (0 ≤ b.toInt ∧ b.toInt < n) then v = -1 ∧ σ' = σ else (v = (wdS σ n m c).1 (nI ((wdS σ n m c).2.2.2.1 (nn b))) (nI ((wdS σ n m c).s0 (nn b)).1) (σ.1 17 ((wdS σ n m c).s0 (nn b)).1) (nI (nn b)) (nI (wdS σ n m c).2.2.2.2.2.1) (nI ((wdS σ n m c).s0 (nn b)).2) ∧ SE σ σ' ∧ LI V σ' m c))) := by
  refine CT.of (own := RX10) rfl (by decide) (Nat.le_of_ble_eq_true rfl) (fun X (hx : Ok V RX10 cX10_goes 2 (d + 5) X) (he : En layC V (some .int) (Ri fun v σ' => (if ¬ (0 ≤ b.toInt ∧ b.toInt < n) then v = -1 ∧ σ' = σ else (v = (wdS σ n m c).1 (nI ((wdS σ n m c).2.2.2.1 (nn b))) (nI ((wdS σ n m c).s0 (nn b)).1) (σ.1 17 ((wdS σ n m c).s0 (nn b)).1) (nI (nn b)) (nI (wdS σ n m c).2.2.2.2.2.1) (nI ((wdS σ n m c).s0 (nn b)).2) ∧ SE σ σ' ∧ LI V σ' m c))) X) => ?_)
  change WS layC V 2 X σ 0 [(0, rf V 0), (1, .int b)] []
  refine WS.aload_n hx dX10_goes_0 rfl 0 rfl ?_
  refine WS.getR hx okX10 lf10_12 rfl rfl dX10_goes_1 ?_
  refine WS.iload_n hx dX10_goes_4 rfl 1 rfl ?_
  refine WS.callVi (st := []) [.int b] hx (c_X7_hasBlock V (d + 3) σ n hQ b) okX7_hasBlock lm10_140 rfl rfl rfl rfl (Nat.le_of_ble_eq_true rfl) dX10_goes_5 (fun v1 σ2 h3 => ?_)
  rcases h3 with ⟨rfl, rfl, hb5⟩ | ⟨rfl, rfl, hb5⟩
  · skip
    show WS layC V 2 X σ 8 [(0, rf V 0), (1, .int b)] [.int 1]
    have hkn : nn b < n := by have := nn_int hb5.1; omega
    refine WS.if_eq (tgt := 22) hx dX10_goes_8 (by decide) (fun h => absurd h (by decide)) (fun _ => ?_)
    refine WS.aload_n hx dX10_goes_11 rfl 0 rfl ?_
    refine WS.getR hx okX10 lf10_32 rfl rfl dX10_goes_12 ?_
    refine WS.iload_n hx dX10_goes_15 rfl 1 rfl ?_
    refine WS.as rfl rfl (congrArg (fun z => Value.int z :: _) (show b = nI (nn b) from (nI_nn hb5.1).symm)) ?_
    skip
    refine WS.callVi (st := []) [.int (nI (nn b))] hx (c_X4_thoughtsNow V d σ n hQ m c hL (nn b) hkn) okX4_thoughtsNow lm10_143 rfl rfl rfl rfl (Nat.le_of_ble_eq_true rfl) dX10_goes_16 (fun v4 σ5 h6 => ?_)
    obtain ⟨rfl, se16, li16⟩ := h6
    show WS layC V 2 X σ5 19 [(0, rf V 0), (1, .int b)] [.int ((wdS σ n m c).1 (nI ((wdS σ n m c).2.2.2.1 (nn b))) (nI ((wdS σ n m c).s0 (nn b)).1) (σ.1 17 ((wdS σ n m c).s0 (nn b)).1) (nI (nn b)) (nI (wdS σ n m c).2.2.2.2.2.1) (nI ((wdS σ n m c).s0 (nn b)).2))]
    refine WS.goto (tgt := 23) hx dX10_goes_19 (by decide) ?_
    exact WS.iret hx he dX10_goes_23 ⟨_, rfl, by (try simp only [i_le, i_lt, i_eq, tI_m1, tI_0, tI_1] at hb5); (repeat' split) <;> first | (exfalso; omega) | exact ⟨rfl, rfl⟩ | exact ⟨rfl, se16, li16⟩⟩
  · skip
    show WS layC V 2 X σ 8 [(0, rf V 0), (1, .int b)] [.int 0]
    refine WS.if_eq (tgt := 22) hx dX10_goes_8 (by decide) (fun _ => ?_) (fun h => absurd (by decide) h)
    refine WS.iconst (v := (-1)) hx dX10_goes_22 (by decide) ?_
    exact WS.iret hx he dX10_goes_23 ⟨_, rfl, by (try simp only [i_le, i_lt, i_eq, tI_m1, tI_0, tI_1] at hb5); (repeat' split) <;> first | (exfalso; omega) | exact ⟨rfl, rfl⟩ | exact ⟨rfl, se16, li16⟩⟩
set_option maxHeartbeats 1000000 in
theorem c_X10_later (V : Vt) (d : Nat) (σ : Sg) (n : Nat) (hQ : QI σ n) (m c : Nat) (hL : LI V σ m c) (u b q : Int32) : CT layC V mX10_later (d + 6) [rf V 0, .int u, .int b, .int q] σ (Ri fun v σ' => (if ¬ (0 ≤ u.toInt ∧ u.toInt ≤ 60 ∧ 0 ≤ b.toInt ∧ b.toInt < n ∧ 0 ≤ q.toInt ∧ q.toInt ≤ 1) then v = -1 ∧ σ' = σ else (if q.toInt = 0 then v = nI (rep ((wdS σ n m c).cn (nn b) ((wdS σ n m c).bd (nn b))) (nn u) ((wdS σ n m c).s0 (nn b))).1 ∧ SE σ σ' ∧ LI V σ' m c else (v = σ.1 17 (rep ((wdS σ n m c).cn (nn b) ((wdS σ n m c).bd (nn b))) (nn u) ((wdS σ n m c).s0 (nn b))).1 ∧ SE σ σ' ∧ LI V σ' m c)))) := by
  refine CT.of (own := RX10) rfl (by decide) (Nat.le_of_ble_eq_true rfl) (fun X (hx : Ok V RX10 cX10_later 5 (d + 6) X) (he : En layC V (some .int) (Ri fun v σ' => (if ¬ (0 ≤ u.toInt ∧ u.toInt ≤ 60 ∧ 0 ≤ b.toInt ∧ b.toInt < n ∧ 0 ≤ q.toInt ∧ q.toInt ≤ 1) then v = -1 ∧ σ' = σ else (if q.toInt = 0 then v = nI (rep ((wdS σ n m c).cn (nn b) ((wdS σ n m c).bd (nn b))) (nn u) ((wdS σ n m c).s0 (nn b))).1 ∧ SE σ σ' ∧ LI V σ' m c else (v = σ.1 17 (rep ((wdS σ n m c).cn (nn b) ((wdS σ n m c).bd (nn b))) (nn u) ((wdS σ n m c).s0 (nn b))).1 ∧ SE σ σ' ∧ LI V σ' m c)))) X) => ?_)
  change WS layC V 5 X σ 0 [(0, rf V 0), (1, .int u), (2, .int b), (3, .int q)] []
  refine WS.iload_n hx dX10_later_0 rfl 1 rfl ?_
  refine WS.iconst (v := 0) hx dX10_later_1 (by decide) ?_
  refine WS.bipush (v := 60) hx dX10_later_2 (by decide) ?_
  refine WS.callSi (st := []) [.int u, .int 0, .int 60] hx (c_X10_within V (d + 5) σ u 0 60) okX10_within lm10_80 rfl rfl (Nat.le_of_ble_eq_true rfl) dX10_later_4 (fun v1 σ2 h3 => ?_)
  rcases h3 with ⟨rfl, rfl, hb4⟩ | ⟨rfl, rfl, hb4⟩
  · skip
    show WS layC V 5 X σ 7 [(0, rf V 0), (1, .int u), (2, .int b), (3, .int q)] [.int 1]
    refine WS.if_eq (tgt := 30) hx dX10_later_7 (by decide) (fun h => absurd h (by decide)) (fun _ => ?_)
    refine WS.aload_n hx dX10_later_10 rfl 0 rfl ?_
    refine WS.getR hx okX10 lf10_12 rfl rfl dX10_later_11 ?_
    refine WS.iload_n hx dX10_later_14 rfl 2 rfl ?_
    refine WS.callVi (st := []) [.int b] hx (c_X7_hasBlock V (d + 4) σ n hQ b) okX7_hasBlock lm10_140 rfl rfl rfl rfl (Nat.le_of_ble_eq_true rfl) dX10_later_15 (fun v4 σ5 h6 => ?_)
    rcases h6 with ⟨rfl, rfl, hb15⟩ | ⟨rfl, rfl, hb15⟩
    · skip
      show WS layC V 5 X σ 18 [(0, rf V 0), (1, .int u), (2, .int b), (3, .int q)] [.int 1]
      refine WS.if_eq (tgt := 30) hx dX10_later_18 (by decide) (fun h => absurd h (by decide)) (fun _ => ?_)
      refine WS.iload_n hx dX10_later_21 rfl 3 rfl ?_
      refine WS.iconst (v := 0) hx dX10_later_22 (by decide) ?_
      refine WS.iconst (v := 1) hx dX10_later_23 (by decide) ?_
      refine WS.callSi (st := []) [.int q, .int 0, .int 1] hx (c_X10_within V (d + 5) σ q 0 1) okX10_within lm10_80 rfl rfl (Nat.le_of_ble_eq_true rfl) dX10_later_24 (fun v7 σ8 h9 => ?_)
      rcases h9 with ⟨rfl, rfl, hb24⟩ | ⟨rfl, rfl, hb24⟩
      · skip
        show WS layC V 5 X σ 27 [(0, rf V 0), (1, .int u), (2, .int b), (3, .int q)] [.int 1]
        have hu0 : 0 ≤ u.toInt := by simp only [i_le, tI_0] at hb4; exact hb4.1
        have hkn : nn b < n := by have := nn_int hb15.1; omega
        have hs0 := s0_r (m := m) (c := c) hQ hkn
        have hr16 := (rep_r (m := m) (c := c) (k := nn b) (b := (wdS σ n m c).bd (nn b)) hQ (nn u) hs0.1 hs0.2).1
        refine WS.if_ne (tgt := 32) hx dX10_later_27 (by decide) (fun _ => ?_) (fun h => absurd h (by decide))
        refine WS.aload_n hx dX10_later_32 rfl 0 rfl ?_
        refine WS.getR hx okX10 lf10_32 rfl rfl dX10_later_33 ?_
        refine WS.iload_n hx dX10_later_36 rfl 1 rfl ?_
        refine WS.as rfl rfl (congrArg (fun z => Value.int z :: _) (show u = nI (nn u) from (nI_nn hu0).symm)) ?_
        skip
        refine WS.iload_n hx dX10_later_37 rfl 2 rfl ?_
        refine WS.as rfl rfl (congrArg (fun z => Value.int z :: _) (show b = nI (nn b) from (nI_nn hb15.1).symm)) ?_
        skip
        refine WS.callVi (st := []) [.int (nI (nn u)), .int (nI (nn b))] hx (c_X4_atBehind V d σ n hQ m c hL (nn u) (by have := nn_int hu0; (try simp only [i_le, i_lt, i_eq, tI_m1, tI_0, tI_1, tI_60] at hb4); (try simp only [i_le, i_lt, i_eq, tI_m1, tI_0, tI_1, tI_60] at hb15); (try simp only [i_le, i_lt, i_eq, tI_m1, tI_0, tI_1, tI_60] at hb24); omega) (nn b) hkn) okX4_atBehind lm10_147 rfl rfl rfl rfl (Nat.le_of_ble_eq_true rfl) dX10_later_38 (fun v10 σ11 h12 => ?_)
        obtain ⟨rfl, se38, li38⟩ := h12
        show WS layC V 5 X σ11 41 [(0, rf V 0), (1, .int u), (2, .int b), (3, .int q)] [.int (nI (rep ((wdS σ n m c).cn (nn b) ((wdS σ n m c).bd (nn b))) (nn u) ((wdS σ n m c).s0 (nn b))).1)]
        refine WS.istore (lo' := [(4, .int (nI (rep ((wdS σ n m c).cn (nn b) ((wdS σ n m c).bd (nn b))) (nn u) ((wdS σ n m c).s0 (nn b))).1)), (0, rf V 0), (1, .int u), (2, .int b), (3, .int q)]) hx dX10_later_41 (by decide) rfl ?_
        refine WS.iload_n hx dX10_later_43 rfl 4 rfl ?_
        refine WS.if_ne (tgt := 52) hx dX10_later_44 (by decide) (fun c44 => ?_) (fun c44 => ?_)
        · skip
          show WS layC V 5 X σ11 52 [(4, .int (nI (rep ((wdS σ n m c).cn (nn b) ((wdS σ n m c).bd (nn b))) (nn u) ((wdS σ n m c).s0 (nn b))).1)), (0, rf V 0), (1, .int u), (2, .int b), (3, .int q)] []
          refine WS.aload_n hx dX10_later_52 rfl 1 rfl ?_
          refine WS.getR hx okX10 lf10_12 rfl rfl dX10_later_53 ?_
          refine WS.iload hx dX10_later_56 0 rfl ?_
          refine WS.callVi (st := []) [.int (nI (rep ((wdS σ n m c).cn (nn b) ((wdS σ n m c).bd (nn b))) (nn u) ((wdS σ n m c).s0 (nn b))).1)] hx (c_X7_wordAt V (d + 5) σ11 (rep ((wdS σ n m c).cn (nn b) ((wdS σ n m c).bd (nn b))) (nn u) ((wdS σ n m c).s0 (nn b))).1 hr16) okX7_wordAt lm10_150 rfl rfl rfl rfl (Nat.le_of_ble_eq_true rfl) dX10_later_58 (fun v13 σ14 h15 => ?_)
          obtain ⟨rfl, rfl⟩ := h15
          show WS layC V 5 X σ11 61 [(4, .int (nI (rep ((wdS σ n m c).cn (nn b) ((wdS σ n m c).bd (nn b))) (nn u) ((wdS σ n m c).s0 (nn b))).1)), (0, rf V 0), (1, .int u), (2, .int b), (3, .int q)] [.int (σ11.1 17 (rep ((wdS σ n m c).cn (nn b) ((wdS σ n m c).bd (nn b))) (nn u) ((wdS σ n m c).s0 (nn b))).1)]
          exact WS.iret hx he dX10_later_61 ⟨_, rfl, by (try simp only [i_le, i_lt, i_eq, tI_m1, tI_0, tI_1, tI_60] at hb4); (try simp only [i_le, i_lt, i_eq, tI_m1, tI_0, tI_1, tI_60] at hb15); (try simp only [i_le, i_lt, i_eq, tI_m1, tI_0, tI_1, tI_60] at hb24); (try simp only [i_le, i_lt, i_eq, tI_m1, tI_0, tI_1, tI_60] at c44); (repeat' split) <;> first | (exfalso; omega) | exact ⟨rfl, rfl⟩ | exact ⟨rfl, se38, li38⟩ | exact ⟨by rw [se38.1 17 (ns (by decide))], se38, li38⟩⟩
        · skip
          show WS layC V 5 X σ11 47 [(4, .int (nI (rep ((wdS σ n m c).cn (nn b) ((wdS σ n m c).bd (nn b))) (nn u) ((wdS σ n m c).s0 (nn b))).1)), (0, rf V 0), (1, .int u), (2, .int b), (3, .int q)] []
          refine WS.iload hx dX10_later_47 0 rfl ?_
          refine WS.goto (tgt := 61) hx dX10_later_49 (by decide) ?_
          exact WS.iret hx he dX10_later_61 ⟨_, rfl, by (try simp only [i_le, i_lt, i_eq, tI_m1, tI_0, tI_1, tI_60] at hb4); (try simp only [i_le, i_lt, i_eq, tI_m1, tI_0, tI_1, tI_60] at hb15); (try simp only [i_le, i_lt, i_eq, tI_m1, tI_0, tI_1, tI_60] at hb24); (try simp only [i_le, i_lt, i_eq, tI_m1, tI_0, tI_1, tI_60] at c44); (repeat' split) <;> first | (exfalso; omega) | exact ⟨rfl, rfl⟩ | exact ⟨rfl, se38, li38⟩ | exact ⟨by rw [se38.1 17 (ns (by decide))], se38, li38⟩⟩
      · skip
        show WS layC V 5 X σ 27 [(0, rf V 0), (1, .int u), (2, .int b), (3, .int q)] [.int 0]
        refine WS.if_ne (tgt := 32) hx dX10_later_27 (by decide) (fun h => absurd (by decide) h) (fun _ => ?_)
        refine WS.iconst (v := (-1)) hx dX10_later_30 (by decide) ?_
        exact WS.iret hx he dX10_later_31 ⟨_, rfl, by (try simp only [i_le, i_lt, i_eq, tI_m1, tI_0, tI_1, tI_60] at hb4); (try simp only [i_le, i_lt, i_eq, tI_m1, tI_0, tI_1, tI_60] at hb15); (try simp only [i_le, i_lt, i_eq, tI_m1, tI_0, tI_1, tI_60] at hb24); (repeat' split) <;> first | (exfalso; omega) | exact ⟨rfl, rfl⟩ | exact ⟨rfl, se38, li38⟩ | exact ⟨by rw [se38.1 17 (ns (by decide))], se38, li38⟩⟩
    · skip
      show WS layC V 5 X σ 18 [(0, rf V 0), (1, .int u), (2, .int b), (3, .int q)] [.int 0]
      refine WS.if_eq (tgt := 30) hx dX10_later_18 (by decide) (fun _ => ?_) (fun h => absurd (by decide) h)
      refine WS.iconst (v := (-1)) hx dX10_later_30 (by decide) ?_
      exact WS.iret hx he dX10_later_31 ⟨_, rfl, by (try simp only [i_le, i_lt, i_eq, tI_m1, tI_0, tI_1, tI_60] at hb4); (try simp only [i_le, i_lt, i_eq, tI_m1, tI_0, tI_1, tI_60] at hb15); (repeat' split) <;> first | (exfalso; omega) | exact ⟨rfl, rfl⟩ | exact ⟨rfl, se38, li38⟩ | exact ⟨by rw [se38.1 17 (ns (by decide))], se38, li38⟩⟩
  · skip
    show WS layC V 5 X σ 7 [(0, rf V 0), (1, .int u), (2, .int b), (3, .int q)] [.int 0]
    refine WS.if_eq (tgt := 30) hx dX10_later_7 (by decide) (fun _ => ?_) (fun h => absurd (by decide) h)
    refine WS.iconst (v := (-1)) hx dX10_later_30 (by decide) ?_
    exact WS.iret hx he dX10_later_31 ⟨_, rfl, by (try simp only [i_le, i_lt, i_eq, tI_m1, tI_0, tI_1, tI_60] at hb4); (repeat' split) <;> first | (exfalso; omega) | exact ⟨rfl, rfl⟩ | exact ⟨rfl, se38, li38⟩ | exact ⟨by rw [se38.1 17 (ns (by decide))], se38, li38⟩⟩

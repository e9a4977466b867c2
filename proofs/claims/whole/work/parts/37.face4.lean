set_option maxHeartbeats 1000000 in
theorem c_X10_changed (V : Vt) (d : Nat) (σ : Sg) (n : Nat) (hQ : QI σ n) (m c : Nat) (hL : LI V σ m c) (b x q : Int32) : CT layC V mX10_changed (d + 7) [rf V 0, .int b, .int x, .int q] σ (Ri fun v σ' => (if ¬ (0 ≤ b.toInt ∧ b.toInt < n ∧ 1 ≤ x.toInt / 16 ∧ x.toInt / 16 ≤ 40 ∧ 0 ≤ q.toInt ∧ q.toInt ≤ 1) then v = -1 ∧ σ' = σ else (if (lcF (wdS σ n m c) (nn b) (nn x / 16) (nn x % 16)).toInt < 0 then v = -2 ∧ SE σ σ' ∧ LI V σ' m c else (if q.toInt = 1 then v = lcF (wdS σ n m c) (nn b) (nn x / 16) (nn x % 16) ∧ SE σ σ' ∧ LI V σ' m c else (if lcF (wdS σ n m c) (nn b) (nn x / 16) (nn x % 16) = 256 then v = 0 ∧ SE σ σ' ∧ LI V σ' m c else (v = 1 ∧ SE σ σ' ∧ LI V σ' m c)))))) := by
  refine CT.of (own := RX10) rfl (by decide) (Nat.le_of_ble_eq_true rfl) (fun X (hx : Ok V RX10 cX10_changed 7 (d + 7) X) (he : En layC V (some .int) (Ri fun v σ' => (if ¬ (0 ≤ b.toInt ∧ b.toInt < n ∧ 1 ≤ x.toInt / 16 ∧ x.toInt / 16 ≤ 40 ∧ 0 ≤ q.toInt ∧ q.toInt ≤ 1) then v = -1 ∧ σ' = σ else (if (lcF (wdS σ n m c) (nn b) (nn x / 16) (nn x % 16)).toInt < 0 then v = -2 ∧ SE σ σ' ∧ LI V σ' m c else (if q.toInt = 1 then v = lcF (wdS σ n m c) (nn b) (nn x / 16) (nn x % 16) ∧ SE σ σ' ∧ LI V σ' m c else (if lcF (wdS σ n m c) (nn b) (nn x / 16) (nn x % 16) = 256 then v = 0 ∧ SE σ σ' ∧ LI V σ' m c else (v = 1 ∧ SE σ σ' ∧ LI V σ' m c)))))) X) => ?_)
  change WS layC V 7 X σ 0 [(0, rf V 0), (1, .int b), (2, .int x), (3, .int q)] []
  have s4 := sr4 x
  have a15 := an15 x
  refine WS.iload_n hx dX10_changed_0 rfl 2 rfl ?_
  refine WS.iconst (v := 4) hx dX10_changed_1 (by decide) ?_
  refine WS.ishr hx dX10_changed_2 ?_
  refine WS.istore (lo' := [(4, .int (x >>> (4 &&& 31))), (0, rf V 0), (1, .int b), (2, .int x), (3, .int q)]) hx dX10_changed_3 (by decide) rfl ?_
  refine WS.iload_n hx dX10_changed_5 rfl 3 rfl ?_
  refine WS.bipush (v := 15) hx dX10_changed_6 (by decide) ?_
  refine WS.iand hx dX10_changed_8 ?_
  refine WS.istore (lo' := [(5, .int (x &&& 15)), (4, .int (x >>> (4 &&& 31))), (0, rf V 0), (1, .int b), (2, .int x), (3, .int q)]) hx dX10_changed_9 (by decide) rfl ?_
  refine WS.aload_n hx dX10_changed_11 rfl 2 rfl ?_
  refine WS.getR hx okX10 lf10_12 rfl rfl dX10_changed_12 ?_
  refine WS.iload_n hx dX10_changed_15 rfl 3 rfl ?_
  refine WS.callVi (st := []) [.int b] hx (c_X7_hasBlock V (d + 5) σ n hQ b) okX7_hasBlock lm10_140 rfl rfl rfl rfl (Nat.le_of_ble_eq_true rfl) dX10_changed_16 (fun v1 σ2 h3 => ?_)
  rcases h3 with ⟨rfl, rfl, hb16⟩ | ⟨rfl, rfl, hb16⟩
  · skip
    show WS layC V 7 X σ 19 [(5, .int (x &&& 15)), (4, .int (x >>> (4 &&& 31))), (0, rf V 0), (1, .int b), (2, .int x), (3, .int q)] [.int 1]
    refine WS.if_eq (tgt := 42) hx dX10_changed_19 (by decide) (fun h => absurd h (by decide)) (fun _ => ?_)
    refine WS.iload hx dX10_changed_22 1 rfl ?_
    refine WS.iconst (v := 1) hx dX10_changed_24 (by decide) ?_
    refine WS.bipush (v := 40) hx dX10_changed_25 (by decide) ?_
    refine WS.callSi (st := []) [.int (x >>> (4 &&& 31)), .int 1, .int 40] hx (c_X10_within V (d + 6) σ (x >>> (4 &&& 31)) 1 40) okX10_within lm10_80 rfl rfl (Nat.le_of_ble_eq_true rfl) dX10_changed_27 (fun v4 σ5 h6 => ?_)
    rcases h6 with ⟨rfl, rfl, hb27⟩ | ⟨rfl, rfl, hb27⟩
    · skip
      show WS layC V 7 X σ 30 [(5, .int (x &&& 15)), (4, .int (x >>> (4 &&& 31))), (0, rf V 0), (1, .int b), (2, .int x), (3, .int q)] [.int 1]
      refine WS.if_eq (tgt := 42) hx dX10_changed_30 (by decide) (fun h => absurd h (by decide)) (fun _ => ?_)
      refine WS.iload_n hx dX10_changed_33 rfl 5 rfl ?_
      refine WS.iconst (v := 0) hx dX10_changed_34 (by decide) ?_
      refine WS.iconst (v := 1) hx dX10_changed_35 (by decide) ?_
      refine WS.callSi (st := []) [.int q, .int 0, .int 1] hx (c_X10_within V (d + 6) σ q 0 1) okX10_within lm10_80 rfl rfl (Nat.le_of_ble_eq_true rfl) dX10_changed_36 (fun v7 σ8 h9 => ?_)
      rcases h9 with ⟨rfl, rfl, hb36⟩ | ⟨rfl, rfl, hb36⟩
      · skip
        show WS layC V 7 X σ 39 [(5, .int (x &&& 15)), (4, .int (x >>> (4 &&& 31))), (0, rf V 0), (1, .int b), (2, .int x), (3, .int q)] [.int 1]
        have hbb : 1 ≤ x.toInt / 16 ∧ x.toInt / 16 ≤ 40 := by simp only [i_le, tI_1, tI_40, s4] at hb27; exact hb27
        have hx0 : 0 ≤ x.toInt := by omega
        have hxn := nn_int hx0
        have hkn : nn b < n := by have := nn_int hb16.1; omega
        have hu9 : x >>> ((4 : Int32) &&& 31) = nI (nn x / 16) := by rw [i_eq, s4, nI_c (by omega)]; omega
        have ht9 : x &&& 15 = nI (nn x % 16) := by rw [i_eq, a15, nI_c (by omega)]; omega
        refine WS.if_ne (tgt := 44) hx dX10_changed_39 (by decide) (fun _ => ?_) (fun h => absurd h (by decide))
        refine WS.aload_n hx dX10_changed_44 rfl 2 rfl ?_
        refine WS.getR hx okX10 lf10_32 rfl rfl dX10_changed_45 ?_
        refine WS.iload_n hx dX10_changed_48 rfl 3 rfl ?_
        refine WS.as rfl rfl (congrArg (fun z => Value.int z :: _) (show b = nI (nn b) from (nI_nn hb16.1).symm)) ?_
        skip
        refine WS.iload hx dX10_changed_49 1 rfl ?_
        refine WS.as rfl rfl (congrArg (fun z => Value.int z :: _) (show x >>> (4 &&& 31) = nI (nn x / 16) from hu9)) ?_
        skip
        refine WS.iload hx dX10_changed_51 0 rfl ?_
        refine WS.as rfl rfl (congrArg (fun z => Value.int z :: _) (show x &&& 15 = nI (nn x % 16) from ht9)) ?_
        skip
        refine WS.callVi (st := []) [.int (nI (nn b)), .int (nI (nn x / 16)), .int (nI (nn x % 16))] hx (c_X4_leastChange V d σ n hQ m c hL (nn b) hkn (nn x / 16) (by omega) (nn x % 16) (by omega)) okX4_leastChange lm10_227 rfl rfl rfl rfl (Nat.le_of_ble_eq_true rfl) dX10_changed_53 (fun v10 σ11 h12 => ?_)
        obtain ⟨rfl, se53, li53⟩ := h12
        show WS layC V 7 X σ11 56 [(5, .int (x &&& 15)), (4, .int (x >>> (4 &&& 31))), (0, rf V 0), (1, .int b), (2, .int x), (3, .int q)] [.int (lcF (wdS σ n m c) (nn b) (nn x / 16) (nn x % 16))]
        refine WS.istore (lo' := [(6, .int (lcF (wdS σ n m c) (nn b) (nn x / 16) (nn x % 16))), (5, .int (x &&& 15)), (4, .int (x >>> (4 &&& 31))), (0, rf V 0), (1, .int b), (2, .int x), (3, .int q)]) hx dX10_changed_56 (by decide) rfl ?_
        refine WS.iload hx dX10_changed_58 0 rfl ?_
        refine WS.if_ge (tgt := 66) hx dX10_changed_60 (by decide) (fun c60 => ?_) (fun c60 => ?_)
        · skip
          show WS layC V 7 X σ11 66 [(6, .int (lcF (wdS σ n m c) (nn b) (nn x / 16) (nn x % 16))), (5, .int (x &&& 15)), (4, .int (x >>> (4 &&& 31))), (0, rf V 0), (1, .int b), (2, .int x), (3, .int q)] []
          refine WS.iload_n hx dX10_changed_66 rfl 6 rfl ?_
          refine WS.iconst (v := 1) hx dX10_changed_67 (by decide) ?_
          refine WS.icmp_ne (tgt := 74) hx dX10_changed_68 (by decide) (fun c68 => ?_) (fun c68 => ?_)
          · skip
            show WS layC V 7 X σ11 74 [(6, .int (lcF (wdS σ n m c) (nn b) (nn x / 16) (nn x % 16))), (5, .int (x &&& 15)), (4, .int (x >>> (4 &&& 31))), (0, rf V 0), (1, .int b), (2, .int x), (3, .int q)] []
            refine WS.iload hx dX10_changed_74 0 rfl ?_
            refine WS.sipush (v := 256) hx dX10_changed_76 (by decide) ?_
            refine WS.icmp_ne (tgt := 86) hx dX10_changed_79 (by decide) (fun c79 => ?_) (fun c79 => ?_)
            · skip
              show WS layC V 7 X σ11 86 [(6, .int (lcF (wdS σ n m c) (nn b) (nn x / 16) (nn x % 16))), (5, .int (x &&& 15)), (4, .int (x >>> (4 &&& 31))), (0, rf V 0), (1, .int b), (2, .int x), (3, .int q)] []
              have k79 := c79
              refine WS.iconst (v := 1) hx dX10_changed_86 (by decide) ?_
              exact WS.iret hx he dX10_changed_87 ⟨_, rfl, by (try simp only [i_le, i_lt, i_eq, tI_m2, tI_m1, tI_0, tI_1, tI_4, tI_15, tI_40, tI_256] at hb16); (try simp only [i_le, i_lt, i_eq, tI_m2, tI_m1, tI_0, tI_1, tI_4, tI_15, tI_40, tI_256] at hb27); (try simp only [i_le, i_lt, i_eq, tI_m2, tI_m1, tI_0, tI_1, tI_4, tI_15, tI_40, tI_256] at hb36); (try simp only [i_le, i_lt, i_eq, tI_m2, tI_m1, tI_0, tI_1, tI_4, tI_15, tI_40, tI_256] at c60); (try simp only [i_le, i_lt, i_eq, tI_m2, tI_m1, tI_0, tI_1, tI_4, tI_15, tI_40, tI_256] at c68); (try simp only [i_le, i_lt, i_eq, tI_m2, tI_m1, tI_0, tI_1, tI_4, tI_15, tI_40, tI_256] at c79); (repeat' split) <;> first | (exfalso; omega) | exact ⟨rfl, rfl⟩ | contradiction | exact ⟨rfl, se53, li53⟩⟩
            · skip
              show WS layC V 7 X σ11 82 [(6, .int (lcF (wdS σ n m c) (nn b) (nn x / 16) (nn x % 16))), (5, .int (x &&& 15)), (4, .int (x >>> (4 &&& 31))), (0, rf V 0), (1, .int b), (2, .int x), (3, .int q)] []
              have k79 := c79
              refine WS.iconst (v := 0) hx dX10_changed_82 (by decide) ?_
              refine WS.goto (tgt := 87) hx dX10_changed_83 (by decide) ?_
              exact WS.iret hx he dX10_changed_87 ⟨_, rfl, by (try simp only [i_le, i_lt, i_eq, tI_m2, tI_m1, tI_0, tI_1, tI_4, tI_15, tI_40, tI_256] at hb16); (try simp only [i_le, i_lt, i_eq, tI_m2, tI_m1, tI_0, tI_1, tI_4, tI_15, tI_40, tI_256] at hb27); (try simp only [i_le, i_lt, i_eq, tI_m2, tI_m1, tI_0, tI_1, tI_4, tI_15, tI_40, tI_256] at hb36); (try simp only [i_le, i_lt, i_eq, tI_m2, tI_m1, tI_0, tI_1, tI_4, tI_15, tI_40, tI_256] at c60); (try simp only [i_le, i_lt, i_eq, tI_m2, tI_m1, tI_0, tI_1, tI_4, tI_15, tI_40, tI_256] at c68); (try simp only [i_le, i_lt, i_eq, tI_m2, tI_m1, tI_0, tI_1, tI_4, tI_15, tI_40, tI_256] at c79); (repeat' split) <;> first | (exfalso; omega) | exact ⟨rfl, rfl⟩ | contradiction | exact ⟨rfl, se53, li53⟩⟩
          · skip
            show WS layC V 7 X σ11 71 [(6, .int (lcF (wdS σ n m c) (nn b) (nn x / 16) (nn x % 16))), (5, .int (x &&& 15)), (4, .int (x >>> (4 &&& 31))), (0, rf V 0), (1, .int b), (2, .int x), (3, .int q)] []
            refine WS.iload hx dX10_changed_71 0 rfl ?_
            exact WS.iret hx he dX10_changed_73 ⟨_, rfl, by (try simp only [i_le, i_lt, i_eq, tI_m2, tI_m1, tI_0, tI_1, tI_4, tI_15, tI_40, tI_256] at hb16); (try simp only [i_le, i_lt, i_eq, tI_m2, tI_m1, tI_0, tI_1, tI_4, tI_15, tI_40, tI_256] at hb27); (try simp only [i_le, i_lt, i_eq, tI_m2, tI_m1, tI_0, tI_1, tI_4, tI_15, tI_40, tI_256] at hb36); (try simp only [i_le, i_lt, i_eq, tI_m2, tI_m1, tI_0, tI_1, tI_4, tI_15, tI_40, tI_256] at c60); (try simp only [i_le, i_lt, i_eq, tI_m2, tI_m1, tI_0, tI_1, tI_4, tI_15, tI_40, tI_256] at c68); (repeat' split) <;> first | (exfalso; omega) | exact ⟨rfl, rfl⟩ | contradiction | exact ⟨rfl, se53, li53⟩⟩
        · skip
          show WS layC V 7 X σ11 63 [(6, .int (lcF (wdS σ n m c) (nn b) (nn x / 16) (nn x % 16))), (5, .int (x &&& 15)), (4, .int (x >>> (4 &&& 31))), (0, rf V 0), (1, .int b), (2, .int x), (3, .int q)] []
          refine WS.bipush (v := (-2)) hx dX10_changed_63 (by decide) ?_
          exact WS.iret hx he dX10_changed_65 ⟨_, rfl, by (try simp only [i_le, i_lt, i_eq, tI_m2, tI_m1, tI_0, tI_1, tI_4, tI_15, tI_40, tI_256] at hb16); (try simp only [i_le, i_lt, i_eq, tI_m2, tI_m1, tI_0, tI_1, tI_4, tI_15, tI_40, tI_256] at hb27); (try simp only [i_le, i_lt, i_eq, tI_m2, tI_m1, tI_0, tI_1, tI_4, tI_15, tI_40, tI_256] at hb36); (try simp only [i_le, i_lt, i_eq, tI_m2, tI_m1, tI_0, tI_1, tI_4, tI_15, tI_40, tI_256] at c60); (repeat' split) <;> first | (exfalso; omega) | exact ⟨rfl, rfl⟩ | contradiction | exact ⟨rfl, se53, li53⟩⟩
      · skip
        show WS layC V 7 X σ 39 [(5, .int (x &&& 15)), (4, .int (x >>> (4 &&& 31))), (0, rf V 0), (1, .int b), (2, .int x), (3, .int q)] [.int 0]
        refine WS.if_ne (tgt := 44) hx dX10_changed_39 (by decide) (fun h => absurd (by decide) h) (fun _ => ?_)
        refine WS.iconst (v := (-1)) hx dX10_changed_42 (by decide) ?_
        exact WS.iret hx he dX10_changed_43 ⟨_, rfl, by (try simp only [i_le, i_lt, i_eq, tI_m2, tI_m1, tI_0, tI_1, tI_4, tI_15, tI_40, tI_256] at hb16); (try simp only [i_le, i_lt, i_eq, tI_m2, tI_m1, tI_0, tI_1, tI_4, tI_15, tI_40, tI_256] at hb27); (try simp only [i_le, i_lt, i_eq, tI_m2, tI_m1, tI_0, tI_1, tI_4, tI_15, tI_40, tI_256] at hb36); (repeat' split) <;> first | (exfalso; omega) | exact ⟨rfl, rfl⟩ | contradiction | exact ⟨rfl, se53, li53⟩⟩
    · skip
      show WS layC V 7 X σ 30 [(5, .int (x &&& 15)), (4, .int (x >>> (4 &&& 31))), (0, rf V 0), (1, .int b), (2, .int x), (3, .int q)] [.int 0]
      refine WS.if_eq (tgt := 42) hx dX10_changed_30 (by decide) (fun _ => ?_) (fun h => absurd (by decide) h)
      refine WS.iconst (v := (-1)) hx dX10_changed_42 (by decide) ?_
      exact WS.iret hx he dX10_changed_43 ⟨_, rfl, by (try simp only [i_le, i_lt, i_eq, tI_m2, tI_m1, tI_0, tI_1, tI_4, tI_15, tI_40, tI_256] at hb16); (try simp only [i_le, i_lt, i_eq, tI_m2, tI_m1, tI_0, tI_1, tI_4, tI_15, tI_40, tI_256] at hb27); (repeat' split) <;> first | (exfalso; omega) | exact ⟨rfl, rfl⟩ | contradiction | exact ⟨rfl, se53, li53⟩⟩
  · skip
    show WS layC V 7 X σ 19 [(5, .int (x &&& 15)), (4, .int (x >>> (4 &&& 31))), (0, rf V 0), (1, .int b), (2, .int x), (3, .int q)] [.int 0]
    refine WS.if_eq (tgt := 42) hx dX10_changed_19 (by decide) (fun _ => ?_) (fun h => absurd (by decide) h)
    refine WS.iconst (v := (-1)) hx dX10_changed_42 (by decide) ?_
    exact WS.iret hx he dX10_changed_43 ⟨_, rfl, by (try simp only [i_le, i_lt, i_eq, tI_m2, tI_m1, tI_0, tI_1, tI_4, tI_15, tI_40, tI_256] at hb16); (repeat' split) <;> first | (exfalso; omega) | exact ⟨rfl, rfl⟩ | contradiction | exact ⟨rfl, se53, li53⟩⟩
set_option maxHeartbeats 1000000 in
theorem c_X10_byTurns (V : Vt) (d : Nat) (σ : Sg) (n : Nat) (hQ : QI σ n) (x q : Int32) : CT layC V mX10_byTurns (d + 14) [rf V 0, .int x, .int q] σ (Ri fun v σ' => (if ¬ (1 ≤ x.toInt ∧ x.toInt ≤ 4 ∧ 0 ≤ q.toInt ∧ q.toInt ≤ 1) then v = -2000000000 ∧ σ' = σ else (if q.toInt = 0 then v = bgF σ n (nn x) (orW (fun b => decide (¬ σ.1 14 b = 1)) nI n) ∧ σ' = σ else (v = fch σ n (nn x - 1) (orW (fun b => decide (¬ σ.1 14 b = 1)) nI n) (bgF σ n (nn x - 1 + 1) (orW (fun b => decide (¬ σ.1 14 b = 1)) nI n)) n 0 ∧ σ' = σ)))) := by
  refine CT.of (own := RX10) rfl (by decide) (Nat.le_of_ble_eq_true rfl) (fun X (hx : Ok V RX10 cX10_byTurns 3 (d + 14) X) (he : En layC V (some .int) (Ri fun v σ' => (if ¬ (1 ≤ x.toInt ∧ x.toInt ≤ 4 ∧ 0 ≤ q.toInt ∧ q.toInt ≤ 1) then v = -2000000000 ∧ σ' = σ else (if q.toInt = 0 then v = bgF σ n (nn x) (orW (fun b => decide (¬ σ.1 14 b = 1)) nI n) ∧ σ' = σ else (v = fch σ n (nn x - 1) (orW (fun b => decide (¬ σ.1 14 b = 1)) nI n) (bgF σ n (nn x - 1 + 1) (orW (fun b => decide (¬ σ.1 14 b = 1)) nI n)) n 0 ∧ σ' = σ)))) X) => ?_)
  change WS layC V 3 X σ 0 [(0, rf V 0), (1, .int x), (2, .int q)] []
  refine WS.iload_n hx dX10_byTurns_0 rfl 1 rfl ?_
  refine WS.iconst (v := 1) hx dX10_byTurns_1 (by decide) ?_
  refine WS.iconst (v := 4) hx dX10_byTurns_2 (by decide) ?_
  refine WS.callSi (st := []) [.int x, .int 1, .int 4] hx (c_X10_within V (d + 13) σ x 1 4) okX10_within lm10_80 rfl rfl (Nat.le_of_ble_eq_true rfl) dX10_byTurns_3 (fun v1 σ2 h3 => ?_)
  rcases h3 with ⟨rfl, rfl, hb3⟩ | ⟨rfl, rfl, hb3⟩
  · skip
    show WS layC V 3 X σ 6 [(0, rf V 0), (1, .int x), (2, .int q)] [.int 1]
    refine WS.if_eq (tgt := 18) hx dX10_byTurns_6 (by decide) (fun h => absurd h (by decide)) (fun _ => ?_)
    refine WS.iload_n hx dX10_byTurns_9 rfl 2 rfl ?_
    refine WS.iconst (v := 0) hx dX10_byTurns_10 (by decide) ?_
    refine WS.iconst (v := 1) hx dX10_byTurns_11 (by decide) ?_
    refine WS.callSi (st := []) [.int q, .int 0, .int 1] hx (c_X10_within V (d + 13) σ q 0 1) okX10_within lm10_80 rfl rfl (Nat.le_of_ble_eq_true rfl) dX10_byTurns_12 (fun v4 σ5 h6 => ?_)
    rcases h6 with ⟨rfl, rfl, hb12⟩ | ⟨rfl, rfl, hb12⟩
    · skip
      show WS layC V 3 X σ 15 [(0, rf V 0), (1, .int x), (2, .int q)] [.int 1]
      have hxi : 1 ≤ x.toInt ∧ x.toInt ≤ 4 := by simp only [i_le, tI_1, tI_4] at hb3; exact hb3
      have hxn := nn_int (show 0 ≤ x.toInt by omega)
      have hx1 : x = nI (nn x - 1 + 1) := by rw [i_eq, nI_c (by omega)]; omega
      refine WS.if_ne (tgt := 21) hx dX10_byTurns_15 (by decide) (fun _ => ?_) (fun h => absurd h (by decide))
      refine WS.iload_n hx dX10_byTurns_21 rfl 2 rfl ?_
      refine WS.if_ne (tgt := 36) hx dX10_byTurns_22 (by decide) (fun c22 => ?_) (fun c22 => ?_)
      · skip
        show WS layC V 3 X σ 36 [(0, rf V 0), (1, .int x), (2, .int q)] []
        refine WS.aload_n hx dX10_byTurns_36 rfl 0 rfl ?_
        refine WS.getR hx okX10 lf10_39 rfl rfl dX10_byTurns_37 ?_
        refine WS.iload_n hx dX10_byTurns_40 rfl 1 rfl ?_
        refine WS.as rfl rfl (congrArg (fun z => Value.int z :: _) (show x = nI (nn x - 1 + 1) from hx1)) ?_
        skip
        refine WS.callVi (st := []) [.int (nI (nn x - 1 + 1))] hx (c_X6_firstChoice V d σ n hQ (nn x - 1) (by omega)) okX6_firstChoice lm10_234 rfl rfl rfl rfl (Nat.le_of_ble_eq_true rfl) dX10_byTurns_41 (fun v7 σ8 h9 => ?_)
        obtain ⟨rfl, rfl⟩ := h9
        show WS layC V 3 X σ 44 [(0, rf V 0), (1, .int x), (2, .int q)] [.int (fch σ n (nn x - 1) (orW (fun b => decide (¬ σ.1 14 b = 1)) nI n) (bgF σ n (nn x - 1 + 1) (orW (fun b => decide (¬ σ.1 14 b = 1)) nI n)) n 0)]
        exact WS.iret hx he dX10_byTurns_44 ⟨_, rfl, by (try simp only [i_le, i_lt, i_eq, tI_0, tI_1, tI_4] at hb3); (try simp only [i_le, i_lt, i_eq, tI_0, tI_1, tI_4] at hb12); (try simp only [i_le, i_lt, i_eq, tI_0, tI_1, tI_4] at c22); (repeat' split) <;> first | (exfalso; omega) | exact ⟨rfl, rfl⟩⟩
      · skip
        show WS layC V 3 X σ 25 [(0, rf V 0), (1, .int x), (2, .int q)] []
        refine WS.aload_n hx dX10_byTurns_25 rfl 0 rfl ?_
        refine WS.getR hx okX10 lf10_39 rfl rfl dX10_byTurns_26 ?_
        refine WS.iload_n hx dX10_byTurns_29 rfl 1 rfl ?_
        refine WS.as rfl rfl (congrArg (fun z => Value.int z :: _) (show x = nI (nn x) from (nI_nn (by omega)).symm)) ?_
        skip
        refine WS.callVi (st := []) [.int (nI (nn x))] hx (c_X6_gainOf V (d + 1) σ n hQ (nn x) (by omega)) okX6_gainOf lm10_231 rfl rfl rfl rfl (Nat.le_of_ble_eq_true rfl) dX10_byTurns_30 (fun v10 σ11 h12 => ?_)
        obtain ⟨rfl, rfl⟩ := h12
        show WS layC V 3 X σ 33 [(0, rf V 0), (1, .int x), (2, .int q)] [.int (bgF σ n (nn x) (orW (fun b => decide (¬ σ.1 14 b = 1)) nI n))]
        refine WS.goto (tgt := 44) hx dX10_byTurns_33 (by decide) ?_
        exact WS.iret hx he dX10_byTurns_44 ⟨_, rfl, by (try simp only [i_le, i_lt, i_eq, tI_0, tI_1, tI_4] at hb3); (try simp only [i_le, i_lt, i_eq, tI_0, tI_1, tI_4] at hb12); (try simp only [i_le, i_lt, i_eq, tI_0, tI_1, tI_4] at c22); (repeat' split) <;> first | (exfalso; omega) | exact ⟨rfl, rfl⟩⟩
    · skip
      show WS layC V 3 X σ 15 [(0, rf V 0), (1, .int x), (2, .int q)] [.int 0]
      refine WS.if_ne (tgt := 21) hx dX10_byTurns_15 (by decide) (fun h => absurd (by decide) h) (fun _ => ?_)
      refine WS.ldc (v := (-2000000000)) hx lc10_230 dX10_byTurns_18 ?_
      exact WS.iret hx he dX10_byTurns_20 ⟨_, rfl, by (try simp only [i_le, i_lt, i_eq, tI_0, tI_1, tI_4] at hb3); (try simp only [i_le, i_lt, i_eq, tI_0, tI_1, tI_4] at hb12); (repeat' split) <;> first | (exfalso; omega) | exact ⟨rfl, rfl⟩⟩
  · skip
    show WS layC V 3 X σ 6 [(0, rf V 0), (1, .int x), (2, .int q)] [.int 0]
    refine WS.if_eq (tgt := 18) hx dX10_byTurns_6 (by decide) (fun _ => ?_) (fun h => absurd (by decide) h)
    refine WS.ldc (v := (-2000000000)) hx lc10_230 dX10_byTurns_18 ?_
    exact WS.iret hx he dX10_byTurns_20 ⟨_, rfl, by (try simp only [i_le, i_lt, i_eq, tI_0, tI_1, tI_4] at hb3); (repeat' split) <;> first | (exfalso; omega) | exact ⟨rfl, rfl⟩⟩
set_option maxHeartbeats 1000000 in
theorem c_X10_drawn (V : Vt) (d : Nat) (σ : Sg) (n : Nat) (hQ : QI σ n) (m c : Nat) (hL : LI V σ m c) (sd x b : Int32) : CT layC V mX10_drawn (d + 6) [rf V 0, .int sd, .int x, .int b] σ (Ri fun v σ' => (if ¬ ((1 ≤ (x / 10000).toInt ∧ (x / 10000).toInt ≤ 30) ∧ (1 ≤ ((x / 100) - (x / 100) / 100 * 100).toInt ∧ ((x / 100) - (x / 100) / 100 * 100).toInt ≤ 60) ∧ (0 ≤ (x - x / 100 * 100).toInt ∧ (x - x / 100 * 100).toInt ≤ 12)) then v = -1 ∧ σ' = σ else (if ¬ (b.toInt = -1 ∨ (0 ≤ b.toInt ∧ b.toInt < n)) then v = -1 ∧ σ' = σ else (if b.toInt = -1 then v = (axR (wdS σ n m c) n (nn (x - x / 100 * 100)) (nn ((x / 100) - (x / 100) / 100 * 100)) (nn (x / 10000)) (sd, 0, fillF 10 0 (σ.1 28))).2.1 ∧ SE σ σ' ∧ LI V σ' m c else (v = (axR (wdS σ n m c) n (nn (x - x / 100 * 100)) (nn ((x / 100) - (x / 100) / 100 * 100)) (nn (x / 10000)) (sd, 0, fillF 10 0 (σ.1 28))).2.2 (nn b) ∧ SE σ σ' ∧ LI V σ' m c))))) := by
  refine CT.of (own := RX10) rfl (by decide) (Nat.le_of_ble_eq_true rfl) (fun X (hx : Ok V RX10 cX10_drawn 7 (d + 6) X) (he : En layC V (some .int) (Ri fun v σ' => (if ¬ ((1 ≤ (x / 10000).toInt ∧ (x / 10000).toInt ≤ 30) ∧ (1 ≤ ((x / 100) - (x / 100) / 100 * 100).toInt ∧ ((x / 100) - (x / 100) / 100 * 100).toInt ≤ 60) ∧ (0 ≤ (x - x / 100 * 100).toInt ∧ (x - x / 100 * 100).toInt ≤ 12)) then v = -1 ∧ σ' = σ else (if ¬ (b.toInt = -1 ∨ (0 ≤ b.toInt ∧ b.toInt < n)) then v = -1 ∧ σ' = σ else (if b.toInt = -1 then v = (axR (wdS σ n m c) n (nn (x - x / 100 * 100)) (nn ((x / 100) - (x / 100) / 100 * 100)) (nn (x / 10000)) (sd, 0, fillF 10 0 (σ.1 28))).2.1 ∧ SE σ σ' ∧ LI V σ' m c else (v = (axR (wdS σ n m c) n (nn (x - x / 100 * 100)) (nn ((x / 100) - (x / 100) / 100 * 100)) (nn (x / 10000)) (sd, 0, fillF 10 0 (σ.1 28))).2.2 (nn b) ∧ SE σ σ' ∧ LI V σ' m c))))) X) => ?_)
  change WS layC V 7 X σ 0 [(0, rf V 0), (1, .int sd), (2, .int x), (3, .int b)] []
  refine WS.iload_n hx dX10_drawn_0 rfl 2 rfl ?_
  refine WS.sipush (v := 10000) hx dX10_drawn_1 (by decide) ?_
  refine WS.idiv hx dX10_drawn_4 (by decide) ?_
  refine WS.istore (lo' := [(4, .int (x / 10000)), (0, rf V 0), (1, .int sd), (2, .int x), (3, .int b)]) hx dX10_drawn_5 (by decide) rfl ?_
  refine WS.iload_n hx dX10_drawn_7 rfl 3 rfl ?_
  refine WS.bipush (v := 100) hx dX10_drawn_8 (by decide) ?_
  refine WS.idiv hx dX10_drawn_10 (by decide) ?_
  refine WS.bipush (v := 100) hx dX10_drawn_11 (by decide) ?_
  refine WS.irem hx dX10_drawn_13 (by decide) ?_
  refine WS.istore (lo' := [(5, .int ((x / 100) - (x / 100) / 100 * 100)), (4, .int (x / 10000)), (0, rf V 0), (1, .int sd), (2, .int x), (3, .int b)]) hx dX10_drawn_14 (by decide) rfl ?_
  refine WS.iload_n hx dX10_drawn_16 rfl 4 rfl ?_
  refine WS.bipush (v := 100) hx dX10_drawn_17 (by decide) ?_
  refine WS.irem hx dX10_drawn_19 (by decide) ?_
  refine WS.istore (lo' := [(6, .int (x - x / 100 * 100)), (5, .int ((x / 100) - (x / 100) / 100 * 100)), (4, .int (x / 10000)), (0, rf V 0), (1, .int sd), (2, .int x), (3, .int b)]) hx dX10_drawn_20 (by decide) rfl ?_
  refine WS.iload hx dX10_drawn_22 2 rfl ?_
  refine WS.iconst (v := 1) hx dX10_drawn_24 (by decide) ?_
  refine WS.bipush (v := 30) hx dX10_drawn_25 (by decide) ?_
  refine WS.callSi (st := []) [.int (x / 10000), .int 1, .int 30] hx (c_X10_within V (d + 5) σ (x / 10000) 1 30) okX10_within lm10_80 rfl rfl (Nat.le_of_ble_eq_true rfl) dX10_drawn_27 (fun v1 σ2 h3 => ?_)
  rcases h3 with ⟨rfl, rfl, hb27⟩ | ⟨rfl, rfl, hb27⟩
  · skip
    show WS layC V 7 X σ 30 [(6, .int (x - x / 100 * 100)), (5, .int ((x / 100) - (x / 100) / 100 * 100)), (4, .int (x / 10000)), (0, rf V 0), (1, .int sd), (2, .int x), (3, .int b)] [.int 1]
    refine WS.if_eq (tgt := 55) hx dX10_drawn_30 (by decide) (fun h => absurd h (by decide)) (fun _ => ?_)
    refine WS.iload hx dX10_drawn_33 1 rfl ?_
    refine WS.iconst (v := 1) hx dX10_drawn_35 (by decide) ?_
    refine WS.bipush (v := 60) hx dX10_drawn_36 (by decide) ?_
    refine WS.callSi (st := []) [.int ((x / 100) - (x / 100) / 100 * 100), .int 1, .int 60] hx (c_X10_within V (d + 5) σ ((x / 100) - (x / 100) / 100 * 100) 1 60) okX10_within lm10_80 rfl rfl (Nat.le_of_ble_eq_true rfl) dX10_drawn_38 (fun v4 σ5 h6 => ?_)
    rcases h6 with ⟨rfl, rfl, hb38⟩ | ⟨rfl, rfl, hb38⟩
    · skip
      show WS layC V 7 X σ 41 [(6, .int (x - x / 100 * 100)), (5, .int ((x / 100) - (x / 100) / 100 * 100)), (4, .int (x / 10000)), (0, rf V 0), (1, .int sd), (2, .int x), (3, .int b)] [.int 1]
      refine WS.if_eq (tgt := 55) hx dX10_drawn_41 (by decide) (fun h => absurd h (by decide)) (fun _ => ?_)
      refine WS.iload hx dX10_drawn_44 0 rfl ?_
      refine WS.iconst (v := 0) hx dX10_drawn_46 (by decide) ?_
      refine WS.bipush (v := 12) hx dX10_drawn_47 (by decide) ?_
      refine WS.callSi (st := []) [.int (x - x / 100 * 100), .int 0, .int 12] hx (c_X10_within V (d + 5) σ (x - x / 100 * 100) 0 12) okX10_within lm10_80 rfl rfl (Nat.le_of_ble_eq_true rfl) dX10_drawn_49 (fun v7 σ8 h9 => ?_)
      rcases h9 with ⟨rfl, rfl, hb49⟩ | ⟨rfl, rfl, hb49⟩
      · skip
        show WS layC V 7 X σ 52 [(6, .int (x - x / 100 * 100)), (5, .int ((x / 100) - (x / 100) / 100 * 100)), (4, .int (x / 10000)), (0, rf V 0), (1, .int sd), (2, .int x), (3, .int b)] [.int 1]
        have ho1 := hb27
        have ho2 := hb38
        have ho3 := hb49
        simp only [i_le, tI_0, tI_1, tI_30, tI_60, tI_12] at ho1 ho2 ho3
        have hn1 := nn_int (show 0 ≤ (x / 10000).toInt by omega)
        have hn2 := nn_int (show 0 ≤ ((x / 100) - (x / 100) / 100 * 100).toInt by omega)
        have hn3 := nn_int (show 0 ≤ (x - x / 100 * 100).toInt by omega)
        refine WS.if_ne (tgt := 57) hx dX10_drawn_52 (by decide) (fun _ => ?_) (fun h => absurd h (by decide))
        refine WS.iload_n hx dX10_drawn_57 rfl 6 rfl ?_
        refine WS.iconst (v := (-1)) hx dX10_drawn_58 (by decide) ?_
        refine WS.icmp_eq (tgt := 75) hx dX10_drawn_59 (by decide) (fun c59 => ?_) (fun c59 => ?_)
        · skip
          show WS layC V 7 X σ 75 [(6, .int (x - x / 100 * 100)), (5, .int ((x / 100) - (x / 100) / 100 * 100)), (4, .int (x / 10000)), (0, rf V 0), (1, .int sd), (2, .int x), (3, .int b)] []
          refine WS.aload_n hx dX10_drawn_75 rfl 3 rfl ?_
          refine WS.getR hx okX10 lf10_46 rfl rfl dX10_drawn_76 ?_
          refine WS.iload_n hx dX10_drawn_79 rfl 4 rfl ?_
          refine WS.iload hx dX10_drawn_80 2 rfl ?_
          refine WS.as rfl rfl (congrArg (fun z => Value.int z :: _) (show x / 10000 = nI (nn (x / 10000)) from (nI_nn (by omega)).symm)) ?_
          skip
          refine WS.iload hx dX10_drawn_82 1 rfl ?_
          refine WS.as rfl rfl (congrArg (fun z => Value.int z :: _) (show (x / 100) - (x / 100) / 100 * 100 = nI (nn ((x / 100) - (x / 100) / 100 * 100)) from (nI_nn (by omega)).symm)) ?_
          skip
          refine WS.iload hx dX10_drawn_84 0 rfl ?_
          refine WS.as rfl rfl (congrArg (fun z => Value.int z :: _) (show x - x / 100 * 100 = nI (nn (x - x / 100 * 100)) from (nI_nn (by omega)).symm)) ?_
          skip
          refine WS.callVv (st := []) [.int sd, .int (nI (nn (x / 10000))), .int (nI (nn ((x / 100) - (x / 100) / 100 * 100))), .int (nI (nn (x - x / 100 * 100)))] hx (c_X0_pass V d σ n hQ m c hL sd (nn (x / 10000)) (by omega) (nn ((x / 100) - (x / 100) / 100 * 100)) (by omega) (nn (x - x / 100 * 100)) (by omega)) okX0_pass lm10_237 rfl rfl rfl rfl (Nat.le_of_ble_eq_true rfl) dX10_drawn_86 (fun σ11 h12 => ?_)
          obtain ⟨se86, sd86, to86, li86⟩ := h12
          show WS layC V 7 X σ11 89 [(6, .int (x - x / 100 * 100)), (5, .int ((x / 100) - (x / 100) / 100 * 100)), (4, .int (x / 10000)), (0, rf V 0), (1, .int sd), (2, .int x), (3, .int b)] []
          refine WS.iload_n hx dX10_drawn_89 rfl 6 rfl ?_
          refine WS.iconst (v := (-1)) hx dX10_drawn_90 (by decide) ?_
          refine WS.icmp_ne (tgt := 104) hx dX10_drawn_91 (by decide) (fun c91 => ?_) (fun c91 => ?_)
          · skip
            show WS layC V 7 X σ11 104 [(6, .int (x - x / 100 * 100)), (5, .int ((x / 100) - (x / 100) / 100 * 100)), (4, .int (x / 10000)), (0, rf V 0), (1, .int sd), (2, .int x), (3, .int b)] []
            have hbz : 0 ≤ b.toInt ∧ b.toInt < n := by first | (exfalso; (try simp only [i_le, i_lt, i_eq, tI_m1, tI_0, tI_1, tI_12, tI_30, tI_60, tI_100, tI_10000] at hb27); (try simp only [i_le, i_lt, i_eq, tI_m1, tI_0, tI_1, tI_12, tI_30, tI_60, tI_100, tI_10000] at hb38); (try simp only [i_le, i_lt, i_eq, tI_m1, tI_0, tI_1, tI_12, tI_30, tI_60, tI_100, tI_10000] at hb49); (try simp only [i_le, i_lt, i_eq, tI_m1, tI_0, tI_1, tI_12, tI_30, tI_60, tI_100, tI_10000] at c59); (try simp only [i_le, i_lt, i_eq, tI_m1, tI_0, tI_1, tI_12, tI_30, tI_60, tI_100, tI_10000] at c91); omega) | exact hb67
            have hb9 : nn b < 10 := by have := nn_int hbz.1; have := hQ.n; omega
            refine WS.aload_n hx dX10_drawn_104 rfl 3 rfl ?_
            refine WS.getR hx okX10 lf10_46 rfl rfl dX10_drawn_105 ?_
            refine WS.iload_n hx dX10_drawn_108 rfl 6 rfl ?_
            refine WS.as rfl rfl (congrArg (fun z => Value.int z :: _) (show b = nI (nn b) from (nI_nn (by omega)).symm)) ?_
            skip
            refine WS.callVi (st := []) [.int (nI (nn b))] hx (c_X0_timesOpen V (d + 4) σ11 (nn b) hb9) okX0_timesOpen lm10_243 rfl rfl rfl rfl (Nat.le_of_ble_eq_true rfl) dX10_drawn_109 (fun v13 σ14 h15 => ?_)
            obtain ⟨rfl, rfl⟩ := h15
            show WS layC V 7 X σ11 112 [(6, .int (x - x / 100 * 100)), (5, .int ((x / 100) - (x / 100) / 100 * 100)), (4, .int (x / 10000)), (0, rf V 0), (1, .int sd), (2, .int x), (3, .int b)] [.int (σ11.1 28 (nn b))]
            exact WS.iret hx he dX10_drawn_112 ⟨_, rfl, by (try simp only [i_le, i_lt, i_eq, tI_m1, tI_0, tI_1, tI_12, tI_30, tI_60, tI_100, tI_10000] at hb27); (try simp only [i_le, i_lt, i_eq, tI_m1, tI_0, tI_1, tI_12, tI_30, tI_60, tI_100, tI_10000] at hb38); (try simp only [i_le, i_lt, i_eq, tI_m1, tI_0, tI_1, tI_12, tI_30, tI_60, tI_100, tI_10000] at hb49); (try simp only [i_le, i_lt, i_eq, tI_m1, tI_0, tI_1, tI_12, tI_30, tI_60, tI_100, tI_10000] at c59); (try simp only [i_le, i_lt, i_eq, tI_m1, tI_0, tI_1, tI_12, tI_30, tI_60, tI_100, tI_10000] at c91); (repeat' split) <;> first | (exfalso; omega) | exact ⟨rfl, rfl⟩ | exact ⟨sd86, se86, li86⟩ | exact ⟨by rw [to86], se86, li86⟩⟩
          · skip
            show WS layC V 7 X σ11 94 [(6, .int (x - x / 100 * 100)), (5, .int ((x / 100) - (x / 100) / 100 * 100)), (4, .int (x / 10000)), (0, rf V 0), (1, .int sd), (2, .int x), (3, .int b)] []
            refine WS.aload_n hx dX10_drawn_94 rfl 3 rfl ?_
            refine WS.getR hx okX10 lf10_46 rfl rfl dX10_drawn_95 ?_
            refine WS.callVi (st := []) [] hx (c_X0_said V (d + 5) σ11) okX0_said lm10_240 rfl rfl rfl rfl (Nat.le_of_ble_eq_true rfl) dX10_drawn_98 (fun v16 σ17 h18 => ?_)
            obtain ⟨rfl, rfl⟩ := h18
            show WS layC V 7 X σ11 101 [(6, .int (x - x / 100 * 100)), (5, .int ((x / 100) - (x / 100) / 100 * 100)), (4, .int (x / 10000)), (0, rf V 0), (1, .int sd), (2, .int x), (3, .int b)] [.int (σ11.1 6 6)]
            refine WS.goto (tgt := 112) hx dX10_drawn_101 (by decide) ?_
            exact WS.iret hx he dX10_drawn_112 ⟨_, rfl, by (try simp only [i_le, i_lt, i_eq, tI_m1, tI_0, tI_1, tI_12, tI_30, tI_60, tI_100, tI_10000] at hb27); (try simp only [i_le, i_lt, i_eq, tI_m1, tI_0, tI_1, tI_12, tI_30, tI_60, tI_100, tI_10000] at hb38); (try simp only [i_le, i_lt, i_eq, tI_m1, tI_0, tI_1, tI_12, tI_30, tI_60, tI_100, tI_10000] at hb49); (try simp only [i_le, i_lt, i_eq, tI_m1, tI_0, tI_1, tI_12, tI_30, tI_60, tI_100, tI_10000] at c59); (try simp only [i_le, i_lt, i_eq, tI_m1, tI_0, tI_1, tI_12, tI_30, tI_60, tI_100, tI_10000] at c91); (repeat' split) <;> first | (exfalso; omega) | exact ⟨rfl, rfl⟩ | exact ⟨sd86, se86, li86⟩ | exact ⟨by rw [to86], se86, li86⟩⟩
        · skip
          show WS layC V 7 X σ 62 [(6, .int (x - x / 100 * 100)), (5, .int ((x / 100) - (x / 100) / 100 * 100)), (4, .int (x / 10000)), (0, rf V 0), (1, .int sd), (2, .int x), (3, .int b)] []
          refine WS.aload_n hx dX10_drawn_62 rfl 3 rfl ?_
          refine WS.getR hx okX10 lf10_12 rfl rfl dX10_drawn_63 ?_
          refine WS.iload_n hx dX10_drawn_66 rfl 6 rfl ?_
          refine WS.callVi (st := []) [.int b] hx (c_X7_hasBlock V (d + 4) σ n hQ b) okX7_hasBlock lm10_140 rfl rfl rfl rfl (Nat.le_of_ble_eq_true rfl) dX10_drawn_67 (fun v19 σ20 h21 => ?_)
          rcases h21 with ⟨rfl, rfl, hb67⟩ | ⟨rfl, rfl, hb67⟩
          · skip
            show WS layC V 7 X σ 70 [(6, .int (x - x / 100 * 100)), (5, .int ((x / 100) - (x / 100) / 100 * 100)), (4, .int (x / 10000)), (0, rf V 0), (1, .int sd), (2, .int x), (3, .int b)] [.int 1]
            refine WS.if_ne (tgt := 75) hx dX10_drawn_70 (by decide) (fun _ => ?_) (fun h => absurd h (by decide))
            refine WS.aload_n hx dX10_drawn_75 rfl 3 rfl ?_
            refine WS.getR hx okX10 lf10_46 rfl rfl dX10_drawn_76 ?_
            refine WS.iload_n hx dX10_drawn_79 rfl 4 rfl ?_
            refine WS.iload hx dX10_drawn_80 2 rfl ?_
            refine WS.as rfl rfl (congrArg (fun z => Value.int z :: _) (show x / 10000 = nI (nn (x / 10000)) from (nI_nn (by omega)).symm)) ?_
            skip
            refine WS.iload hx dX10_drawn_82 1 rfl ?_
            refine WS.as rfl rfl (congrArg (fun z => Value.int z :: _) (show (x / 100) - (x / 100) / 100 * 100 = nI (nn ((x / 100) - (x / 100) / 100 * 100)) from (nI_nn (by omega)).symm)) ?_
            skip
            refine WS.iload hx dX10_drawn_84 0 rfl ?_
            refine WS.as rfl rfl (congrArg (fun z => Value.int z :: _) (show x - x / 100 * 100 = nI (nn (x - x / 100 * 100)) from (nI_nn (by omega)).symm)) ?_
            skip
            refine WS.callVv (st := []) [.int sd, .int (nI (nn (x / 10000))), .int (nI (nn ((x / 100) - (x / 100) / 100 * 100))), .int (nI (nn (x - x / 100 * 100)))] hx (c_X0_pass V d σ n hQ m c hL sd (nn (x / 10000)) (by omega) (nn ((x / 100) - (x / 100) / 100 * 100)) (by omega) (nn (x - x / 100 * 100)) (by omega)) okX0_pass lm10_237 rfl rfl rfl rfl (Nat.le_of_ble_eq_true rfl) dX10_drawn_86 (fun σ23 h24 => ?_)
            obtain ⟨se86, sd86, to86, li86⟩ := h24
            show WS layC V 7 X σ23 89 [(6, .int (x - x / 100 * 100)), (5, .int ((x / 100) - (x / 100) / 100 * 100)), (4, .int (x / 10000)), (0, rf V 0), (1, .int sd), (2, .int x), (3, .int b)] []
            refine WS.iload_n hx dX10_drawn_89 rfl 6 rfl ?_
            refine WS.iconst (v := (-1)) hx dX10_drawn_90 (by decide) ?_
            refine WS.icmp_ne (tgt := 104) hx dX10_drawn_91 (by decide) (fun c91 => ?_) (fun c91 => ?_)
            · skip
              show WS layC V 7 X σ23 104 [(6, .int (x - x / 100 * 100)), (5, .int ((x / 100) - (x / 100) / 100 * 100)), (4, .int (x / 10000)), (0, rf V 0), (1, .int sd), (2, .int x), (3, .int b)] []
              have hbz : 0 ≤ b.toInt ∧ b.toInt < n := by first | (exfalso; (try simp only [i_le, i_lt, i_eq, tI_m1, tI_0, tI_1, tI_12, tI_30, tI_60, tI_100, tI_10000] at hb27); (try simp only [i_le, i_lt, i_eq, tI_m1, tI_0, tI_1, tI_12, tI_30, tI_60, tI_100, tI_10000] at hb38); (try simp only [i_le, i_lt, i_eq, tI_m1, tI_0, tI_1, tI_12, tI_30, tI_60, tI_100, tI_10000] at hb49); (try simp only [i_le, i_lt, i_eq, tI_m1, tI_0, tI_1, tI_12, tI_30, tI_60, tI_100, tI_10000] at c59); (try simp only [i_le, i_lt, i_eq, tI_m1, tI_0, tI_1, tI_12, tI_30, tI_60, tI_100, tI_10000] at hb67); (try simp only [i_le, i_lt, i_eq, tI_m1, tI_0, tI_1, tI_12, tI_30, tI_60, tI_100, tI_10000] at c91); omega) | exact hb67
              have hb9 : nn b < 10 := by have := nn_int hbz.1; have := hQ.n; omega
              refine WS.aload_n hx dX10_drawn_104 rfl 3 rfl ?_
              refine WS.getR hx okX10 lf10_46 rfl rfl dX10_drawn_105 ?_
              refine WS.iload_n hx dX10_drawn_108 rfl 6 rfl ?_
              refine WS.as rfl rfl (congrArg (fun z => Value.int z :: _) (show b = nI (nn b) from (nI_nn (by omega)).symm)) ?_
              skip
              refine WS.callVi (st := []) [.int (nI (nn b))] hx (c_X0_timesOpen V (d + 4) σ23 (nn b) hb9) okX0_timesOpen lm10_243 rfl rfl rfl rfl (Nat.le_of_ble_eq_true rfl) dX10_drawn_109 (fun v25 σ26 h27 => ?_)
              obtain ⟨rfl, rfl⟩ := h27
              show WS layC V 7 X σ23 112 [(6, .int (x - x / 100 * 100)), (5, .int ((x / 100) - (x / 100) / 100 * 100)), (4, .int (x / 10000)), (0, rf V 0), (1, .int sd), (2, .int x), (3, .int b)] [.int (σ23.1 28 (nn b))]
              exact WS.iret hx he dX10_drawn_112 ⟨_, rfl, by (try simp only [i_le, i_lt, i_eq, tI_m1, tI_0, tI_1, tI_12, tI_30, tI_60, tI_100, tI_10000] at hb27); (try simp only [i_le, i_lt, i_eq, tI_m1, tI_0, tI_1, tI_12, tI_30, tI_60, tI_100, tI_10000] at hb38); (try simp only [i_le, i_lt, i_eq, tI_m1, tI_0, tI_1, tI_12, tI_30, tI_60, tI_100, tI_10000] at hb49); (try simp only [i_le, i_lt, i_eq, tI_m1, tI_0, tI_1, tI_12, tI_30, tI_60, tI_100, tI_10000] at c59); (try simp only [i_le, i_lt, i_eq, tI_m1, tI_0, tI_1, tI_12, tI_30, tI_60, tI_100, tI_10000] at hb67); (try simp only [i_le, i_lt, i_eq, tI_m1, tI_0, tI_1, tI_12, tI_30, tI_60, tI_100, tI_10000] at c91); (repeat' split) <;> first | (exfalso; omega) | exact ⟨rfl, rfl⟩ | exact ⟨sd86, se86, li86⟩ | exact ⟨by rw [to86], se86, li86⟩⟩
            · skip
              show WS layC V 7 X σ23 94 [(6, .int (x - x / 100 * 100)), (5, .int ((x / 100) - (x / 100) / 100 * 100)), (4, .int (x / 10000)), (0, rf V 0), (1, .int sd), (2, .int x), (3, .int b)] []
              refine WS.aload_n hx dX10_drawn_94 rfl 3 rfl ?_
              refine WS.getR hx okX10 lf10_46 rfl rfl dX10_drawn_95 ?_
              refine WS.callVi (st := []) [] hx (c_X0_said V (d + 5) σ23) okX0_said lm10_240 rfl rfl rfl rfl (Nat.le_of_ble_eq_true rfl) dX10_drawn_98 (fun v28 σ29 h30 => ?_)
              obtain ⟨rfl, rfl⟩ := h30
              show WS layC V 7 X σ23 101 [(6, .int (x - x / 100 * 100)), (5, .int ((x / 100) - (x / 100) / 100 * 100)), (4, .int (x / 10000)), (0, rf V 0), (1, .int sd), (2, .int x), (3, .int b)] [.int (σ23.1 6 6)]
              refine WS.goto (tgt := 112) hx dX10_drawn_101 (by decide) ?_
              exact WS.iret hx he dX10_drawn_112 ⟨_, rfl, by (try simp only [i_le, i_lt, i_eq, tI_m1, tI_0, tI_1, tI_12, tI_30, tI_60, tI_100, tI_10000] at hb27); (try simp only [i_le, i_lt, i_eq, tI_m1, tI_0, tI_1, tI_12, tI_30, tI_60, tI_100, tI_10000] at hb38); (try simp only [i_le, i_lt, i_eq, tI_m1, tI_0, tI_1, tI_12, tI_30, tI_60, tI_100, tI_10000] at hb49); (try simp only [i_le, i_lt, i_eq, tI_m1, tI_0, tI_1, tI_12, tI_30, tI_60, tI_100, tI_10000] at c59); (try simp only [i_le, i_lt, i_eq, tI_m1, tI_0, tI_1, tI_12, tI_30, tI_60, tI_100, tI_10000] at hb67); (try simp only [i_le, i_lt, i_eq, tI_m1, tI_0, tI_1, tI_12, tI_30, tI_60, tI_100, tI_10000] at c91); (repeat' split) <;> first | (exfalso; omega) | exact ⟨rfl, rfl⟩ | exact ⟨sd86, se86, li86⟩ | exact ⟨by rw [to86], se86, li86⟩⟩
          · skip
            show WS layC V 7 X σ 70 [(6, .int (x - x / 100 * 100)), (5, .int ((x / 100) - (x / 100) / 100 * 100)), (4, .int (x / 10000)), (0, rf V 0), (1, .int sd), (2, .int x), (3, .int b)] [.int 0]
            refine WS.if_ne (tgt := 75) hx dX10_drawn_70 (by decide) (fun h => absurd (by decide) h) (fun _ => ?_)
            refine WS.iconst (v := (-1)) hx dX10_drawn_73 (by decide) ?_
            exact WS.iret hx he dX10_drawn_74 ⟨_, rfl, by (try simp only [i_le, i_lt, i_eq, tI_m1, tI_0, tI_1, tI_12, tI_30, tI_60, tI_100, tI_10000] at hb27); (try simp only [i_le, i_lt, i_eq, tI_m1, tI_0, tI_1, tI_12, tI_30, tI_60, tI_100, tI_10000] at hb38); (try simp only [i_le, i_lt, i_eq, tI_m1, tI_0, tI_1, tI_12, tI_30, tI_60, tI_100, tI_10000] at hb49); (try simp only [i_le, i_lt, i_eq, tI_m1, tI_0, tI_1, tI_12, tI_30, tI_60, tI_100, tI_10000] at c59); (try simp only [i_le, i_lt, i_eq, tI_m1, tI_0, tI_1, tI_12, tI_30, tI_60, tI_100, tI_10000] at hb67); (repeat' split) <;> first | (exfalso; omega) | exact ⟨rfl, rfl⟩ | exact ⟨sd86, se86, li86⟩ | exact ⟨by rw [to86], se86, li86⟩⟩
      · skip
        show WS layC V 7 X σ 52 [(6, .int (x - x / 100 * 100)), (5, .int ((x / 100) - (x / 100) / 100 * 100)), (4, .int (x / 10000)), (0, rf V 0), (1, .int sd), (2, .int x), (3, .int b)] [.int 0]
        refine WS.if_ne (tgt := 57) hx dX10_drawn_52 (by decide) (fun h => absurd (by decide) h) (fun _ => ?_)
        refine WS.iconst (v := (-1)) hx dX10_drawn_55 (by decide) ?_
        exact WS.iret hx he dX10_drawn_56 ⟨_, rfl, by (try simp only [i_le, i_lt, i_eq, tI_m1, tI_0, tI_1, tI_12, tI_30, tI_60, tI_100, tI_10000] at hb27); (try simp only [i_le, i_lt, i_eq, tI_m1, tI_0, tI_1, tI_12, tI_30, tI_60, tI_100, tI_10000] at hb38); (try simp only [i_le, i_lt, i_eq, tI_m1, tI_0, tI_1, tI_12, tI_30, tI_60, tI_100, tI_10000] at hb49); (repeat' split) <;> first | (exfalso; omega) | exact ⟨rfl, rfl⟩ | exact ⟨sd86, se86, li86⟩ | exact ⟨by rw [to86], se86, li86⟩⟩
    · skip
      show WS layC V 7 X σ 41 [(6, .int (x - x / 100 * 100)), (5, .int ((x / 100) - (x / 100) / 100 * 100)), (4, .int (x / 10000)), (0, rf V 0), (1, .int sd), (2, .int x), (3, .int b)] [.int 0]
      refine WS.if_eq (tgt := 55) hx dX10_drawn_41 (by decide) (fun _ => ?_) (fun h => absurd (by decide) h)
      refine WS.iconst (v := (-1)) hx dX10_drawn_55 (by decide) ?_
      exact WS.iret hx he dX10_drawn_56 ⟨_, rfl, by (try simp only [i_le, i_lt, i_eq, tI_m1, tI_0, tI_1, tI_12, tI_30, tI_60, tI_100, tI_10000] at hb27); (try simp only [i_le, i_lt, i_eq, tI_m1, tI_0, tI_1, tI_12, tI_30, tI_60, tI_100, tI_10000] at hb38); (repeat' split) <;> first | (exfalso; omega) | exact ⟨rfl, rfl⟩ | exact ⟨sd86, se86, li86⟩ | exact ⟨by rw [to86], se86, li86⟩⟩
  · skip
    show WS layC V 7 X σ 30 [(6, .int (x - x / 100 * 100)), (5, .int ((x / 100) - (x / 100) / 100 * 100)), (4, .int (x / 10000)), (0, rf V 0), (1, .int sd), (2, .int x), (3, .int b)] [.int 0]
    refine WS.if_eq (tgt := 55) hx dX10_drawn_30 (by decide) (fun _ => ?_) (fun h => absurd (by decide) h)
    refine WS.iconst (v := (-1)) hx dX10_drawn_55 (by decide) ?_
    exact WS.iret hx he dX10_drawn_56 ⟨_, rfl, by (try simp only [i_le, i_lt, i_eq, tI_m1, tI_0, tI_1, tI_12, tI_30, tI_60, tI_100, tI_10000] at hb27); (repeat' split) <;> first | (exfalso; omega) | exact ⟨rfl, rfl⟩ | exact ⟨sd86, se86, li86⟩ | exact ⟨by rw [to86], se86, li86⟩⟩
set_option maxHeartbeats 1000000 in
theorem c_X10_century (V : Vt) (d : Nat) (σ : Sg) (n : Nat) (hQ : QI σ n) (m c : Nat) (hL : LI V σ m c) : CT layC V mX10_century (d + 6) [rf V 0] σ (Ri fun v σ' => nI (min (nn (σ.1 18 0) + 1) 99) = v ∧ cenQ σ σ' n m c ∧ LI V σ' m c) := by
  refine CT.of (own := RX10) rfl (by decide) (Nat.le_of_ble_eq_true rfl) (fun X (hx : Ok V RX10 cX10_century 1 (d + 6) X) (he : En layC V (some .int) (Ri fun v σ' => nI (min (nn (σ.1 18 0) + 1) 99) = v ∧ cenQ σ σ' n m c ∧ LI V σ' m c) X) => ?_)
  change WS layC V 1 X σ 0 [(0, rf V 0)] []
  refine WS.aload_n hx dX10_century_0 rfl 0 rfl ?_
  refine WS.getR hx okX10 lf10_53 rfl rfl dX10_century_1 ?_
  refine WS.callVi (st := []) [] hx (c_X3_passCentury V d σ n hQ m c hL) okX3_passCentury lm10_246 rfl rfl rfl rfl (Nat.le_of_ble_eq_true rfl) dX10_century_4 (fun v1 σ2 h3 => ?_)
  obtain ⟨rfl, cq4, li4⟩ := h3
  show WS layC V 1 X σ2 7 [(0, rf V 0)] [.int (nI (min (nn (σ.1 18 0) + 1) 99))]
  exact WS.iret hx he dX10_century_7 ⟨_, rfl, rfl, cq4, li4⟩
set_option maxHeartbeats 1000000 in
theorem c_X10_open (V : Vt) (d : Nat) (σ : Sg) (n : Nat) (hQ : QI σ n) (b : Int32) : CT layC V mX10_open (d + 4) [rf V 0, .int b] σ (Ri fun v σ' => (if ¬ (0 ≤ b.toInt ∧ b.toInt < n) then v = -1 ∧ σ' = σ else (if σ.1 14 (nn b) = 1 then v = -5 ∧ σ' = σ else (v = σ.1 17 (nn (σ.1 12 (nn b))) ∧ σ' = opnQ σ (nn b) (σ.1 17 (nn (σ.1 12 (nn b)))))))) := by
  refine CT.of (own := RX10) rfl (by decide) (Nat.le_of_ble_eq_true rfl) (fun X (hx : Ok V RX10 cX10_open 2 (d + 4) X) (he : En layC V (some .int) (Ri fun v σ' => (if ¬ (0 ≤ b.toInt ∧ b.toInt < n) then v = -1 ∧ σ' = σ else (if σ.1 14 (nn b) = 1 then v = -5 ∧ σ' = σ else (v = σ.1 17 (nn (σ.1 12 (nn b))) ∧ σ' = opnQ σ (nn b) (σ.1 17 (nn (σ.1 12 (nn b)))))))) X) => ?_)
  change WS layC V 2 X σ 0 [(0, rf V 0), (1, .int b)] []
  refine WS.aload_n hx dX10_open_0 rfl 0 rfl ?_
  refine WS.getR hx okX10 lf10_12 rfl rfl dX10_open_1 ?_
  refine WS.iload_n hx dX10_open_4 rfl 1 rfl ?_
  refine WS.callVi (st := []) [.int b] hx (c_X7_hasBlock V (d + 2) σ n hQ b) okX7_hasBlock lm10_140 rfl rfl rfl rfl (Nat.le_of_ble_eq_true rfl) dX10_open_5 (fun v1 σ2 h3 => ?_)
  rcases h3 with ⟨rfl, rfl, hb5⟩ | ⟨rfl, rfl, hb5⟩
  · skip
    show WS layC V 2 X σ 8 [(0, rf V 0), (1, .int b)] [.int 1]
    have hkn : nn b < n := by have := nn_int hb5.1; omega
    refine WS.if_ne (tgt := 13) hx dX10_open_8 (by decide) (fun _ => ?_) (fun h => absurd h (by decide))
    refine WS.aload_n hx dX10_open_13 rfl 0 rfl ?_
    refine WS.getR hx okX10 lf10_12 rfl rfl dX10_open_14 ?_
    refine WS.iload_n hx dX10_open_17 rfl 1 rfl ?_
    refine WS.as rfl rfl (congrArg (fun z => Value.int z :: _) (show b = nI (nn b) from (nI_nn hb5.1).symm)) ?_
    skip
    refine WS.callVi (st := []) [.int (nI (nn b))] hx (c_X7_isOpen V (d + 1) σ n hQ (nn b) hkn) okX7_isOpen lm10_249 rfl rfl rfl rfl (Nat.le_of_ble_eq_true rfl) dX10_open_18 (fun v4 σ5 h6 => ?_)
    rcases h6 with ⟨rfl, rfl, hb18⟩ | ⟨rfl, rfl, hb18⟩
    · skip
      show WS layC V 2 X σ 21 [(0, rf V 0), (1, .int b)] [.int 1]
      have hk18 := hb18
      refine WS.if_eq (tgt := 29) hx dX10_open_21 (by decide) (fun h => absurd h (by decide)) (fun _ => ?_)
      refine WS.bipush (v := (-5)) hx dX10_open_24 (by decide) ?_
      refine WS.goto (tgt := 37) hx dX10_open_26 (by decide) ?_
      exact WS.iret hx he dX10_open_37 ⟨_, rfl, by (try simp only [i_le, i_lt, i_eq, tI_m5, tI_m1, tI_0, tI_1] at hb5); (try simp only [i_le, i_lt, i_eq, tI_m5, tI_m1, tI_0, tI_1] at hb18); (repeat' split) <;> first | (exfalso; omega) | exact ⟨rfl, rfl⟩ | contradiction⟩
    · skip
      show WS layC V 2 X σ 21 [(0, rf V 0), (1, .int b)] [.int 0]
      have hk18 := hb18
      refine WS.if_eq (tgt := 29) hx dX10_open_21 (by decide) (fun _ => ?_) (fun h => absurd (by decide) h)
      refine WS.aload_n hx dX10_open_29 rfl 0 rfl ?_
      refine WS.getR hx okX10 lf10_53 rfl rfl dX10_open_30 ?_
      refine WS.iload_n hx dX10_open_33 rfl 1 rfl ?_
      refine WS.as rfl rfl (congrArg (fun z => Value.int z :: _) (show b = nI (nn b) from (nI_nn hb5.1).symm)) ?_
      skip
      refine WS.callVi (st := []) [.int (nI (nn b))] hx (c_X3_openOne V d σ n hQ (nn b) hkn) okX3_openOne lm10_252 rfl rfl rfl rfl (Nat.le_of_ble_eq_true rfl) dX10_open_34 (fun v7 σ8 h9 => ?_)
      obtain ⟨rfl, rfl⟩ := h9
      show WS layC V 2 X (opnQ σ (nn b) (σ.1 17 (nn (σ.1 12 (nn b))))) 37 [(0, rf V 0), (1, .int b)] [.int (σ.1 17 (nn (σ.1 12 (nn b))))]
      exact WS.iret hx he dX10_open_37 ⟨_, rfl, by (try simp only [i_le, i_lt, i_eq, tI_m5, tI_m1, tI_0, tI_1] at hb5); (try simp only [i_le, i_lt, i_eq, tI_m5, tI_m1, tI_0, tI_1] at hb18); (repeat' split) <;> first | (exfalso; omega) | exact ⟨rfl, rfl⟩ | contradiction⟩
  · skip
    show WS layC V 2 X σ 8 [(0, rf V 0), (1, .int b)] [.int 0]
    refine WS.if_ne (tgt := 13) hx dX10_open_8 (by decide) (fun h => absurd (by decide) h) (fun _ => ?_)
    refine WS.iconst (v := (-1)) hx dX10_open_11 (by decide) ?_
    exact WS.iret hx he dX10_open_12 ⟨_, rfl, by (try simp only [i_le, i_lt, i_eq, tI_m5, tI_m1, tI_0, tI_1] at hb5); (repeat' split) <;> first | (exfalso; omega) | exact ⟨rfl, rfl⟩ | contradiction⟩
set_option maxHeartbeats 1000000 in
theorem c_X10_hours (V : Vt) (d : Nat) (σ : Sg) (n : Nat) (hQ : QI σ n) (h : Int32) : CT layC V mX10_hours (d + 4) [rf V 0, .int h] σ (Ri fun v σ' => (if ¬ (1 ≤ h.toInt ∧ h.toInt ≤ 99) then v = -1 ∧ σ' = σ else (v = nI (hrN σ (nn h) n) ∧ (∀ q, q ≠ 13 → q ≠ 15 → q ≠ 29 → σ'.1 q = σ.1 q) ∧ σ'.2 = σ.2 ∧ σ'.1 13 = hrL σ (nn h) n ∧ σ'.1 15 = hrD σ (nn h) n ∧ σ'.1 29 = upd (σ.1 29) 4 (σ.1 29 4 + nI (hrN σ (nn h) n))))) := by
  refine CT.of (own := RX10) rfl (by decide) (Nat.le_of_ble_eq_true rfl) (fun X (hx : Ok V RX10 cX10_hours 2 (d + 4) X) (he : En layC V (some .int) (Ri fun v σ' => (if ¬ (1 ≤ h.toInt ∧ h.toInt ≤ 99) then v = -1 ∧ σ' = σ else (v = nI (hrN σ (nn h) n) ∧ (∀ q, q ≠ 13 → q ≠ 15 → q ≠ 29 → σ'.1 q = σ.1 q) ∧ σ'.2 = σ.2 ∧ σ'.1 13 = hrL σ (nn h) n ∧ σ'.1 15 = hrD σ (nn h) n ∧ σ'.1 29 = upd (σ.1 29) 4 (σ.1 29 4 + nI (hrN σ (nn h) n))))) X) => ?_)
  change WS layC V 2 X σ 0 [(0, rf V 0), (1, .int h)] []
  refine WS.iload_n hx dX10_hours_0 rfl 1 rfl ?_
  refine WS.iconst (v := 1) hx dX10_hours_1 (by decide) ?_
  refine WS.bipush (v := 99) hx dX10_hours_2 (by decide) ?_
  refine WS.callSi (st := []) [.int h, .int 1, .int 99] hx (c_X10_within V (d + 3) σ h 1 99) okX10_within lm10_80 rfl rfl (Nat.le_of_ble_eq_true rfl) dX10_hours_4 (fun v1 σ2 h3 => ?_)
  rcases h3 with ⟨rfl, rfl, hb4⟩ | ⟨rfl, rfl, hb4⟩
  · skip
    show WS layC V 2 X σ 7 [(0, rf V 0), (1, .int h)] [.int 1]
    have hhi : 1 ≤ h.toInt ∧ h.toInt ≤ 99 := by simp only [i_le, tI_1, tI_99] at hb4; exact hb4
    refine WS.if_eq (tgt := 21) hx dX10_hours_7 (by decide) (fun h => absurd h (by decide)) (fun _ => ?_)
    refine WS.aload_n hx dX10_hours_10 rfl 0 rfl ?_
    refine WS.getR hx okX10 lf10_53 rfl rfl dX10_hours_11 ?_
    refine WS.iload_n hx dX10_hours_14 rfl 1 rfl ?_
    refine WS.as rfl rfl (congrArg (fun z => Value.int z :: _) (show h = nI (nn h) from (nI_nn (by omega)).symm)) ?_
    skip
    refine WS.callVi (st := []) [.int (nI (nn h))] hx (c_X3_passHours V d σ n hQ (nn h) (by have h9 := nn_int (show 0 ≤ h.toInt by omega); omega)) okX3_passHours lm10_255 rfl rfl rfl rfl (Nat.le_of_ble_eq_true rfl) dX10_hours_15 (fun v4 σ5 h6 => ?_)
    obtain ⟨rfl, hq15⟩ := h6
    show WS layC V 2 X σ5 18 [(0, rf V 0), (1, .int h)] [.int (nI (hrN σ (nn h) n))]
    refine WS.goto (tgt := 22) hx dX10_hours_18 (by decide) ?_
    exact WS.iret hx he dX10_hours_22 ⟨_, rfl, by (try simp only [i_le, i_lt, i_eq, tI_m1, tI_0, tI_1, tI_99] at hb4); (repeat' split) <;> first | (exfalso; omega) | exact ⟨rfl, rfl⟩ | exact ⟨rfl, hq15⟩⟩
  · skip
    show WS layC V 2 X σ 7 [(0, rf V 0), (1, .int h)] [.int 0]
    refine WS.if_eq (tgt := 21) hx dX10_hours_7 (by decide) (fun _ => ?_) (fun h => absurd (by decide) h)
    refine WS.iconst (v := (-1)) hx dX10_hours_21 (by decide) ?_
    exact WS.iret hx he dX10_hours_22 ⟨_, rfl, by (try simp only [i_le, i_lt, i_eq, tI_m1, tI_0, tI_1, tI_99] at hb4); (repeat' split) <;> first | (exfalso; omega) | exact ⟨rfl, rfl⟩ | exact ⟨rfl, hq15⟩⟩
set_option maxHeartbeats 1000000 in
theorem c_X10_led (V : Vt) (d : Nat) (σ : Sg) (x : Int32) : CT layC V mX10_led (d + 2) [rf V 0, .int x] σ (Ri fun v σ' => (if ¬ (0 ≤ x.toInt ∧ x.toInt ≤ 4) then v = -1 ∧ σ' = σ else (v = σ.1 29 (nn x) ∧ σ' = σ))) := by
  refine CT.of (own := RX10) rfl (by decide) (Nat.le_of_ble_eq_true rfl) (fun X (hx : Ok V RX10 cX10_led 2 (d + 2) X) (he : En layC V (some .int) (Ri fun v σ' => (if ¬ (0 ≤ x.toInt ∧ x.toInt ≤ 4) then v = -1 ∧ σ' = σ else (v = σ.1 29 (nn x) ∧ σ' = σ))) X) => ?_)
  change WS layC V 2 X σ 0 [(0, rf V 0), (1, .int x)] []
  refine WS.iload_n hx dX10_led_0 rfl 1 rfl ?_
  refine WS.iconst (v := 0) hx dX10_led_1 (by decide) ?_
  refine WS.iconst (v := 4) hx dX10_led_2 (by decide) ?_
  refine WS.callSi (st := []) [.int x, .int 0, .int 4] hx (c_X10_within V (d + 1) σ x 0 4) okX10_within lm10_80 rfl rfl (Nat.le_of_ble_eq_true rfl) dX10_led_3 (fun v1 σ2 h3 => ?_)
  rcases h3 with ⟨rfl, rfl, hb3⟩ | ⟨rfl, rfl, hb3⟩
  · skip
    show WS layC V 2 X σ 6 [(0, rf V 0), (1, .int x)] [.int 1]
    have hhi : 0 ≤ x.toInt ∧ x.toInt ≤ 4 := by simp only [i_le, tI_0, tI_4] at hb3; exact hb3
    refine WS.if_eq (tgt := 20) hx dX10_led_6 (by decide) (fun h => absurd h (by decide)) (fun _ => ?_)
    refine WS.aload_n hx dX10_led_9 rfl 0 rfl ?_
    refine WS.getR hx okX10 lf10_53 rfl rfl dX10_led_10 ?_
    refine WS.iload_n hx dX10_led_13 rfl 1 rfl ?_
    refine WS.as rfl rfl (congrArg (fun z => Value.int z :: _) (show x = nI (nn x) from (nI_nn hhi.1).symm)) ?_
    skip
    refine WS.callVi (st := []) [.int (nI (nn x))] hx (c_X3_tell V d σ (nn x) (by have h9 := nn_int hhi.1; omega)) okX3_tell lm10_258 rfl rfl rfl rfl (Nat.le_of_ble_eq_true rfl) dX10_led_14 (fun v4 σ5 h6 => ?_)
    obtain ⟨rfl, rfl⟩ := h6
    show WS layC V 2 X σ 17 [(0, rf V 0), (1, .int x)] [.int (σ.1 29 (nn x))]
    refine WS.goto (tgt := 21) hx dX10_led_17 (by decide) ?_
    exact WS.iret hx he dX10_led_21 ⟨_, rfl, by (try simp only [i_le, i_lt, i_eq, tI_m1, tI_0, tI_1, tI_4] at hb3); (repeat' split) <;> first | (exfalso; omega) | exact ⟨rfl, rfl⟩⟩
  · skip
    show WS layC V 2 X σ 6 [(0, rf V 0), (1, .int x)] [.int 0]
    refine WS.if_eq (tgt := 20) hx dX10_led_6 (by decide) (fun _ => ?_) (fun h => absurd (by decide) h)
    refine WS.iconst (v := (-1)) hx dX10_led_20 (by decide) ?_
    exact WS.iret hx he dX10_led_21 ⟨_, rfl, by (try simp only [i_le, i_lt, i_eq, tI_m1, tI_0, tI_1, tI_4] at hb3); (repeat' split) <;> first | (exfalso; omega) | exact ⟨rfl, rfl⟩⟩
set_option maxHeartbeats 1000000 in
theorem c_X10_image (V : Vt) (d : Nat) (σ : Sg) (n : Nat) (hQ : QI σ n) : CT layC V mX10_image (d + 2) [rf V 0] σ (Ri fun v σ' => (imgQ σ n).1 29 1 = v ∧ imgQ σ n = σ') := by
  refine CT.of (own := RX10) rfl (by decide) (Nat.le_of_ble_eq_true rfl) (fun X (hx : Ok V RX10 cX10_image 1 (d + 2) X) (he : En layC V (some .int) (Ri fun v σ' => (imgQ σ n).1 29 1 = v ∧ imgQ σ n = σ') X) => ?_)
  change WS layC V 1 X σ 0 [(0, rf V 0)] []
  refine WS.aload_n hx dX10_image_0 rfl 0 rfl ?_
  refine WS.getR hx okX10 lf10_53 rfl rfl dX10_image_1 ?_
  refine WS.callVv (st := []) [] hx (c_X3_keepImage V d σ n hQ) okX3_keepImage lm10_261 rfl rfl rfl rfl (Nat.le_of_ble_eq_true rfl) dX10_image_4 (fun σ2 h3 => ?_)
  obtain rfl := h3
  show WS layC V 1 X (imgQ σ n) 7 [(0, rf V 0)] []
  refine WS.aload_n hx dX10_image_7 rfl 0 rfl ?_
  refine WS.getR hx okX10 lf10_53 rfl rfl dX10_image_8 ?_
  refine WS.iconst (v := 1) hx dX10_image_11 (by decide) ?_
  refine WS.as rfl rfl (congrArg (fun z => Value.int z :: _) (show 1 = nI 1 from rfl)) ?_
  skip
  refine WS.callVi (st := []) [.int (nI 1)] hx (c_X3_tell V d (imgQ σ n) 1 (by decide)) okX3_tell lm10_258 rfl rfl rfl rfl (Nat.le_of_ble_eq_true rfl) dX10_image_12 (fun v4 σ5 h6 => ?_)
  obtain ⟨rfl, rfl⟩ := h6
  show WS layC V 1 X (imgQ σ n) 15 [(0, rf V 0)] [.int ((imgQ σ n).1 29 1)]
  exact WS.iret hx he dX10_image_15 ⟨_, rfl, rfl, rfl⟩
set_option maxHeartbeats 1000000 in
theorem c_X10_back (V : Vt) (d : Nat) (σ : Sg) (n : Nat) (hQ : QI σ n) (k : Bool) (hk : σ.1 7 7 = bI k) (i : Nat) (hi : k = true → i ≤ 10 ∧ σ.1 7 5 = nI i ∧ rg (σ.1 7 6) 99) : CT layC V mX10_back (d + 4) [rf V 0] σ (Ri fun v σ' => (if ¬ k = true then v = -5 ∧ σ' = σ else (v = (bckQ σ i).1 29 1 ∧ σ' = bckQ σ i))) := by
  refine CT.of (own := RX10) rfl (by decide) (Nat.le_of_ble_eq_true rfl) (fun X (hx : Ok V RX10 cX10_back 1 (d + 4) X) (he : En layC V (some .int) (Ri fun v σ' => (if ¬ k = true then v = -5 ∧ σ' = σ else (v = (bckQ σ i).1 29 1 ∧ σ' = bckQ σ i))) X) => ?_)
  change WS layC V 1 X σ 0 [(0, rf V 0)] []
  refine WS.aload_n hx dX10_back_0 rfl 0 rfl ?_
  refine WS.getR hx okX10 lf10_53 rfl rfl dX10_back_1 ?_
  refine WS.callVi (st := []) [] hx (c_X3_hasImage V (d + 3) σ k hk) okX3_hasImage lm10_264 rfl rfl rfl rfl (Nat.le_of_ble_eq_true rfl) dX10_back_4 (fun v1 σ2 h3 => ?_)
  rcases h3 with ⟨rfl, rfl, hb4⟩ | ⟨rfl, rfl, hb4⟩
  · skip
    show WS layC V 1 X σ 7 [(0, rf V 0)] [.int 1]
    refine WS.if_ne (tgt := 13) hx dX10_back_7 (by decide) (fun _ => ?_) (fun h => absurd h (by decide))
    refine WS.aload_n hx dX10_back_13 rfl 0 rfl ?_
    refine WS.getR hx okX10 lf10_53 rfl rfl dX10_back_14 ?_
    refine WS.callVv (st := []) [] hx (c_X3_layImageBack V d σ n hQ i (hi hb4).1 (hi hb4).2.1 (hi hb4).2.2) okX3_layImageBack lm10_267 rfl rfl rfl rfl (Nat.le_of_ble_eq_true rfl) dX10_back_17 (fun σ5 h6 => ?_)
    obtain rfl := h6
    show WS layC V 1 X (bckQ σ i) 20 [(0, rf V 0)] []
    refine WS.aload_n hx dX10_back_20 rfl 0 rfl ?_
    refine WS.getR hx okX10 lf10_53 rfl rfl dX10_back_21 ?_
    refine WS.iconst (v := 1) hx dX10_back_24 (by decide) ?_
    refine WS.as rfl rfl (congrArg (fun z => Value.int z :: _) (show 1 = nI 1 from rfl)) ?_
    skip
    refine WS.callVi (st := []) [.int (nI 1)] hx (c_X3_tell V (d + 2) (bckQ σ i) 1 (by decide)) okX3_tell lm10_258 rfl rfl rfl rfl (Nat.le_of_ble_eq_true rfl) dX10_back_25 (fun v7 σ8 h9 => ?_)
    obtain ⟨rfl, rfl⟩ := h9
    show WS layC V 1 X (bckQ σ i) 28 [(0, rf V 0)] [.int ((bckQ σ i).1 29 1)]
    exact WS.iret hx he dX10_back_28 ⟨_, rfl, by (try simp only [i_le, i_lt, i_eq, tI_m5, tI_0, tI_1] at hb4); (repeat' split) <;> first | (exfalso; omega) | exact ⟨rfl, rfl⟩ | contradiction⟩
  · skip
    show WS layC V 1 X σ 7 [(0, rf V 0)] [.int 0]
    refine WS.if_ne (tgt := 13) hx dX10_back_7 (by decide) (fun h => absurd (by decide) h) (fun _ => ?_)
    refine WS.bipush (v := (-5)) hx dX10_back_10 (by decide) ?_
    exact WS.iret hx he dX10_back_12 ⟨_, rfl, by (try simp only [i_le, i_lt, i_eq, tI_m5, tI_0, tI_1] at hb4); (repeat' split) <;> first | (exfalso; omega) | exact ⟨rfl, rfl⟩ | contradiction⟩
set_option maxHeartbeats 1000000 in
theorem c_X10_undo (V : Vt) (d : Nat) (σ : Sg) (n : Nat) (hQ : QI σ n) (dn u : Nat) (hdn : dn + u ≤ 40) (h5 : σ.1 8 5 = nI dn) (h6 : σ.1 8 6 = nI u) (hC : ∀ p, p < dn + u → hasC n (σ.1 32 p) (σ.1 33 p) ∧ isSoC (σ.1 33 p) (σ.1 34 p) ∧ isSoC (σ.1 33 p) (σ.1 35 p)) : CT layC V mX10_undo (d + 4) [rf V 0] σ (Ri fun v σ' => (if dn = 0 then v = -5 ∧ σ' = σ else (v = nI (dn - 1) ∧ σ' = undQ σ (dn - 1) u))) := by
  refine CT.of (own := RX10) rfl (by decide) (Nat.le_of_ble_eq_true rfl) (fun X (hx : Ok V RX10 cX10_undo 1 (d + 4) X) (he : En layC V (some .int) (Ri fun v σ' => (if dn = 0 then v = -5 ∧ σ' = σ else (v = nI (dn - 1) ∧ σ' = undQ σ (dn - 1) u))) X) => ?_)
  change WS layC V 1 X σ 0 [(0, rf V 0)] []
  have hdI : (nI dn).toInt = (dn : Int) := nI_c (by omega)
  have huI : (nI u).toInt = (u : Int) := nI_c (by omega)
  refine WS.aload_n hx dX10_undo_0 rfl 0 rfl ?_
  refine WS.getR hx okX10 lf10_62 rfl rfl dX10_undo_1 ?_
  refine WS.callVi (st := []) [] hx (c_X2_mayBeUndone V (d + 3) σ) okX2_mayBeUndone lm10_270 rfl rfl rfl rfl (Nat.le_of_ble_eq_true rfl) dX10_undo_4 (fun v1 σ2 h3 => ?_)
  obtain ⟨rfl, rfl⟩ := h3
  show WS layC V 1 X σ 7 [(0, rf V 0)] [.int (σ.1 8 5)]
  refine WS.as rfl rfl (congrArg (fun z => Value.int z :: _) (show σ.1 8 5 = nI dn from h5)) ?_
  skip
  refine WS.if_ne (tgt := 15) hx dX10_undo_7 (by decide) (fun c7 => ?_) (fun c7 => ?_)
  · skip
    show WS layC V 1 X σ 15 [(0, rf V 0)] []
    have hd1 : dn = dn - 1 + 1 := by (try simp only [i_le, i_lt, i_eq, tI_m5, tI_0, tI_1] at c7); omega
    refine WS.aload_n hx dX10_undo_15 rfl 0 rfl ?_
    refine WS.getR hx okX10 lf10_62 rfl rfl dX10_undo_16 ?_
    refine WS.callVi (st := []) [] hx (c_X2_undoLatest V d σ (dn - 1) u (by omega) (by rw [← hd1]; exact h5) h6 n hQ (hC _ (by omega)).1 (hC _ (by omega)).2.1) okX2_undoLatest lm10_273 rfl rfl rfl rfl (Nat.le_of_ble_eq_true rfl) dX10_undo_19 (fun v4 σ5 h6 => ?_)
    obtain ⟨rfl, rfl⟩ := h6
    show WS layC V 1 X (undQ σ (dn - 1) u) 22 [(0, rf V 0)] [.int (nI (dn - 1))]
    exact WS.iret hx he dX10_undo_22 ⟨_, rfl, by (try simp only [i_le, i_lt, i_eq, tI_m5, tI_0, tI_1] at c7); (repeat' split) <;> first | (exfalso; omega) | exact ⟨rfl, rfl⟩⟩
  · skip
    show WS layC V 1 X σ 10 [(0, rf V 0)] []
    refine WS.bipush (v := (-5)) hx dX10_undo_10 (by decide) ?_
    refine WS.goto (tgt := 22) hx dX10_undo_12 (by decide) ?_
    exact WS.iret hx he dX10_undo_22 ⟨_, rfl, by (try simp only [i_le, i_lt, i_eq, tI_m5, tI_0, tI_1] at c7); (repeat' split) <;> first | (exfalso; omega) | exact ⟨rfl, rfl⟩⟩
set_option maxHeartbeats 1000000 in
theorem c_X10_redo (V : Vt) (d : Nat) (σ : Sg) (n : Nat) (hQ : QI σ n) (dn u : Nat) (hdn : dn + u ≤ 40) (h5 : σ.1 8 5 = nI dn) (h6 : σ.1 8 6 = nI u) (hC : ∀ p, p < dn + u → hasC n (σ.1 32 p) (σ.1 33 p) ∧ isSoC (σ.1 33 p) (σ.1 34 p) ∧ isSoC (σ.1 33 p) (σ.1 35 p)) : CT layC V mX10_redo (d + 4) [rf V 0] σ (Ri fun v σ' => (if u = 0 then v = -5 ∧ σ' = σ else (v = nI (u - 1) ∧ σ' = rdoQ σ dn (u - 1)))) := by
  refine CT.of (own := RX10) rfl (by decide) (Nat.le_of_ble_eq_true rfl) (fun X (hx : Ok V RX10 cX10_redo 1 (d + 4) X) (he : En layC V (some .int) (Ri fun v σ' => (if u = 0 then v = -5 ∧ σ' = σ else (v = nI (u - 1) ∧ σ' = rdoQ σ dn (u - 1)))) X) => ?_)
  change WS layC V 1 X σ 0 [(0, rf V 0)] []
  have hdI : (nI dn).toInt = (dn : Int) := nI_c (by omega)
  have huI : (nI u).toInt = (u : Int) := nI_c (by omega)
  refine WS.aload_n hx dX10_redo_0 rfl 0 rfl ?_
  refine WS.getR hx okX10 lf10_62 rfl rfl dX10_redo_1 ?_
  refine WS.callVi (st := []) [] hx (c_X2_mayBeRedone V (d + 3) σ) okX2_mayBeRedone lm10_276 rfl rfl rfl rfl (Nat.le_of_ble_eq_true rfl) dX10_redo_4 (fun v1 σ2 h3 => ?_)
  obtain ⟨rfl, rfl⟩ := h3
  show WS layC V 1 X σ 7 [(0, rf V 0)] [.int (σ.1 8 6)]
  refine WS.as rfl rfl (congrArg (fun z => Value.int z :: _) (show σ.1 8 6 = nI u from h6)) ?_
  skip
  refine WS.if_ne (tgt := 15) hx dX10_redo_7 (by decide) (fun c7 => ?_) (fun c7 => ?_)
  · skip
    show WS layC V 1 X σ 15 [(0, rf V 0)] []
    have hd1 : u = u - 1 + 1 := by (try simp only [i_le, i_lt, i_eq, tI_m5, tI_0, tI_1] at c7); omega
    refine WS.aload_n hx dX10_redo_15 rfl 0 rfl ?_
    refine WS.getR hx okX10 lf10_62 rfl rfl dX10_redo_16 ?_
    refine WS.callVi (st := []) [] hx (c_X2_redoNext V d σ dn (u - 1) (by omega) (by omega) h5 (by rw [← hd1]; exact h6) n hQ (hC _ (by omega)).1 (hC _ (by omega)).2.2) okX2_redoNext lm10_279 rfl rfl rfl rfl (Nat.le_of_ble_eq_true rfl) dX10_redo_19 (fun v4 σ5 h6 => ?_)
    obtain ⟨rfl, rfl⟩ := h6
    show WS layC V 1 X (rdoQ σ dn (u - 1)) 22 [(0, rf V 0)] [.int (nI (u - 1))]
    exact WS.iret hx he dX10_redo_22 ⟨_, rfl, by (try simp only [i_le, i_lt, i_eq, tI_m5, tI_0, tI_1] at c7); (repeat' split) <;> first | (exfalso; omega) | exact ⟨rfl, rfl⟩⟩
  · skip
    show WS layC V 1 X σ 10 [(0, rf V 0)] []
    refine WS.bipush (v := (-5)) hx dX10_redo_10 (by decide) ?_
    refine WS.goto (tgt := 22) hx dX10_redo_12 (by decide) ?_
    exact WS.iret hx he dX10_redo_22 ⟨_, rfl, by (try simp only [i_le, i_lt, i_eq, tI_m5, tI_0, tI_1] at c7); (repeat' split) <;> first | (exfalso; omega) | exact ⟨rfl, rfl⟩⟩

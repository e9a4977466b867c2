theorem lay_sh {s : Nat} (h : s < 6) : layC[52 + s]? = some (.inl (8, [some (some (58 + s)), none, none, none, none])) := by
  have : s = 0 ∨ s = 1 ∨ s = 2 ∨ s = 3 ∨ s = 4 ∨ s = 5 := by omega
  rcases this with rfl | rfl | rfl | rfl | rfl | rfl <;> rfl
theorem lay_el {s : Nat} (h : s < 6) : layC[58 + s]? = some (.inr (.inl (1, 60))) := by
  have : s = 0 ∨ s = 1 ∨ s = 2 ∨ s = 3 ∨ s = 4 ∨ s = 5 := by omega
  rcases this with rfl | rfl | rfl | rfl | rfl | rfl <;> rfl
set_option maxHeartbeats 1000000 in
theorem c_X8_isBare (V : Vt) (d : Nat) (σ : Sg) (s : Nat) (hsh : s < 6) : CT layC V mX8_isBare (d) [rf V (52 + s)] σ (Rb (σ.1 (52 + s) 1 = 0) σ) := by
  refine CT.of (own := RX8) rfl (by decide) (Nat.le_of_ble_eq_true rfl) (fun X (hx : Ok V RX8 cX8_isBare 1 (d) X) (he : En layC V (some .boolean) (Rb (σ.1 (52 + s) 1 = 0) σ) X) => ?_)
  change WS layC V 1 X σ 0 [(0, rf V (52 + s))] []
  refine WS.aload_n hx dX8_isBare_0 rfl 0 rfl ?_
  refine WS.getI hx okX8 lf8_19 (lay_sh hsh) rfl dX8_isBare_1 ?_
  refine WS.if_ne (tgt := 11) hx dX8_isBare_4 (by decide) (fun c4 => ?_) (fun c4 => ?_)
  · skip
    show WS layC V 1 X σ 11 [(0, rf V (52 + s))] []
    refine WS.iconst (v := 0) hx dX8_isBare_11 (by decide) ?_
    exact WS.zret hx he dX8_isBare_12 (Or.inl rfl) (Rb.f (by first | assumption | exact fun h => absurd h.1 ‹_› | exact fun h => absurd h.2 ‹_›))
  · skip
    show WS layC V 1 X σ 7 [(0, rf V (52 + s))] []
    refine WS.iconst (v := 1) hx dX8_isBare_7 (by decide) ?_
    refine WS.goto (tgt := 12) hx dX8_isBare_8 (by decide) ?_
    exact WS.zret hx he dX8_isBare_12 (Or.inr rfl) (Rb.t (by first | assumption | exact ⟨by assumption, by assumption⟩))
set_option maxHeartbeats 1000000 in
theorem c_X8_isRow (V : Vt) (d : Nat) (σ : Sg) (s : Nat) (hsh : s < 6) : CT layC V mX8_isRow (d) [rf V (52 + s)] σ (Rb (σ.1 (52 + s) 1 = 2) σ) := by
  refine CT.of (own := RX8) rfl (by decide) (Nat.le_of_ble_eq_true rfl) (fun X (hx : Ok V RX8 cX8_isRow 1 (d) X) (he : En layC V (some .boolean) (Rb (σ.1 (52 + s) 1 = 2) σ) X) => ?_)
  change WS layC V 1 X σ 0 [(0, rf V (52 + s))] []
  refine WS.aload_n hx dX8_isRow_0 rfl 0 rfl ?_
  refine WS.getI hx okX8 lf8_19 (lay_sh hsh) rfl dX8_isRow_1 ?_
  refine WS.iconst (v := 2) hx dX8_isRow_4 (by decide) ?_
  refine WS.icmp_ne (tgt := 12) hx dX8_isRow_5 (by decide) (fun c5 => ?_) (fun c5 => ?_)
  · skip
    show WS layC V 1 X σ 12 [(0, rf V (52 + s))] []
    refine WS.iconst (v := 0) hx dX8_isRow_12 (by decide) ?_
    exact WS.zret hx he dX8_isRow_13 (Or.inl rfl) (Rb.f (by first | assumption | exact fun h => absurd h.1 ‹_› | exact fun h => absurd h.2 ‹_›))
  · skip
    show WS layC V 1 X σ 8 [(0, rf V (52 + s))] []
    refine WS.iconst (v := 1) hx dX8_isRow_8 (by decide) ?_
    refine WS.goto (tgt := 13) hx dX8_isRow_9 (by decide) ?_
    exact WS.zret hx he dX8_isRow_13 (Or.inr rfl) (Rb.t (by first | assumption | exact ⟨by assumption, by assumption⟩))
set_option maxHeartbeats 1000000 in
theorem c_X8_isRowOfBytes (V : Vt) (d : Nat) (σ : Sg) (s : Nat) (hsh : s < 6) : CT layC V mX8_isRowOfBytes (d) [rf V (52 + s)] σ (Rb (σ.1 (52 + s) 1 = 2 ∧ σ.1 (52 + s) 3 = 0) σ) := by
  refine CT.of (own := RX8) rfl (by decide) (Nat.le_of_ble_eq_true rfl) (fun X (hx : Ok V RX8 cX8_isRowOfBytes 1 (d) X) (he : En layC V (some .boolean) (Rb (σ.1 (52 + s) 1 = 2 ∧ σ.1 (52 + s) 3 = 0) σ) X) => ?_)
  change WS layC V 1 X σ 0 [(0, rf V (52 + s))] []
  refine WS.aload_n hx dX8_isRowOfBytes_0 rfl 0 rfl ?_
  refine WS.getI hx okX8 lf8_19 (lay_sh hsh) rfl dX8_isRowOfBytes_1 ?_
  refine WS.iconst (v := 2) hx dX8_isRowOfBytes_4 (by decide) ?_
  refine WS.icmp_ne (tgt := 19) hx dX8_isRowOfBytes_5 (by decide) (fun c5 => ?_) (fun c5 => ?_)
  · skip
    show WS layC V 1 X σ 19 [(0, rf V (52 + s))] []
    refine WS.iconst (v := 0) hx dX8_isRowOfBytes_19 (by decide) ?_
    exact WS.zret hx he dX8_isRowOfBytes_20 (Or.inl rfl) (Rb.f (by first | assumption | exact fun h => absurd h.1 ‹_› | exact fun h => absurd h.2 ‹_›))
  · skip
    show WS layC V 1 X σ 8 [(0, rf V (52 + s))] []
    refine WS.aload_n hx dX8_isRowOfBytes_8 rfl 0 rfl ?_
    refine WS.getI hx okX8 lf8_23 (lay_sh hsh) rfl dX8_isRowOfBytes_9 ?_
    refine WS.if_ne (tgt := 19) hx dX8_isRowOfBytes_12 (by decide) (fun c12 => ?_) (fun c12 => ?_)
    · skip
      show WS layC V 1 X σ 19 [(0, rf V (52 + s))] []
      refine WS.iconst (v := 0) hx dX8_isRowOfBytes_19 (by decide) ?_
      exact WS.zret hx he dX8_isRowOfBytes_20 (Or.inl rfl) (Rb.f (by first | assumption | exact fun h => absurd h.1 ‹_› | exact fun h => absurd h.2 ‹_›))
    · skip
      show WS layC V 1 X σ 15 [(0, rf V (52 + s))] []
      refine WS.iconst (v := 1) hx dX8_isRowOfBytes_15 (by decide) ?_
      refine WS.goto (tgt := 20) hx dX8_isRowOfBytes_16 (by decide) ?_
      exact WS.zret hx he dX8_isRowOfBytes_20 (Or.inr rfl) (Rb.t (by first | assumption | exact ⟨by assumption, by assumption⟩))
set_option maxHeartbeats 1000000 in
theorem c_X8_sort (V : Vt) (d : Nat) (σ : Sg) (s : Nat) (hsh : s < 6) : CT layC V mX8_sort (d) [rf V (52 + s)] σ (Ro (σ.1 (52 + s) 3) σ) := by
  refine CT.of (own := RX8) rfl (by decide) (Nat.le_of_ble_eq_true rfl) (fun X (hx : Ok V RX8 cX8_sort 1 (d) X) (he : En layC V (some .int) (Ro (σ.1 (52 + s) 3) σ) X) => ?_)
  change WS layC V 1 X σ 0 [(0, rf V (52 + s))] []
  refine WS.aload_n hx dX8_sort_0 rfl 0 rfl ?_
  refine WS.getI hx okX8 lf8_23 (lay_sh hsh) rfl dX8_sort_1 ?_
  exact WS.iret hx he dX8_sort_4 (Ro.i rfl)
set_option maxHeartbeats 1000000 in
theorem c_X8_size (V : Vt) (d : Nat) (σ : Sg) (s : Nat) (hsh : s < 6) : CT layC V mX8_size (d) [rf V (52 + s)] σ (Ro (σ.1 (52 + s) 4) σ) := by
  refine CT.of (own := RX8) rfl (by decide) (Nat.le_of_ble_eq_true rfl) (fun X (hx : Ok V RX8 cX8_size 1 (d) X) (he : En layC V (some .int) (Ro (σ.1 (52 + s) 4) σ) X) => ?_)
  change WS layC V 1 X σ 0 [(0, rf V (52 + s))] []
  refine WS.aload_n hx dX8_size_0 rfl 0 rfl ?_
  refine WS.getI hx okX8 lf8_26 (lay_sh hsh) rfl dX8_size_1 ?_
  exact WS.iret hx he dX8_size_4 (Ro.i rfl)
set_option maxHeartbeats 1000000 in
theorem c_X8_toad (V : Vt) (d : Nat) (σ : Sg) (s : Nat) (hsh : s < 6) : CT layC V mX8_toad (d) [rf V (52 + s)] σ (Ro (σ.1 (52 + s) 2) σ) := by
  refine CT.of (own := RX8) rfl (by decide) (Nat.le_of_ble_eq_true rfl) (fun X (hx : Ok V RX8 cX8_toad 1 (d) X) (he : En layC V (some .int) (Ro (σ.1 (52 + s) 2) σ) X) => ?_)
  change WS layC V 1 X σ 0 [(0, rf V (52 + s))] []
  refine WS.aload_n hx dX8_toad_0 rfl 0 rfl ?_
  refine WS.getI hx okX8 lf8_29 (lay_sh hsh) rfl dX8_toad_1 ?_
  exact WS.iret hx he dX8_toad_4 (Ro.i rfl)
set_option maxHeartbeats 1000000 in
theorem c_X8_clear (V : Vt) (d : Nat) (σ : Sg) (s : Nat) (hsh : s < 6) : CT layC V mX8_clear (d) [rf V (52 + s)] σ (Rvo (stI σ (52 + s) 1 0)) := by
  refine CT.of (own := RX8) rfl (by decide) (Nat.le_of_ble_eq_true rfl) (fun X (hx : Ok V RX8 cX8_clear 1 (d) X) (he : En layC V none (Rvo (stI σ (52 + s) 1 0)) X) => ?_)
  change WS layC V 1 X σ 0 [(0, rf V (52 + s))] []
  refine WS.aload_n hx dX8_clear_0 rfl 0 rfl ?_
  refine WS.iconst (v := 0) hx dX8_clear_1 (by decide) ?_
  refine WS.putI hx okX8 lf8_19 (lay_sh hsh) rfl rfl rfl dX8_clear_2 ?_
  exact WS.vret hx he dX8_clear_5 Rvo.i
set_option maxHeartbeats 1000000 in
theorem c_X8_holdToad (V : Vt) (d : Nat) (σ : Sg) (s : Nat) (hsh : s < 6) (t : Int32) : CT layC V mX8_holdToad (d) [rf V (52 + s), .int t] σ (Rvo (stI (stI σ (52 + s) 1 1) (52 + s) 2 t)) := by
  refine CT.of (own := RX8) rfl (by decide) (Nat.le_of_ble_eq_true rfl) (fun X (hx : Ok V RX8 cX8_holdToad 2 (d) X) (he : En layC V none (Rvo (stI (stI σ (52 + s) 1 1) (52 + s) 2 t)) X) => ?_)
  change WS layC V 2 X σ 0 [(0, rf V (52 + s)), (1, .int t)] []
  refine WS.aload_n hx dX8_holdToad_0 rfl 0 rfl ?_
  refine WS.iconst (v := 1) hx dX8_holdToad_1 (by decide) ?_
  refine WS.putI hx okX8 lf8_19 (lay_sh hsh) rfl rfl rfl dX8_holdToad_2 ?_
  refine WS.aload_n hx dX8_holdToad_5 rfl 0 rfl ?_
  refine WS.iload_n hx dX8_holdToad_6 rfl 1 rfl ?_
  refine WS.putI hx okX8 lf8_29 (lay_sh hsh) rfl rfl rfl dX8_holdToad_7 ?_
  exact WS.vret hx he dX8_holdToad_10 Rvo.i
set_option maxHeartbeats 1000000 in
theorem c_X8_isSort (V : Vt) (d : Nat) (σ : Sg) (a : Int32) : CT layC V mX8_isSort (d + 1) [.int a] σ (Rb (0 ≤ a.toInt ∧ a.toInt ≤ 4) σ) := by
  refine CT.of (own := RX8) rfl (by decide) (Nat.le_of_ble_eq_true rfl) (fun X (hx : Ok V RX8 cX8_isSort 1 (d + 1) X) (he : En layC V (some .boolean) (Rb (0 ≤ a.toInt ∧ a.toInt ≤ 4) σ) X) => ?_)
  change WS layC V 1 X σ 0 [(0, .int a)] []
  refine WS.iload_n hx dX8_isSort_0 rfl 0 rfl ?_
  refine WS.iconst (v := 0) hx dX8_isSort_1 (by decide) ?_
  refine WS.iconst (v := 4) hx dX8_isSort_2 (by decide) ?_
  refine WS.callNi (st := []) [.int a, .int 0, .int 4] hx (c_X10_within V d σ a 0 4) okX10_within (by decide) rfl rfl rfl (Nat.le_of_ble_eq_true rfl) dX8_isSort_3 (fun v1 σ2 h3 => ?_)
  rcases h3 with ⟨rfl, rfl, hb3⟩ | ⟨rfl, rfl, hb3⟩
  · skip
    show WS layC V 1 X σ 6 [(0, .int a)] [.int 1]
    exact WS.zret hx he dX8_isSort_6 (Or.inr rfl) (Rb.t (by (try simp only [i_le, i_lt, i_eq, tI_0, tI_1, tI_4] at hb3); (try simp only [i_le, i_lt, i_eq, tI_0, tI_1, tI_4]); omega))
  · skip
    show WS layC V 1 X σ 6 [(0, .int a)] [.int 0]
    exact WS.zret hx he dX8_isSort_6 (Or.inl rfl) (Rb.f (by (try simp only [i_le, i_lt, i_eq, tI_0, tI_1, tI_4] at hb3); (try simp only [i_le, i_lt, i_eq, tI_0, tI_1, tI_4]); omega))
def rowQ (σ : Sg) (s : Nat) (q : Int32) (n : Nat) : Sg := stRL (stI (stI (stI σ (52 + s) 1 2) (52 + s) 3 q) (52 + s) 4 (nI n)) (58 + s) (fillF 60 0 (σ.2.1 (58 + s)))
theorem mx_mn {n m : Nat} (h : n ≤ m) (hm : m ≤ 2147483647) : mx 0 (mn (nI n) (nI m)) = nI n := by
  have h1 : (nI n).toInt = (n : Int) := nI_c (by omega)
  have h2 : (nI m).toInt = (m : Int) := nI_c (by omega)
  have e1 : mn (nI n) (nI m) = nI n := if_neg (by rw [i_lt]; omega)
  rw [e1]
  unfold mx
  by_cases h0 : (0 : Int32) < nI n
  · exact if_pos h0
  · rw [if_neg h0, i_eq]
    rw [i_lt, tI_0] at h0
    rw [tI_0]; omega
set_option maxHeartbeats 1000000 in
theorem c_X8_holdRow (V : Vt) (d : Nat) (σ : Sg) (s : Nat) (hsh : s < 6) (q : Int32) (n : Nat) (hn : n ≤ 60) : CT layC V mX8_holdRow (d + 1) [rf V (52 + s), .int q, .int (nI n)] σ (Rvo (rowQ σ s q n)) := by
  refine CT.of (own := RX8) rfl (by decide) (Nat.le_of_ble_eq_true rfl) (fun X (hx : Ok V RX8 cX8_holdRow 3 (d + 1) X) (he : En layC V none (Rvo (rowQ σ s q n)) X) => ?_)
  change WS layC V 3 X σ 0 [(0, rf V (52 + s)), (1, .int q), (2, .int (nI n))] []
  refine WS.aload_n hx dX8_holdRow_0 rfl 0 rfl ?_
  refine WS.iconst (v := 2) hx dX8_holdRow_1 (by decide) ?_
  refine WS.putI hx okX8 lf8_19 (lay_sh hsh) rfl rfl rfl dX8_holdRow_2 ?_
  refine WS.aload_n hx dX8_holdRow_5 rfl 0 rfl ?_
  refine WS.iload_n hx dX8_holdRow_6 rfl 1 rfl ?_
  refine WS.putI hx okX8 lf8_23 (lay_sh hsh) rfl rfl rfl dX8_holdRow_7 ?_
  refine WS.aload_n hx dX8_holdRow_10 rfl 0 rfl ?_
  refine WS.iconst (v := 0) hx dX8_holdRow_11 (by decide) ?_
  refine WS.iload_n hx dX8_holdRow_12 rfl 2 rfl ?_
  refine WS.bipush (v := 60) hx dX8_holdRow_13 (by decide) ?_
  refine WS.mmin hx lm8_32 (Nat.le_of_ble_eq_true rfl) dX8_holdRow_15 ?_
  refine WS.mmax hx lm8_38 (Nat.le_of_ble_eq_true rfl) dX8_holdRow_18 ?_
  refine WS.as rfl rfl (congrArg (fun z => Value.int z :: _) (show mx 0 (mn (nI n) 60) = nI n from mx_mn hn (by decide))) ?_
  skip
  refine WS.putI hx okX8 lf8_26 (lay_sh hsh) rfl rfl rfl dX8_holdRow_21 ?_
  refine WS.aload_n hx dX8_holdRow_24 rfl 0 rfl ?_
  refine WS.getR hx okX8 lf8_9 (lay_sh hsh) rfl dX8_holdRow_25 ?_
  refine WS.lconst (v := 0) hx dX8_holdRow_28 rfl ?_
  refine WS.callSv (st := []) [rf V (58 + s), .long 0] hx (c_J_fillL V d (stI (stI (stI σ (52 + s) 1 2) (52 + s) 3 q) (52 + s) 4 (nI n)) (58 + s) 0 60 (by decide) (lay_el hsh)) okJ_fillL lm8_41 rfl rfl (Nat.le_of_ble_eq_true rfl) dX8_holdRow_29 (fun σ2 h3 => ?_)
  obtain rfl := h3
  show WS layC V 3 X (stRL (stI (stI (stI σ (52 + s) 1 2) (52 + s) 3 q) (52 + s) 4 (nI n)) (58 + s) (fillF 60 0 ((stI (stI (stI σ (52 + s) 1 2) (52 + s) 3 q) (52 + s) 4 (nI n)).2.1 (58 + s)))) 32 [(0, rf V (52 + s)), (1, .int q), (2, .int (nI n))] []
  exact WS.vret hx he dX8_holdRow_32 (Rvo.s rfl)
set_option maxHeartbeats 1000000 in
theorem c_X8_at (V : Vt) (d : Nat) (σ : Sg) (s : Nat) (hsh : s < 6) (z : Nat) (hz : σ.1 (52 + s) 4 = nI z) (hz2 : z ≤ 60) (i : Nat) (hi : i < z) : CT layC V mX8_at (d + 1) [rf V (52 + s), .int (nI i)] σ (Rol (σ.2.1 (58 + s) i) σ) := by
  refine CT.of (own := RX8) rfl (by decide) (Nat.le_of_ble_eq_true rfl) (fun X (hx : Ok V RX8 cX8_at 2 (d + 1) X) (he : En layC V (some .long) (Rol (σ.2.1 (58 + s) i) σ) X) => ?_)
  change WS layC V 2 X σ 0 [(0, rf V (52 + s)), (1, .int (nI i))] []
  have hzI : (nI z).toInt = (z : Int) := nI_c (by omega)
  have e1 : (nI z - 1).toInt = (z : Int) - 1 := by rw [i_sub (by rw [hzI, tI_1]; omega) (by rw [hzI, tI_1]; omega), hzI, tI_1]
  have hiI : (nI i).toInt = (i : Int) := nI_c (by omega)
  refine WS.iload_n hx dX8_at_0 rfl 1 rfl ?_
  refine WS.iconst (v := 0) hx dX8_at_1 (by decide) ?_
  refine WS.aload_n hx dX8_at_2 rfl 0 rfl ?_
  refine WS.getI hx okX8 lf8_26 (lay_sh hsh) rfl dX8_at_3 ?_
  refine WS.as rfl rfl (congrArg (fun z => Value.int z :: _) (show σ.1 (52 + s) 4 = nI z from hz)) ?_
  skip
  refine WS.iconst (v := 1) hx dX8_at_6 (by decide) ?_
  refine WS.isub hx dX8_at_7 ?_
  refine WS.callNi (st := []) [.int (nI i), .int 0, .int ((nI z) - 1)] hx (c_X10_within V d σ (nI i) 0 ((nI z) - 1)) okX10_within (by decide) rfl rfl rfl (Nat.le_of_ble_eq_true rfl) dX8_at_8 (fun v1 σ2 h3 => ?_)
  rcases h3 with ⟨rfl, rfl, hb8⟩ | ⟨rfl, rfl, hb8⟩
  · skip
    show WS layC V 2 X σ 11 [(0, rf V (52 + s)), (1, .int (nI i))] [.int 1]
    refine WS.if_eq (tgt := 23) hx dX8_at_11 (by decide) (fun h => absurd h (by decide)) (fun _ => ?_)
    refine WS.aload_n hx dX8_at_14 rfl 0 rfl ?_
    refine WS.getR hx okX8 lf8_9 (lay_sh hsh) rfl dX8_at_15 ?_
    refine WS.iload_n hx dX8_at_18 rfl 1 rfl ?_
    refine WS.lald hx (lay_el hsh) (vp_in_nI (by omega) (by decide)) dX8_at_19 ?_
    refine WS.as rfl rfl (congrArg (fun z => Value.long z :: _) (show σ.2.1 (58 + s) (nn (nI i)) = σ.2.1 (58 + s) i from by rw [nn_nI (by omega)])) ?_
    skip
    refine WS.goto (tgt := 24) hx dX8_at_20 (by decide) ?_
    exact WS.lret hx he dX8_at_24 (Rol.i rfl)
  · skip
    show WS layC V 2 X σ 11 [(0, rf V (52 + s)), (1, .int (nI i))] [.int 0]
    refine WS.if_eq (tgt := 23) hx dX8_at_11 (by decide) (fun _ => ?_) (fun h => absurd (by decide) h)
    refine WS.lconst (v := 0) hx dX8_at_23 rfl ?_
    exact WS.lret hx he dX8_at_24 (by exfalso; (try simp only [i_le, i_lt, i_eq, tI_0, tI_1] at hb8); (try simp only [i_le, i_lt, i_eq, tI_0, tI_1]); omega)
def cutV (q : Int32) (v : Int64) : Int64 := if q = 0 then ((Int64.toInt32 v).toInt8.toInt32).toInt64 else if q = 1 then ((Int64.toInt32 v).toInt16.toInt32).toInt64 else if q = 2 then (Int64.toInt32 v).toInt64 else if q = 3 then v else if v = 0 then 0 else 1
theorem lcmp_eq {x y : Int64} : lg_cmp x y = 0 ↔ x = y := lg_cmp_eq x y
set_option maxHeartbeats 1000000 in
theorem c_X8_cut (V : Vt) (d : Nat) (σ : Sg) (s : Nat) (hsh : s < 6) (v : Int64) : CT layC V mX8_cut (d) [rf V (52 + s), .long v] σ (Rol (cutV (σ.1 (52 + s) 3) v) σ) := by
  refine CT.of (own := RX8) rfl (by decide) (Nat.le_of_ble_eq_true rfl) (fun X (hx : Ok V RX8 cX8_cut 3 (d) X) (he : En layC V (some .long) (Rol (cutV (σ.1 (52 + s) 3) v) σ) X) => ?_)
  change WS layC V 3 X σ 0 [(0, rf V (52 + s)), (1, .long v)] []
  refine WS.aload_n hx dX8_cut_0 rfl 0 rfl ?_
  refine WS.getI hx okX8 lf8_23 (lay_sh hsh) rfl dX8_cut_1 ?_
  refine WS.topi (fun q eq => ?_)
  by_cases s4_0 : q = 0
  · refine WS.tableIn (off := 32) (tgt := 36) hx dX8_cut_4 (by rw [s4_0]; decide) (by rw [s4_0]; decide) (by rw [s4_0]; decide) (by decide) ?_
    show WS layC V 3 X σ 36 [(0, rf V (52 + s)), (1, .long v)] []
    refine WS.lload_n hx dX8_cut_36 rfl 1 rfl ?_
    refine WS.l2i hx dX8_cut_37 ?_
    refine WS.i2b hx dX8_cut_38 ?_
    refine WS.i2l hx dX8_cut_39 ?_
    exact WS.lret hx he dX8_cut_40 (Rol.i (by rw [← eq]; unfold cutV; first | (rw [if_pos ‹_›]; done) | (rw [if_neg ‹_›, if_pos ‹_›]; done) | (simp_all [lcmp_eq]; done) | (split <;> simp_all [lcmp_eq])))
  by_cases s4_1 : q = 1
  · refine WS.tableIn (off := 37) (tgt := 41) hx dX8_cut_4 (by rw [s4_1]; decide) (by rw [s4_1]; decide) (by rw [s4_1]; decide) (by decide) ?_
    show WS layC V 3 X σ 41 [(0, rf V (52 + s)), (1, .long v)] []
    refine WS.lload_n hx dX8_cut_41 rfl 1 rfl ?_
    refine WS.l2i hx dX8_cut_42 ?_
    refine WS.i2s hx dX8_cut_43 ?_
    refine WS.i2l hx dX8_cut_44 ?_
    exact WS.lret hx he dX8_cut_45 (Rol.i (by rw [← eq]; unfold cutV; first | (rw [if_pos ‹_›]; done) | (rw [if_neg ‹_›, if_pos ‹_›]; done) | (simp_all [lcmp_eq]; done) | (split <;> simp_all [lcmp_eq])))
  by_cases s4_2 : q = 2
  · refine WS.tableIn (off := 42) (tgt := 46) hx dX8_cut_4 (by rw [s4_2]; decide) (by rw [s4_2]; decide) (by rw [s4_2]; decide) (by decide) ?_
    show WS layC V 3 X σ 46 [(0, rf V (52 + s)), (1, .long v)] []
    refine WS.lload_n hx dX8_cut_46 rfl 1 rfl ?_
    refine WS.l2i hx dX8_cut_47 ?_
    refine WS.i2l hx dX8_cut_48 ?_
    exact WS.lret hx he dX8_cut_49 (Rol.i (by rw [← eq]; unfold cutV; first | (rw [if_pos ‹_›]; done) | (rw [if_neg ‹_›, if_pos ‹_›]; done) | (simp_all [lcmp_eq]; done) | (split <;> simp_all [lcmp_eq])))
  by_cases s4_3 : q = 3
  · refine WS.tableIn (off := 46) (tgt := 50) hx dX8_cut_4 (by rw [s4_3]; decide) (by rw [s4_3]; decide) (by rw [s4_3]; decide) (by decide) ?_
    show WS layC V 3 X σ 50 [(0, rf V (52 + s)), (1, .long v)] []
    refine WS.lload_n hx dX8_cut_50 rfl 1 rfl ?_
    exact WS.lret hx he dX8_cut_51 (Rol.i (by rw [← eq]; unfold cutV; first | (rw [if_pos ‹_›]; done) | (rw [if_neg ‹_›, if_pos ‹_›]; done) | (simp_all [lcmp_eq]; done) | (split <;> simp_all [lcmp_eq])))
  refine WS.tableOut (tgt := 52) hx dX8_cut_4 (sw_out q 0 3 (by simp only [i_eq, tI_0, tI_1, tI_2, tI_3] at *; omega)) (by decide) ?_
  show WS layC V 3 X σ 52 [(0, rf V (52 + s)), (1, .long v)] []
  refine WS.lload_n hx dX8_cut_52 rfl 1 rfl ?_
  refine WS.lconst (v := 0) hx dX8_cut_53 rfl ?_
  refine WS.lcmp hx dX8_cut_54 ?_
  refine WS.if_eq (tgt := 62) hx dX8_cut_55 (by decide) (fun c55 => ?_) (fun c55 => ?_)
  · skip
    show WS layC V 3 X σ 62 [(0, rf V (52 + s)), (1, .long v)] []
    refine WS.lconst (v := 0) hx dX8_cut_62 rfl ?_
    exact WS.lret hx he dX8_cut_63 (Rol.i (by rw [← eq]; unfold cutV; first | (rw [if_pos ‹_›]; done) | (rw [if_neg ‹_›, if_pos ‹_›]; done) | (simp_all [lcmp_eq]; done) | (split <;> simp_all [lcmp_eq])))
  · skip
    show WS layC V 3 X σ 58 [(0, rf V (52 + s)), (1, .long v)] []
    refine WS.lconst (v := 1) hx dX8_cut_58 rfl ?_
    refine WS.goto (tgt := 63) hx dX8_cut_59 (by decide) ?_
    exact WS.lret hx he dX8_cut_63 (Rol.i (by rw [← eq]; unfold cutV; first | (rw [if_pos ‹_›]; done) | (rw [if_neg ‹_›, if_pos ‹_›]; done) | (simp_all [lcmp_eq]; done) | (split <;> simp_all [lcmp_eq])))

set_option maxHeartbeats 1000000 in
theorem c_X8_set (V : Vt) (d : Nat) (σ : Sg) (s : Nat) (hsh : s < 6) (z : Nat) (hz : σ.1 (52 + s) 4 = nI z) (hz2 : z ≤ 60) (i : Nat) (hi : i < z) (v : Int64) : CT layC V mX8_set (d + 1) [rf V (52 + s), .int (nI i), .long v] σ (Rvo (stL σ (58 + s) i (cutV (σ.1 (52 + s) 3) v))) := by
  refine CT.of (own := RX8) rfl (by decide) (Nat.le_of_ble_eq_true rfl) (fun X (hx : Ok V RX8 cX8_set 4 (d + 1) X) (he : En layC V none (Rvo (stL σ (58 + s) i (cutV (σ.1 (52 + s) 3) v))) X) => ?_)
  change WS layC V 4 X σ 0 [(0, rf V (52 + s)), (1, .int (nI i)), (2, .long v)] []
  have hzI : (nI z).toInt = (z : Int) := nI_c (by omega)
  have e1 : (nI z - 1).toInt = (z : Int) - 1 := by rw [i_sub (by rw [hzI, tI_1]; omega) (by rw [hzI, tI_1]; omega), hzI, tI_1]
  have hiI : (nI i).toInt = (i : Int) := nI_c (by omega)
  refine WS.iload_n hx dX8_set_0 rfl 1 rfl ?_
  refine WS.iconst (v := 0) hx dX8_set_1 (by decide) ?_
  refine WS.aload_n hx dX8_set_2 rfl 0 rfl ?_
  refine WS.getI hx okX8 lf8_26 (lay_sh hsh) rfl dX8_set_3 ?_
  refine WS.as rfl rfl (congrArg (fun z => Value.int z :: _) (show σ.1 (52 + s) 4 = nI z from hz)) ?_
  skip
  refine WS.iconst (v := 1) hx dX8_set_6 (by decide) ?_
  refine WS.isub hx dX8_set_7 ?_
  refine WS.callNi (st := []) [.int (nI i), .int 0, .int ((nI z) - 1)] hx (c_X10_within V d σ (nI i) 0 ((nI z) - 1)) okX10_within (by decide) rfl rfl rfl (Nat.le_of_ble_eq_true rfl) dX8_set_8 (fun v1 σ2 h3 => ?_)
  rcases h3 with ⟨rfl, rfl, hb8⟩ | ⟨rfl, rfl, hb8⟩
  · skip
    show WS layC V 4 X σ 11 [(0, rf V (52 + s)), (1, .int (nI i)), (2, .long v)] [.int 1]
    refine WS.if_eq (tgt := 25) hx dX8_set_11 (by decide) (fun h => absurd h (by decide)) (fun _ => ?_)
    refine WS.aload_n hx dX8_set_14 rfl 0 rfl ?_
    refine WS.getR hx okX8 lf8_9 (lay_sh hsh) rfl dX8_set_15 ?_
    refine WS.iload_n hx dX8_set_18 rfl 1 rfl ?_
    refine WS.aload_n hx dX8_set_19 rfl 0 rfl ?_
    refine WS.lload_n hx dX8_set_20 rfl 2 rfl ?_
    refine WS.callVl (st := [.int (nI i), rf V (58 + s)]) [.long v] hx (c_X8_cut V d σ s hsh v) okX8_cut lm8_47 rfl (lay_sh hsh) rfl rfl (Nat.le_of_ble_eq_true rfl) dX8_set_21 (fun v4 σ5 h6 => ?_)
    obtain ⟨rfl, rfl⟩ := h6
    show WS layC V 4 X σ 24 [(0, rf V (52 + s)), (1, .int (nI i)), (2, .long v)] [.long (cutV (σ.1 (52 + s) 3) v), .int (nI i), rf V (58 + s)]
    refine WS.last hx (lay_el hsh) (vp_in_nI (by omega) (by decide)) dX8_set_24 ?_
    exact WS.vret hx he dX8_set_25 (Rvo.s (by rw [nI_clamp (show i < 2 ^ 31 by omega)]))
  · skip
    show WS layC V 4 X σ 11 [(0, rf V (52 + s)), (1, .int (nI i)), (2, .long v)] [.int 0]
    refine WS.if_eq (tgt := 25) hx dX8_set_11 (by decide) (fun _ => ?_) (fun h => absurd (by decide) h)
    exact WS.vret hx he dX8_set_25 (by exfalso; (try simp only [i_le, i_lt, i_eq, tI_0, tI_1] at hb8); (try simp only [i_le, i_lt, i_eq, tI_0, tI_1]); omega)
def plc (z : Nat) (i n : Int32) : Prop := 0 ≤ i.toInt ∧ 0 ≤ n.toInt ∧ n.toInt ≤ z ∧ i.toInt ≤ z - n.toInt
set_option maxHeartbeats 1000000 in
theorem c_X8_hasPlaces (V : Vt) (d : Nat) (σ : Sg) (s : Nat) (hsh : s < 6) (z : Nat) (hz : σ.1 (52 + s) 4 = nI z) (hz2 : z ≤ 60) (i n : Int32) : CT layC V mX8_hasPlaces (d) [rf V (52 + s), .int i, .int n] σ (Rb (plc z i n) σ) := by
  refine CT.of (own := RX8) rfl (by decide) (Nat.le_of_ble_eq_true rfl) (fun X (hx : Ok V RX8 cX8_hasPlaces 3 (d) X) (he : En layC V (some .boolean) (Rb (plc z i n) σ) X) => ?_)
  change WS layC V 3 X σ 0 [(0, rf V (52 + s)), (1, .int i), (2, .int n)] []
  have hzI : (nI z).toInt = (z : Int) := nI_c (by omega)
  refine WS.iload_n hx dX8_hasPlaces_0 rfl 1 rfl ?_
  refine WS.if_lt (tgt := 30) hx dX8_hasPlaces_1 (by decide) (fun c1 => ?_) (fun c1 => ?_)
  · skip
    show WS layC V 3 X σ 30 [(0, rf V (52 + s)), (1, .int i), (2, .int n)] []
    refine WS.iconst (v := 0) hx dX8_hasPlaces_30 (by decide) ?_
    exact WS.zret hx he dX8_hasPlaces_31 (Or.inl rfl) (Rb.f (by unfold plc; (try simp only [i_le, i_lt, i_eq, tI_0, tI_1] at c1); (try simp only [i_le, i_lt, i_eq, tI_0, tI_1]); omega))
  · skip
    show WS layC V 3 X σ 4 [(0, rf V (52 + s)), (1, .int i), (2, .int n)] []
    refine WS.iload_n hx dX8_hasPlaces_4 rfl 2 rfl ?_
    refine WS.if_lt (tgt := 30) hx dX8_hasPlaces_5 (by decide) (fun c5 => ?_) (fun c5 => ?_)
    · skip
      show WS layC V 3 X σ 30 [(0, rf V (52 + s)), (1, .int i), (2, .int n)] []
      refine WS.iconst (v := 0) hx dX8_hasPlaces_30 (by decide) ?_
      exact WS.zret hx he dX8_hasPlaces_31 (Or.inl rfl) (Rb.f (by unfold plc; (try simp only [i_le, i_lt, i_eq, tI_0, tI_1] at c1); (try simp only [i_le, i_lt, i_eq, tI_0, tI_1] at c5); (try simp only [i_le, i_lt, i_eq, tI_0, tI_1]); omega))
    · skip
      show WS layC V 3 X σ 8 [(0, rf V (52 + s)), (1, .int i), (2, .int n)] []
      refine WS.iload_n hx dX8_hasPlaces_8 rfl 2 rfl ?_
      refine WS.aload_n hx dX8_hasPlaces_9 rfl 0 rfl ?_
      refine WS.getI hx okX8 lf8_26 (lay_sh hsh) rfl dX8_hasPlaces_10 ?_
      refine WS.as rfl rfl (congrArg (fun z => Value.int z :: _) (show σ.1 (52 + s) 4 = nI z from hz)) ?_
      skip
      refine WS.icmp_gt (tgt := 30) hx dX8_hasPlaces_13 (by decide) (fun c13 => ?_) (fun c13 => ?_)
      · skip
        show WS layC V 3 X σ 30 [(0, rf V (52 + s)), (1, .int i), (2, .int n)] []
        refine WS.iconst (v := 0) hx dX8_hasPlaces_30 (by decide) ?_
        exact WS.zret hx he dX8_hasPlaces_31 (Or.inl rfl) (Rb.f (by unfold plc; (try simp only [i_le, i_lt, i_eq, tI_0, tI_1] at c1); (try simp only [i_le, i_lt, i_eq, tI_0, tI_1] at c5); (try simp only [i_le, i_lt, i_eq, tI_0, tI_1] at c13); (try simp only [i_le, i_lt, i_eq, tI_0, tI_1]); omega))
      · skip
        show WS layC V 3 X σ 16 [(0, rf V (52 + s)), (1, .int i), (2, .int n)] []
        have e2 : (nI z - n).toInt = (z : Int) - n.toInt := by
          (try simp only [i_le, i_lt, i_eq, tI_0, tI_1] at c1); (try simp only [i_le, i_lt, i_eq, tI_0, tI_1] at c5); (try simp only [i_le, i_lt, i_eq, tI_0, tI_1] at c13); rw [i_sub (by rw [hzI]; omega) (by rw [hzI]; omega), hzI]
        refine WS.iload_n hx dX8_hasPlaces_16 rfl 1 rfl ?_
        refine WS.aload_n hx dX8_hasPlaces_17 rfl 0 rfl ?_
        refine WS.getI hx okX8 lf8_26 (lay_sh hsh) rfl dX8_hasPlaces_18 ?_
        refine WS.as rfl rfl (congrArg (fun z => Value.int z :: _) (show σ.1 (52 + s) 4 = nI z from hz)) ?_
        skip
        refine WS.iload_n hx dX8_hasPlaces_21 rfl 2 rfl ?_
        refine WS.isub hx dX8_hasPlaces_22 ?_
        refine WS.icmp_gt (tgt := 30) hx dX8_hasPlaces_23 (by decide) (fun c23 => ?_) (fun c23 => ?_)
        · skip
          show WS layC V 3 X σ 30 [(0, rf V (52 + s)), (1, .int i), (2, .int n)] []
          refine WS.iconst (v := 0) hx dX8_hasPlaces_30 (by decide) ?_
          exact WS.zret hx he dX8_hasPlaces_31 (Or.inl rfl) (Rb.f (by unfold plc; (try simp only [i_le, i_lt, i_eq, tI_0, tI_1] at c1); (try simp only [i_le, i_lt, i_eq, tI_0, tI_1] at c5); (try simp only [i_le, i_lt, i_eq, tI_0, tI_1] at c13); (try simp only [i_le, i_lt, i_eq, tI_0, tI_1] at c23); (try simp only [i_le, i_lt, i_eq, tI_0, tI_1]); omega))
        · skip
          show WS layC V 3 X σ 26 [(0, rf V (52 + s)), (1, .int i), (2, .int n)] []
          refine WS.iconst (v := 1) hx dX8_hasPlaces_26 (by decide) ?_
          refine WS.goto (tgt := 31) hx dX8_hasPlaces_27 (by decide) ?_
          exact WS.zret hx he dX8_hasPlaces_31 (Or.inr rfl) (Rb.t (by unfold plc; (try simp only [i_le, i_lt, i_eq, tI_0, tI_1] at c1); (try simp only [i_le, i_lt, i_eq, tI_0, tI_1] at c5); (try simp only [i_le, i_lt, i_eq, tI_0, tI_1] at c13); (try simp only [i_le, i_lt, i_eq, tI_0, tI_1] at c23); (try simp only [i_le, i_lt, i_eq, tI_0, tI_1]); omega))
set_option maxHeartbeats 1000000 in
theorem c_X8_copy (V : Vt) (d : Nat) (σ : Sg) (s : Nat) (hsh : s < 6) (z : Nat) (hz : σ.1 (52 + s) 4 = nI z) (hz2 : z ≤ 60) (f : Nat) (hf : f < 6) (y : Nat) (hy : σ.1 (52 + f) 4 = nI y) (hy2 : y ≤ 60) (i j n : Int32) (h1 : plc y i n) (h2 : plc z j n) : CT layC V mX8_copy (d + 1) [rf V (52 + s), rf V (52 + f), .int i, .int j, .int n] σ (Rvo (stRL σ (58 + s) (va_cpy (σ.2.1 (58 + f)) (σ.2.1 (58 + s)) (nn i) (nn j) (nn n)))) := by
  refine CT.of (own := RX8) rfl (by decide) (Nat.le_of_ble_eq_true rfl) (fun X (hx : Ok V RX8 cX8_copy 5 (d + 1) X) (he : En layC V none (Rvo (stRL σ (58 + s) (va_cpy (σ.2.1 (58 + f)) (σ.2.1 (58 + s)) (nn i) (nn j) (nn n)))) X) => ?_)
  change WS layC V 5 X σ 0 [(0, rf V (52 + s)), (1, rf V (52 + f)), (2, .int i), (3, .int j), (4, .int n)] []
  obtain ⟨a1, a2, a3, a4⟩ := id h1
  obtain ⟨b1, b2, b3, b4⟩ := id h2
  have ei := nn_int a1
  have ej := nn_int b1
  have en := nn_int a2
  refine WS.aload_n hx dX8_copy_0 rfl 1 rfl ?_
  refine WS.iload_n hx dX8_copy_1 rfl 2 rfl ?_
  refine WS.iload hx dX8_copy_2 4 rfl ?_
  refine WS.callVi (st := []) [.int i, .int n] hx (c_X8_hasPlaces V d σ f hf y hy hy2 i n) okX8_hasPlaces lm8_51 rfl (lay_sh hf) rfl rfl (Nat.le_of_ble_eq_true rfl) dX8_copy_4 (fun v1 σ2 h3 => ?_)
  rcases h3 with ⟨rfl, rfl, hb4⟩ | ⟨rfl, rfl, hb4⟩
  · skip
    show WS layC V 5 X σ 7 [(0, rf V (52 + s)), (1, rf V (52 + f)), (2, .int i), (3, .int j), (4, .int n)] [.int 1]
    refine WS.if_eq (tgt := 35) hx dX8_copy_7 (by decide) (fun h => absurd h (by decide)) (fun _ => ?_)
    refine WS.aload_n hx dX8_copy_10 rfl 0 rfl ?_
    refine WS.iload_n hx dX8_copy_11 rfl 3 rfl ?_
    refine WS.iload hx dX8_copy_12 4 rfl ?_
    refine WS.callVi (st := []) [.int j, .int n] hx (c_X8_hasPlaces V d σ s hsh z hz hz2 j n) okX8_hasPlaces lm8_51 rfl (lay_sh hsh) rfl rfl (Nat.le_of_ble_eq_true rfl) dX8_copy_14 (fun v4 σ5 h6 => ?_)
    rcases h6 with ⟨rfl, rfl, hb14⟩ | ⟨rfl, rfl, hb14⟩
    · skip
      show WS layC V 5 X σ 17 [(0, rf V (52 + s)), (1, rf V (52 + f)), (2, .int i), (3, .int j), (4, .int n)] [.int 1]
      refine WS.if_eq (tgt := 35) hx dX8_copy_17 (by decide) (fun h => absurd h (by decide)) (fun _ => ?_)
      refine WS.aload_n hx dX8_copy_20 rfl 1 rfl ?_
      refine WS.getR hx okX8 lf8_9 (lay_sh hf) rfl dX8_copy_21 ?_
      refine WS.iload_n hx dX8_copy_24 rfl 2 rfl ?_
      refine WS.aload_n hx dX8_copy_25 rfl 0 rfl ?_
      refine WS.getR hx okX8 lf8_9 (lay_sh hsh) rfl dX8_copy_26 ?_
      refine WS.iload_n hx dX8_copy_29 rfl 3 rfl ?_
      refine WS.iload hx dX8_copy_30 4 rfl ?_
      refine WS.copyL (n0 := 60) (n1 := 60) hx lm8_55 arraycopy_nat arraycopy_st sys_in (lay_el hf) (lay_el hsh) (by rw [i_lt, tI_0]; omega) (by rw [i_lt, tI_0]; omega) (by rw [i_lt, tI_0]; omega) (show nn i + nn n ≤ 60 by omega) (show nn j + nn n ≤ 60 by omega) (Nat.le_of_ble_eq_true rfl) dX8_copy_32 ?_
      show WS layC V 5 X (stRL σ (58 + s) (va_cpy (σ.2.1 (58 + f)) (σ.2.1 (58 + s)) (nn i) (nn j) (nn n))) 35 [(0, rf V (52 + s)), (1, rf V (52 + f)), (2, .int i), (3, .int j), (4, .int n)] []
      exact WS.vret hx he dX8_copy_35 Rvo.i
    · skip
      show WS layC V 5 X σ 17 [(0, rf V (52 + s)), (1, rf V (52 + f)), (2, .int i), (3, .int j), (4, .int n)] [.int 0]
      refine WS.if_eq (tgt := 35) hx dX8_copy_17 (by decide) (fun _ => ?_) (fun h => absurd (by decide) h)
      exact WS.vret hx he dX8_copy_35 (by first | exact absurd h1 hb4 | exact absurd h2 hb14)
  · skip
    show WS layC V 5 X σ 7 [(0, rf V (52 + s)), (1, rf V (52 + f)), (2, .int i), (3, .int j), (4, .int n)] [.int 0]
    refine WS.if_eq (tgt := 35) hx dX8_copy_7 (by decide) (fun _ => ?_) (fun h => absurd (by decide) h)
    exact WS.vret hx he dX8_copy_35 (by first | exact absurd h1 hb4 | exact absurd h2 hb14)
set_option maxHeartbeats 1000000 in
theorem c_X2_mayBeUndone (V : Vt) (d : Nat) (σ : Sg) : CT layC V mX2_mayBeUndone (d) [rf V 8] σ (Ro (σ.1 8 5) σ) := by
  refine CT.of (own := RX2) rfl (by decide) (Nat.le_of_ble_eq_true rfl) (fun X (hx : Ok V RX2 cX2_mayBeUndone 1 (d) X) (he : En layC V (some .int) (Ro (σ.1 8 5) σ) X) => ?_)
  change WS layC V 1 X σ 0 [(0, rf V 8)] []
  refine WS.aload_n hx dX2_mayBeUndone_0 rfl 0 rfl ?_
  refine WS.getI hx okX2 lf2_28 rfl rfl dX2_mayBeUndone_1 ?_
  exact WS.iret hx he dX2_mayBeUndone_4 (Ro.i rfl)
set_option maxHeartbeats 1000000 in
theorem c_X2_mayBeRedone (V : Vt) (d : Nat) (σ : Sg) : CT layC V mX2_mayBeRedone (d) [rf V 8] σ (Ro (σ.1 8 6) σ) := by
  refine CT.of (own := RX2) rfl (by decide) (Nat.le_of_ble_eq_true rfl) (fun X (hx : Ok V RX2 cX2_mayBeRedone 1 (d) X) (he : En layC V (some .int) (Ro (σ.1 8 6) σ) X) => ?_)
  change WS layC V 1 X σ 0 [(0, rf V 8)] []
  refine WS.aload_n hx dX2_mayBeRedone_0 rfl 0 rfl ?_
  refine WS.getI hx okX2 lf2_32 rfl rfl dX2_mayBeRedone_1 ?_
  exact WS.iret hx he dX2_mayBeRedone_4 (Ro.i rfl)
def shq (f : Nat → Int32) : Nat → Int32 := va_cpy f f 1 0 39
def fgtQ (σ : Sg) : Sg := stR (stR (stR (stR (stI σ 8 5 39) 32 (shq (σ.1 32))) 33 (shq (σ.1 33))) 34 (shq (σ.1 34))) 35 (shq (σ.1 35))
def remQ (σ : Sg) (m : Nat) (b q v u : Int32) : Sg := stI (stI (stI (stI (stI (stI σ 32 m b) 33 m q) 34 m v) 35 m u) 8 5 (nI (m + 1))) 8 6 0
def rembQ (σ : Sg) (m : Nat) (b q v u : Int32) : Sg := if m < 40 then remQ σ m b q v u else remQ (fgtQ σ) 39 b q v u
set_option maxHeartbeats 1000000 in
theorem c_X2_forgetOldest (V : Vt) (d : Nat) (σ : Sg) : CT layC V mX2_forgetOldest (d + 1) [rf V 8] σ (Rvo (fgtQ σ)) := by
  refine CT.of (own := RX2) rfl (by decide) (Nat.le_of_ble_eq_true rfl) (fun X (hx : Ok V RX2 cX2_forgetOldest 1 (d + 1) X) (he : En layC V none (Rvo (fgtQ σ)) X) => ?_)
  change WS layC V 1 X σ 0 [(0, rf V 8)] []
  refine WS.aload_n hx dX2_forgetOldest_0 rfl 0 rfl ?_
  refine WS.bipush (v := 39) hx dX2_forgetOldest_1 (by decide) ?_
  refine WS.putI hx okX2 lf2_28 rfl rfl rfl rfl dX2_forgetOldest_3 ?_
  refine WS.aload_n hx dX2_forgetOldest_6 rfl 0 rfl ?_
  refine WS.getR hx okX2 lf2_11 rfl rfl dX2_forgetOldest_7 ?_
  refine WS.iconst (v := 1) hx dX2_forgetOldest_10 (by decide) ?_
  refine WS.aload_n hx dX2_forgetOldest_11 rfl 0 rfl ?_
  refine WS.getR hx okX2 lf2_11 rfl rfl dX2_forgetOldest_12 ?_
  refine WS.iconst (v := 0) hx dX2_forgetOldest_15 (by decide) ?_
  refine WS.aload_n hx dX2_forgetOldest_16 rfl 0 rfl ?_
  refine WS.getI hx okX2 lf2_28 rfl rfl dX2_forgetOldest_17 ?_
  refine WS.as rfl rfl (congrArg (fun z => Value.int z :: _) (show (stI σ 8 5 39).1 8 5 = 39 from rfl)) ?_
  skip
  refine WS.copyI (n0 := 40) (n1 := 40) hx lm2_38 arraycopy_nat arraycopy_st sys_in rfl rfl (by decide) (by decide) (by decide) (by decide) (by decide) (Nat.le_of_ble_eq_true rfl) dX2_forgetOldest_20 ?_
  show WS layC V 1 X (stR (stI σ 8 5 39) 32 (va_cpy ((stI σ 8 5 39).1 32) ((stI σ 8 5 39).1 32) 1 0 39)) 23 [(0, rf V 8)] []
  refine WS.aload_n hx dX2_forgetOldest_23 rfl 0 rfl ?_
  refine WS.getR hx okX2 lf2_15 rfl rfl dX2_forgetOldest_24 ?_
  refine WS.iconst (v := 1) hx dX2_forgetOldest_27 (by decide) ?_
  refine WS.aload_n hx dX2_forgetOldest_28 rfl 0 rfl ?_
  refine WS.getR hx okX2 lf2_15 rfl rfl dX2_forgetOldest_29 ?_
  refine WS.iconst (v := 0) hx dX2_forgetOldest_32 (by decide) ?_
  refine WS.aload_n hx dX2_forgetOldest_33 rfl 0 rfl ?_
  refine WS.getI hx okX2 lf2_28 rfl rfl dX2_forgetOldest_34 ?_
  refine WS.as rfl rfl (congrArg (fun z => Value.int z :: _) (show (stR (stI σ 8 5 39) 32 (va_cpy ((stI σ 8 5 39).1 32) ((stI σ 8 5 39).1 32) 1 0 39)).1 8 5 = 39 from rfl)) ?_
  skip
  refine WS.copyI (n0 := 40) (n1 := 40) hx lm2_38 arraycopy_nat arraycopy_st sys_in rfl rfl (by decide) (by decide) (by decide) (by decide) (by decide) (Nat.le_of_ble_eq_true rfl) dX2_forgetOldest_37 ?_
  show WS layC V 1 X (stR (stR (stI σ 8 5 39) 32 (va_cpy ((stI σ 8 5 39).1 32) ((stI σ 8 5 39).1 32) 1 0 39)) 33 (va_cpy ((stR (stI σ 8 5 39) 32 (va_cpy ((stI σ 8 5 39).1 32) ((stI σ 8 5 39).1 32) 1 0 39)).1 33) ((stR (stI σ 8 5 39) 32 (va_cpy ((stI σ 8 5 39).1 32) ((stI σ 8 5 39).1 32) 1 0 39)).1 33) 1 0 39)) 40 [(0, rf V 8)] []
  refine WS.aload_n hx dX2_forgetOldest_40 rfl 0 rfl ?_
  refine WS.getR hx okX2 lf2_18 rfl rfl dX2_forgetOldest_41 ?_
  refine WS.iconst (v := 1) hx dX2_forgetOldest_44 (by decide) ?_
  refine WS.aload_n hx dX2_forgetOldest_45 rfl 0 rfl ?_
  refine WS.getR hx okX2 lf2_18 rfl rfl dX2_forgetOldest_46 ?_
  refine WS.iconst (v := 0) hx dX2_forgetOldest_49 (by decide) ?_
  refine WS.aload_n hx dX2_forgetOldest_50 rfl 0 rfl ?_
  refine WS.getI hx okX2 lf2_28 rfl rfl dX2_forgetOldest_51 ?_
  refine WS.as rfl rfl (congrArg (fun z => Value.int z :: _) (show (stR (stR (stI σ 8 5 39) 32 (va_cpy ((stI σ 8 5 39).1 32) ((stI σ 8 5 39).1 32) 1 0 39)) 33 (va_cpy ((stR (stI σ 8 5 39) 32 (va_cpy ((stI σ 8 5 39).1 32) ((stI σ 8 5 39).1 32) 1 0 39)).1 33) ((stR (stI σ 8 5 39) 32 (va_cpy ((stI σ 8 5 39).1 32) ((stI σ 8 5 39).1 32) 1 0 39)).1 33) 1 0 39)).1 8 5 = 39 from rfl)) ?_
  skip
  refine WS.copyI (n0 := 40) (n1 := 40) hx lm2_38 arraycopy_nat arraycopy_st sys_in rfl rfl (by decide) (by decide) (by decide) (by decide) (by decide) (Nat.le_of_ble_eq_true rfl) dX2_forgetOldest_54 ?_
  show WS layC V 1 X (stR (stR (stR (stI σ 8 5 39) 32 (va_cpy ((stI σ 8 5 39).1 32) ((stI σ 8 5 39).1 32) 1 0 39)) 33 (va_cpy ((stR (stI σ 8 5 39) 32 (va_cpy ((stI σ 8 5 39).1 32) ((stI σ 8 5 39).1 32) 1 0 39)).1 33) ((stR (stI σ 8 5 39) 32 (va_cpy ((stI σ 8 5 39).1 32) ((stI σ 8 5 39).1 32) 1 0 39)).1 33) 1 0 39)) 34 (va_cpy ((stR (stR (stI σ 8 5 39) 32 (va_cpy ((stI σ 8 5 39).1 32) ((stI σ 8 5 39).1 32) 1 0 39)) 33 (va_cpy ((stR (stI σ 8 5 39) 32 (va_cpy ((stI σ 8 5 39).1 32) ((stI σ 8 5 39).1 32) 1 0 39)).1 33) ((stR (stI σ 8 5 39) 32 (va_cpy ((stI σ 8 5 39).1 32) ((stI σ 8 5 39).1 32) 1 0 39)).1 33) 1 0 39)).1 34) ((stR (stR (stI σ 8 5 39) 32 (va_cpy ((stI σ 8 5 39).1 32) ((stI σ 8 5 39).1 32) 1 0 39)) 33 (va_cpy ((stR (stI σ 8 5 39) 32 (va_cpy ((stI σ 8 5 39).1 32) ((stI σ 8 5 39).1 32) 1 0 39)).1 33) ((stR (stI σ 8 5 39) 32 (va_cpy ((stI σ 8 5 39).1 32) ((stI σ 8 5 39).1 32) 1 0 39)).1 33) 1 0 39)).1 34) 1 0 39)) 57 [(0, rf V 8)] []
  refine WS.aload_n hx dX2_forgetOldest_57 rfl 0 rfl ?_
  refine WS.getR hx okX2 lf2_21 rfl rfl dX2_forgetOldest_58 ?_
  refine WS.iconst (v := 1) hx dX2_forgetOldest_61 (by decide) ?_
  refine WS.aload_n hx dX2_forgetOldest_62 rfl 0 rfl ?_
  refine WS.getR hx okX2 lf2_21 rfl rfl dX2_forgetOldest_63 ?_
  refine WS.iconst (v := 0) hx dX2_forgetOldest_66 (by decide) ?_
  refine WS.aload_n hx dX2_forgetOldest_67 rfl 0 rfl ?_
  refine WS.getI hx okX2 lf2_28 rfl rfl dX2_forgetOldest_68 ?_
  refine WS.as rfl rfl (congrArg (fun z => Value.int z :: _) (show (stR (stR (stR (stI σ 8 5 39) 32 (va_cpy ((stI σ 8 5 39).1 32) ((stI σ 8 5 39).1 32) 1 0 39)) 33 (va_cpy ((stR (stI σ 8 5 39) 32 (va_cpy ((stI σ 8 5 39).1 32) ((stI σ 8 5 39).1 32) 1 0 39)).1 33) ((stR (stI σ 8 5 39) 32 (va_cpy ((stI σ 8 5 39).1 32) ((stI σ 8 5 39).1 32) 1 0 39)).1 33) 1 0 39)) 34 (va_cpy ((stR (stR (stI σ 8 5 39) 32 (va_cpy ((stI σ 8 5 39).1 32) ((stI σ 8 5 39).1 32) 1 0 39)) 33 (va_cpy ((stR (stI σ 8 5 39) 32 (va_cpy ((stI σ 8 5 39).1 32) ((stI σ 8 5 39).1 32) 1 0 39)).1 33) ((stR (stI σ 8 5 39) 32 (va_cpy ((stI σ 8 5 39).1 32) ((stI σ 8 5 39).1 32) 1 0 39)).1 33) 1 0 39)).1 34) ((stR (stR (stI σ 8 5 39) 32 (va_cpy ((stI σ 8 5 39).1 32) ((stI σ 8 5 39).1 32) 1 0 39)) 33 (va_cpy ((stR (stI σ 8 5 39) 32 (va_cpy ((stI σ 8 5 39).1 32) ((stI σ 8 5 39).1 32) 1 0 39)).1 33) ((stR (stI σ 8 5 39) 32 (va_cpy ((stI σ 8 5 39).1 32) ((stI σ 8 5 39).1 32) 1 0 39)).1 33) 1 0 39)).1 34) 1 0 39)).1 8 5 = 39 from rfl)) ?_
  skip
  refine WS.copyI (n0 := 40) (n1 := 40) hx lm2_38 arraycopy_nat arraycopy_st sys_in rfl rfl (by decide) (by decide) (by decide) (by decide) (by decide) (Nat.le_of_ble_eq_true rfl) dX2_forgetOldest_71 ?_
  show WS layC V 1 X (stR (stR (stR (stR (stI σ 8 5 39) 32 (va_cpy ((stI σ 8 5 39).1 32) ((stI σ 8 5 39).1 32) 1 0 39)) 33 (va_cpy ((stR (stI σ 8 5 39) 32 (va_cpy ((stI σ 8 5 39).1 32) ((stI σ 8 5 39).1 32) 1 0 39)).1 33) ((stR (stI σ 8 5 39) 32 (va_cpy ((stI σ 8 5 39).1 32) ((stI σ 8 5 39).1 32) 1 0 39)).1 33) 1 0 39)) 34 (va_cpy ((stR (stR (stI σ 8 5 39) 32 (va_cpy ((stI σ 8 5 39).1 32) ((stI σ 8 5 39).1 32) 1 0 39)) 33 (va_cpy ((stR (stI σ 8 5 39) 32 (va_cpy ((stI σ 8 5 39).1 32) ((stI σ 8 5 39).1 32) 1 0 39)).1 33) ((stR (stI σ 8 5 39) 32 (va_cpy ((stI σ 8 5 39).1 32) ((stI σ 8 5 39).1 32) 1 0 39)).1 33) 1 0 39)).1 34) ((stR (stR (stI σ 8 5 39) 32 (va_cpy ((stI σ 8 5 39).1 32) ((stI σ 8 5 39).1 32) 1 0 39)) 33 (va_cpy ((stR (stI σ 8 5 39) 32 (va_cpy ((stI σ 8 5 39).1 32) ((stI σ 8 5 39).1 32) 1 0 39)).1 33) ((stR (stI σ 8 5 39) 32 (va_cpy ((stI σ 8 5 39).1 32) ((stI σ 8 5 39).1 32) 1 0 39)).1 33) 1 0 39)).1 34) 1 0 39)) 35 (va_cpy ((stR (stR (stR (stI σ 8 5 39) 32 (va_cpy ((stI σ 8 5 39).1 32) ((stI σ 8 5 39).1 32) 1 0 39)) 33 (va_cpy ((stR (stI σ 8 5 39) 32 (va_cpy ((stI σ 8 5 39).1 32) ((stI σ 8 5 39).1 32) 1 0 39)).1 33) ((stR (stI σ 8 5 39) 32 (va_cpy ((stI σ 8 5 39).1 32) ((stI σ 8 5 39).1 32) 1 0 39)).1 33) 1 0 39)) 34 (va_cpy ((stR (stR (stI σ 8 5 39) 32 (va_cpy ((stI σ 8 5 39).1 32) ((stI σ 8 5 39).1 32) 1 0 39)) 33 (va_cpy ((stR (stI σ 8 5 39) 32 (va_cpy ((stI σ 8 5 39).1 32) ((stI σ 8 5 39).1 32) 1 0 39)).1 33) ((stR (stI σ 8 5 39) 32 (va_cpy ((stI σ 8 5 39).1 32) ((stI σ 8 5 39).1 32) 1 0 39)).1 33) 1 0 39)).1 34) ((stR (stR (stI σ 8 5 39) 32 (va_cpy ((stI σ 8 5 39).1 32) ((stI σ 8 5 39).1 32) 1 0 39)) 33 (va_cpy ((stR (stI σ 8 5 39) 32 (va_cpy ((stI σ 8 5 39).1 32) ((stI σ 8 5 39).1 32) 1 0 39)).1 33) ((stR (stI σ 8 5 39) 32 (va_cpy ((stI σ 8 5 39).1 32) ((stI σ 8 5 39).1 32) 1 0 39)).1 33) 1 0 39)).1 34) 1 0 39)).1 35) ((stR (stR (stR (stI σ 8 5 39) 32 (va_cpy ((stI σ 8 5 39).1 32) ((stI σ 8 5 39).1 32) 1 0 39)) 33 (va_cpy ((stR (stI σ 8 5 39) 32 (va_cpy ((stI σ 8 5 39).1 32) ((stI σ 8 5 39).1 32) 1 0 39)).1 33) ((stR (stI σ 8 5 39) 32 (va_cpy ((stI σ 8 5 39).1 32) ((stI σ 8 5 39).1 32) 1 0 39)).1 33) 1 0 39)) 34 (va_cpy ((stR (stR (stI σ 8 5 39) 32 (va_cpy ((stI σ 8 5 39).1 32) ((stI σ 8 5 39).1 32) 1 0 39)) 33 (va_cpy ((stR (stI σ 8 5 39) 32 (va_cpy ((stI σ 8 5 39).1 32) ((stI σ 8 5 39).1 32) 1 0 39)).1 33) ((stR (stI σ 8 5 39) 32 (va_cpy ((stI σ 8 5 39).1 32) ((stI σ 8 5 39).1 32) 1 0 39)).1 33) 1 0 39)).1 34) ((stR (stR (stI σ 8 5 39) 32 (va_cpy ((stI σ 8 5 39).1 32) ((stI σ 8 5 39).1 32) 1 0 39)) 33 (va_cpy ((stR (stI σ 8 5 39) 32 (va_cpy ((stI σ 8 5 39).1 32) ((stI σ 8 5 39).1 32) 1 0 39)).1 33) ((stR (stI σ 8 5 39) 32 (va_cpy ((stI σ 8 5 39).1 32) ((stI σ 8 5 39).1 32) 1 0 39)).1 33) 1 0 39)).1 34) 1 0 39)).1 35) 1 0 39)) 74 [(0, rf V 8)] []
  exact WS.vret hx he dX2_forgetOldest_74 (Rvo.s rfl)
set_option maxHeartbeats 1000000 in
theorem lp_X2_remember (V : Vt) (d : Nat) (σ : Sg) (m : Nat) (hm : m < 40) (hd : σ.1 8 5 = nI m) (b q v u : Int32) (X : Xt) (hx : Ok V RX2 cX2_remember 5 (d + 2) X) (he : En layC V none (Rvo (remQ σ m b q v u)) X) : WS layC V 5 X σ 13 [(0, rf V 8), (1, .int b), (2, .int q), (3, .int v), (4, .int u)] [] := by
  have hv : vp_in (nI m) 40 := vp_in_nI hm (by decide)
  refine WS.aload_n hx dX2_remember_13 rfl 0 rfl ?_
  refine WS.getR hx okX2 lf2_11 rfl rfl dX2_remember_14 ?_
  refine WS.aload_n hx dX2_remember_17 rfl 0 rfl ?_
  refine WS.getI hx okX2 lf2_28 rfl rfl dX2_remember_18 ?_
  refine WS.as rfl rfl (congrArg (fun z => Value.int z :: _) (show σ.1 8 5 = nI m from hd)) ?_
  skip
  refine WS.iload_n hx dX2_remember_21 rfl 1 rfl ?_
  refine WS.iast hx rfl hv dX2_remember_22 ?_
  refine WS.aload_n hx dX2_remember_23 rfl 0 rfl ?_
  refine WS.getR hx okX2 lf2_15 rfl rfl dX2_remember_24 ?_
  refine WS.aload_n hx dX2_remember_27 rfl 0 rfl ?_
  refine WS.getI hx okX2 lf2_28 rfl rfl dX2_remember_28 ?_
  refine WS.as rfl rfl (congrArg (fun z => Value.int z :: _) (show (stI σ 32 (nn (nI m)) b).1 8 5 = nI m from hd)) ?_
  skip
  refine WS.iload_n hx dX2_remember_31 rfl 2 rfl ?_
  refine WS.iast hx rfl hv dX2_remember_32 ?_
  refine WS.aload_n hx dX2_remember_33 rfl 0 rfl ?_
  refine WS.getR hx okX2 lf2_18 rfl rfl dX2_remember_34 ?_
  refine WS.aload_n hx dX2_remember_37 rfl 0 rfl ?_
  refine WS.getI hx okX2 lf2_28 rfl rfl dX2_remember_38 ?_
  refine WS.as rfl rfl (congrArg (fun z => Value.int z :: _) (show (stI (stI σ 32 (nn (nI m)) b) 33 (nn (nI m)) q).1 8 5 = nI m from hd)) ?_
  skip
  refine WS.iload_n hx dX2_remember_41 rfl 3 rfl ?_
  refine WS.iast hx rfl hv dX2_remember_42 ?_
  refine WS.aload_n hx dX2_remember_43 rfl 0 rfl ?_
  refine WS.getR hx okX2 lf2_21 rfl rfl dX2_remember_44 ?_
  refine WS.aload_n hx dX2_remember_47 rfl 0 rfl ?_
  refine WS.getI hx okX2 lf2_28 rfl rfl dX2_remember_48 ?_
  refine WS.as rfl rfl (congrArg (fun z => Value.int z :: _) (show (stI (stI (stI σ 32 (nn (nI m)) b) 33 (nn (nI m)) q) 34 (nn (nI m)) v).1 8 5 = nI m from hd)) ?_
  skip
  refine WS.iload hx dX2_remember_51 4 rfl ?_
  refine WS.iast hx rfl hv dX2_remember_53 ?_
  refine WS.aload_n hx dX2_remember_54 rfl 0 rfl ?_
  refine WS.dup hx dX2_remember_55 rfl ?_
  refine WS.getI hx okX2 lf2_28 rfl rfl dX2_remember_56 ?_
  refine WS.as rfl rfl (congrArg (fun z => Value.int z :: _) (show (stI (stI (stI (stI σ 32 (nn (nI m)) b) 33 (nn (nI m)) q) 34 (nn (nI m)) v) 35 (nn (nI m)) u).1 8 5 = nI m from hd)) ?_
  skip
  refine WS.iconst (v := 1) hx dX2_remember_59 (by decide) ?_
  refine WS.iadd hx dX2_remember_60 ?_
  refine WS.putI hx okX2 lf2_28 rfl rfl rfl rfl dX2_remember_61 ?_
  refine WS.aload_n hx dX2_remember_64 rfl 0 rfl ?_
  refine WS.iconst (v := 0) hx dX2_remember_65 (by decide) ?_
  refine WS.putI hx okX2 lf2_32 rfl rfl rfl rfl dX2_remember_66 ?_
  exact WS.vret hx he dX2_remember_69 (Rvo.s (by unfold remQ; rw [← nI_1]; simp only [nI_clamp (show m < 2 ^ 31 by omega)]))
set_option maxHeartbeats 1000000 in
theorem c_X2_remember (V : Vt) (d : Nat) (σ : Sg) (m : Nat) (hm : m ≤ 40) (hd : σ.1 8 5 = nI m) (b q v u : Int32) : CT layC V mX2_remember (d + 2) [rf V 8, .int b, .int q, .int v, .int u] σ (Rvo (rembQ σ m b q v u)) := by
  refine CT.of (own := RX2) rfl (by decide) (Nat.le_of_ble_eq_true rfl) (fun X (hx : Ok V RX2 cX2_remember 5 (d + 2) X) (he : En layC V none (Rvo (rembQ σ m b q v u)) X) => ?_)
  change WS layC V 5 X σ 0 [(0, rf V 8), (1, .int b), (2, .int q), (3, .int v), (4, .int u)] []
  have hmI : (nI m).toInt = (m : Int) := nI_c (by omega)
  refine WS.aload_n hx dX2_remember_0 rfl 0 rfl ?_
  refine WS.getI hx okX2 lf2_28 rfl rfl dX2_remember_1 ?_
  refine WS.as rfl rfl (congrArg (fun z => Value.int z :: _) (show σ.1 8 5 = nI m from hd)) ?_
  skip
  refine WS.bipush (v := 40) hx dX2_remember_4 (by decide) ?_
  refine WS.icmp_lt (tgt := 13) hx dX2_remember_6 (by decide) (fun c6 => ?_) (fun c6 => ?_)
  · skip
    show WS layC V 5 X σ 13 [(0, rf V 8), (1, .int b), (2, .int q), (3, .int v), (4, .int u)] []
    have h40 : m < 40 := by (try simp only [i_le, i_lt, i_eq, tI_0, tI_1, tI_40] at c6); (try simp only [i_le, i_lt, i_eq, tI_0, tI_1, tI_40]); omega
    rw [show rembQ σ m b q v u = remQ σ m b q v u from if_pos h40] at he
    exact lp_X2_remember V d σ m h40 hd b q v u X hx he
  · skip
    show WS layC V 5 X σ 9 [(0, rf V 8), (1, .int b), (2, .int q), (3, .int v), (4, .int u)] []
    refine WS.aload_n hx dX2_remember_9 rfl 0 rfl ?_
    refine WS.callVv (st := []) [] hx (c_X2_forgetOldest V d σ ) okX2_forgetOldest lm2_35 rfl rfl rfl rfl (Nat.le_of_ble_eq_true rfl) dX2_remember_10 (fun σ2 h3 => ?_)
    obtain rfl := h3
    show WS layC V 5 X (fgtQ σ) 13 [(0, rf V 8), (1, .int b), (2, .int q), (3, .int v), (4, .int u)] []
    have h40 : ¬ m < 40 := by (try simp only [i_le, i_lt, i_eq, tI_0, tI_1, tI_40] at c6); (try simp only [i_le, i_lt, i_eq, tI_0, tI_1, tI_40]); omega
    rw [show rembQ σ m b q v u = remQ (fgtQ σ) 39 b q v u from if_neg h40] at he
    exact lp_X2_remember V d (fgtQ σ) 39 (by decide) rfl b q v u X hx he

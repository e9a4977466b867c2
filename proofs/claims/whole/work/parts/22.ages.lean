set_option maxHeartbeats 1000000 in
theorem c_X0_said (V : Vt) (d : Nat) (σ : Sg) : CT layC V mX0_said (d) [rf V 6] σ (Ro (σ.1 6 6) σ) := by
  refine CT.of (own := RX0) rfl (by decide) (Nat.le_of_ble_eq_true rfl) (fun X (hx : Ok V RX0 cX0_said 1 (d) X) (he : En layC V (some .int) (Ro (σ.1 6 6) σ) X) => ?_)
  change WS layC V 1 X σ 0 [(0, rf V 6)] []
  refine WS.aload_n hx dX0_said_0 rfl 0 rfl ?_
  refine WS.getI hx okX0 lf0_28 rfl rfl dX0_said_1 ?_
  exact WS.iret hx he dX0_said_4 (Ro.i rfl)
set_option maxHeartbeats 1000000 in
theorem c_X0_timesOpen (V : Vt) (d : Nat) (σ : Sg) (k : Nat) (hk : k < 10) : CT layC V mX0_timesOpen (d + 1) [rf V 6, .int (nI k)] σ (Ro (σ.1 28 k) σ) := by
  refine CT.of (own := RX0) rfl (by decide) (Nat.le_of_ble_eq_true rfl) (fun X (hx : Ok V RX0 cX0_timesOpen 2 (d + 1) X) (he : En layC V (some .int) (Ro (σ.1 28 k) σ) X) => ?_)
  change WS layC V 2 X σ 0 [(0, rf V 6), (1, .int (nI k))] []
  have hkI : (nI k).toInt = (k : Int) := nI_c (by omega)
  refine WS.iload_n hx dX0_timesOpen_0 rfl 1 rfl ?_
  refine WS.iconst (v := 0) hx dX0_timesOpen_1 (by decide) ?_
  refine WS.bipush (v := 9) hx dX0_timesOpen_2 (by decide) ?_
  refine WS.callNi (st := []) [.int (nI k), .int 0, .int 9] hx (c_X10_within V d σ (nI k) 0 9) okX10_within (by decide) rfl rfl rfl (Nat.le_of_ble_eq_true rfl) dX0_timesOpen_4 (fun v1 σ2 h3 => ?_)
  rcases h3 with ⟨rfl, rfl, hb4⟩ | ⟨rfl, rfl, hb4⟩
  · skip
    show WS layC V 2 X σ 7 [(0, rf V 6), (1, .int (nI k))] [.int 1]
    refine WS.if_eq (tgt := 19) hx dX0_timesOpen_7 (by decide) (fun h => absurd h (by decide)) (fun _ => ?_)
    refine WS.aload_n hx dX0_timesOpen_10 rfl 0 rfl ?_
    refine WS.getR hx okX0 lf0_17 rfl rfl dX0_timesOpen_11 ?_
    refine WS.iload_n hx dX0_timesOpen_14 rfl 1 rfl ?_
    refine WS.iald hx rfl (vp_in_nI (by omega) (by decide)) dX0_timesOpen_15 ?_
    refine WS.as rfl rfl (congrArg (fun z => Value.int z :: _) (show σ.1 28 (nn (nI k)) = σ.1 28 k from by rw [nn_nI (by omega)])) ?_
    skip
    refine WS.goto (tgt := 20) hx dX0_timesOpen_16 (by decide) ?_
    exact WS.iret hx he dX0_timesOpen_20 (Ro.i rfl)
  · skip
    show WS layC V 2 X σ 7 [(0, rf V 6), (1, .int (nI k))] [.int 0]
    refine WS.if_eq (tgt := 19) hx dX0_timesOpen_7 (by decide) (fun _ => ?_) (fun h => absurd (by decide) h)
    refine WS.iconst (v := 0) hx dX0_timesOpen_19 (by decide) ?_
    exact WS.iret hx he dX0_timesOpen_20 (by exfalso; (try simp only [i_le, i_lt, i_eq, tI_0, tI_1, tI_9] at hb4); (try simp only [i_le, i_lt, i_eq, tI_0, tI_1, tI_9]); omega)
def cntB (p : Nat → Bool) : Nat → Nat
  | 0 => 0
  | k + 1 => cntB p k + (if p k = true then 1 else 0)
theorem cntB_le (p : Nat → Bool) : ∀ n, cntB p n ≤ n
  | 0 => Nat.le_refl _
  | n + 1 => by have := cntB_le p n; unfold cntB; split <;> omega
theorem cntB_up {p : Nat → Bool} {k : Nat} (hk : p k = false) : ∀ n, cntB (va_up p k true) n = cntB p n + (if k < n then 1 else 0)
  | 0 => by simp [cntB]
  | n + 1 => by
    have ih := cntB_up hk n
    unfold cntB
    by_cases e : n = k
    · subst e
      rw [ih, hk, if_neg (Nat.lt_irrefl n), if_pos (Nat.lt_succ_self n)]
      simp [va_up]
    · rw [ih, show va_up p k true n = p n by simp [va_up, e]]
      by_cases h2 : k < n
      · have a1 : (if k < n then 1 else 0 : Nat) = 1 := if_pos h2
        have a2 : (if k < n + 1 then 1 else 0 : Nat) = 1 := if_pos (by omega)
        rw [a1, a2]; omega
      · have a1 : (if k < n then 1 else 0 : Nat) = 0 := if_neg h2
        have a2 : (if k < n + 1 then 1 else 0 : Nat) = 0 := if_neg (by omega)
        rw [a1, a2]; omega
/-- an age: where each is, who is open, the century, how many are open, the draw, what was said -/
abbrev Ag : Type := (Nat → Nat) × (Nat → Bool) × Nat × Nat × Int32 × Int32
def TA (W : Wd) (τ : Sg) (b a y : Nat) (p : Bool) : Prop := ∃ o ol, o ≤ 15 ∧ Th τ (42 + b) b (W.bd b) a y o (-1) ol p
theorem TA.ne {W : Wd} {σ σ' : Sg} {b t a y : Nat} {p : Bool} (h : TA W σ b a y p) (hb : 42 + b ≠ t) (e : ThE t σ σ') : TA W σ' b a y p := by
  obtain ⟨o, ol, ho, h⟩ := h
  refine ⟨o, ol, ho, ?_⟩
  unfold Th
  rw [e.1 (42 + b) (by omega) (by omega) (by omega) hb]
  exact h
theorem TA.no {W : Wd} {σ : Sg} {b o k a y : Nat} {v : Int32} {p : Bool} (h : TA W σ b a y p) (hb : o ≤ 28) : TA W (stI σ o k v) b a y p := by
  obtain ⟨o', ol, ho, h⟩ := h
  refine ⟨o', ol, ho, ?_⟩
  unfold Th
  rw [stI_o _ _ _ _ (show 42 + b ≠ o by omega)]
  exact h
def zD (z : Int32) (n : Nat) : Nat := nn (ush z 8) % n
def zZ (z : Int32) (zeal : Nat) : Prop := nn (ush z 16) % 12 < zeal
def agO (W : Wd) (n zeal : Nat) (s : Ag) : Prop := n ≠ 0 ∧ nn (ush s.2.2.2.2.1 16) % 12 < zeal ∧ s.2.1 (zD s.2.2.2.2.1 n) = false
/-- one is drawn, and opened -/
noncomputable def agD (W : Wd) (n zeal : Nat) (s : Ag) : Ag := if n ≠ 0 ∧ nn (ush s.2.2.2.2.1 16) % 12 < zeal ∧ s.2.1 (zD s.2.2.2.2.1 n) = false then (s.1, va_up s.2.1 (zD s.2.2.2.2.1 n) true, s.2.2.1, s.2.2.2.1 + 1, s.2.2.2.2.1, s.2.2.2.2.2 + W.2.2.1 (s.1 (zD s.2.2.2.2.1 n))) else s
def agP (W : Wd) (s : Ag) (b : Nat) : Nat := (cen W.1 W.2.1 W.2.2.1 b (W.bd b) s.2.2.2.1 (s.2.1 b) (s.1 b, s.2.2.1)).1
/-- a century of an age -/
def nz (z : Int32) : Int32 := z * 1103515245 + 12345
def agT (W : Wd) (D : Ag) : Ag := (agP W D, D.2.1, min (D.2.2.1 + 1) 99, D.2.2.2)
noncomputable def agS (W : Wd) (n zeal : Nat) (s : Ag) : Ag := agT W (agD W n zeal (s.1, s.2.1, s.2.2.1, s.2.2.2.1, nz s.2.2.2.2.1, s.2.2.2.2.2))
/-- the world is in the midst of an age -/
def AE (σ τ : Sg) (n m c : Nat) (s : Ag) : Prop := SE σ τ ∧ τ.1 28 = σ.1 28 ∧ τ.1 6 4 = σ.1 6 4 ∧ τ.1 6 5 = nI s.2.2.2.1 ∧ τ.1 6 3 = s.2.2.2.2.1 ∧ τ.1 6 6 = s.2.2.2.2.2 ∧ (∀ b, b < n → TA (wdS σ n m c) τ b (s.1 b) s.2.2.1 (s.2.1 b)) ∧ (∀ b, b < n → s.1 b < 16) ∧ s.2.2.1 ≤ 99 ∧ s.2.2.2.1 = cntB s.2.1 n
theorem ush_nn {x : Int32} {k : Nat} {s : Int32} (hk : k < 32) (hk2 : 1 ≤ k) (hs : ((s.toUInt32 &&& Int32.toUInt32 31).toBitVec % 32).toNat = k) : 0 ≤ (ush x s).toInt ∧ nn (ush x s) = x.toBitVec.toNat / 2 ^ k := by
  have h := pk_ushr x s k hs
  have h0 := x.toBitVec.isLt
  have h3 : x.toBitVec.toNat / 2 ^ k < 2 ^ 31 := by
    have h4 : 2 ^ 1 ≤ 2 ^ k := Nat.pow_le_pow_right (by decide) hk2
    apply Nat.div_lt_of_lt_mul
    calc x.toBitVec.toNat < 2 ^ 32 := h0
      _ = 2 ^ 1 * 2 ^ 31 := by decide
      _ ≤ 2 ^ k * 2 ^ 31 := Nat.mul_le_mul_right _ h4
  have e : (ush x s).toInt = (((ush x s).toBitVec.toNat : Nat) : Int) := BitVec.toInt_eq_toNat_of_lt (by show 2 * ((Int32.toUInt32 x >>> (Int32.toUInt32 s &&& Int32.toUInt32 31)).toInt32).toBitVec.toNat < _; rw [h]; omega)
  have e2 : (ush x s).toBitVec.toNat = x.toBitVec.toNat / 2 ^ k := h
  have h5 : 0 ≤ (ush x s).toInt := by rw [e]; omega
  refine ⟨h5, ?_⟩
  have := nn_int h5
  omega
theorem rem_nn {x : Int32} {d : Nat} (hx : 0 ≤ x.toInt) (h0 : 0 < d) (hd : d < 2 ^ 31) : x - x / nI d * nI d = nI (nn x % d) := by
  have e := nI_nn hx
  have h2 := (i_rng x).2
  have h3 := nn_int hx
  have := pk_rem (a := nn x) (d := d) (by omega) h0 hd
  rw [e] at this
  exact this
set_option maxHeartbeats 1000000 in
theorem c_X0_openDrawn (V : Vt) (d : Nat) (σ : Sg) (σ0 : Sg) (n : Nat) (hQ : QI σ0 n) (m c : Nat) (hL0 : LI V σ0 m c) (s : Ag) (hE : AE σ0 σ n m c s) (hL : LI V σ m c) (zeal : Nat) (hz : σ0.1 6 4 = nI zeal) (hz2 : zeal ≤ 100) (z : Int32) (hzz : s.2.2.2.2.1 = z) : CT layC V mX0_openDrawn (d + 3) [rf V 6] σ (Rv fun σ' => AE σ0 σ' n m c (agD (wdS σ0 n m c) n zeal s) ∧ LI V σ' m c) := by
  refine CT.of (own := RX0) rfl (by decide) (Nat.le_of_ble_eq_true rfl) (fun X (hx : Ok V RX0 cX0_openDrawn 2 (d + 3) X) (he : En layC V none (Rv fun σ' => AE σ0 σ' n m c (agD (wdS σ0 n m c) n zeal s) ∧ LI V σ' m c) X) => ?_)
  change WS layC V 2 X σ 0 [(0, rf V 6)] []
  obtain ⟨h1, h2, h3, h4, h5, h6, h7, h8, h9, h10⟩ := id hE
  have hQs := hQ.se h1
  have hn10 := hQ.n
  have hnI : (nI n).toInt = (n : Int) := nI_c (by omega)
  rw [hzz] at h5
  obtain ⟨u1, u2⟩ := ush_nn (x := z) (k := 8) (s := 8) (by decide) (by decide) (by decide)
  obtain ⟨w1, w2⟩ := ush_nn (x := z) (k := 16) (s := 16) (by decide) (by decide) (by decide)
  have hzI : (nI zeal).toInt = (zeal : Int) := nI_c (by omega)
  have hrI : (nI (nn (ush z 16) % 12)).toInt = ((nn (ush z 16) % 12 : Nat) : Int) := nI_c (by omega)
  refine WS.aload_n hx dX0_openDrawn_0 rfl 0 rfl ?_
  refine WS.getR hx okX0 lf0_21 rfl rfl dX0_openDrawn_1 ?_
  refine WS.callVi (st := []) [] hx (c_X7_size V (d + 2) σ n hQs) okX7_size lm0_52 rfl rfl rfl rfl (Nat.le_of_ble_eq_true rfl) dX0_openDrawn_4 (fun v1 σ2 h3 => ?_)
  obtain ⟨rfl, rfl⟩ := h3
  show WS layC V 2 X σ 7 [(0, rf V 6)] [.int (nI n)]
  refine WS.if_eq (tgt := 27) hx dX0_openDrawn_7 (by decide) (fun c7 => ?_) (fun c7 => ?_)
  · skip
    show WS layC V 2 X σ 27 [(0, rf V 6)] []
    have hn0 : n = 0 := by (try simp only [i_le, i_lt, i_eq, tI_0, tI_1, tI_8, tI_12, tI_16] at c7); (try simp only [i_le, i_lt, i_eq, tI_0, tI_1, tI_8, tI_12, tI_16]); omega
    exact WS.vret hx he dX0_openDrawn_27 ⟨rfl, by rw [show agD (wdS σ0 n m c) n zeal s = s from if_neg (by rw [hzz]; first | exact fun q => q.1 hn0 | exact fun q => hzl q.2.1 | exact fun q => absurd (hb50.symm.trans q.2.2) (by decide))]; exact hE, hL⟩
  · skip
    show WS layC V 2 X σ 10 [(0, rf V 6)] []
    have hn0 : ¬ n = 0 := by (try simp only [i_le, i_lt, i_eq, tI_0, tI_1, tI_8, tI_12, tI_16] at c7); (try simp only [i_le, i_lt, i_eq, tI_0, tI_1, tI_8, tI_12, tI_16]); omega
    have hkn : zD z n < n := Nat.mod_lt _ (by omega)
    have hkn9 : zD z n < 10 := by omega
    have ht : 38 ≤ 42 + zD z n ∧ 42 + zD z n ≤ 51 := by omega
    obtain ⟨o7, ol7, ho7, tq⟩ := h7 _ hkn
    obtain ⟨t2, t3, t4, t5, t6, t7, t8, tp⟩ := id tq
    refine WS.aload_n hx dX0_openDrawn_10 rfl 0 rfl ?_
    refine WS.getI hx okX0 lf0_36 rfl rfl dX0_openDrawn_11 ?_
    refine WS.as rfl rfl (congrArg (fun z => Value.int z :: _) (show σ.1 6 3 = z from h5)) ?_
    skip
    refine WS.bipush (v := 16) hx dX0_openDrawn_14 (by decide) ?_
    refine WS.iushr hx dX0_openDrawn_16 ?_
    refine WS.as rfl rfl (congrArg (fun z => Value.int z :: _) (show (Int32.toUInt32 z >>> (Int32.toUInt32 16 &&& Int32.toUInt32 31)).toInt32 = ush z 16 from rfl)) ?_
    skip
    refine WS.bipush (v := 12) hx dX0_openDrawn_17 (by decide) ?_
    refine WS.irem hx dX0_openDrawn_19 (by decide) ?_
    refine WS.as rfl rfl (congrArg (fun z => Value.int z :: _) (show (ush z 16) - (ush z 16) / 12 * 12 = nI (nn (ush z 16) % 12) from rem_nn w1 (by decide) (by decide))) ?_
    skip
    refine WS.aload_n hx dX0_openDrawn_20 rfl 0 rfl ?_
    refine WS.getI hx okX0 lf0_39 rfl rfl dX0_openDrawn_21 ?_
    refine WS.as rfl rfl (congrArg (fun z => Value.int z :: _) (show σ.1 6 4 = nI zeal from h3.trans hz)) ?_
    skip
    refine WS.icmp_lt (tgt := 28) hx dX0_openDrawn_24 (by decide) (fun c24 => ?_) (fun c24 => ?_)
    · skip
      show WS layC V 2 X σ 28 [(0, rf V 6)] []
      have hzl : nn (ush z 16) % 12 < zeal := by (try simp only [i_le, i_lt, i_eq, tI_0, tI_1, tI_8, tI_12, tI_16] at c7); (try simp only [i_le, i_lt, i_eq, tI_0, tI_1, tI_8, tI_12, tI_16] at c24); (try simp only [i_le, i_lt, i_eq, tI_0, tI_1, tI_8, tI_12, tI_16]); omega
      refine WS.aload_n hx dX0_openDrawn_28 rfl 0 rfl ?_
      refine WS.getR hx okX0 lf0_11 rfl rfl dX0_openDrawn_29 ?_
      refine WS.aload_n hx dX0_openDrawn_32 rfl 0 rfl ?_
      refine WS.getI hx okX0 lf0_36 rfl rfl dX0_openDrawn_33 ?_
      refine WS.as rfl rfl (congrArg (fun z => Value.int z :: _) (show σ.1 6 3 = z from h5)) ?_
      skip
      refine WS.bipush (v := 8) hx dX0_openDrawn_36 (by decide) ?_
      refine WS.iushr hx dX0_openDrawn_38 ?_
      refine WS.as rfl rfl (congrArg (fun z => Value.int z :: _) (show (Int32.toUInt32 z >>> (Int32.toUInt32 8 &&& Int32.toUInt32 31)).toInt32 = ush z 8 from rfl)) ?_
      skip
      refine WS.aload_n hx dX0_openDrawn_39 rfl 0 rfl ?_
      refine WS.getR hx okX0 lf0_21 rfl rfl dX0_openDrawn_40 ?_
      refine WS.callVi (st := [.int (ush z 8), rf V 27]) [] hx (c_X7_size V (d + 2) σ n hQs) okX7_size lm0_52 rfl rfl rfl rfl (Nat.le_of_ble_eq_true rfl) dX0_openDrawn_43 (fun v4 σ5 h6 => ?_)
      obtain ⟨rfl, rfl⟩ := h6
      show WS layC V 2 X σ 46 [(0, rf V 6)] [.int (nI n), .int (ush z 8), rf V 27]
      refine WS.irem hx dX0_openDrawn_46 (by rw [i_eq, hnI, tI_0]; omega) ?_
      refine WS.as rfl rfl (congrArg (fun z => Value.int z :: _) (show (ush z 8) - (ush z 8) / (nI n) * (nI n) = nI (zD z n) from rem_nn u1 (by omega) (by omega))) ?_
      skip
      refine WS.aald hx rfl rfl (vp_in_nI hkn9 (by decide)) dX0_openDrawn_47 ?_
      refine WS.as rfl rfl (congrArg (fun z => rf V z :: _) (show 42 + (nn (nI (zD z n))) = 42 + zD z n from by rw [nn_nI (by omega)])) ?_
      skip
      refine WS.astore_n (lo' := [(1, rf V (42 + zD z n)), (0, rf V 6)]) hx dX0_openDrawn_48 rfl (by decide) rfl ?_
      refine WS.aload_n hx dX0_openDrawn_49 rfl 0 rfl ?_
      refine WS.callVi (st := []) [] hx (c_X9_isOpened V (d + 2) σ (42 + zD z n) ht (s.2.1 (zD z n)) tp) okX9_isOpened lm0_58 rfl (lay_th ht) rfl rfl (Nat.le_of_ble_eq_true rfl) dX0_openDrawn_50 (fun v7 σ8 h9 => ?_)
      rcases h9 with ⟨rfl, rfl, hb50⟩ | ⟨rfl, rfl, hb50⟩
      · skip
        show WS layC V 2 X σ 53 [(1, rf V (42 + zD z n)), (0, rf V 6)] [.int 1]
        refine WS.if_eq (tgt := 57) hx dX0_openDrawn_53 (by decide) (fun h => absurd h (by decide)) (fun _ => ?_)
        exact WS.vret hx he dX0_openDrawn_56 ⟨rfl, by rw [show agD (wdS σ0 n m c) n zeal s = s from if_neg (by rw [hzz]; first | exact fun q => q.1 hn0 | exact fun q => hzl q.2.1 | exact fun q => absurd (hb50.symm.trans q.2.2) (by decide))]; exact hE, hL⟩
      · skip
        show WS layC V 2 X σ 53 [(1, rf V (42 + zD z n)), (0, rf V 6)] [.int 0]
        refine WS.if_eq (tgt := 57) hx dX0_openDrawn_53 (by decide) (fun _ => ?_) (fun h => absurd (by decide) h)
        refine WS.aload_n hx dX0_openDrawn_57 rfl 0 rfl ?_
        refine WS.callVv (st := []) [] hx (c_X9_beOpen V (d + 2) σ (42 + zD z n) ht) okX9_beOpen lm0_77 rfl (lay_th ht) rfl rfl (Nat.le_of_ble_eq_true rfl) dX0_openDrawn_58 (fun σ11 h12 => ?_)
        obtain rfl := h12
        show WS layC V 2 X (stI σ (42 + zD z n) 9 1) 61 [(1, rf V (42 + zD z n)), (0, rf V 6)] []
        refine WS.aload_n hx dX0_openDrawn_61 rfl 1 rfl ?_
        refine WS.dup hx dX0_openDrawn_62 rfl ?_
        refine WS.getI hx okX0 lf0_28 rfl rfl dX0_openDrawn_63 ?_
        refine WS.as rfl rfl (congrArg (fun z => Value.int z :: _) (show (stI σ (42 + zD z n) 9 1).1 6 6 = s.2.2.2.2.2 from by rw [stI_o _ _ _ _ (show 6 ≠ 42 + zD z n by omega)]; exact h6)) ?_
        skip
        refine WS.aload_n hx dX0_openDrawn_66 rfl 0 rfl ?_
        refine WS.callVi (st := [.int s.2.2.2.2.2, rf V 6]) [] hx (c_X9_wouldSay V (d + 1) (stI σ (42 + zD z n) 9 1) (42 + zD z n) ht (s.1 (zD z n)) (h8 _ hkn) (by rw [stI_k _ _ _ _ (by decide)]; exact t4)) okX9_wouldSay lm0_80 rfl (lay_th ht) rfl rfl (Nat.le_of_ble_eq_true rfl) dX0_openDrawn_67 (fun v13 σ14 h15 => ?_)
        obtain ⟨rfl, rfl⟩ := h15
        show WS layC V 2 X (stI σ (42 + zD z n) 9 1) 70 [(1, rf V (42 + zD z n)), (0, rf V 6)] [.int ((stI σ (42 + zD z n) 9 1).1 17 (s.1 (zD z n))), .int s.2.2.2.2.2, rf V 6]
        refine WS.as rfl rfl (congrArg (fun z => Value.int z :: _) (show (stI σ (42 + zD z n) 9 1).1 17 (s.1 (zD z n)) = σ0.1 17 (s.1 (zD z n)) from by rw [stI_o _ _ _ _ (show 17 ≠ 42 + zD z n by omega), h1.1 17 (ns (by decide))])) ?_
        skip
        refine WS.iadd hx dX0_openDrawn_70 ?_
        refine WS.putI hx okX0 lf0_28 rfl rfl rfl rfl dX0_openDrawn_71 ?_
        refine WS.aload_n hx dX0_openDrawn_74 rfl 1 rfl ?_
        refine WS.dup hx dX0_openDrawn_75 rfl ?_
        refine WS.getI hx okX0 lf0_68 rfl rfl dX0_openDrawn_76 ?_
        refine WS.as rfl rfl (congrArg (fun z => Value.int z :: _) (show (stI (stI σ (42 + zD z n) 9 1) 6 6 (s.2.2.2.2.2 + (σ0.1 17 (s.1 (zD z n))))).1 6 5 = nI s.2.2.2.1 from by rw [stI_k _ _ _ _ (by decide), stI_o _ _ _ _ (show 6 ≠ 42 + zD z n by omega)]; exact h4)) ?_
        skip
        refine WS.iconst (v := 1) hx dX0_openDrawn_79 (by decide) ?_
        refine WS.iadd hx dX0_openDrawn_80 ?_
        refine WS.as rfl rfl (congrArg (fun z => Value.int z :: _) (show (nI s.2.2.2.1) + 1 = nI (s.2.2.2.1 + 1) from nI_1 _)) ?_
        skip
        refine WS.putI hx okX0 lf0_68 rfl rfl rfl rfl dX0_openDrawn_81 ?_
        exact WS.vret hx he dX0_openDrawn_84 ⟨rfl, by
      have hpf : s.2.1 (zD z n) = false := by cases h : s.2.1 (zD z n); rfl; exact absurd h hb50
      rw [show agD (wdS σ0 n m c) n zeal s = _ from if_pos (by rw [hzz]; exact ⟨hn0, hzl, hpf⟩), hzz]
      have sc : scr (42 + zD z n) := by unfold scr; omega
      refine ⟨h1.tr (((SE.st sc).tr (SE.st (Or.inr (Or.inl rfl)))).tr (SE.st (Or.inr (Or.inl rfl)))), ?_, ?_, ?_, ?_, ?_, ?_, h8, h9, ?_⟩
      · rw [stI_o _ _ _ _ (by decide), stI_o _ _ _ _ (by decide), stI_o _ _ _ _ (by omega)]; exact h2
      · rw [stI_k _ _ _ _ (by decide), stI_k _ _ _ _ (by decide), stI_o _ _ _ _ (by omega)]; exact h3
      · rw [stI_1]
      · rw [stI_k _ _ _ _ (by decide), stI_k _ _ _ _ (by decide), stI_o _ _ _ _ (by omega)]; exact h5
      · rw [stI_k _ _ _ _ (by decide), stI_1]; rfl
      · intro b hb
        by_cases e : b = zD z n
        · subst e
          refine ⟨o7, ol7, ho7, ?_⟩
          simp only [va_up, if_true]
          unfold Th
          rw [stI_o _ _ _ _ (show 42 + zD z n ≠ 6 by omega), stI_o _ _ _ _ (show 42 + zD z n ≠ 6 by omega)]
          exact ⟨by rw [stI_k _ _ _ _ (by decide)]; exact t2, by rw [stI_k _ _ _ _ (by decide)]; exact t3, by rw [stI_k _ _ _ _ (by decide)]; exact t4, by rw [stI_k _ _ _ _ (by decide)]; exact t5, by rw [stI_k _ _ _ _ (by decide)]; exact t6, by rw [stI_k _ _ _ _ (by decide)]; exact t7, by rw [stI_k _ _ _ _ (by decide)]; exact t8, by rw [stI_1]; rfl⟩
        · have := h7 b hb
          show TA _ _ b (s.1 b) s.2.2.1 (va_up s.2.1 (zD z n) true b)
          rw [show va_up s.2.1 (zD z n) true b = s.2.1 b by simp [va_up, e]]
          exact ((this.ne (show 42 + b ≠ 42 + zD z n by omega) ThE.st).no (by decide)).no (by decide)
      · show s.2.2.2.1 + 1 = cntB (va_up s.2.1 (zD z n) true) n
        rw [cntB_up hpf, if_pos hkn, h10], ((hL.th ht.1).ne (by decide)).ne (by decide)⟩
    · skip
      show WS layC V 2 X σ 27 [(0, rf V 6)] []
      have hzl : ¬ nn (ush z 16) % 12 < zeal := by (try simp only [i_le, i_lt, i_eq, tI_0, tI_1, tI_8, tI_12, tI_16] at c7); (try simp only [i_le, i_lt, i_eq, tI_0, tI_1, tI_8, tI_12, tI_16] at c24); (try simp only [i_le, i_lt, i_eq, tI_0, tI_1, tI_8, tI_12, tI_16]); omega
      exact WS.vret hx he dX0_openDrawn_27 ⟨rfl, by rw [show agD (wdS σ0 n m c) n zeal s = s from if_neg (by rw [hzz]; first | exact fun q => q.1 hn0 | exact fun q => hzl q.2.1 | exact fun q => absurd (hb50.symm.trans q.2.2) (by decide))]; exact hE, hL⟩
def ag0 (W : Wd) (n : Nat) (z said : Int32) : Ag := (fun b => (W.s0 b).1, W.2.2.2.2.2.2.1, W.2.2.2.2.2.2.2, W.2.2.2.2.2.1, z, said)
noncomputable def agR (W : Wd) (n zeal : Nat) : Nat → Ag → Ag
  | 0, s => s
  | u + 1, s => agR W n zeal u (agS W n zeal s)
def agQ (W : Wd) (s : Ag) (i : Nat) : Ag := (fun b => if b < i then agP W s b else s.1 b, s.2)
theorem cnt_B {f : Nat → Int32} : ∀ n, (∀ j, j < n → rg (f j) 1) → cnt f n = cntB (fun k => decide (f k = 1)) n
  | 0, _ => rfl
  | n + 1, h => by
    have ih := cnt_B n (fun j hj => h j (by omega))
    have h3 := h n (by omega)
    have h4 := h3.le
    unfold cnt cntB
    rw [ih]
    by_cases e : f n = 1
    · rw [e]; simp; rfl
    · have : nn (f n) = 0 := by
        have h5 := h3.i
        rcases Nat.lt_or_ge (nn (f n)) 1 with h6 | h6
        · omega
        · exfalso; apply e; rw [h5, show nn (f n) = 1 by omega]; rfl
      rw [this]; simp [e]
def AI (σ0 τ : Sg) (n m c : Nat) (s : Ag) (i : Nat) : Prop := SE σ0 τ ∧ τ.1 28 = σ0.1 28 ∧ τ.1 6 4 = σ0.1 6 4 ∧ τ.1 6 5 = nI s.2.2.2.1 ∧ τ.1 6 3 = s.2.2.2.2.1 ∧ τ.1 6 6 = s.2.2.2.2.2 ∧ (∀ b, b < n → TA (wdS σ0 n m c) τ b ((agQ (wdS σ0 n m c) s i).1 b) (if b < i then min (s.2.2.1 + 1) 99 else s.2.2.1) (s.2.1 b))
set_option maxHeartbeats 1000000 in
theorem lp3_X0_passAge (V : Vt) (d : Nat) (σ0 : Sg) (n : Nat) (hQ : QI σ0 n) (m c : Nat) (hL0 : LI V σ0 m c) (zeal : Nat) (hz : σ0.1 6 4 = nI zeal) (hz2 : zeal ≤ 100) (u : Nat) (hu : u ≤ 100) (sF : Ag) (X : Xt) (hx : Ok V RX0 cX0_passAge 4 (d + 4) X) (he : En layC V none (Rv fun σ' => AE σ0 σ' n m c sF ∧ LI V σ' m c) X) (s : Ag) (hs8 : ∀ b, b < n → s.1 b < 16) (hs9 : s.2.2.1 ≤ 99) (hs10 : s.2.2.2.1 = cntB s.2.1 n) (j : Nat) (kk : ∀ τ : Sg, AE σ0 τ n m c (agT (wdS σ0 n m c) s) → LI V τ m c → ∀ v3 : Int32, WS layC V 4 X τ 98 [(3, .int v3), (2, .int (nI j)), (0, rf V 6), (1, .int (nI u))] []) : ∀ (i : Nat) (τ : Sg), i ≤ n → AI σ0 τ n m c s i → LI V τ m c → WS layC V 4 X τ 68 [(3, .int (nI i)), (2, .int (nI j)), (0, rf V 6), (1, .int (nI u))] [] := by
  intro i
  induction hm : n - i using Nat.strongRecOn generalizing i with
  | _ m9 ih =>
    intro τ hi hE hLt
    obtain ⟨h1, h2, h3, h4, h5, h6, h7⟩ := id hE
    have hn10 := hQ.n
    have hcl := cntB_le s.2.1 n
    have hiI : (nI i).toInt = (i : Int) := nI_c (by omega)
    have hnI : (nI n).toInt = (n : Int) := nI_c (by omega)
    have hQt := hQ.se h1
    have hcc := hL0.c.2.2
    have hwt : wdS τ n m c = wdS σ0 n m c := wdS_se h1 hcc
    refine WS.iload_n hx dX0_passAge_68 rfl 0 rfl ?_
    refine WS.aload_n hx dX0_passAge_69 rfl 2 rfl ?_
    refine WS.getR hx okX0 lf0_21 rfl rfl dX0_passAge_70 ?_
    refine WS.callVi (st := [.int (nI i)]) [] hx (c_X7_size V (d + 3) τ n hQt) okX7_size lm0_52 rfl rfl rfl rfl (Nat.le_of_ble_eq_true rfl) dX0_passAge_73 (fun v1 σ2 h3 => ?_)
    obtain ⟨rfl, rfl⟩ := h3
    show WS layC V 4 X τ 76 [(3, .int (nI i)), (2, .int (nI j)), (0, rf V 6), (1, .int (nI u))] [.int (nI n), .int (nI i)]
    refine WS.icmp_ge (tgt := 98) hx dX0_passAge_76 (by decide) (fun c76 => ?_) (fun c76 => ?_)
    · skip
      show WS layC V 4 X τ 98 [(3, .int (nI i)), (2, .int (nI j)), (0, rf V 6), (1, .int (nI u))] []
      exact kk _ ⟨h1, h2, h3, h4, h5, h6, fun b hb => by have h9 := h7 b hb; rw [show (agQ (wdS σ0 n m c) s i).1 b = agP (wdS σ0 n m c) s b from if_pos (by (try simp only [i_le, i_lt, i_eq, tI_0, tI_1] at c76); (try simp only [i_le, i_lt, i_eq, tI_0, tI_1]); omega), if_pos (by (try simp only [i_le, i_lt, i_eq, tI_0, tI_1] at c76); (try simp only [i_le, i_lt, i_eq, tI_0, tI_1]); omega)] at h9; exact h9, fun b hb => (cen_r (fun a ha => (hQ.L ha).2) (hs8 b hb)).1, by show min _ _ ≤ 99; omega, hs10⟩ hLt _
    · skip
      show WS layC V 4 X τ 79 [(3, .int (nI i)), (2, .int (nI j)), (0, rf V 6), (1, .int (nI u))] []
      have hil : i < n := by (try simp only [i_le, i_lt, i_eq, tI_0, tI_1] at c76); (try simp only [i_le, i_lt, i_eq, tI_0, tI_1]); omega
      have hti : 38 ≤ 42 + i ∧ 42 + i ≤ 51 := by omega
      obtain ⟨o7, ol7, ho7, tq⟩ := h7 i hil
      rw [show (agQ (wdS σ0 n m c) s i).1 i = s.1 i from if_neg (Nat.lt_irrefl i), if_neg (Nat.lt_irrefl i)] at tq
      refine WS.aload_n hx dX0_passAge_79 rfl 2 rfl ?_
      refine WS.getR hx okX0 lf0_11 rfl rfl dX0_passAge_80 ?_
      refine WS.iload_n hx dX0_passAge_83 rfl 0 rfl ?_
      refine WS.aald hx rfl rfl (vp_in_nI (by (try simp only [i_le, i_lt, i_eq, tI_0, tI_1] at c76); (try simp only [i_le, i_lt, i_eq, tI_0, tI_1]); omega) (by decide)) dX0_passAge_84 ?_
      refine WS.as rfl rfl (congrArg (fun z => rf V z :: _) (show 42 + (nn (nI i)) = 42 + i from by rw [nn_nI (by omega)])) ?_
      skip
      refine WS.aload_n hx dX0_passAge_85 rfl 2 rfl ?_
      refine WS.getI hx okX0 lf0_68 rfl rfl dX0_passAge_86 ?_
      refine WS.as rfl rfl (congrArg (fun z => Value.int z :: _) (show τ.1 6 5 = nI s.2.2.2.1 from h4)) ?_
      skip
      refine WS.callVv (st := []) [.int (nI s.2.2.2.1)] hx (c_X9_passCentury V d τ (42 + i) hti n hQt m c hLt i _ _ _ _ _ _ _ tq ⟨by omega, bd_r (m := m) (c := c) hQ hil, by have := hs8 i hil; omega, hs9, ho7⟩ (Or.inl rfl) s.2.2.2.1 (by omega)) okX9_passCentury lm0_74 rfl (lay_th hti) rfl rfl (Nat.le_of_ble_eq_true rfl) dX0_passAge_89 (fun σ5 h6 => ?_)
      obtain ⟨the89, li89, th89⟩ := h6
      have e9 : cen (lwF (τ.1 c) m) (elF (Lc τ) (-1) ol7) (τ.1 17) i ((wdS σ0 n m c).bd i) s.2.2.2.1 (s.2.1 i) (s.1 i, s.2.2.1) = (agP (wdS σ0 n m c) s i, min (s.2.2.1 + 1) 99) := by
        unfold agP cen
        rw [itr_congr (L := elF (Lc τ) (-1) ol7) (L' := Lc τ) (fun a ha => elF_m1 ha) (fun a ha => (hQt.L ha).2) _ _ (hs8 i hil)]
        rw [← hwt]
        rfl
      rw [e9] at th89
      show WS layC V 4 X σ5 92 [(3, .int (nI i)), (2, .int (nI j)), (0, rf V 6), (1, .int (nI u))] []
      refine WS.iinc (v := nI (i + 1)) (lo' := [(3, .int (nI (i + 1))), (2, .int (nI j)), (0, rf V 6), (1, .int (nI u))]) hx dX0_passAge_92 0 rfl (nI_1 i) (by decide) rfl ?_
      refine WS.goto (tgt := 68) hx dX0_passAge_95 (by decide) ?_
      exact WS.los [0, 1, 2, 3] rfl (ih _ (by omega) (i + 1) rfl σ5 (by omega) ⟨h1.tr (SE.the hti the89), (the89.1 28 (by decide) (by decide) (by decide) (by omega)) ▸ h2, (congrFun (the89.1 6 (by decide) (by decide) (by decide) (by omega)) 4).trans h3, (congrFun (the89.1 6 (by decide) (by decide) (by decide) (by omega)) 5).trans h4, (congrFun (the89.1 6 (by decide) (by decide) (by decide) (by omega)) 3).trans h5, (congrFun (the89.1 6 (by decide) (by decide) (by decide) (by omega)) 6).trans h6, fun b hb => by
            by_cases e : b = i
            · subst e
              rw [show (agQ (wdS σ0 n m c) s (b + 1)).1 b = agP (wdS σ0 n m c) s b from if_pos (Nat.lt_succ_self b), if_pos (Nat.lt_succ_self b)]
              exact ⟨o7, ol7, ho7, th89⟩
            · have h9 := (h7 b hb).ne (show 42 + b ≠ 42 + i by omega) the89
              rw [show (agQ (wdS σ0 n m c) s (i + 1)).1 b = (agQ (wdS σ0 n m c) s i).1 b by simp only [agQ, show b < i + 1 ↔ b < i by omega], show (if b < i + 1 then min (s.2.2.1 + 1) 99 else s.2.2.1) = (if b < i then min (s.2.2.1 + 1) 99 else s.2.2.1) by simp only [show b < i + 1 ↔ b < i by omega]]
              exact h9⟩ li89)
theorem AE.ai {σ0 τ : Sg} {n m c : Nat} {s : Ag} (h : AE σ0 τ n m c s) : AI σ0 τ n m c s 0 := by
  obtain ⟨h1, h2, h3, h4, h5, h6, h7, h8, h9, h10⟩ := h
  refine ⟨h1, h2, h3, h4, h5, h6, fun b hb => ?_⟩
  have h11 := h7 b hb
  simpa [agQ] using h11
theorem AE.z {σ0 τ : Sg} {n m c : Nat} {s : Ag} (h : AE σ0 τ n m c s) (z : Int32) : AE σ0 (stI τ 6 3 z) n m c (s.1, s.2.1, s.2.2.1, s.2.2.2.1, z, s.2.2.2.2.2) := by
  obtain ⟨h1, h2, h3, h4, h5, h6, h7, h8, h9, h10⟩ := h
  exact ⟨h1.tr (SE.st (Or.inr (Or.inl rfl))), h2, h3, h4, rfl, h6, fun b hb => (h7 b hb).no (by decide), h8, h9, h10⟩
set_option maxHeartbeats 1000000 in
theorem lp2_X0_passAge (V : Vt) (d : Nat) (σ0 : Sg) (n : Nat) (hQ : QI σ0 n) (m c : Nat) (hL0 : LI V σ0 m c) (zeal : Nat) (hz : σ0.1 6 4 = nI zeal) (hz2 : zeal ≤ 100) (u : Nat) (hu : u ≤ 100) (sF : Ag) (X : Xt) (hx : Ok V RX0 cX0_passAge 4 (d + 4) X) (he : En layC V none (Rv fun σ' => AE σ0 σ' n m c sF ∧ LI V σ' m c) X) : ∀ (k j : Nat) (s : Ag) (τ : Sg), j + k = u → AE σ0 τ n m c s → LI V τ m c → agR (wdS σ0 n m c) n zeal k s = sF → WS layC V 4 X τ 42 [(2, .int (nI j)), (0, rf V 6), (1, .int (nI u))] [] := by
  intro k
  induction k with
  | zero =>
    intro j s τ hjk hE hLt hf
    have hjI : (nI j).toInt = (j : Int) := nI_c (by omega)
    have huI : (nI u).toInt = (u : Int) := nI_c (by omega)
    refine WS.iload_n hx dX0_passAge_42 rfl 0 rfl ?_
    refine WS.iload_n hx dX0_passAge_43 rfl 2 rfl ?_
    refine WS.icmp_ge (tgt := 104) hx dX0_passAge_44 (by decide) (fun c44 => ?_) (fun c44 => by exfalso; (try simp only [i_le, i_lt, i_eq, tI_0, tI_1] at c44); (try simp only [i_le, i_lt, i_eq, tI_0, tI_1]); omega)
    exact WS.vret hx he dX0_passAge_104 ⟨rfl, by rw [← hf]; exact hE, hLt⟩
  | succ k ih =>
    intro j s τ hjk hE hLt hf
    have hjI : (nI j).toInt = (j : Int) := nI_c (by omega)
    have huI : (nI u).toInt = (u : Int) := nI_c (by omega)
    obtain ⟨h1, h2, h3, h4, h5, h6, h7, h8, h9, h10⟩ := id hE
    refine WS.iload_n hx dX0_passAge_42 rfl 0 rfl ?_
    refine WS.iload_n hx dX0_passAge_43 rfl 2 rfl ?_
    refine WS.icmp_ge (tgt := 104) hx dX0_passAge_44 (by decide) (fun c44 => by exfalso; (try simp only [i_le, i_lt, i_eq, tI_0, tI_1] at c44); (try simp only [i_le, i_lt, i_eq, tI_0, tI_1]); omega) (fun c44 => ?_)
    refine WS.aload_n hx dX0_passAge_47 rfl 1 rfl ?_
    refine WS.aload_n hx dX0_passAge_48 rfl 1 rfl ?_
    refine WS.getI hx okX0 lf0_36 rfl rfl dX0_passAge_49 ?_
    refine WS.as rfl rfl (congrArg (fun z => Value.int z :: _) (show τ.1 6 3 = s.2.2.2.2.1 from h5)) ?_
    skip
    refine WS.ldc (v := 1103515245) hx lc0_70 dX0_passAge_52 ?_
    refine WS.imul hx dX0_passAge_54 ?_
    refine WS.sipush (v := 12345) hx dX0_passAge_55 (by decide) ?_
    refine WS.iadd hx dX0_passAge_58 ?_
    refine WS.as rfl rfl (congrArg (fun z => Value.int z :: _) (show (s.2.2.2.2.1 * 1103515245) + 12345 = nz s.2.2.2.2.1 from rfl)) ?_
    skip
    refine WS.putI hx okX0 lf0_36 rfl rfl rfl rfl dX0_passAge_59 ?_
    refine WS.aload_n hx dX0_passAge_62 rfl 1 rfl ?_
    refine WS.callVv (st := []) [] hx (c_X0_openDrawn V d (stI τ 6 3 (nz s.2.2.2.2.1)) σ0 n hQ m c hL0 (s.1, s.2.1, s.2.2.1, s.2.2.2.1, nz s.2.2.2.2.1, s.2.2.2.2.2) (hE.z _) (hLt.ne (by decide)) zeal hz hz2 _ rfl) okX0_openDrawn lm0_71 rfl rfl rfl rfl (Nat.le_of_ble_eq_true rfl) dX0_passAge_63 (fun σ2 h3 => ?_)
    obtain ⟨ae63, li63⟩ := h3
    obtain ⟨a1, a2, a3, a4, a5, a6, a7, a8, a9, a10⟩ := id ae63
    show WS layC V 4 X σ2 66 [(2, .int (nI j)), (0, rf V 6), (1, .int (nI u))] []
    refine WS.iconst (v := 0) hx dX0_passAge_66 (by decide) ?_
    refine WS.istore_n (lo' := [(3, .int 0), (2, .int (nI j)), (0, rf V 6), (1, .int (nI u))]) hx dX0_passAge_67 rfl (by decide) rfl ?_
    refine WS.los [0, 1, 2, 3] rfl ?_
    refine lp3_X0_passAge V d σ0 n hQ m c hL0 zeal hz hz2 u hu sF X hx he (agD (wdS σ0 n m c) n zeal (s.1, s.2.1, s.2.2.1, s.2.2.2.1, nz s.2.2.2.2.1, s.2.2.2.2.2)) a8 a9 a10 j (fun τ2 hE2 hL2 v3 => ?_) 0 σ2 (Nat.zero_le n) ae63.ai li63
    refine WS.iinc (v := nI (j + 1)) (lo' := [(2, .int (nI (j + 1))), (3, .int v3), (0, rf V 6), (1, .int (nI u))]) hx dX0_passAge_98 1 rfl (nI_1 j) (by decide) rfl ?_
    refine WS.goto (tgt := 42) hx dX0_passAge_101 (by decide) ?_
    exact WS.los [0, 2, 3] rfl (ih (j + 1) _ τ2 (by omega) hE2 hL2 hf)
set_option maxHeartbeats 1000000 in
theorem lp1_X0_passAge (V : Vt) (d : Nat) (σ0 : Sg) (n : Nat) (hQ : QI σ0 n) (m c : Nat) (hL0 : LI V σ0 m c) (zeal : Nat) (hz : σ0.1 6 4 = nI zeal) (hz2 : zeal ≤ 100) (u : Nat) (hu : u ≤ 100) (sF : Ag) (X : Xt) (hx : Ok V RX0 cX0_passAge 4 (d + 4) X) (he : En layC V none (Rv fun σ' => AE σ0 σ' n m c sF ∧ LI V σ' m c) X) (hf : agR (wdS σ0 n m c) n zeal u (ag0 (wdS σ0 n m c) n (σ0.1 6 3) (σ0.1 6 6)) = sF) : ∀ (i : Nat) (τ : Sg), i ≤ n → SE σ0 τ ∧ τ.1 28 = σ0.1 28 ∧ τ.1 6 = σ0.1 6 ∧ (∀ b, b < i → TA (wdS σ0 n m c) τ b ((wdS σ0 n m c).s0 b).1 ((wdS σ0 n m c).s0 b).2 ((wdS σ0 n m c).2.2.2.2.2.2.1 b)) → LI V τ m c → WS layC V 4 X τ 2 [(2, .int (nI i)), (0, rf V 6), (1, .int (nI u))] [] := by
  intro i
  induction hm : n - i using Nat.strongRecOn generalizing i with
  | _ m9 ih =>
    intro τ hi hE hLt
    obtain ⟨h1, h2, h3, h4⟩ := id hE
    have hn10 := hQ.n
    have hiI : (nI i).toInt = (i : Int) := nI_c (by omega)
    have hnI : (nI n).toInt = (n : Int) := nI_c (by omega)
    have hQt := hQ.se h1
    have hcc := hL0.c.2.2
    have hwt : wdS τ n m c = wdS σ0 n m c := wdS_se h1 hcc
    refine WS.iload_n hx dX0_passAge_2 rfl 0 rfl ?_
    refine WS.aload_n hx dX0_passAge_3 rfl 1 rfl ?_
    refine WS.getR hx okX0 lf0_21 rfl rfl dX0_passAge_4 ?_
    refine WS.callVi (st := [.int (nI i)]) [] hx (c_X7_size V (d + 3) τ n hQt) okX7_size lm0_52 rfl rfl rfl rfl (Nat.le_of_ble_eq_true rfl) dX0_passAge_7 (fun v1 σ2 h3 => ?_)
    obtain ⟨rfl, rfl⟩ := h3
    show WS layC V 4 X τ 10 [(2, .int (nI i)), (0, rf V 6), (1, .int (nI u))] [.int (nI n), .int (nI i)]
    refine WS.icmp_ge (tgt := 29) hx dX0_passAge_10 (by decide) (fun c10 => ?_) (fun c10 => ?_)
    · skip
      show WS layC V 4 X τ 29 [(2, .int (nI i)), (0, rf V 6), (1, .int (nI u))] []
      refine WS.aload_n hx dX0_passAge_29 rfl 1 rfl ?_
      refine WS.aload_n hx dX0_passAge_30 rfl 1 rfl ?_
      refine WS.getR hx okX0 lf0_21 rfl rfl dX0_passAge_31 ?_
      refine WS.callVi (st := [rf V 6]) [] hx (c_X7_openOnes V (d + 3) τ n hQt) okX7_openOnes lm0_65 rfl rfl rfl rfl (Nat.le_of_ble_eq_true rfl) dX0_passAge_34 (fun v4 σ5 h6 => ?_)
      obtain ⟨rfl, rfl⟩ := h6
      show WS layC V 4 X τ 37 [(2, .int (nI i)), (0, rf V 6), (1, .int (nI u))] [.int (l_sum (τ.1 14) n), rf V 6]
      refine WS.as rfl rfl (congrArg (fun z => Value.int z :: _) (show l_sum (τ.1 14) n = nI (cnt (σ0.1 14) n) from by rw [h1.1 14 (ns (by decide))]; exact hQ.o.1)) ?_
      skip
      refine WS.putI hx okX0 lf0_68 rfl rfl rfl rfl dX0_passAge_37 ?_
      refine WS.iconst (v := 0) hx dX0_passAge_40 (by decide) ?_
      refine WS.istore_n (lo' := [(2, .int 0), (0, rf V 6), (1, .int (nI u))]) hx dX0_passAge_41 rfl (by decide) rfl ?_
      have hin : n = i := by (try simp only [i_le, i_lt, i_eq, tI_0, tI_1] at c10); (try simp only [i_le, i_lt, i_eq, tI_0, tI_1]); omega
      refine WS.los [0, 1, 2] rfl ?_
      refine lp2_X0_passAge V d σ0 n hQ m c hL0 zeal hz hz2 u hu sF X hx he u 0 (ag0 (wdS σ0 n m c) n (σ0.1 6 3) (σ0.1 6 6)) (stI τ 6 5 (nI (cnt (σ0.1 14) n))) (Nat.zero_add u) ⟨h1.tr (SE.st (Or.inr (Or.inl rfl))), h2, (congrFun h3 4), stI_1 _ _ _ _, (congrFun h3 3), (congrFun h3 6), fun b hb => (h4 b (by omega)).no (by decide), fun b hb => (s0_r (m := m) (c := c) hQ hb).1, hQ.2.2.2.2.2.2.2.2.2.le, cnt_B n (fun q hq => hQ.2.2.2.2.2.1 q (by omega))⟩ (hLt.ne (by decide)) hf
    · skip
      show WS layC V 4 X τ 13 [(2, .int (nI i)), (0, rf V 6), (1, .int (nI u))] []
      have hil : i < n := by (try simp only [i_le, i_lt, i_eq, tI_0, tI_1] at c10); (try simp only [i_le, i_lt, i_eq, tI_0, tI_1]); omega
      have hti : 38 ≤ 42 + i ∧ 42 + i ≤ 51 := by omega
      refine WS.aload_n hx dX0_passAge_13 rfl 1 rfl ?_
      refine WS.getR hx okX0 lf0_11 rfl rfl dX0_passAge_14 ?_
      refine WS.iload_n hx dX0_passAge_17 rfl 0 rfl ?_
      refine WS.aald hx rfl rfl (vp_in_nI (by (try simp only [i_le, i_lt, i_eq, tI_0, tI_1] at c10); (try simp only [i_le, i_lt, i_eq, tI_0, tI_1]); omega) (by decide)) dX0_passAge_18 ?_
      refine WS.as rfl rfl (congrArg (fun z => rf V z :: _) (show 42 + (nn (nI i)) = 42 + i from by rw [nn_nI (by omega)])) ?_
      skip
      refine WS.iload_n hx dX0_passAge_19 rfl 0 rfl ?_
      refine WS.callVv (st := []) [.int (nI i)] hx (ck_begin V d τ (42 + i) hti n hQt m c hLt i hil) okX9_begin lm0_62 rfl (lay_th hti) rfl rfl (Nat.le_of_ble_eq_true rfl) dX0_passAge_20 (fun σ8 h9 => ?_)
      obtain ⟨the20, li20, tk20⟩ := h9
      rw [hwt] at tk20
      show WS layC V 4 X σ8 23 [(2, .int (nI i)), (0, rf V 6), (1, .int (nI u))] []
      refine WS.iinc (v := nI (i + 1)) (lo' := [(2, .int (nI (i + 1))), (0, rf V 6), (1, .int (nI u))]) hx dX0_passAge_23 0 rfl (nI_1 i) (by decide) rfl ?_
      refine WS.goto (tgt := 2) hx dX0_passAge_26 (by decide) ?_
      exact WS.los [0, 1, 2] rfl (ih _ (by omega) (i + 1) rfl σ8 (by omega) ⟨h1.tr (SE.the hti the20), (the20.1 28 (by decide) (by decide) (by decide) (by omega)).trans h2, (the20.1 6 (by decide) (by decide) (by decide) (by omega)).trans h3, fun b hb => by
            by_cases e : b = i
            · subst e
              obtain ⟨ol, tq⟩ := tk20
              exact ⟨_, ol, by have := hQ.o.2; show cnt (σ0.1 14) n ≤ 15; omega, tq⟩
            · exact (h4 b (by omega)).ne (show 42 + b ≠ 42 + i by omega) the20⟩ li20)
set_option maxHeartbeats 1000000 in
theorem c_X0_passAge (V : Vt) (d : Nat) (σ : Sg) (n : Nat) (hQ : QI σ n) (m c : Nat) (hL : LI V σ m c) (zeal : Nat) (hz : σ.1 6 4 = nI zeal) (hz2 : zeal ≤ 100) (u : Nat) (hu : u ≤ 100) : CT layC V mX0_passAge (d + 4) [rf V 6, .int (nI u)] σ (Rv fun σ' => AE σ σ' n m c (agR (wdS σ n m c) n zeal u (ag0 (wdS σ n m c) n (σ.1 6 3) (σ.1 6 6))) ∧ LI V σ' m c) := by
  refine CT.of (own := RX0) rfl (by decide) (Nat.le_of_ble_eq_true rfl) (fun X (hx : Ok V RX0 cX0_passAge 4 (d + 4) X) (he : En layC V none (Rv fun σ' => AE σ σ' n m c (agR (wdS σ n m c) n zeal u (ag0 (wdS σ n m c) n (σ.1 6 3) (σ.1 6 6))) ∧ LI V σ' m c) X) => ?_)
  change WS layC V 4 X σ 0 [(0, rf V 6), (1, .int (nI u))] []
  refine WS.iconst (v := 0) hx dX0_passAge_0 (by decide) ?_
  refine WS.istore_n (lo' := [(2, .int 0), (0, rf V 6), (1, .int (nI u))]) hx dX0_passAge_1 rfl (by decide) rfl ?_
  exact lp1_X0_passAge V d σ n hQ m c hL zeal hz hz2 u hu _ X hx he rfl 0 σ (Nat.zero_le n) ⟨SE.rf, rfl, rfl, fun b hb => absurd hb (Nat.not_lt_zero b)⟩ hL

theorem lm2_38 : Cond.methodLink RX2 38 arraycopyName ∈ TBg := tb2 196 (by decide +kernel) rfl
theorem lm6_104 : Cond.methodLink RX6 104 arraycopyName ∈ TBg := tb4 17 (by decide +kernel) rfl
theorem lm3_92 : Cond.methodLink RX3 92 arraycopyName ∈ TBg := tb4 221 (by decide +kernel) rfl
theorem lm8_55 : Cond.methodLink RX8 55 arraycopyName ∈ TBg := tb5 150 (by decide +kernel) rfl
theorem arraycopy_st : Cond.static arraycopyName ∈ TBg := tb2 197 (by decide +kernel) rfl
theorem sys_in : Cond.initialized "java/lang/System" ∈ TBg := tb1 14 (by decide +kernel) rfl
theorem lcJ_265 : Cond.constant "java/lang/Integer" 265 (1431655765) ∈ TBg := tb3 152 (by decide +kernel) rfl
theorem lcJ_266 : Cond.constant "java/lang/Integer" 266 (858993459) ∈ TBg := tb3 153 (by decide +kernel) rfl
theorem lcJ_267 : Cond.constant "java/lang/Integer" 267 (252645135) ∈ TBg := tb3 154 (by decide +kernel) rfl
/-- the lesser, the greater, how many bits (as the JDK works it out), a row filled -/
def mn (a b : Int32) : Int32 := if b < a then b else a
def mx (a b : Int32) : Int32 := if a < b then b else a
def fillF {α : Type} (n : Nat) (v : α) (f : Nat → α) : Nat → α := fun j => if j < n then v else f j
theorem fill_0 {α : Type} (v : α) (f : Nat → α) : fillF 0 v f = f := by funext j; simp [fillF]
theorem stR_0 (σ : Sg) (a : Nat) (v : Int32) : stR σ a (fillF 0 v (σ.1 a)) = σ := by
  rw [fill_0]
  show (va_up σ.1 a (σ.1 a), σ.2) = σ
  rw [show va_up σ.1 a (σ.1 a) = σ.1 by funext q; unfold va_up; split <;> simp_all]
theorem stRL_0 (σ : Sg) (a : Nat) (v : Int64) : stRL σ a (fillF 0 v (σ.2.1 a)) = σ := by
  rw [fill_0]
  show (σ.1, va_up σ.2.1 a (σ.2.1 a), σ.2.2) = σ
  rw [show va_up σ.2.1 a (σ.2.1 a) = σ.2.1 by funext q; unfold va_up; split <;> simp_all]
theorem fill_s (σ : Sg) (a i : Nat) (v : Int32) (f : Nat → Int32) : stI (stR σ a (fillF i v f)) a i v = stR σ a (fillF (i + 1) v f) := by
  unfold stI stR
  refine Prod.ext ?_ rfl
  funext q
  by_cases h : q = a
  · subst h
    funext j
    simp only [va_up, if_true, upd, fillF]
    by_cases h1 : j = i
    · simp [h1]
    · rw [if_neg h1]
      by_cases h2 : j < i
      · rw [if_pos h2, if_pos (by omega)]
      · rw [if_neg h2, if_neg (by omega)]
  · simp [va_up, h]
theorem fillL_s (σ : Sg) (a i : Nat) (v : Int64) (f : Nat → Int64) : stL (stRL σ a (fillF i v f)) a i v = stRL σ a (fillF (i + 1) v f) := by
  unfold stL stRL
  refine Prod.ext rfl (Prod.ext ?_ rfl)
  funext q
  by_cases h : q = a
  · subst h
    funext j
    simp only [va_up, if_true, vp_updL, fillF]
    by_cases h1 : j = i
    · simp [h1]
    · rw [if_neg h1]
      by_cases h2 : j < i
      · rw [if_pos h2, if_pos (by omega)]
      · rw [if_neg h2, if_neg (by omega)]
  · simp [va_up, h]
theorem cw_min : Cond.code Lib.Math.min.name Lib.Math.min.code 2 (some .int) ∈ TBg := tb1 33 (by decide +kernel) rfl
theorem sw_min : Cond.static Lib.Math.min.name ∈ TBg := tb1 32 (by decide +kernel) rfl
theorem cw_max : Cond.code Lib.Math.max.name Lib.Math.max.code 2 (some .int) ∈ TBg := tb3 104 (by decide +kernel) rfl
theorem sw_max : Cond.static Lib.Math.max.name ∈ TBg := tb3 103 (by decide +kernel) rfl
theorem in_math : Cond.initialized "java/lang/Math" ∈ TBg := tb1 3 (by decide +kernel) rfl
theorem WS.mmin {lay : List LK} {V : Vt} {nL : Nat} {X : Xt} {σ : Sg} {pc d : Nat} {lo : List (Nat × Value)} {st : List Value} {own : String} {cc : ByteArray} {index : Nat} {x y : Int32} (hx : Ok V own cc nL (d + 1) X) (hlink : Cond.methodLink own index yJ_min ∈ TBg) (hw : (st.map fun v => v.category).sum ≤ 8) (hd : decode cc pc = .ok (.invokestatic index, 3)) (kk : WS lay V nL X σ (pc + 3) lo (.int (mn x y) :: st)) : WS lay V nL X σ pc lo (.int y :: .int x :: st) := by
  obtain ⟨p, l, e, R, s, m, args, below, meth, c, A, Q⟩ := X
  obtain ⟨hx1, hx2, hx3, hx4, hx5, hx6, hx7, hx8, hx9, hx10, hx11⟩ := hx
  subst hx8
  intro H locs ls hP hD hS hl
  exact va_mmin hx1 hx2 (hx3.trans hl.1.symm) hx4 (hx5 _ hlink) (hx5 _ sw_min) (hx5 _ in_math) (hx5 _ cw_min) (by show 1 ≤ d + 1; omega) (by show _ ≤ 64 * (d + 1); omega) (Nat.zero_le _) (Nat.zero_le _) hd (kk H locs ls hP hD hS hl)
theorem WS.mmax {lay : List LK} {V : Vt} {nL : Nat} {X : Xt} {σ : Sg} {pc d : Nat} {lo : List (Nat × Value)} {st : List Value} {own : String} {cc : ByteArray} {index : Nat} {x y : Int32} (hx : Ok V own cc nL (d + 1) X) (hlink : Cond.methodLink own index yJ_max ∈ TBg) (hw : (st.map fun v => v.category).sum ≤ 8) (hd : decode cc pc = .ok (.invokestatic index, 3)) (kk : WS lay V nL X σ (pc + 3) lo (.int (mx x y) :: st)) : WS lay V nL X σ pc lo (.int y :: .int x :: st) := by
  obtain ⟨p, l, e, R, s, m, args, below, meth, c, A, Q⟩ := X
  obtain ⟨hx1, hx2, hx3, hx4, hx5, hx6, hx7, hx8, hx9, hx10, hx11⟩ := hx
  subst hx8
  intro H locs ls hP hD hS hl
  exact va_mmax hx1 hx2 (hx3.trans hl.1.symm) hx4 (hx5 _ hlink) (hx5 _ sw_max) (hx5 _ in_math) (hx5 _ cw_max) (by show 1 ≤ d + 1; omega) (by show _ ≤ 64 * (d + 1); omega) (Nat.zero_le _) (Nat.zero_le _) hd (kk H locs ls hP hD hS hl)
def ush (x y : Int32) : Int32 := (Int32.toUInt32 x >>> (Int32.toUInt32 y &&& Int32.toUInt32 31)).toInt32
def bc1 (x : Int32) : Int32 := x - (ush x 1 &&& 1431655765)
def bc2 (x : Int32) : Int32 := (x &&& 858993459) + (ush x 2 &&& 858993459)
def bc3 (x : Int32) : Int32 := (x + ush x 4) &&& 252645135
def bc4 (x : Int32) : Int32 := x + ush x 8
def bc5 (x : Int32) : Int32 := x + ush x 16
def bcF (x : Int32) : Int32 := bc5 (bc4 (bc3 (bc2 (bc1 x)))) &&& 63
set_option maxHeartbeats 1000000 in
theorem c_J_bits (V : Vt) (d : Nat) (σ : Sg) (x : Int32) : CT layC V mJ_bits (d) [.int x] σ (Ro (bcF x) σ) := by
  refine CT.of (own := "java/lang/Integer") rfl (by decide) (Nat.le_of_ble_eq_true rfl) (fun X (hx : Ok V "java/lang/Integer" cJ_bits 1 (d) X) (he : En layC V (some .int) (Ro (bcF x) σ) X) => ?_)
  change WS layC V 1 X σ 0 [(0, .int x)] []
  refine WS.iload_n hx dJ_bits_0 rfl 0 rfl ?_
  refine WS.iload_n hx dJ_bits_1 rfl 0 rfl ?_
  refine WS.iconst (v := 1) hx dJ_bits_2 (by decide) ?_
  refine WS.iushr hx dJ_bits_3 ?_
  refine WS.ldc_w (v := 1431655765) hx lcJ_265 dJ_bits_4 ?_
  refine WS.iand hx dJ_bits_7 ?_
  refine WS.isub hx dJ_bits_8 ?_
  refine WS.as rfl rfl (congrArg (fun z => Value.int z :: _) (show x - (((Int32.toUInt32 x >>> (Int32.toUInt32 1 &&& Int32.toUInt32 31)).toInt32) &&& 1431655765) = bc1 x from rfl)) ?_
  skip
  refine WS.istore_n (lo' := [(0, .int (bc1 x))]) hx dJ_bits_9 rfl (by decide) rfl ?_
  refine WS.iload_n hx dJ_bits_10 rfl 0 rfl ?_
  refine WS.ldc_w (v := 858993459) hx lcJ_266 dJ_bits_11 ?_
  refine WS.iand hx dJ_bits_14 ?_
  refine WS.iload_n hx dJ_bits_15 rfl 0 rfl ?_
  refine WS.iconst (v := 2) hx dJ_bits_16 (by decide) ?_
  refine WS.iushr hx dJ_bits_17 ?_
  refine WS.ldc_w (v := 858993459) hx lcJ_266 dJ_bits_18 ?_
  refine WS.iand hx dJ_bits_21 ?_
  refine WS.iadd hx dJ_bits_22 ?_
  refine WS.as rfl rfl (congrArg (fun z => Value.int z :: _) (show ((bc1 x) &&& 858993459) + (((Int32.toUInt32 (bc1 x) >>> (Int32.toUInt32 2 &&& Int32.toUInt32 31)).toInt32) &&& 858993459) = bc2 (bc1 x) from rfl)) ?_
  skip
  refine WS.istore_n (lo' := [(0, .int (bc2 (bc1 x)))]) hx dJ_bits_23 rfl (by decide) rfl ?_
  refine WS.iload_n hx dJ_bits_24 rfl 0 rfl ?_
  refine WS.iload_n hx dJ_bits_25 rfl 0 rfl ?_
  refine WS.iconst (v := 4) hx dJ_bits_26 (by decide) ?_
  refine WS.iushr hx dJ_bits_27 ?_
  refine WS.iadd hx dJ_bits_28 ?_
  refine WS.ldc_w (v := 252645135) hx lcJ_267 dJ_bits_29 ?_
  refine WS.iand hx dJ_bits_32 ?_
  refine WS.as rfl rfl (congrArg (fun z => Value.int z :: _) (show ((bc2 (bc1 x)) + ((Int32.toUInt32 (bc2 (bc1 x)) >>> (Int32.toUInt32 4 &&& Int32.toUInt32 31)).toInt32)) &&& 252645135 = bc3 (bc2 (bc1 x)) from rfl)) ?_
  skip
  refine WS.istore_n (lo' := [(0, .int (bc3 (bc2 (bc1 x))))]) hx dJ_bits_33 rfl (by decide) rfl ?_
  refine WS.iload_n hx dJ_bits_34 rfl 0 rfl ?_
  refine WS.iload_n hx dJ_bits_35 rfl 0 rfl ?_
  refine WS.bipush (v := 8) hx dJ_bits_36 (by decide) ?_
  refine WS.iushr hx dJ_bits_38 ?_
  refine WS.iadd hx dJ_bits_39 ?_
  refine WS.as rfl rfl (congrArg (fun z => Value.int z :: _) (show (bc3 (bc2 (bc1 x))) + ((Int32.toUInt32 (bc3 (bc2 (bc1 x))) >>> (Int32.toUInt32 8 &&& Int32.toUInt32 31)).toInt32) = bc4 (bc3 (bc2 (bc1 x))) from rfl)) ?_
  skip
  refine WS.istore_n (lo' := [(0, .int (bc4 (bc3 (bc2 (bc1 x)))))]) hx dJ_bits_40 rfl (by decide) rfl ?_
  refine WS.iload_n hx dJ_bits_41 rfl 0 rfl ?_
  refine WS.iload_n hx dJ_bits_42 rfl 0 rfl ?_
  refine WS.bipush (v := 16) hx dJ_bits_43 (by decide) ?_
  refine WS.iushr hx dJ_bits_45 ?_
  refine WS.iadd hx dJ_bits_46 ?_
  refine WS.as rfl rfl (congrArg (fun z => Value.int z :: _) (show (bc4 (bc3 (bc2 (bc1 x)))) + ((Int32.toUInt32 (bc4 (bc3 (bc2 (bc1 x)))) >>> (Int32.toUInt32 16 &&& Int32.toUInt32 31)).toInt32) = bc5 (bc4 (bc3 (bc2 (bc1 x)))) from rfl)) ?_
  skip
  refine WS.istore_n (lo' := [(0, .int (bc5 (bc4 (bc3 (bc2 (bc1 x))))))]) hx dJ_bits_47 rfl (by decide) rfl ?_
  refine WS.iload_n hx dJ_bits_48 rfl 0 rfl ?_
  refine WS.bipush (v := 63) hx dJ_bits_49 (by decide) ?_
  refine WS.iand hx dJ_bits_51 ?_
  exact WS.iret hx he dJ_bits_52 (Ro.i rfl)
set_option maxHeartbeats 1000000 in
theorem lp_J_fillI (V : Vt) (d : Nat) (σ : Sg) (a n : Nat) (hn : n ≤ 100000) (hL : layC[a]? = some (.inr (.inl (0, n)))) (v : Int32) (X : Xt) (hx : Ok V "java/util/Arrays" cJ_fillI 4 d X) (he : En layC V none (Rvo (stR σ a (fillF n v (σ.1 a)))) X) : ∀ i : Nat, i ≤ n → WS layC V 4 X (stR σ a (fillF i v (σ.1 a))) 5 [(3, .int (nI n)), (2, .int (nI i)), (0, rf V a), (1, .int v)] [] := by
  intro i
  induction hm : n - i using Nat.strongRecOn generalizing i with
  | _ m ih =>
    intro hi
    have hiI : (nI i).toInt = (i : Int) := nI_c (by omega)
    have hnI : (nI n).toInt = (n : Int) := nI_c (by omega)
    refine WS.iload_n hx dJ_fillI_5 rfl 1 rfl ?_
    refine WS.iload_n hx dJ_fillI_6 rfl 0 rfl ?_
    refine WS.icmp_ge (tgt := 20) hx dJ_fillI_7 (by decide) (fun c7 => ?_) (fun c7 => ?_)
    · skip
      show WS layC V 4 X (stR σ a (fillF i v (σ.1 a))) 20 [(3, .int (nI n)), (2, .int (nI i)), (0, rf V a), (1, .int v)] []
      exact WS.vret hx he dJ_fillI_20 (Rvo.s (by rw [show i = n by (try simp only [i_le, i_lt, i_eq, tI_0, tI_1] at c7); (try simp only [i_le, i_lt, i_eq, tI_0, tI_1]); omega]))
    · skip
      show WS layC V 4 X (stR σ a (fillF i v (σ.1 a))) 10 [(3, .int (nI n)), (2, .int (nI i)), (0, rf V a), (1, .int v)] []
      refine WS.aload_n hx dJ_fillI_10 rfl 2 rfl ?_
      refine WS.iload_n hx dJ_fillI_11 rfl 1 rfl ?_
      refine WS.iload_n hx dJ_fillI_12 rfl 3 rfl ?_
      refine WS.iast hx hL (vp_in_nI (by (try simp only [i_le, i_lt, i_eq, tI_0, tI_1] at c7); (try simp only [i_le, i_lt, i_eq, tI_0, tI_1]); omega) (by omega)) dJ_fillI_13 ?_
      refine WS.iinc (v := nI (i + 1)) (lo' := [(2, .int (nI (i + 1))), (3, .int (nI n)), (0, rf V a), (1, .int v)]) hx dJ_fillI_14 1 rfl (nI_1 i) (by decide) rfl ?_
      refine WS.goto (tgt := 5) hx dJ_fillI_17 (by decide) ?_
      refine WS.los [1, 0, 2, 3] rfl ?_
      rw [nI_clamp (show i < 2 ^ 31 by omega), fill_s]
      exact ih (n - (i + 1)) (by (try simp only [i_le, i_lt, i_eq, tI_0, tI_1] at c7); (try simp only [i_le, i_lt, i_eq, tI_0, tI_1]); omega) (i + 1) rfl (by (try simp only [i_le, i_lt, i_eq, tI_0, tI_1] at c7); (try simp only [i_le, i_lt, i_eq, tI_0, tI_1]); omega)
set_option maxHeartbeats 1000000 in
theorem c_J_fillI (V : Vt) (d : Nat) (σ : Sg) (a : Nat) (v : Int32) (n : Nat) (hn : n ≤ 100000) (hL : layC[a]? = some (.inr (.inl (0, n)))) : CT layC V mJ_fillI (d) [rf V a, .int v] σ (Rvo (stR σ a (fillF n v (σ.1 a)))) := by
  refine CT.of (own := "java/util/Arrays") rfl (by decide) (Nat.le_of_ble_eq_true rfl) (fun X (hx : Ok V "java/util/Arrays" cJ_fillI 4 (d) X) (he : En layC V none (Rvo (stR σ a (fillF n v (σ.1 a)))) X) => ?_)
  change WS layC V 4 X σ 0 [(0, rf V a), (1, .int v)] []
  refine WS.iconst (v := 0) hx dJ_fillI_0 (by decide) ?_
  refine WS.istore_n (lo' := [(2, .int 0), (0, rf V a), (1, .int v)]) hx dJ_fillI_1 rfl (by decide) rfl ?_
  refine WS.aload_n hx dJ_fillI_2 rfl 1 rfl ?_
  refine WS.alen (v := (nI n)) hx hL rfl rfl dJ_fillI_3 ?_
  refine WS.istore_n (lo' := [(3, .int (nI n)), (2, .int 0), (0, rf V a), (1, .int v)]) hx dJ_fillI_4 rfl (by decide) rfl ?_
  have h9 := lp_J_fillI V d σ a n hn hL v X hx he 0 (Nat.zero_le n)
  rw [stR_0] at h9
  exact WS.los [0, 1, 2, 3] rfl h9
set_option maxHeartbeats 1000000 in
theorem lp_J_fillL (V : Vt) (d : Nat) (σ : Sg) (a n : Nat) (hn : n ≤ 100000) (hL : layC[a]? = some (.inr (.inl (1, n)))) (v : Int64) (X : Xt) (hx : Ok V "java/util/Arrays" cJ_fillL 5 d X) (he : En layC V none (Rvo (stRL σ a (fillF n v (σ.2.1 a)))) X) : ∀ i : Nat, i ≤ n → WS layC V 5 X (stRL σ a (fillF i v (σ.2.1 a))) 6 [(4, .int (nI n)), (3, .int (nI i)), (0, rf V a), (1, .long v)] [] := by
  intro i
  induction hm : n - i using Nat.strongRecOn generalizing i with
  | _ m ih =>
    intro hi
    have hiI : (nI i).toInt = (i : Int) := nI_c (by omega)
    have hnI : (nI n).toInt = (n : Int) := nI_c (by omega)
    refine WS.iload_n hx dJ_fillL_6 rfl 1 rfl ?_
    refine WS.iload hx dJ_fillL_7 0 rfl ?_
    refine WS.icmp_ge (tgt := 22) hx dJ_fillL_9 (by decide) (fun c9 => ?_) (fun c9 => ?_)
    · skip
      show WS layC V 5 X (stRL σ a (fillF i v (σ.2.1 a))) 22 [(4, .int (nI n)), (3, .int (nI i)), (0, rf V a), (1, .long v)] []
      exact WS.vret hx he dJ_fillL_22 (Rvo.s (by rw [show i = n by (try simp only [i_le, i_lt, i_eq, tI_0, tI_1] at c9); (try simp only [i_le, i_lt, i_eq, tI_0, tI_1]); omega]))
    · skip
      show WS layC V 5 X (stRL σ a (fillF i v (σ.2.1 a))) 12 [(4, .int (nI n)), (3, .int (nI i)), (0, rf V a), (1, .long v)] []
      refine WS.aload_n hx dJ_fillL_12 rfl 2 rfl ?_
      refine WS.iload_n hx dJ_fillL_13 rfl 1 rfl ?_
      refine WS.lload_n hx dJ_fillL_14 rfl 3 rfl ?_
      refine WS.last hx hL (vp_in_nI (by (try simp only [i_le, i_lt, i_eq, tI_0, tI_1] at c9); (try simp only [i_le, i_lt, i_eq, tI_0, tI_1]); omega) (by omega)) dJ_fillL_15 ?_
      refine WS.iinc (v := nI (i + 1)) (lo' := [(3, .int (nI (i + 1))), (4, .int (nI n)), (0, rf V a), (1, .long v)]) hx dJ_fillL_16 1 rfl (nI_1 i) (by decide) rfl ?_
      refine WS.goto (tgt := 6) hx dJ_fillL_19 (by decide) ?_
      refine WS.los [1, 0, 2, 3] rfl ?_
      rw [nI_clamp (show i < 2 ^ 31 by omega), fillL_s]
      exact ih (n - (i + 1)) (by (try simp only [i_le, i_lt, i_eq, tI_0, tI_1] at c9); (try simp only [i_le, i_lt, i_eq, tI_0, tI_1]); omega) (i + 1) rfl (by (try simp only [i_le, i_lt, i_eq, tI_0, tI_1] at c9); (try simp only [i_le, i_lt, i_eq, tI_0, tI_1]); omega)
set_option maxHeartbeats 1000000 in
theorem c_J_fillL (V : Vt) (d : Nat) (σ : Sg) (a : Nat) (v : Int64) (n : Nat) (hn : n ≤ 100000) (hL : layC[a]? = some (.inr (.inl (1, n)))) : CT layC V mJ_fillL (d) [rf V a, .long v] σ (Rvo (stRL σ a (fillF n v (σ.2.1 a)))) := by
  refine CT.of (own := "java/util/Arrays") rfl (by decide) (Nat.le_of_ble_eq_true rfl) (fun X (hx : Ok V "java/util/Arrays" cJ_fillL 5 (d) X) (he : En layC V none (Rvo (stRL σ a (fillF n v (σ.2.1 a)))) X) => ?_)
  change WS layC V 5 X σ 0 [(0, rf V a), (1, .long v)] []
  refine WS.iconst (v := 0) hx dJ_fillL_0 (by decide) ?_
  refine WS.istore_n (lo' := [(3, .int 0), (0, rf V a), (1, .long v)]) hx dJ_fillL_1 rfl (by decide) rfl ?_
  refine WS.aload_n hx dJ_fillL_2 rfl 1 rfl ?_
  refine WS.alen (v := (nI n)) hx hL rfl rfl dJ_fillL_3 ?_
  refine WS.istore (lo' := [(4, .int (nI n)), (3, .int 0), (0, rf V a), (1, .long v)]) hx dJ_fillL_4 (by decide) rfl ?_
  have h9 := lp_J_fillL V d σ a n hn hL v X hx he 0 (Nat.zero_le n)
  rw [stRL_0] at h9
  exact WS.los [0, 1, 2, 3] rfl h9

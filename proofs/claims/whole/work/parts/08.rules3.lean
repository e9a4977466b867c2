section RULES3
variable {lay : List LK} {V : Vt} {nL : Nat} {X : Xt} {σ : Sg} {pc d : Nat} {lo : List (Nat × Value)} {st : List Value} {own : String} {cc : ByteArray}
theorem WS.topi {x : Int32} (k : ∀ y : Int32, y = x → WS lay V nL X σ pc lo (.int y :: st)) : WS lay V nL X σ pc lo (.int x :: st) := k x rfl
theorem WS.topl {x : Int64} (k : ∀ y : Int64, y = x → WS lay V nL X σ pc lo (.long y :: st)) : WS lay V nL X σ pc lo (.long x :: st) := k x rfl
theorem WS.sg (k : ∀ σ' : Sg, σ' = σ → WS lay V nL X σ' pc lo st) : WS lay V nL X σ pc lo st := k σ rfl
theorem WS.ldc_w {index : Nat} {v : Int32} (hx : Ok V own cc nL d X) (hc : Cond.constant own index v ∈ TBg) (hd : decode cc pc = .ok (.ldc_w index, 3)) (kk : WS lay V nL X σ (pc + 3) lo (.int v :: st)) : WS lay V nL X σ pc lo st := by
  obtain ⟨p, l, e, R, s, m, args, below, meth, c, A, Q⟩ := X
  intro H locs ls hP hD hS hl
  exact lv_ldcw hx.1 hx.2.1 hx.2.2.2.1 (hx.2.2.2.2.1 _ hc) hd (kk H locs ls hP hD hS hl)
/-- System.arraycopy of ints, of longs -/
theorem WS.copyI {index a b n0 n1 : Nat} {sp dp n : Int32} (hx : Ok V own cc nL (d + 1) X) (hlink : Cond.methodLink own index arraycopyName ∈ TBg) (hnat : Cond.native arraycopyName ∈ TBg) (hstat : Cond.static arraycopyName ∈ TBg) (hini : Cond.initialized "java/lang/System" ∈ TBg) (hL0 : lay[a]? = some (.inr (.inl (0, n0)))) (hL1 : lay[b]? = some (.inr (.inl (0, n1)))) (h1 : ¬ sp < 0) (h2 : ¬ dp < 0) (h3 : ¬ n < 0) (h4 : sp.toNatClampNeg + n.toNatClampNeg ≤ n0) (h5 : dp.toNatClampNeg + n.toNatClampNeg ≤ n1) (hw : (st.map fun v => v.category).sum ≤ 8) (hd : decode cc pc = .ok (.invokestatic index, 3))
    (kk : WS lay V nL X (stR σ b (va_cpy (σ.1 a) (σ.1 b) sp.toNatClampNeg dp.toNatClampNeg n.toNatClampNeg)) (pc + 3) lo st) : WS lay V nL X σ pc lo (.int n :: .int dp :: rf V b :: .int sp :: rf V a :: st) := by
  obtain ⟨p, l, e, R, s, m, args, below, meth, c, A, Q⟩ := X
  obtain ⟨hx1, hx2, hx3, hx4, hx5, hx6, hx7, hx8, hx9, hx10, hx11⟩ := hx
  subst hx8
  intro H locs ls hP hD hS hl
  have hset : (wl V lay σ).set b (V.2.2.1 b, .inl (V.2.1 0, n1, .inl (va_cpy (σ.1 a) (σ.1 b) sp.toNatClampNeg dp.toNatClampNeg n.toNatClampNeg))) = wl V lay (stR σ b (va_cpy (σ.1 a) (σ.1 b) sp.toNatClampNeg dp.toNatClampNeg n.toNatClampNeg)) := wl_set hL1 (by simp [lk_e, stR, va_up]) (fun j hj => by simp [stR, va_up, hj])
  refine va_copyi hx1 hx2 (hx3.trans hl.1.symm) hx4 (hx5 _ hlink) (hx5 _ hnat) (hx5 _ hstat) (hx5 _ hini) hx6 hP hD hS a b 0 0 (c0 := V.2.1 0) (c1 := V.2.1 0) (n0 := n0) (n1 := n1) (f := σ.1 a) (g := σ.1 b) (ty := .int) (wl_at hL0) (wl_at hL1) rfl rfl rfl h1 h2 h3 h4 h5 (fun _ _ => rfl) (by show 1 ≤ d + 1; omega) ?_ hd (fun H1 locs1 hP1 hD1 hS1 => ?_)
  · have : nativeFrameWords "java/lang/System" "arraycopy" 5 ≤ 40 := by decide +kernel
    show _ ≤ 64 * (d + 1)
    omega
  · rw [hset] at hP1 hD1
    exact kk H1 locs1 ls hP1 hD1 hS1 hl
theorem WS.copyL {index a b n0 n1 : Nat} {sp dp n : Int32} (hx : Ok V own cc nL (d + 1) X) (hlink : Cond.methodLink own index arraycopyName ∈ TBg) (hnat : Cond.native arraycopyName ∈ TBg) (hstat : Cond.static arraycopyName ∈ TBg) (hini : Cond.initialized "java/lang/System" ∈ TBg) (hL0 : lay[a]? = some (.inr (.inl (1, n0)))) (hL1 : lay[b]? = some (.inr (.inl (1, n1)))) (h1 : ¬ sp < 0) (h2 : ¬ dp < 0) (h3 : ¬ n < 0) (h4 : sp.toNatClampNeg + n.toNatClampNeg ≤ n0) (h5 : dp.toNatClampNeg + n.toNatClampNeg ≤ n1) (hw : (st.map fun v => v.category).sum ≤ 8) (hd : decode cc pc = .ok (.invokestatic index, 3))
    (kk : WS lay V nL X (stRL σ b (va_cpy (σ.2.1 a) (σ.2.1 b) sp.toNatClampNeg dp.toNatClampNeg n.toNatClampNeg)) (pc + 3) lo st) : WS lay V nL X σ pc lo (.int n :: .int dp :: rf V b :: .int sp :: rf V a :: st) := by
  obtain ⟨p, l, e, R, s, m, args, below, meth, c, A, Q⟩ := X
  obtain ⟨hx1, hx2, hx3, hx4, hx5, hx6, hx7, hx8, hx9, hx10, hx11⟩ := hx
  subst hx8
  intro H locs ls hP hD hS hl
  have hset : (wl V lay σ).set b (V.2.2.1 b, .inl (V.2.1 1, n1, .inr (.inl (va_cpy (σ.2.1 a) (σ.2.1 b) sp.toNatClampNeg dp.toNatClampNeg n.toNatClampNeg)))) = wl V lay (stRL σ b (va_cpy (σ.2.1 a) (σ.2.1 b) sp.toNatClampNeg dp.toNatClampNeg n.toNatClampNeg)) := wl_set hL1 (by simp [lk_e, stRL, va_up]) (fun j hj => by simp [stRL, va_up, hj])
  refine va_copyl hx1 hx2 (hx3.trans hl.1.symm) hx4 (hx5 _ hlink) (hx5 _ hnat) (hx5 _ hstat) (hx5 _ hini) hx6 hP hD hS a b 1 1 (c0 := V.2.1 1) (c1 := V.2.1 1) (n0 := n0) (n1 := n1) (f := σ.2.1 a) (g := σ.2.1 b) (ty := .long) (wl_at hL0) (wl_at hL1) rfl rfl rfl h1 h2 h3 h4 h5 (fun _ _ => rfl) (by show 1 ≤ d + 1; omega) ?_ hd (fun H1 locs1 hP1 hD1 hS1 => ?_)
  · have : nativeFrameWords "java/lang/System" "arraycopy" 5 ≤ 40 := by decide +kernel
    show _ ≤ 64 * (d + 1)
    omega
  · rw [hset] at hP1 hD1
    exact kk H1 locs1 ls hP1 hD1 hS1 hl
end RULES3
def zt_f (k : Nat) (j : Nat) : Int32 := match zt_list[k]? with
  | some q => q.2.2.2 j
  | none => 0
/-- reading what was written -/
theorem stI_1 (σ : Sg) (o k : Nat) (v : Int32) : (stI σ o k v).1 o k = v := by simp [stI, va_up, upd]
theorem stI_k (σ : Sg) (o k : Nat) (v : Int32) {j : Nat} (h : j ≠ k) : (stI σ o k v).1 o j = σ.1 o j := by simp [stI, va_up, upd, h]
theorem stI_o (σ : Sg) (o k : Nat) (v : Int32) {q : Nat} (h : q ≠ o) : (stI σ o k v).1 q = σ.1 q := by simp [stI, va_up, h]
theorem stI_2 (σ : Sg) (o k : Nat) (v : Int32) : (stI σ o k v).2 = σ.2 := rfl
theorem stL_1 (σ : Sg) (o k : Nat) (v : Int64) : (stL σ o k v).2.1 o k = v := by simp [stL, va_up, vp_updL]
theorem stL_k (σ : Sg) (o k : Nat) (v : Int64) {j : Nat} (h : j ≠ k) : (stL σ o k v).2.1 o j = σ.2.1 o j := by simp [stL, va_up, vp_updL, h]
theorem stL_o (σ : Sg) (o k : Nat) (v : Int64) {q : Nat} (h : q ≠ o) : (stL σ o k v).2.1 q = σ.2.1 q := by simp [stL, va_up, h]
theorem sw_out (x : Int32) (a b : Int) (h : x.toInt < a ∨ b < x.toInt) : x.toInt < a ∨ b < x.toInt := h
theorem i32_ne {x : Int32} {k : Int32} (h : ¬ x = k) : ¬ x.toInt = k.toInt := fun e => h (Int32.toInt_inj.mp e)
/-- numbers of the machine and whole numbers -/
theorem nI_r (k : Nat) (h : k < 2 ^ 31) : (nI k).toInt = (k : Int) := nI_toInt h
theorem i_le {x y : Int32} : x ≤ y ↔ x.toInt ≤ y.toInt := Int32.le_iff_toInt_le
theorem i_lt {x y : Int32} : x < y ↔ x.toInt < y.toInt := Int32.lt_iff_toInt_lt
theorem i_eq {x y : Int32} : x = y ↔ x.toInt = y.toInt := Int32.toInt_inj.symm
theorem l_le {x y : Int64} : x ≤ y ↔ x.toInt ≤ y.toInt := Int64.le_iff_toInt_le
theorem l_lt {x y : Int64} : x < y ↔ x.toInt < y.toInt := Int64.lt_iff_toInt_lt
theorem l_eq {x y : Int64} : x = y ↔ x.toInt = y.toInt := Int64.toInt_inj.symm
theorem i_rng (x : Int32) : -2147483648 ≤ x.toInt ∧ x.toInt ≤ 2147483647 := ⟨by have := Int32.le_toInt x; omega, by have := Int32.toInt_lt x; omega⟩
theorem i_nI {x : Int32} (h : 0 ≤ x.toInt) : x = nI x.toInt.toNat := by
  rw [i_eq, nI_r _ (by have := (i_rng x).2; omega)]
  omega
/-- a number between: as a whole number of the machine -/
theorem i_of {x : Int32} {n : Nat} (h : 0 ≤ x.toInt) (h2 : x.toInt < n) : ∃ k : Nat, k < n ∧ x = nI k := ⟨x.toInt.toNat, by omega, i_nI h⟩
theorem tI_0 : (0 : Int32).toInt = 0 := rfl
theorem tI_1 : (1 : Int32).toInt = 1 := rfl
theorem tI_2 : (2 : Int32).toInt = 2 := rfl
theorem tI_3 : (3 : Int32).toInt = 3 := rfl
theorem tI_4 : (4 : Int32).toInt = 4 := rfl
theorem tI_5 : (5 : Int32).toInt = 5 := rfl
theorem tI_6 : (6 : Int32).toInt = 6 := rfl
theorem tI_7 : (7 : Int32).toInt = 7 := rfl
theorem tI_8 : (8 : Int32).toInt = 8 := rfl
theorem tI_9 : (9 : Int32).toInt = 9 := rfl
theorem tI_10 : (10 : Int32).toInt = 10 := rfl
theorem tI_11 : (11 : Int32).toInt = 11 := rfl
theorem tI_12 : (12 : Int32).toInt = 12 := rfl
theorem tI_13 : (13 : Int32).toInt = 13 := rfl
theorem tI_14 : (14 : Int32).toInt = 14 := rfl
theorem tI_15 : (15 : Int32).toInt = 15 := rfl
theorem tI_16 : (16 : Int32).toInt = 16 := rfl
theorem tI_17 : (17 : Int32).toInt = 17 := rfl
theorem tI_18 : (18 : Int32).toInt = 18 := rfl
theorem tI_19 : (19 : Int32).toInt = 19 := rfl
theorem tI_20 : (20 : Int32).toInt = 20 := rfl
theorem tI_21 : (21 : Int32).toInt = 21 := rfl
theorem tI_22 : (22 : Int32).toInt = 22 := rfl
theorem tI_23 : (23 : Int32).toInt = 23 := rfl
theorem tI_24 : (24 : Int32).toInt = 24 := rfl
theorem tI_25 : (25 : Int32).toInt = 25 := rfl
theorem tI_26 : (26 : Int32).toInt = 26 := rfl
theorem tI_27 : (27 : Int32).toInt = 27 := rfl
theorem tI_28 : (28 : Int32).toInt = 28 := rfl
theorem tI_29 : (29 : Int32).toInt = 29 := rfl
theorem tI_30 : (30 : Int32).toInt = 30 := rfl
theorem tI_31 : (31 : Int32).toInt = 31 := rfl
theorem tI_32 : (32 : Int32).toInt = 32 := rfl
theorem tI_37 : (37 : Int32).toInt = 37 := rfl
theorem tI_38 : (38 : Int32).toInt = 38 := rfl
theorem tI_39 : (39 : Int32).toInt = 39 := rfl
theorem tI_40 : (40 : Int32).toInt = 40 := rfl
theorem tI_41 : (41 : Int32).toInt = 41 := rfl
theorem tI_42 : (42 : Int32).toInt = 42 := rfl
theorem tI_43 : (43 : Int32).toInt = 43 := rfl
theorem tI_45 : (45 : Int32).toInt = 45 := rfl
theorem tI_47 : (47 : Int32).toInt = 47 := rfl
theorem tI_48 : (48 : Int32).toInt = 48 := rfl
theorem tI_49 : (49 : Int32).toInt = 49 := rfl
theorem tI_50 : (50 : Int32).toInt = 50 := rfl
theorem tI_51 : (51 : Int32).toInt = 51 := rfl
theorem tI_57 : (57 : Int32).toInt = 57 := rfl
theorem tI_58 : (58 : Int32).toInt = 58 := rfl
theorem tI_59 : (59 : Int32).toInt = 59 := rfl
theorem tI_60 : (60 : Int32).toInt = 60 := rfl
theorem tI_61 : (61 : Int32).toInt = 61 := rfl
theorem tI_62 : (62 : Int32).toInt = 62 := rfl
theorem tI_63 : (63 : Int32).toInt = 63 := rfl
theorem tI_64 : (64 : Int32).toInt = 64 := rfl
theorem tI_70 : (70 : Int32).toInt = 70 := rfl
theorem tI_80 : (80 : Int32).toInt = 80 := rfl
theorem tI_81 : (81 : Int32).toInt = 81 := rfl
theorem tI_82 : (82 : Int32).toInt = 82 := rfl
theorem tI_83 : (83 : Int32).toInt = 83 := rfl
theorem tI_97 : (97 : Int32).toInt = 97 := rfl
theorem tI_98 : (98 : Int32).toInt = 98 := rfl
theorem tI_99 : (99 : Int32).toInt = 99 := rfl
theorem tI_100 : (100 : Int32).toInt = 100 := rfl
theorem tI_101 : (101 : Int32).toInt = 101 := rfl
theorem tI_102 : (102 : Int32).toInt = 102 := rfl
theorem tI_110 : (110 : Int32).toInt = 110 := rfl
theorem tI_111 : (111 : Int32).toInt = 111 := rfl
theorem tI_119 : (119 : Int32).toInt = 119 := rfl
theorem tI_120 : (120 : Int32).toInt = 120 := rfl
theorem tI_121 : (121 : Int32).toInt = 121 := rfl
theorem tI_124 : (124 : Int32).toInt = 124 := rfl
theorem tI_126 : (126 : Int32).toInt = 126 := rfl
theorem tI_127 : (127 : Int32).toInt = 127 := rfl
theorem tI_128 : (128 : Int32).toInt = 128 := rfl
theorem tI_240 : (240 : Int32).toInt = 240 := rfl
theorem tI_255 : (255 : Int32).toInt = 255 := rfl
theorem tI_256 : (256 : Int32).toInt = 256 := rfl
theorem tI_359 : (359 : Int32).toInt = 359 := rfl
theorem tI_360 : (360 : Int32).toInt = 360 := rfl
theorem tI_1023 : (1023 : Int32).toInt = 1023 := rfl
theorem tI_1024 : (1024 : Int32).toInt = 1024 := rfl
theorem tI_10000 : (10000 : Int32).toInt = 10000 := rfl
theorem tI_1000000 : (1000000 : Int32).toInt = 1000000 := rfl
theorem tI_m1 : (-1 : Int32).toInt = -1 := rfl
theorem tI_m2 : (-2 : Int32).toInt = -2 := rfl
theorem tI_m3 : (-3 : Int32).toInt = -3 := rfl
theorem tI_m4 : (-4 : Int32).toInt = -4 := rfl
theorem tI_m5 : (-5 : Int32).toInt = -5 := rfl
theorem tI_m6 : (-6 : Int32).toInt = -6 := rfl
theorem tI_m7 : (-7 : Int32).toInt = -7 := rfl
theorem tI_m11 : (-11 : Int32).toInt = -11 := rfl
theorem tI_m12 : (-12 : Int32).toInt = -12 := rfl
theorem tI_m13 : (-13 : Int32).toInt = -13 := rfl
theorem tI_m14 : (-14 : Int32).toInt = -14 := rfl
theorem tI_m33 : (-33 : Int32).toInt = -33 := rfl
theorem tI_m59 : (-59 : Int32).toInt = -59 := rfl
theorem tI_m63 : (-63 : Int32).toInt = -63 := rfl
theorem tI_m100 : (-100 : Int32).toInt = -100 := rfl
theorem tI_m126 : (-126 : Int32).toInt = -126 := rfl
theorem arraycopy_nat : Cond.native arraycopyName ∈ TBg := tb2 198 (by decide +kernel) rfl

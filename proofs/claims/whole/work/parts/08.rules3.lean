section RULES3
variable {lay : List LK} {V : Vt} {nL : Nat} {X : Xt} {σ : Sg} {pc d : Nat} {lo : List (Nat × Value)} {st : List Value} {own : String} {cc : ByteArray}
theorem WS.topi {x : Int32} (k : ∀ y : Int32, y = x → WS lay V nL X σ pc lo (.int y :: st)) : WS lay V nL X σ pc lo (.int x :: st) := k x rfl
theorem WS.topl {x : Int64} (k : ∀ y : Int64, y = x → WS lay V nL X σ pc lo (.long y :: st)) : WS lay V nL X σ pc lo (.long x :: st) := k x rfl
theorem WS.sg (k : ∀ σ' : Sg, σ' = σ → WS lay V nL X σ' pc lo st) : WS lay V nL X σ pc lo st := k σ rfl
theorem WS.ldc_w {index : Nat} {v : Int32} (hx : Ok V own cc nL d X) (hc : Cond.constant own index v ∈ TBg) (hd : decode cc pc = .ok (.ldc_w index, 3)) (kk : WS lay V nL X σ (pc + 3) lo (.int v :: st)) : WS lay V nL X σ pc lo st := by
  obtain ⟨p, l, e, R, s, m, args, below, meth, c, A, Q⟩ := X
  intro H locs ls hP hD hS hl
  exact lv_ldcw hx.1 hx.2.1 hx.2.2.2.1 (hx.2.2.2.2.1 _ hc) hd (kk H locs ls hP hD hS hl)
/-- System.arraycopy of ints, of longs -/
theorem WS.copyI {index a b n0 n1 : Nat} {sp dp n : Int32} (hx : Ok V own cc nL (d + 1) X) (hlink : Cond.methodLink own index arraycopyName ∈ TBg) (hnat : Cond.native arraycopyName ∈ TBg) (hstat : Cond.static arraycopyName ∈ TBg) (hini : Cond.initialized "java/lang/System" ∈ TBg) (hL0 : lay[a]? = some (.inr (.inl (0, n0)))) (hL1 : lay[b]? = some (.inr (.inl (0, n1)))) (h1 : ¬ sp < 0) (h2 : ¬ dp < 0) (h3 : ¬ n < 0) (h4 : sp.toNatClampNeg + n.toNatClampNeg ≤ n0) (h5 : dp.toNatClampNeg + n.toNatClampNeg ≤ n1) (hw : (st.map fun v => v.category).sum ≤ 8) (hd : decode cc pc = .ok (.invokestatic index, 3))
    (kk : WS lay V nL X (stR σ b (va_cpy (σ.1 a) (σ.1 b) sp.toNatClampNeg dp.toNatClampNeg n.toNatClampNeg)) (pc + 3) lo st) : WS lay V nL X σ pc lo (.int n :: .int dp :: rf V b :: .int sp :: rf V a :: st) := by
  obtain ⟨p, l, e, R, s, m, args, below, meth, c, A, Q⟩ := X
  obtain ⟨hx1, hx2, hx3, hx4, hx5, hx6, hx7, hx8, hx9, hx10, hx11⟩ := hx
  subst hx8
  intro H locs ls hP hD hS hl
  have hset : (wl V lay σ).set b (V.2.2.1 b, .inl (V.2.1 0, n1, .inl (va_cpy (σ.1 a) (σ.1 b) sp.toNatClampNeg dp.toNatClampNeg n.toNatClampNeg))) = wl V lay (stR σ b (va_cpy (σ.1 a) (σ.1 b) sp.toNatClampNeg dp.toNatClampNeg n.toNatClampNeg)) := wl_set hL1 (by simp [lk_e, stR, va_up]) (fun j hj => by simp [stR, va_up, hj])
  refine va_copyi hx1 hx2 (hx3.trans hl.1.symm) hx4 (hx5 _ hlink) (hx5 _ hnat) (hx5 _ hstat) (hx5 _ hini) hx6 hP hD hS a b 0 0 (c0 := V.2.1 0) (c1 := V.2.1 0) (n0 := n0) (n1 := n1) (f := σ.1 a) (g := σ.1 b) (ty := .int) (wl_at hL0) (wl_at hL1) rfl rfl rfl h1 h2 h3 h4 h5 (fun _ _ => rfl) (by show 1 ≤ d + 1; omega) ?_ hd (fun H1 locs1 hP1 hD1 hS1 => ?_)
  · have : nativeFrameWords "java/lang/System" "arraycopy" 5 ≤ 40 := by decide +kernel
    show _ ≤ 64 * (d + 1)
    omega
  · rw [hset] at hP1 hD1
    exact kk H1 locs1 ls hP1 hD1 hS1 hl
theorem WS.copyL {index a b n0 n1 : Nat} {sp dp n : Int32} (hx : Ok V own cc nL (d + 1) X) (hlink : Cond.methodLink own index arraycopyName ∈ TBg) (hnat : Cond.native arraycopyName ∈ TBg) (hstat : Cond.static arraycopyName ∈ TBg) (hini : Cond.initialized "java/lang/System" ∈ TBg) (hL0 : lay[a]? = some (.inr (.inl (1, n0)))) (hL1 : lay[b]? = some (.inr (.inl (1, n1)))) (h1 : ¬ sp < 0) (h2 : ¬ dp < 0) (h3 : ¬ n < 0) (h4 : sp.toNatClampNeg + n.toNatClampNeg ≤ n0) (h5 : dp.toNatClampNeg + n.toNatClampNeg ≤ n1) (hw : (st.map fun v => v.category).sum ≤ 8) (hd : decode cc pc = .ok (.invokestatic index, 3))
    (kk : WS lay V nL X (stRL σ b (va_cpy (σ.2.1 a) (σ.2.1 b) sp.toNatClampNeg dp.toNatClampNeg n.toNatClampNeg)) (pc + 3) lo st) : WS lay V nL X σ pc lo (.int n :: .int dp :: rf V b :: .int sp :: rf V a :: st) := by
  obtain ⟨p, l, e, R, s, m, args, below, meth, c, A, Q⟩ := X
  obtain ⟨hx1, hx2, hx3, hx4, hx5, hx6, hx7, hx8, hx9, hx10, hx11⟩ := hx
  subst hx8
  intro H locs ls hP hD hS hl
  have hset : (wl V lay σ).set b (V.2.2.1 b, .inl (V.2.1 1, n1, .inr (.inl (va_cpy (σ.2.1 a) (σ.2.1 b) sp.toNatClampNeg dp.toNatClampNeg n.toNatClampNeg)))) = wl V lay (stRL σ b (va_cpy (σ.2.1 a) (σ.2.1 b) sp.toNatClampNeg dp.toNatClampNeg n.toNatClampNeg)) := wl_set hL1 (by simp [lk_e, stRL, va_up]) (fun j hj => by simp [stRL, va_up, hj])
  refine va_copyl hx1 hx2 (hx3.trans hl.1.symm) hx4 (hx5 _ hlink) (hx5 _ hnat) (hx5 _ hstat) (hx5 _ hini) hx6 hP hD hS a b 1 1 (c0 := V.2.1 1) (c1 := V.2.1 1) (n0 := n0) (n1 := n1) (f := σ.2.1 a) (g := σ.2.1 b) (ty := .long) (wl_at hL0) (wl_at hL1) rfl rfl rfl h1 h2 h3 h4 h5 (fun _ _ => rfl) (by show 1 ≤ d + 1; omega) ?_ hd (fun H1 locs1 hP1 hD1 hS1 => ?_)
  · have : nativeFrameWords "java/lang/System" "arraycopy" 5 ≤ 40 := by decide +kernel
    show _ ≤ 64 * (d + 1)
    omega
  · rw [hset] at hP1 hD1
    exact kk H1 locs1 ls hP1 hD1 hS1 hl
end RULES3
def zt_f (k : Nat) (j : Nat) : Int32 := match zt_list[k]? with
  | some q => q.2.2.2 j
  | none => 0
/-- reading what was written -/
theorem stI_1 (σ : Sg) (o k : Nat) (v : Int32) : (stI σ o k v).1 o k = v := by simp [stI, va_up, upd]
theorem stI_k (σ : Sg) (o k : Nat) (v : Int32) {j : Nat} (h : j ≠ k) : (stI σ o k v).1 o j = σ.1 o j := by simp [stI, va_up, upd, h]
theorem stI_o (σ : Sg) (o k : Nat) (v : Int32) {q : Nat} (h : q ≠ o) : (stI σ o k v).1 q = σ.1 q := by simp [stI, va_up, h]
theorem stI_2 (σ : Sg) (o k : Nat) (v : Int32) : (stI σ o k v).2 = σ.2 := rfl
theorem stL_1 (σ : Sg) (o k : Nat) (v : Int64) : (stL σ o k v).2.1 o k = v := by simp [stL, va_up, vp_updL]
theorem stL_k (σ : Sg) (o k : Nat) (v : Int64) {j : Nat} (h : j ≠ k) : (stL σ o k v).2.1 o j = σ.2.1 o j := by simp [stL, va_up, vp_updL, h]
theorem stL_o (σ : Sg) (o k : Nat) (v : Int64) {q : Nat} (h : q ≠ o) : (stL σ o k v).2.1 q = σ.2.1 q := by simp [stL, va_up, h]
theorem sw_out (x : Int32) (a b : Int) (h : x.toInt < a ∨ b < x.toInt) : x.toInt < a ∨ b < x.toInt := h
theorem i32_ne {x : Int32} {k : Int32} (h : ¬ x = k) : ¬ x.toInt = k.toInt := fun e => h (Int32.toInt_inj.mp e)
/-- numbers of the machine and whole numbers -/
theorem nI_r (k : Nat) (h : k < 2 ^ 31) : (nI k).toInt = (k : Int) := nI_toInt h
theorem i_le {x y : Int32} : x ≤ y ↔ x.toInt ≤ y.toInt := Int32.le_iff_toInt_le
theorem i_lt {x y : Int32} : x < y ↔ x.toInt < y.toInt := Int32.lt_iff_toInt_lt
theorem i_eq {x y : Int32} : x = y ↔ x.toInt = y.toInt := Int32.toInt_inj.symm
theorem l_le {x y : Int64} : x ≤ y ↔ x.toInt ≤ y.toInt := Int64.le_iff_toInt_le
theorem l_lt {x y : Int64} : x < y ↔ x.toInt < y.toInt := Int64.lt_iff_toInt_lt
theorem l_eq {x y : Int64} : x = y ↔ x.toInt = y.toInt := Int64.toInt_inj.symm
theorem i_rng (x : Int32) : -2147483648 ≤ x.toInt ∧ x.toInt ≤ 2147483647 := ⟨by have := Int32.le_toInt x; omega, by have := Int32.toInt_lt x; omega⟩
theorem i_nI {x : Int32} (h : 0 ≤ x.toInt) : x = nI x.toInt.toNat := by
  rw [i_eq, nI_r _ (by have := (i_rng x).2; omega)]
  omega
/-- a number between: as a whole number of the machine -/
theorem i_of {x : Int32} {n : Nat} (h : 0 ≤ x.toInt) (h2 : x.toInt < n) : ∃ k : Nat, k < n ∧ x = nI k := ⟨x.toInt.toNat, by omega, i_nI h⟩
theorem arraycopy_nat : Cond.native arraycopyName ∈ TBg := tb2 198 (by decide +kernel) rfl

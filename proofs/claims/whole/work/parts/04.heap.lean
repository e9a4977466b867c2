section RULES2
variable {lay : List LK} {V : Vt} {nL : Nat} {X : Xt} {σ : Sg} {pc d : Nat} {lo : List (Nat × Value)} {st : List Value} {own : String} {cc : ByteArray}
/-- what is known of a class: its number among the classes, its name, fields, their types -/
abbrev Ci : Type := Nat × String × u_T × Nat × (Nat → FieldType)
def COk (C : Ci) : Prop := vwCl[C.1]? = some (C.2.1, C.2.2.1, C.2.2.2.1) ∧ (∀ w ∈ u_ws C.2.1 C.2.2.1 C.2.2.2.1, w ∈ TBg) ∧ (∀ k, k < C.2.2.2.1 → parseFieldDescriptor (C.2.2.1 k).2.2.1 = some (C.2.2.2.2 k)) ∧ (∀ a, a < C.2.2.2.1 → ∀ b, b < C.2.2.2.1 → a ≠ b → (C.2.2.1 a).2.1 ≠ (C.2.2.1 b).2.1)
/-- a field's link: the k-th field of C is what entry index of own's file names -/
def FLk (C : Ci) (own : String) (index k : Nat) : Prop := k < C.2.2.2.1 ∧ (C.2.2.1 k).1 = C.2.1 ∧ Cond.fieldLink own index C.2.1 (C.2.2.1 k).2.1 (C.2.2.1 k).2.2.1 ∈ TBg
theorem ws_getv {C : Ci} {o index k : Nat} {fs : List FK} {v : Value} (hx : Ok V own cc nL d X) (hC : COk C) (hF : FLk C own index k) (hL : lay[o]? = some (.inl (C.1, fs))) (hv : (fs[k]?).map (fk_v V.2.2.1 (σ.1 o) (σ.2.2 o) k) = some v) (hd : decode cc pc = .ok (.getfield index, 3)) (kk : WS lay V nL X σ (pc + 3) lo (v :: st)) : WS lay V nL X σ pc lo (rf V o :: st) := by
  obtain ⟨p, l, e, R, s, m, args, below, meth, c, A, Q⟩ := X
  intro H locs ls hP hD hS hl
  exact va_get (D := V.1) (ci := C.1) (C := C.2.1) (T := C.2.2.1) (N := C.2.2.2.1) (ref := C.2.1) hx.1 hx.2.1 hx.2.2.2.2.1 hC.2.1 hx.2.2.2.1 hx.2.2.2.2.2.1 hP o (wl_at hL) hC.1 k hF.1 (hx.2.2.2.2.1 _ hF.2.2) (fun x h9 => by rw [← hF.2.1]; exact h9) (by rw [fk_get, Nat.zero_add]; exact hv) hd (kk H locs ls hP hD hS hl)
/-- an int field, a fixed reference, the changing reference -/
theorem WS.getI {C : Ci} {o index k : Nat} {fs : List FK} (hx : Ok V own cc nL d X) (hC : COk C) (hF : FLk C own index k) (hL : lay[o]? = some (.inl (C.1, fs))) (hf : fs[k]? = some none) (hd : decode cc pc = .ok (.getfield index, 3)) (kk : WS lay V nL X σ (pc + 3) lo (.int (σ.1 o k) :: st)) : WS lay V nL X σ pc lo (rf V o :: st) := ws_getv hx hC hF hL (by rw [hf]; rfl) hd kk
theorem WS.getR {C : Ci} {o index k r : Nat} {fs : List FK} (hx : Ok V own cc nL d X) (hC : COk C) (hF : FLk C own index k) (hL : lay[o]? = some (.inl (C.1, fs))) (hf : fs[k]? = some (some (some r))) (hd : decode cc pc = .ok (.getfield index, 3)) (kk : WS lay V nL X σ (pc + 3) lo (rf V r :: st)) : WS lay V nL X σ pc lo (rf V o :: st) := ws_getv hx hC hF hL (by rw [hf]; rfl) hd kk
theorem WS.getT {C : Ci} {o index k : Nat} {fs : List FK} (hx : Ok V own cc nL d X) (hC : COk C) (hF : FLk C own index k) (hL : lay[o]? = some (.inl (C.1, fs))) (hf : fs[k]? = some (some none)) (hd : decode cc pc = .ok (.getfield index, 3)) (kk : WS lay V nL X σ (pc + 3) lo (σ.2.2 o k :: st)) : WS lay V nL X σ pc lo (rf V o :: st) := ws_getv hx hC hF hL (by rw [hf]; rfl) hd kk
theorem WS.putI {C : Ci} {o index k : Nat} {fs : List FK} {v : Int32} (hx : Ok V own cc nL d X) (hC : COk C) (hF : FLk C own index k) (hL : lay[o]? = some (.inl (C.1, fs))) (hf : fs[k]? = some none) (hfin : (C.2.2.1 k).2.2.2 = false) (hty : C.2.2.2.2 k = .int) (hd : decode cc pc = .ok (.putfield index, 3)) (kk : WS lay V nL X (stI σ o k v) (pc + 3) lo st) : WS lay V nL X σ pc lo (.int v :: rf V o :: st) := by
  obtain ⟨p, l, e, R, s, m, args, below, meth, c, A, Q⟩ := X
  intro H locs ls hP hD hS hl
  have hlen : k < fs.length := (List.getElem?_eq_some_iff.mp hf).1
  have hset : (wl V lay σ).set o (V.2.2.1 o, .inr (C.1, (fk_l V.2.2.1 (σ.1 o) (σ.2.2 o) 0 fs).set k (.int v))) = wl V lay (stI σ o k v) := wl_set hL (by simp [lk_e, fk_setI hf, stI, va_up]) (fun j hj => by simp [stI, va_up, hj])
  refine va_put (D := V.1) (ci := C.1) (C := C.2.1) (T := C.2.2.1) (N := C.2.2.2.1) (ref := C.2.1) (ty := .int) hx.1 hx.2.1 hx.2.2.2.2.1 hC.2.1 C.2.2.2.2 hC.2.2.1 hC.2.2.2 hx.2.2.2.1 hx.2.2.2.2.2.1 hP hD hS o (wl_at hL) hC.1 k hF.1 (hx.2.2.2.2.1 _ hF.2.2) (fun x h9 => by rw [← hF.2.1]; exact h9) hfin (by rw [hC.2.2.1 k hF.1, hty]) rfl rfl (by rw [fk_len]; exact hlen) hd (fun H1 locs1 hP1 hD1 hS1 => ?_)
  rw [hset] at hP1 hD1
  exact kk H1 locs1 ls hP1 hD1 hS1 hl
theorem WS.putZ {C : Ci} {o index k : Nat} {fs : List FK} {v : Int32} (hx : Ok V own cc nL d X) (hC : COk C) (hF : FLk C own index k) (hL : lay[o]? = some (.inl (C.1, fs))) (hf : fs[k]? = some none) (hfin : (C.2.2.1 k).2.2.2 = false) (hty : C.2.2.2.2 k = .boolean) (hv : v = 0 ∨ v = 1) (hd : decode cc pc = .ok (.putfield index, 3)) (kk : WS lay V nL X (stI σ o k v) (pc + 3) lo st) : WS lay V nL X σ pc lo (.int v :: rf V o :: st) := by
  obtain ⟨p, l, e, R, s, m, args, below, meth, c, A, Q⟩ := X
  intro H locs ls hP hD hS hl
  have hlen : k < fs.length := (List.getElem?_eq_some_iff.mp hf).1
  have hset : (wl V lay σ).set o (V.2.2.1 o, .inr (C.1, (fk_l V.2.2.1 (σ.1 o) (σ.2.2 o) 0 fs).set k (.int v))) = wl V lay (stI σ o k v) := wl_set hL (by simp [lk_e, fk_setI hf, stI, va_up]) (fun j hj => by simp [stI, va_up, hj])
  refine va_put (D := V.1) (ci := C.1) (C := C.2.1) (T := C.2.2.1) (N := C.2.2.2.1) (ref := C.2.1) (ty := .boolean) hx.1 hx.2.1 hx.2.2.2.2.1 hC.2.1 C.2.2.2.2 hC.2.2.1 hC.2.2.2 hx.2.2.2.1 hx.2.2.2.2.2.1 hP hD hS o (wl_at hL) hC.1 k hF.1 (hx.2.2.2.2.1 _ hF.2.2) (fun x h9 => by rw [← hF.2.1]; exact h9) hfin (by rw [hC.2.2.1 k hF.1, hty]) (by rcases hv with rfl | rfl <;> rfl) (by rcases hv with rfl | rfl <;> rfl) (by rw [fk_len]; exact hlen) hd (fun H1 locs1 hP1 hD1 hS1 => ?_)
  rw [hset] at hP1 hD1
  exact kk H1 locs1 ls hP1 hD1 hS1 hl
theorem WS.putT {C : Ci} {o index k a : Nat} {fs : List FK} {ty : FieldType} (hx : Ok V own cc nL d X) (hC : COk C) (hF : FLk C own index k) (hL : lay[o]? = some (.inl (C.1, fs))) (hf : fs[k]? = some (some none)) (hfin : (C.2.2.1 k).2.2.2 = false) (hty : C.2.2.2.2 k = ty) (hn : narrow ty (.ref a) = .ref a) (hft : fits ty (.ref a) = true) (hd : decode cc pc = .ok (.putfield index, 3)) (kk : WS lay V nL X (stT σ o k (.ref a)) (pc + 3) lo st) : WS lay V nL X σ pc lo (.ref a :: rf V o :: st) := by
  obtain ⟨p, l, e, R, s, m, args, below, meth, c, A, Q⟩ := X
  intro H locs ls hP hD hS hl
  have hlen : k < fs.length := (List.getElem?_eq_some_iff.mp hf).1
  have hset : (wl V lay σ).set o (V.2.2.1 o, .inr (C.1, (fk_l V.2.2.1 (σ.1 o) (σ.2.2 o) 0 fs).set k (.ref a))) = wl V lay (stT σ o k (.ref a)) := wl_set hL (by simp [lk_e, fk_setT hf, stT, va_up]) (fun j hj => by simp [stT, va_up, hj])
  refine va_put (D := V.1) (ci := C.1) (C := C.2.1) (T := C.2.2.1) (N := C.2.2.2.1) (ref := C.2.1) (ty := ty) hx.1 hx.2.1 hx.2.2.2.2.1 hC.2.1 C.2.2.2.2 hC.2.2.1 hC.2.2.2 hx.2.2.2.1 hx.2.2.2.2.2.1 hP hD hS o (wl_at hL) hC.1 k hF.1 (hx.2.2.2.2.1 _ hF.2.2) (fun x h9 => by rw [← hF.2.1]; exact h9) hfin (by rw [hC.2.2.1 k hF.1, hty]) hn hft (by rw [fk_len]; exact hlen) hd (fun H1 locs1 hP1 hD1 hS1 => ?_)
  rw [hset] at hP1 hD1
  exact kk H1 locs1 ls hP1 hD1 hS1 hl
/-- rows of ints, of longs, of yes and no, of things -/
theorem WS.iald {a n : Nat} {i : Int32} (hx : Ok V own cc nL d X) (hL : lay[a]? = some (.inr (.inl (0, n)))) (hin : vp_in i n) (hd : decode cc pc = .ok (.iaload, 1)) (kk : WS lay V nL X σ (pc + 1) lo (.int (σ.1 a i.toNatClampNeg) :: st)) : WS lay V nL X σ pc lo (.int i :: rf V a :: st) := by
  obtain ⟨p, l, e, R, s, m, args, below, meth, c, A, Q⟩ := X
  intro H locs ls hP hD hS hl
  exact va_iald hx.1 hx.2.1 hx.2.2.2.2.2.1 hP a 0 (cA := V.2.1 0) (n := n) (f := σ.1 a) (wl_at hL) rfl hin hd (kk H locs ls hP hD hS hl)
theorem WS.zald {a n : Nat} {i : Int32} (hx : Ok V own cc nL d X) (hL : lay[a]? = some (.inr (.inl (2, n)))) (hin : vp_in i n) (hd : decode cc pc = .ok (.baload, 1)) (kk : WS lay V nL X σ (pc + 1) lo (.int (σ.1 a i.toNatClampNeg) :: st)) : WS lay V nL X σ pc lo (.int i :: rf V a :: st) := by
  obtain ⟨p, l, e, R, s, m, args, below, meth, c, A, Q⟩ := X
  intro H locs ls hP hD hS hl
  exact va_zald hx.1 hx.2.1 hx.2.2.2.2.2.1 hP a 2 (cA := V.2.1 2) (n := n) (f := σ.1 a) (wl_at hL) rfl hin hd (kk H locs ls hP hD hS hl)
theorem WS.lald {a n : Nat} {i : Int32} (hx : Ok V own cc nL d X) (hL : lay[a]? = some (.inr (.inl (1, n)))) (hin : vp_in i n) (hd : decode cc pc = .ok (.laload, 1)) (kk : WS lay V nL X σ (pc + 1) lo (.long (σ.2.1 a i.toNatClampNeg) :: st)) : WS lay V nL X σ pc lo (.int i :: rf V a :: st) := by
  obtain ⟨p, l, e, R, s, m, args, below, meth, c, A, Q⟩ := X
  intro H locs ls hP hD hS hl
  exact va_lald hx.1 hx.2.1 hx.2.2.2.2.2.1 hP a 1 (cA := V.2.1 1) (n := n) (f := σ.2.1 a) (wl_at hL) rfl hin hd (kk H locs ls hP hD hS hl)
theorem WS.iast {a n : Nat} {i v : Int32} (hx : Ok V own cc nL d X) (hL : lay[a]? = some (.inr (.inl (0, n)))) (hin : vp_in i n) (hd : decode cc pc = .ok (.iastore, 1)) (kk : WS lay V nL X (stI σ a i.toNatClampNeg v) (pc + 1) lo st) : WS lay V nL X σ pc lo (.int v :: .int i :: rf V a :: st) := by
  obtain ⟨p, l, e, R, s, m, args, below, meth, c, A, Q⟩ := X
  intro H locs ls hP hD hS hl
  refine va_iast hx.1 hx.2.1 hx.2.2.2.2.2.1 hP hD hS a 0 (cA := V.2.1 0) (n := n) (f := σ.1 a) (wl_at hL) rfl hin hd (fun H1 locs1 hP1 hD1 hS1 => ?_)
  have hset : (wl V lay σ).set a (V.2.2.1 a, .inl (V.2.1 0, n, .inl (upd (σ.1 a) i.toNatClampNeg v))) = wl V lay (stI σ a i.toNatClampNeg v) := wl_set hL (by simp [lk_e, stI, va_up]) (fun j hj => by simp [stI, va_up, hj])
  rw [hset] at hP1 hD1
  exact kk H1 locs1 ls hP1 hD1 hS1 hl
theorem WS.zast {a n : Nat} {i v : Int32} (hx : Ok V own cc nL d X) (hL : lay[a]? = some (.inr (.inl (2, n)))) (hin : vp_in i n) (hv : v = 0 ∨ v = 1) (hd : decode cc pc = .ok (.bastore, 1)) (kk : WS lay V nL X (stI σ a i.toNatClampNeg v) (pc + 1) lo st) : WS lay V nL X σ pc lo (.int v :: .int i :: rf V a :: st) := by
  obtain ⟨p, l, e, R, s, m, args, below, meth, c, A, Q⟩ := X
  intro H locs ls hP hD hS hl
  refine va_zast hx.1 hx.2.1 hx.2.2.2.2.2.1 hP hD hS a 2 (cA := V.2.1 2) (n := n) (f := σ.1 a) (wl_at hL) rfl hin hd (fun H1 locs1 hP1 hD1 hS1 => ?_)
  have hnar : vp_nar .boolean v = v := by rcases hv with rfl | rfl <;> rfl
  have hset : (wl V lay σ).set a (V.2.2.1 a, .inl (V.2.1 2, n, .inl (upd (σ.1 a) i.toNatClampNeg (vp_nar .boolean v)))) = wl V lay (stI σ a i.toNatClampNeg v) := wl_set hL (by simp [lk_e, stI, va_up, hnar]) (fun j hj => by simp [stI, va_up, hj])
  rw [hset] at hP1 hD1
  exact kk H1 locs1 ls hP1 hD1 hS1 hl
theorem WS.last {a n : Nat} {i : Int32} {v : Int64} (hx : Ok V own cc nL d X) (hL : lay[a]? = some (.inr (.inl (1, n)))) (hin : vp_in i n) (hd : decode cc pc = .ok (.lastore, 1)) (kk : WS lay V nL X (stL σ a i.toNatClampNeg v) (pc + 1) lo st) : WS lay V nL X σ pc lo (.long v :: .int i :: rf V a :: st) := by
  obtain ⟨p, l, e, R, s, m, args, below, meth, c, A, Q⟩ := X
  intro H locs ls hP hD hS hl
  refine va_last hx.1 hx.2.1 hx.2.2.2.2.2.1 hP hD hS a 1 (cA := V.2.1 1) (n := n) (f := σ.2.1 a) (wl_at hL) rfl hin hd (fun H1 locs1 hP1 hD1 hS1 => ?_)
  have hset : (wl V lay σ).set a (V.2.2.1 a, .inl (V.2.1 1, n, .inr (.inl (vp_updL (σ.2.1 a) i.toNatClampNeg v)))) = wl V lay (stL σ a i.toNatClampNeg v) := wl_set hL (by simp [lk_e, stL, va_up]) (fun j hj => by simp [stL, va_up, hj])
  rw [hset] at hP1 hD1
  exact kk H1 locs1 ls hP1 hD1 hS1 hl
theorem WS.aald {a ti b n : Nat} {C : String} {i : Int32} (hx : Ok V own cc nL d X) (hL : lay[a]? = some (.inr (.inr (ti, b, n)))) (ht : (tysV V)[ti]? = some (V.2.1 ti, .object C)) (hin : vp_in i n) (hd : decode cc pc = .ok (.aaload, 1)) (kk : WS lay V nL X σ (pc + 1) lo (rf V (b + i.toNatClampNeg) :: st)) : WS lay V nL X σ pc lo (.int i :: rf V a :: st) := by
  obtain ⟨p, l, e, R, s, m, args, below, meth, c, A, Q⟩ := X
  intro H locs ls hP hD hS hl
  refine va_aldq hx.1 hx.2.1 hx.2.2.2.2.2.1 hP a ti (cA := V.2.1 ti) (n := n) (C := C) (f := fun j => if j < n then some (V.2.2.1 (b + j)) else none) (wl_at hL) ht hin hd ?_
  have hlt : i.toNatClampNeg < n := Nat.not_le.mp fun q => hin (Or.inr q)
  have e1 : va_rf (if i.toNatClampNeg < n then some (V.2.2.1 (b + i.toNatClampNeg)) else none) = rf V (b + i.toNatClampNeg) := by rw [if_pos hlt]; rfl
  show W p l e R s m args below meth c H locs 0 0 Q (F0 m (pc + 1) ls (va_rf (if i.toNatClampNeg < n then some (V.2.2.1 (b + i.toNatClampNeg)) else none) :: st))
  rw [e1]
  exact kk H locs ls hP hD hS hl
theorem WS.alen {a ti n : Nat} {ty : FieldType} {v : Int32} (hx : Ok V own cc nL d X) (hL : lay[a]? = some (.inr (.inl (ti, n)))) (ht : (tysV V)[ti]? = some (V.2.1 ti, ty)) (hv : Int32.ofNat n = v) (hd : decode cc pc = .ok (.arraylength, 1)) (kk : WS lay V nL X σ (pc + 1) lo (.int v :: st)) : WS lay V nL X σ pc lo (rf V a :: st) := by
  obtain ⟨p, l, e, R, s, m, args, below, meth, c, A, Q⟩ := X
  intro H locs ls hP hD hS hl
  have hat := wl_at (V := V) (σ := σ) hL
  by_cases h1 : ti = 1
  · subst h1
    exact va_alen hx.1 hx.2.1 hx.2.2.2.2.2.1 hP a 1 (cA := V.2.1 1) (x := (n, .inr (.inl (σ.2.1 a)))) hat ht hv hd (kk H locs ls hP hD hS hl)
  · refine va_alen hx.1 hx.2.1 hx.2.2.2.2.2.1 hP a ti (cA := V.2.1 ti) (x := (n, .inl (σ.1 a))) (by rw [hat]; simp [lk_e, h1]) ht hv hd (kk H locs ls hP hD hS hl)
/-- the static rows -/
theorem WS.gets {k index : Nat} {q : Zt} (hx : Ok V own cc nL d X) (hq : zt_list[k]? = some q) (hlink : Cond.fieldLink own index q.1 q.2.1 "[I" ∈ TBg) (hd : decode cc pc = .ok (.getstatic index, 3)) (kk : WS lay V nL X σ (pc + 3) lo (.ref (V.2.2.2 k) :: st)) : WS lay V nL X σ pc lo st := by
  obtain ⟨p, l, e, R, s, m, args, below, meth, c, A, Q⟩ := X
  intro H locs ls hP hD hS hl
  exact va_gets hx.1 hx.2.1 (hx.2.2.2.2.2.2.2.2.1 k q hq).1 hS hx.2.2.2.1 (hx.2.2.2.2.1 _ hlink) (fun x h => h) hd (kk H locs ls hP hD hS hl)
theorem WS.tald {k : Nat} {q : Zt} {i : Int32} (hx : Ok V own cc nL d X) (hq : zt_list[k]? = some q) (hin : vp_in i q.2.2.1) (hd : decode cc pc = .ok (.iaload, 1)) (kk : WS lay V nL X σ (pc + 1) lo (.int (q.2.2.2 i.toNatClampNeg) :: st)) : WS lay V nL X σ pc lo (.int i :: .ref (V.2.2.2 k) :: st) := by
  obtain ⟨p, l, e, R, s, m, args, below, meth, c, A, Q⟩ := X
  intro H locs ls hP hD hS hl
  exact va_ti hx.1 hx.2.1 (hx.2.2.2.2.2.2.2.2.1 k q hq).2 hS hin rfl hd (kk H locs ls hP hD hS hl)
/-- constants of the pool -/
theorem WS.ldc {index : Nat} {v : Int32} (hx : Ok V own cc nL d X) (hc : Cond.constant own index v ∈ TBg) (hd : decode cc pc = .ok (.ldc index, 2)) (kk : WS lay V nL X σ (pc + 2) lo (.int v :: st)) : WS lay V nL X σ pc lo st := by
  obtain ⟨p, l, e, R, s, m, args, below, meth, c, A, Q⟩ := X
  intro H locs ls hP hD hS hl
  exact lv_ldc hx.1 hx.2.1 hx.2.2.2.1 (hx.2.2.2.2.1 _ hc) hd (kk H locs ls hP hD hS hl)
theorem WS.ldc2 {index : Nat} {v : Int64} (hx : Ok V own cc nL d X) (hc : Cond.constantLong own index v ∈ TBg) (hd : decode cc pc = .ok (.ldc2_w index, 3)) (kk : WS lay V nL X σ (pc + 3) lo (.long v :: st)) : WS lay V nL X σ pc lo st := by
  obtain ⟨p, l, e, R, s, m, args, below, meth, c, A, Q⟩ := X
  intro H locs ls hP hD hS hl
  exact lv_ldc2 hx.1 hx.2.1 hx.2.2.2.1 (hx.2.2.2.2.1 _ hc) hd (kk H locs ls hP hD hS hl)
/-- switches -/
theorem WS.lookup {dflt : Int} {ps : Array (Int × Int)} {len : Nat} {x : Int32} {off : Int} {tgt : Nat} (hx : Ok V own cc nL d X) (hd : decode cc pc = .ok (.lookupswitch dflt ps, len)) (hp : (ps.toList.zip (ps.toList.drop 1)).all (fun (a, next) => a.1 < next.1) = true) (ho : Op.lookupswitch.offset ps.toList dflt x.toInt = off) (ht : (pc : Int) + off = (tgt : Int)) (k : WS lay V nL X σ tgt lo st) : WS lay V nL X σ pc lo (.int x :: st) := by
  obtain ⟨p, l, e, R, s, m, args, below, meth, c, A, Q⟩ := X
  intro H locs ls hP hD hS hl
  exact lv_lookup hx.1 hx.2.1 hd hp ho ht (k H locs ls hP hD hS hl)
theorem WS.tableIn {dflt lw hi : Int} {offs : Array Int} {len : Nat} {x : Int32} {off : Int} {tgt : Nat} (hx : Ok V own cc nL d X) (hd : decode cc pc = .ok (.tableswitch dflt lw hi offs, len)) (h1 : ¬ x.toInt < lw) (h2 : ¬ hi < x.toInt) (ho : offs[(x.toInt - lw).toNat]? = some off) (ht : (pc : Int) + off = (tgt : Int)) (k : WS lay V nL X σ tgt lo st) : WS lay V nL X σ pc lo (.int x :: st) := by
  obtain ⟨p, l, e, R, s, m, args, below, meth, c, A, Q⟩ := X
  intro H locs ls hP hD hS hl
  exact lv_tableIn hx.1 hx.2.1 hd h1 h2 ho ht (k H locs ls hP hD hS hl)
theorem WS.tableOut {dflt lw hi : Int} {offs : Array Int} {len : Nat} {x : Int32} {tgt : Nat} (hx : Ok V own cc nL d X) (hd : decode cc pc = .ok (.tableswitch dflt lw hi offs, len)) (h : x.toInt < lw ∨ hi < x.toInt) (ht : (pc : Int) + dflt = (tgt : Int)) (k : WS lay V nL X σ tgt lo st) : WS lay V nL X σ pc lo (.int x :: st) := by
  obtain ⟨p, l, e, R, s, m, args, below, meth, c, A, Q⟩ := X
  intro H locs ls hP hD hS hl
  exact lv_tableOut hx.1 hx.2.1 hd h ht (k H locs ls hP hD hS hl)
/-- CALLS. What is known of a method that is called: on a thing, on none -/
def MOk (M : Mi) (n : Nat) : Prop := Cond.code M.1 M.2.1 M.2.2.1 M.2.2.2 ∈ TBg ∧ Cond.initialized M.1.cls ∈ TBg ∧ M.2.2.1 ≤ 45 ∧ (M.1.cls ≠ "java/lang/invoke/MethodHandle" ∧ M.1.cls ≠ "java/lang/invoke/VarHandle" ∧ (parseMethodDescriptor M.1.desc).map (fun d => d.parameters.length) = some n)
def MOkV (M : Mi) (n : Nat) : Prop := MOk M n ∧ Cond.instanceMethod M.1 ∈ TBg ∧ Cond.selects M.1.cls M.1 M.1 ∈ TBg
def MOkS (M : Mi) (n : Nat) : Prop := MOk M n ∧ Cond.static M.1 ∈ TBg
theorem ws_after {p : Program} {l : Launch} {e : Env} {R : Room} {s : State} {m : MethodId} {args : Array Value} {below : List Frame} {meth : Method} {c : Code} {A : Nat → Prop} {Q : State → Prop} {post : Option Value → Sg → Prop} {a : Array Value} {H : Heap} {locs : List Loc} {ls : Array Slot} {st0 : List Value}
    (hr : va_Run p l e R s m args below meth c H locs 0 0 0 0 (F0 m pc ls st0) st (Post9 lay V (va_A (wl V lay σ) H.size) post a) (va_A (wl V lay σ) H.size)) (hD : va_D A (wl V lay σ)) (hS : va_S A s.heap H locs) (hA : ∀ q, s.heap.size ≤ q → A q) (hl : lv_has ls nL lo)
    (kk : ∀ (r : Option Value) (σ' : Sg), post r σ' → WS lay V nL (p, l, e, R, s, m, args, below, meth, c, A, Q) σ' (pc + 3) lo (r.toList ++ st)) : W p l e R s m args below meth c H locs 0 0 Q (F0 m pc ls st0) := by
  have hF : ∀ q, va_A (wl V lay σ) H.size q → A q := by
    intro q h
    rcases h with ⟨k, e, h⟩ | h
    · exact hD.2 k (q, e) h
    · exact hA q (Nat.le_trans hS.1 h)
  intro T hT X
  obtain ⟨v, st₀, t, T', L, h0, X', hL, e1, e2, ⟨⟨r, σ', hv, hp, hP1, hD1⟩, hz, hk⟩, stp⟩ := hr T hT X
  cases hv
  rw [h0] at hz hk
  have hS1 : va_S A s.heap T'.heap (locs ++ L) := ⟨Nat.le_trans hS.1 (by rw [e1]; exact hz), fun q h1 h2 => by rw [e1, hk q (Nat.lt_of_lt_of_le h1 hS.1) (fun z => h2 (hF q z))]; exact hS.2.1 q h1 h2, fun q hq => by
      rcases List.mem_append.mp hq with h | h
      · exact hS.2.2 q h
      · exact hF _ (hL q h)⟩
  obtain ⟨t2, a1, b1⟩ := kk v σ' hp T'.heap (locs ++ L) ls (by rw [e1]; exact hP1) (hD1.weaken (fun k q _ h => hF q.1 h)) hS1 hl T' rfl X'
  exact ⟨t2, stp t2 a1, b1⟩
theorem ws_pre {s : State} {A : Nat → Prop} {H : Heap} {locs : List Loc} {av : List Value} (hK : va_K V.1 vwCl (tysV V) s) (hZ : Zst V A s s.heap) (hN : Nst s) (hA : ∀ q, s.heap.size ≤ q → A q) (hP : va_P V.1 vwCl (wl V lay σ) H) (hD : va_D A (wl V lay σ)) (hS : va_S A s.heap H locs) : FrameBlind (Pre9 lay V av σ H.size) ∧ ∀ U : State, U.heap = H → s.WarmedH U.vm → Pre9 lay V av σ H.size av.toArray U := by
  have hF : ∀ q, va_A (wl V lay σ) H.size q → A q := by
    intro q h
    rcases h with ⟨k, e, h⟩ | h
    · exact hD.2 k (q, e) h
    · exact hA q (Nat.le_trans hS.1 h)
  refine ⟨fun a U g mk q => ?_, fun U hU hW => ?_⟩
  · obtain ⟨q0, q1, qP, qK, qD, qZ, qN⟩ := q
    exact ⟨q0, q1, qP, va_K.moved (u := U) (U := U.calling g mk a) (Vm.Alike.refl U.vm) qK, qD, qZ.moved (Vm.Alike.refl U.vm), qN.same rfl⟩
  · refine ⟨rfl, by rw [hU], by rw [hU]; exact hP, va_K.moved hW.alike hK, hD.weaken (fun _ _ _ _ => trivial), ?_, hN.warm hW⟩
    rw [hU]
    exact ((hZ.kept (fun a h1 h2 => hS.2.1 a h1 h2)).narrow hF).moved hW.alike
theorem WS.callV {M : Mi} {n index o ci N : Nat} {T : u_T} {fs : List FK} {post : Option Value → Sg → Prop} {st0 : List Value} (As : List Value) (hx : Ok V own cc nL (d + 1) X) (hM : CT lay V M d (rf V o :: As) σ post) (hm : MOkV M n) (hlink : Cond.methodLink own index M.1 ∈ TBg) (hci : vwCl[ci]? = some (M.1.cls, T, N)) (hL : lay[o]? = some (.inl (ci, fs))) (hn : As.length = n) (hs : st0 = As.reverse ++ rf V o :: st) (hw : (st.map fun v => v.category).sum ≤ 8) (hd : decode cc pc = .ok (.invokevirtual index, 3)) (kk : ∀ (r : Option Value) (σ' : Sg), post r σ' → WS lay V nL X σ' (pc + 3) lo (r.toList ++ st)) : WS lay V nL X σ pc lo st0 := by
  obtain ⟨p, l, e, R, s, m, args, below, meth, c, A, Q⟩ := X
  obtain ⟨hx1, hx2, hx3, hx4, hx5, hx6, hx7, hx8, hx9, hx10, hx11⟩ := hx
  subst hx8
  subst hs
  intro H locs ls hP hD hS hl
  have hpre := ws_pre (av := rf V o :: As) hx6 hx9 hx10 hx7 hP hD hS
  refine ws_after (va_runV (As := As) (rest := st) (C := M.1.cls) ⟨hx1, hx2, hx3, hx4, hx5⟩ (hM l H.size) ⟨callB_of n hx5 (tb_good hm.1.1) rfl rfl rfl (hx5 _ hm.1.2.1) (hx5 _ hlink) hm.1.2.2.2 ⟨Nat.le_refl _, ?_⟩, hx5 _ hm.2.1, hx5 _ hm.2.2⟩ ⟨hpre.1, va_recv hx6 hP hci (wl_at hL), hpre.2⟩ rfl hn hl.1 rfl (lv_room hw) hd ⟨Nat.zero_le _, Nat.zero_le _⟩) hD hS hx7 hl kk
  have := hm.1.2.2.1
  show 8 + (M.2.2.1 + 11) + 64 * d ≤ 64 * (d + 1)
  omega
theorem WS.callS {M : Mi} {n index : Nat} {post : Option Value → Sg → Prop} {st0 : List Value} (As : List Value) (hx : Ok V own cc nL (d + 1) X) (hM : CT lay V M d As σ post) (hm : MOkS M n) (hlink : Cond.methodLink own index M.1 ∈ TBg) (hn : As.length = n) (hs : st0 = As.reverse ++ st) (hw : (st.map fun v => v.category).sum ≤ 8) (hd : decode cc pc = .ok (.invokestatic index, 3)) (kk : ∀ (r : Option Value) (σ' : Sg), post r σ' → WS lay V nL X σ' (pc + 3) lo (r.toList ++ st)) : WS lay V nL X σ pc lo st0 := by
  obtain ⟨p, l, e, R, s, m, args, below, meth, c, A, Q⟩ := X
  obtain ⟨hx1, hx2, hx3, hx4, hx5, hx6, hx7, hx8, hx9, hx10, hx11⟩ := hx
  subst hx8
  subst hs
  intro H locs ls hP hD hS hl
  have hpre := ws_pre (av := As) hx6 hx9 hx10 hx7 hP hD hS
  refine ws_after (va_runS (As := As) (rest := st) ⟨hx1, hx2, hx3, hx4, hx5⟩ (hM l H.size) ⟨callB_of n hx5 (tb_good hm.1.1) rfl rfl rfl (hx5 _ hm.1.2.1) (hx5 _ hlink) hm.1.2.2.2 ⟨Nat.le_refl _, ?_⟩, hx5 _ hm.2⟩ hpre rfl hn hl.1 rfl (lv_room hw) hd ⟨Nat.zero_le _, Nat.zero_le _⟩) hD hS hx7 hl kk
  have := hm.1.2.2.1
  show 8 + (M.2.2.1 + 11) + 64 * d ≤ 64 * (d + 1)
  omega
theorem WS.callN {M : Mi} {n index : Nat} {post : Option Value → Sg → Prop} {st0 : List Value} (As : List Value) (hx : Ok V own cc nL (d + 1) X) (hM : CT lay V M d As σ post) (hm : MOkS M n) (hlink : (own, index) ∈ nw_list) (hy : M.1 = yX10_within) (hn : As.length = n) (hs : st0 = As.reverse ++ st) (hw : (st.map fun v => v.category).sum ≤ 8) (hd : decode cc pc = .ok (.invokestatic index, 3)) (kk : ∀ (r : Option Value) (σ' : Sg), post r σ' → WS lay V nL X σ' (pc + 3) lo (r.toList ++ st)) : WS lay V nL X σ pc lo st0 := by
  obtain ⟨p, l, e, R, s, m, args, below, meth, c, A, Q⟩ := X
  obtain ⟨hx1, hx2, hx3, hx4, hx5, hx6, hx7, hx8, hx9, hx10, hx11⟩ := hx
  subst hx8
  subst hs
  intro H locs ls hP hD hS hl
  have hpre := ws_pre (av := As) hx6 hx9 hx10 hx7 hP hD hS
  refine ws_after (va_runSN (As := As) (rest := st) (host := "ToadWall") ⟨hx1, hx2, hx3, hx4, hx5⟩ (hM l H.size) ⟨va_cnB n hx5 (tb_good hm.1.1) rfl rfl rfl (by rw [hy]; exact hx10 _ hlink) (hx5 _ hm.1.2.1) hm.1.2.2.2 ⟨Nat.le_refl _, ?_⟩, hx5 _ hm.2, trivial⟩ hpre rfl hn hl.1 rfl (lv_room hw) hd ⟨Nat.zero_le _, Nat.zero_le _⟩) hD hS hx7 hl kk
  have := hm.1.2.2.1
  show 8 + (M.2.2.1 + 11) + 64 * d ≤ 64 * (d + 1)
  omega

theorem WS.callVi {M : Mi} {n index o ci N : Nat} {T : u_T} {fs : List FK} {P : Int32 → Sg → Prop} {st0 : List Value} (As : List Value) (hx : Ok V own cc nL (d + 1) X) (hM : CT lay V M d (rf V o :: As) σ (Ri P)) (hm : MOkV M n) (hlink : Cond.methodLink own index M.1 ∈ TBg) (hci : vwCl[ci]? = some (M.1.cls, T, N)) (hL : lay[o]? = some (.inl (ci, fs))) (hn : As.length = n) (hs : st0 = As.reverse ++ rf V o :: st) (hw : (st.map fun v => v.category).sum ≤ 8) (hd : decode cc pc = .ok (.invokevirtual index, 3)) (kk : ∀ (v : Int32) (σ' : Sg), P v σ' → WS lay V nL X σ' (pc + 3) lo (.int v :: st)) : WS lay V nL X σ pc lo st0 := WS.callV As hx hM hm hlink hci hL hn hs hw hd (fun r σ' h => by obtain ⟨v, rfl, h⟩ := h; exact kk v σ' h)
theorem WS.callVl {M : Mi} {n index o ci N : Nat} {T : u_T} {fs : List FK} {P : Int64 → Sg → Prop} {st0 : List Value} (As : List Value) (hx : Ok V own cc nL (d + 1) X) (hM : CT lay V M d (rf V o :: As) σ (Rl P)) (hm : MOkV M n) (hlink : Cond.methodLink own index M.1 ∈ TBg) (hci : vwCl[ci]? = some (M.1.cls, T, N)) (hL : lay[o]? = some (.inl (ci, fs))) (hn : As.length = n) (hs : st0 = As.reverse ++ rf V o :: st) (hw : (st.map fun v => v.category).sum ≤ 8) (hd : decode cc pc = .ok (.invokevirtual index, 3)) (kk : ∀ (v : Int64) (σ' : Sg), P v σ' → WS lay V nL X σ' (pc + 3) lo (.long v :: st)) : WS lay V nL X σ pc lo st0 := WS.callV As hx hM hm hlink hci hL hn hs hw hd (fun r σ' h => by obtain ⟨v, rfl, h⟩ := h; exact kk v σ' h)
theorem WS.callVr {M : Mi} {n index o ci N : Nat} {T : u_T} {fs : List FK} {P : Nat → Sg → Prop} {st0 : List Value} (As : List Value) (hx : Ok V own cc nL (d + 1) X) (hM : CT lay V M d (rf V o :: As) σ (Rr V P)) (hm : MOkV M n) (hlink : Cond.methodLink own index M.1 ∈ TBg) (hci : vwCl[ci]? = some (M.1.cls, T, N)) (hL : lay[o]? = some (.inl (ci, fs))) (hn : As.length = n) (hs : st0 = As.reverse ++ rf V o :: st) (hw : (st.map fun v => v.category).sum ≤ 8) (hd : decode cc pc = .ok (.invokevirtual index, 3)) (kk : ∀ (v : Nat) (σ' : Sg), P v σ' → WS lay V nL X σ' (pc + 3) lo (rf V v :: st)) : WS lay V nL X σ pc lo st0 := WS.callV As hx hM hm hlink hci hL hn hs hw hd (fun r σ' h => by obtain ⟨v, rfl, h⟩ := h; exact kk v σ' h)
theorem WS.callVv {M : Mi} {n index o ci N : Nat} {T : u_T} {fs : List FK} {P : Sg → Prop} {st0 : List Value} (As : List Value) (hx : Ok V own cc nL (d + 1) X) (hM : CT lay V M d (rf V o :: As) σ (Rv P)) (hm : MOkV M n) (hlink : Cond.methodLink own index M.1 ∈ TBg) (hci : vwCl[ci]? = some (M.1.cls, T, N)) (hL : lay[o]? = some (.inl (ci, fs))) (hn : As.length = n) (hs : st0 = As.reverse ++ rf V o :: st) (hw : (st.map fun v => v.category).sum ≤ 8) (hd : decode cc pc = .ok (.invokevirtual index, 3)) (kk : ∀ (σ' : Sg), P σ' → WS lay V nL X σ' (pc + 3) lo st) : WS lay V nL X σ pc lo st0 := WS.callV As hx hM hm hlink hci hL hn hs hw hd (fun r σ' h => by obtain ⟨rfl, h⟩ := h; exact kk σ' h)
theorem WS.callSi {M : Mi} {n index : Nat} {P : Int32 → Sg → Prop} {st0 : List Value} (As : List Value) (hx : Ok V own cc nL (d + 1) X) (hM : CT lay V M d As σ (Ri P)) (hm : MOkS M n) (hlink : Cond.methodLink own index M.1 ∈ TBg) (hn : As.length = n) (hs : st0 = As.reverse ++ st) (hw : (st.map fun v => v.category).sum ≤ 8) (hd : decode cc pc = .ok (.invokestatic index, 3)) (kk : ∀ (v : Int32) (σ' : Sg), P v σ' → WS lay V nL X σ' (pc + 3) lo (.int v :: st)) : WS lay V nL X σ pc lo st0 := WS.callS As hx hM hm hlink hn hs hw hd (fun r σ' h => by obtain ⟨v, rfl, h⟩ := h; exact kk v σ' h)
theorem WS.callSl {M : Mi} {n index : Nat} {P : Int64 → Sg → Prop} {st0 : List Value} (As : List Value) (hx : Ok V own cc nL (d + 1) X) (hM : CT lay V M d As σ (Rl P)) (hm : MOkS M n) (hlink : Cond.methodLink own index M.1 ∈ TBg) (hn : As.length = n) (hs : st0 = As.reverse ++ st) (hw : (st.map fun v => v.category).sum ≤ 8) (hd : decode cc pc = .ok (.invokestatic index, 3)) (kk : ∀ (v : Int64) (σ' : Sg), P v σ' → WS lay V nL X σ' (pc + 3) lo (.long v :: st)) : WS lay V nL X σ pc lo st0 := WS.callS As hx hM hm hlink hn hs hw hd (fun r σ' h => by obtain ⟨v, rfl, h⟩ := h; exact kk v σ' h)
theorem WS.callSv {M : Mi} {n index : Nat} {P : Sg → Prop} {st0 : List Value} (As : List Value) (hx : Ok V own cc nL (d + 1) X) (hM : CT lay V M d As σ (Rv P)) (hm : MOkS M n) (hlink : Cond.methodLink own index M.1 ∈ TBg) (hn : As.length = n) (hs : st0 = As.reverse ++ st) (hw : (st.map fun v => v.category).sum ≤ 8) (hd : decode cc pc = .ok (.invokestatic index, 3)) (kk : ∀ (σ' : Sg), P σ' → WS lay V nL X σ' (pc + 3) lo st) : WS lay V nL X σ pc lo st0 := WS.callS As hx hM hm hlink hn hs hw hd (fun r σ' h => by obtain ⟨rfl, h⟩ := h; exact kk σ' h)
theorem WS.callNi {M : Mi} {n index : Nat} {P : Int32 → Sg → Prop} {st0 : List Value} (As : List Value) (hx : Ok V own cc nL (d + 1) X) (hM : CT lay V M d As σ (Ri P)) (hm : MOkS M n) (hlink : (own, index) ∈ nw_list) (hy : M.1 = yX10_within) (hn : As.length = n) (hs : st0 = As.reverse ++ st) (hw : (st.map fun v => v.category).sum ≤ 8) (hd : decode cc pc = .ok (.invokestatic index, 3)) (kk : ∀ (v : Int32) (σ' : Sg), P v σ' → WS lay V nL X σ' (pc + 3) lo (.int v :: st)) : WS lay V nL X σ pc lo st0 := WS.callN As hx hM hm hlink hy hn hs hw hd (fun r σ' h => by obtain ⟨v, rfl, h⟩ := h; exact kk v σ' h)
end RULES2


/-! WHERE THINGS ARE MADE: worlds that grow, as lists -/
def tysC (ca : Nat → ClassId) : List (ClassId × FieldType) := [(ca 0, .int), (ca 1, .long), (ca 2, .boolean), (ca 3, .object "ToadWall$Shelf"), (ca 4, .object "ToadWall$Thinker")]
abbrev Gc : Type := va_G × (Nat → ClassId)
def nx_list : List (Nat × MethodName) := [(18, yX5_init), (68, yX1_init), (79, yX8_init)]
/-- words that aren't kept by themselves -/
def Nx (U : State) : Prop := va_AO "ToadWall$Shelf" U ∧ va_AO "ToadWall$Thinker" U ∧ ∀ q ∈ nx_list, va_Nw (.methodLinkNest RX10 q.1 q.2 "ToadWall") U
theorem Nx.warm {s U : State} (hW : s.WarmedH U.vm) (h : Nx s) : Nx U := ⟨h.1.moved hW.alike, h.2.1.moved hW.alike, fun q hq => va_Nw.warmM hW (h.2.2 q hq)⟩
theorem Nx.same {u U : State} (e : u.vm = U.vm) (h : Nx u) : Nx U := ⟨h.1.moved (e ▸ Vm.Alike.refl _), h.2.1.moved (e ▸ Vm.Alike.refl _), fun q hq => va_Nw.same rfl e (h.2.2 q hq)⟩
def WN (G : Gc) (nL : Nat) (X : Xt) (ce so : Nat) (ws : va_W) (pc : Nat) (lo : List (Nat × Value)) (st : List Value) : Prop := match X with
  | (p, l, e, R, s, m, args, below, meth, c, A, Q) => ∀ (H : Heap) (locs : List Loc) (ls : Array Slot), va_P G.1 vwCl ws H → va_D A ws → va_S A s.heap H locs → lv_has ls nL lo → W p l e R s m args below meth c H locs ce so Q (F0 m pc ls st)
def OkN (G : Gc) (own : String) (cc : ByteArray) (nL : Nat) (R : Room) (X : Xt) : Prop := match X with
  | (p, _, _, R', s, m, args, _, meth, c, A, _) => p.tables.exec = Jvm.exec ∧ c.code = cc ∧ c.maxLocals = nL ∧ s.vm.findClass own = some m.cls ∧ (∀ w ∈ TBg, w.before args s = true) ∧ va_K G.1 vwCl (tysC G.2) s ∧ (∀ q, s.heap.size ≤ q → A q) ∧ R' = R ∧ Nx s ∧ meth.locks = false
def InN (X : Xt) : Prop := match X with
  | (_, _, _, _, _, _, _, _, meth, _, _, _) => meth.name = "<init>"
def PreN (G : Gc) (av : List Value) (ws : va_W) (sz : Nat) : Array Value → State → Prop := va_Pc av (fun U => U.heap.size = sz ∧ va_P G.1 vwCl ws U.heap ∧ va_K G.1 vwCl (tysC G.2) U ∧ va_D (fun _ => True) ws ∧ Nx U)
def PostN (G : Gc) (A : Nat → Prop) (post : va_W → Prop) : Array Value → State → Outcome → State → Prop := fun _ st oc t => (∃ ws' : va_W, oc = .returned none ∧ post ws' ∧ va_P G.1 vwCl ws' t.heap ∧ va_D A ws') ∧ va_F A st t
/-- THE CONTRACT of a constructor: from the world ws it makes a world as post says -/
def CN (G : Gc) (M : Mi) (R : Room) (av : List Value) (ws : va_W) (post : va_W → Prop) : Prop := ∀ (l : Launch) (sz : Nat), Met l M.1 (Cond.code M.1 M.2.1 M.2.2.1 M.2.2.2 :: TBg) R (PreN G av ws sz) (PostN G (va_A ws sz) post) R.cells R.slots (va_A ws sz)
def EnN (G : Gc) (R : Room) (post : va_W → Prop) (X : Xt) : Prop := match X with
  | (_, _, _, _, s, _, args, below, meth, _, A, Q) => meth.sig.returnType = none ∧ Q = MQ below (PostN G A post) args s R.cells R.slots A
theorem CN.of {G : Gc} {M : Mi} {R : Room} {av : List Value} {ws : va_W} {post : va_W → Prop} {own : String} (ho : M.1.cls = own) (hi : M.1.name = "<init>") (hret : M.2.2.2 = none) (hy : plainName M.1.cls = true) (hn : (lg_sl av).length ≤ M.2.2.1) (h : ∀ X : Xt, OkN G own M.2.1 M.2.2.1 R X → InN X → EnN G R post X → WN G M.2.2.1 X 0 0 ws 0 (lv_args 0 av) []) : CN G M R av ws post := by
  intro l sz
  refine Met.ofW (cc := M.2.1) (maxL := M.2.2.1) (ret := M.2.2.2) hy rfl ?_
  intro p e s m args below meth c s₁ B hml hv
  obtain ⟨rfl, hsz, hP, hK, hD0, hN⟩ := hv
  subst hsz
  have hD := hD0.self (sz := s.heap.size)
  have hown : s.vm.findClass own = some m.cls := by rw [← ho]; exact findClass_of_methodNamed B.named
  have hts := atoms_spec (ws := Cond.code M.1 M.2.1 M.2.2.1 M.2.2.2 :: TBg) B.pre
  have hin : meth.name = "<init>" := (name_of_methodNamed B.named B.method).1.trans hi
  have hl := lv_entry av (n := M.2.2.1) hn
  rw [lg_entry_eq]
  exact h (p, l, e, R, s, m, av.toArray, below, meth, c, va_A ws s.heap.size, MQ below (PostN G (va_A ws s.heap.size) post) av.toArray s R.cells R.slots (va_A ws s.heap.size)) ⟨B.exec, B.bytes, hml, hown, fun w hw => hts w (List.mem_cons_of_mem _ hw), hK, fun q hq => Or.inr hq, rfl, hN, B.notSynchronized⟩ hin ⟨by rw [B.returns, hret], rfl⟩ s.heap [] _ hP hD va_S.rf hl
section NEWS
variable {G : Gc} {nL : Nat} {X : Xt} {ce so : Nat} {ws : va_W} {pc : Nat} {lo : List (Nat × Value)} {st : List Value} {own : String} {cc : ByteArray} {R : Room}
theorem WN.as {ws' : va_W} {lo' : List (Nat × Value)} {st' : List Value} (h1 : ws = ws') (h2 : lo = lo') (h3 : st = st') (k : WN G nL X ce so ws' pc lo' st') : WN G nL X ce so ws pc lo st := by
  subst h1; subst h2; subst h3; exact k
theorem WN.los {lo' : List (Nat × Value)} (ks : List Nat) (hl : lv_pick lo ks = lo') (k : WN G nL X ce so ws pc lo' st) : WN G nL X ce so ws pc lo st := by
  obtain ⟨p, l, e, R', s, m, args, below, meth, c, A, Q⟩ := X
  intro H locs ls hP hD hS h
  exact k H locs ls hP hD hS (lv_sub h ks hl)
theorem WN.iconst {n : Int} {v : Int32} (hx : OkN G own cc nL R X) (hd : decode cc pc = .ok (.iconst n, 1)) (hv : Int32.ofInt n = v) (k : WN G nL X ce so ws (pc + 1) lo (.int v :: st)) : WN G nL X ce so ws pc lo (st) := by
  obtain ⟨p, l, e, R', s, m, args, below, meth, c, A, Q⟩ := X
  intro H locs ls hP hD hS hl
  exact lv_iconst hx.1 hx.2.1 hd hv (k H locs ls hP hD hS hl)
theorem WN.bipush {n : Int} {v : Int32} (hx : OkN G own cc nL R X) (hd : decode cc pc = .ok (.bipush n, 2)) (hv : (Int8.ofInt n).toInt32 = v) (k : WN G nL X ce so ws (pc + 2) lo (.int v :: st)) : WN G nL X ce so ws pc lo (st) := by
  obtain ⟨p, l, e, R', s, m, args, below, meth, c, A, Q⟩ := X
  intro H locs ls hP hD hS hl
  exact lv_bipush hx.1 hx.2.1 hd hv (k H locs ls hP hD hS hl)
theorem WN.sipush {n : Int} {v : Int32} (hx : OkN G own cc nL R X) (hd : decode cc pc = .ok (.sipush n, 3)) (hv : (Int16.ofInt n).toInt32 = v) (k : WN G nL X ce so ws (pc + 3) lo (.int v :: st)) : WN G nL X ce so ws pc lo (st) := by
  obtain ⟨p, l, e, R', s, m, args, below, meth, c, A, Q⟩ := X
  intro H locs ls hP hD hS hl
  exact lv_sipush hx.1 hx.2.1 hd hv (k H locs ls hP hD hS hl)
theorem WN.iadd {x y : Int32} (hx : OkN G own cc nL R X) (hd : decode cc pc = .ok (.iadd, 1)) (k : WN G nL X ce so ws (pc + 1) lo (.int (x + y) :: st)) : WN G nL X ce so ws pc lo (.int y :: .int x :: st) := by
  obtain ⟨p, l, e, R', s, m, args, below, meth, c, A, Q⟩ := X
  intro H locs ls hP hD hS hl
  exact lv_iadd hx.1 hx.2.1 hd (k H locs ls hP hD hS hl)
theorem WN.irem {x y : Int32} (hx : OkN G own cc nL R X) (hd : decode cc pc = .ok (.irem, 1)) (hne : ¬ y = 0) (k : WN G nL X ce so ws (pc + 1) lo (.int (x - x / y * y) :: st)) : WN G nL X ce so ws pc lo (.int y :: .int x :: st) := by
  obtain ⟨p, l, e, R', s, m, args, below, meth, c, A, Q⟩ := X
  intro H locs ls hP hD hS hl
  exact lv_irem hx.1 hx.2.1 hd hne (k H locs ls hP hD hS hl)
theorem WN.dup {x : Value} (hx : OkN G own cc nL R X) (hd : decode cc pc = .ok (.dup, 1)) (hc : x.category = 1) (k : WN G nL X ce so ws (pc + 1) lo (x :: x :: st)) : WN G nL X ce so ws pc lo (x :: st) := by
  obtain ⟨p, l, e, R', s, m, args, below, meth, c, A, Q⟩ := X
  intro H locs ls hP hD hS hl
  exact lv_dup hx.1 hx.2.1 hd hc (k H locs ls hP hD hS hl)
theorem WN.iload_n {k : Fin 4} {i : Nat} {x : Int32} (hx : OkN G own cc nL R X) (hd : decode cc pc = .ok (.iload_n k, 1)) (hi : (k : Nat) = i) (j : Nat) (hj : lo[j]? = some (i, .int x)) (k : WN G nL X ce so ws (pc + 1) lo (.int x :: st)) : WN G nL X ce so ws pc lo (st) := by
  obtain ⟨p, l, e, R', s, m, args, below, meth, c, A, Q⟩ := X
  intro H locs ls hP hD hS hl
  exact lv_iload_n hx.1 hx.2.1 hd hi (lv_at hl j hj) (k H locs ls hP hD hS hl)
theorem WN.istore_n {k : Fin 4} {i : Nat} {x : Int32} {lo' : List (Nat × Value)} (hx : OkN G own cc nL R X) (hd : decode cc pc = .ok (.istore_n k, 1)) (hi : (k : Nat) = i) (hn : i < nL) (hlo : (i, Value.int x) :: lo.filter (fun q => !(q.1 == i) && !(q.1 + 1 == i && q.2.category == 2)) = lo') (kk : WN G nL X ce so ws (pc + 1) lo' st) : WN G nL X ce so ws pc lo (.int x :: st) := by
  obtain ⟨p, l, e, R', s, m, args, below, meth, c, A, Q⟩ := X
  intro H locs ls hP hD hS hl
  exact lv_istore_n hx.1 hx.2.1 hd hi hl hn hlo (fun ls' hl' => kk H locs ls' hP hD hS hl')
theorem WN.aload_n {k : Fin 4} {i : Nat} {x : Nat} (hx : OkN G own cc nL R X) (hd : decode cc pc = .ok (.aload_n k, 1)) (hi : (k : Nat) = i) (j : Nat) (hj : lo[j]? = some (i, .ref x)) (k : WN G nL X ce so ws (pc + 1) lo (.ref x :: st)) : WN G nL X ce so ws pc lo (st) := by
  obtain ⟨p, l, e, R', s, m, args, below, meth, c, A, Q⟩ := X
  intro H locs ls hP hD hS hl
  exact lv_aload_n hx.1 hx.2.1 hd hi (lv_at hl j hj) (k H locs ls hP hD hS hl)
theorem WN.astore_n {k : Fin 4} {i : Nat} {x : Nat} {lo' : List (Nat × Value)} (hx : OkN G own cc nL R X) (hd : decode cc pc = .ok (.astore_n k, 1)) (hi : (k : Nat) = i) (hn : i < nL) (hlo : (i, Value.ref x) :: lo.filter (fun q => !(q.1 == i) && !(q.1 + 1 == i && q.2.category == 2)) = lo') (kk : WN G nL X ce so ws (pc + 1) lo' st) : WN G nL X ce so ws pc lo (.ref x :: st) := by
  obtain ⟨p, l, e, R', s, m, args, below, meth, c, A, Q⟩ := X
  intro H locs ls hP hD hS hl
  exact lv_astore_n hx.1 hx.2.1 hd hi hl hn hlo (fun ls' hl' => kk H locs ls' hP hD hS hl')
theorem WN.iinc {i : Nat} {n : Int} {x v : Int32} {lo' : List (Nat × Value)} (hx : OkN G own cc nL R X) (hd : decode cc pc = .ok (.iinc i n, 3)) (j : Nat) (hj : lo[j]? = some (i, .int x)) (hv : x + Int32.ofInt n = v) (hn : i < nL) (hlo : (i, Value.int v) :: lo.filter (fun q => !(q.1 == i) && !(q.1 + 1 == i && q.2.category == 2)) = lo') (kk : WN G nL X ce so ws (pc + 3) lo' st) : WN G nL X ce so ws pc lo st := by
  obtain ⟨p, l, e, R', s, m, args, below, meth, c, A, Q⟩ := X
  intro H locs ls hP hD hS hl
  exact lv_iinc hx.1 hx.2.1 hd hl hj hv hn hlo (fun ls' hl' => kk H locs ls' hP hD hS hl')
theorem WN.goto {off : Int} {tgt : Nat} (hx : OkN G own cc nL R X) (hd : decode cc pc = .ok (.goto off, 3)) (ht : (pc : Int) + off = (tgt : Int)) (k : WN G nL X ce so ws tgt lo st) : WN G nL X ce so ws pc lo st := by
  obtain ⟨p, l, e, R', s, m, args, below, meth, c, A, Q⟩ := X
  intro H locs ls hP hD hS hl
  exact lv_goto hx.1 hx.2.1 hd ht (k H locs ls hP hD hS hl)
theorem WN.icmp_ge {x y : Int32} {off : Int} {tgt : Nat} (hx : OkN G own cc nL R X) (hd : decode cc pc = .ok (.if_icmp .ge off, 3)) (ht : (pc : Int) + off = (tgt : Int)) (kt : y ≤ x → WN G nL X ce so ws tgt lo st) (kf : ¬ y ≤ x → WN G nL X ce so ws (pc + 3) lo st) : WN G nL X ce so ws pc lo (.int y :: .int x :: st) := by
  obtain ⟨p, l, e, R', s, m, args, below, meth, c, A, Q⟩ := X
  intro H locs ls hP hD hS hl
  exact lv_icmp_ge hx.1 hx.2.1 hd ht (fun h => kt h H locs ls hP hD hS hl) (fun h => kf h H locs ls hP hD hS hl)
theorem WN.icmp_ne {x y : Int32} {off : Int} {tgt : Nat} (hx : OkN G own cc nL R X) (hd : decode cc pc = .ok (.if_icmp .ne off, 3)) (ht : (pc : Int) + off = (tgt : Int)) (kt : ¬ x = y → WN G nL X ce so ws tgt lo st) (kf : x = y → WN G nL X ce so ws (pc + 3) lo st) : WN G nL X ce so ws pc lo (.int y :: .int x :: st) := by
  obtain ⟨p, l, e, R', s, m, args, below, meth, c, A, Q⟩ := X
  intro H locs ls hP hD hS hl
  exact lv_icmp_ne hx.1 hx.2.1 hd ht (fun h => kt h H locs ls hP hD hS hl) (fun h => kf h H locs ls hP hD hS hl)
theorem WN.vret {post : va_W → Prop} (hx : OkN G own cc nL R X) (he : EnN G R post X) (hd : decode cc pc = .ok (.return_, 1)) (h1 : ce = R.cells) (h2 : so = R.slots) (hp : post ws) : WN G nL X ce so ws pc lo [] := by
  obtain ⟨p, l, e, R', s, m, args, below, meth, c, A, Q⟩ := X
  intro H locs ls hP hD hS hl
  obtain ⟨hr, rfl⟩ := he
  have hlk : meth.locks = false := hx.2.2.2.2.2.2.2.2.2
  subst h1; subst h2
  exact W.vret hx.1 hx.2.1 hr (fun t ht hW => ⟨⟨ws, rfl, hp, by rw [ht]; exact hP, hD⟩, hS.F ht⟩) hS.2.2 hd
theorem WN.mmin {index : Nat} {x y : Int32} (hx : OkN G own cc nL R X) (hf : 1 ≤ R.frames) (hlo : 100 ≤ R.locals) (hlink : Cond.methodLink own index yJ_min ∈ TBg) (hw : (st.map fun v => v.category).sum ≤ 8) (hc : ce ≤ R.cells) (hs : so ≤ R.slots) (hd : decode cc pc = .ok (.invokestatic index, 3)) (kk : WN G nL X ce so ws (pc + 3) lo (.int (mn x y) :: st)) : WN G nL X ce so ws pc lo (.int y :: .int x :: st) := by
  obtain ⟨p, l, e, R', s, m, args, below, meth, c, A, Q⟩ := X
  obtain ⟨hx1, hx2, hx3, hx4, hx5, hx6, hx7, hx8, hx9, hx10⟩ := hx
  subst hx8
  intro H locs ls hP hD hS hl
  exact va_mmin hx1 hx2 (hx3.trans hl.1.symm) hx4 (hx5 _ hlink) (hx5 _ sw_min) (hx5 _ in_math) (hx5 _ cw_min) hf (Nat.le_trans (by omega) hlo) hc hs hd (kk H locs ls hP hD hS hl)
theorem WN.objInit {index a : Nat} (hx : OkN G own cc nL R X) (hf : 1 ≤ R.frames) (hlo : 100 ≤ R.locals) (hlink : Cond.methodLink own index objectInit ∈ TBg) (hi : Cond.instanceMethod objectInit ∈ TBg) (hc : Cond.code objectInit ⟨#[0xb1]⟩ 1 none ∈ TBg) (hw : (st.map fun v => v.category).sum ≤ 8) (hd : decode cc pc = .ok (.invokespecial index, 3)) (kk : WN G nL X ce so ws (pc + 3) lo st) : WN G nL X ce so ws pc lo (.ref a :: st) := by
  obtain ⟨p, l, e, R', s, m, args, below, meth, c, A, Q⟩ := X
  obtain ⟨hx1, hx2, hx3, hx4, hx5, hx6, hx7, hx8, hx9, hx10⟩ := hx
  subst hx8
  intro H locs ls hP hD hS hl
  refine W.objInit hx1 hx2 hx4 (hx5 _ hlink) (hx5 _ hi) (hx5 _ hc) rfl (by rw [hx3]; exact hl.1) rfl hd hf ?_ ?_
  · show 2 * 0 + _ + 12 ≤ _
    omega
  · exact kk H locs ls hP hD hS hl
/-- a field of a thing -/
theorem WN.get {C : Ci} {q0 o index k : Nat} {fs : List Value} {v : Value} (hx : OkN G own cc nL R X) (hC : COk C) (hF : FLk C own index k) (hL : ws[q0]? = some (o, .inr (C.1, fs))) (hv : fs[k]? = some v) (hd : decode cc pc = .ok (.getfield index, 3)) (kk : WN G nL X ce so ws (pc + 3) lo (v :: st)) : WN G nL X ce so ws pc lo (.ref o :: st) := by
  obtain ⟨p, l, e, R', s, m, args, below, meth, c, A, Q⟩ := X
  intro H locs ls hP hD hS hl
  exact va_get (D := G.1) (ci := C.1) (C := C.2.1) (T := C.2.2.1) (N := C.2.2.2.1) (ref := C.2.1) hx.1 hx.2.1 hx.2.2.2.2.1 hC.2.1 hx.2.2.2.1 hx.2.2.2.2.2.1 hP q0 hL hC.1 k hF.1 (hx.2.2.2.2.1 _ hF.2.2) (fun x h9 => by rw [← hF.2.1]; exact h9) hv hd (kk H locs ls hP hD hS hl)
theorem WN.put {C : Ci} {q0 o index k a : Nat} {fs : List Value} {ty : FieldType} {ws' : va_W} (hx : OkN G own cc nL R X) (hi : InN X) (hC : COk C) (hF : FLk C own index k) (hown : C.2.1 = own) (hL : ws[q0]? = some (o, .inr (C.1, fs))) (hl9 : k < fs.length) (hty : C.2.2.2.2 k = ty) (hn : narrow ty (.ref a) = .ref a) (hft : fits ty (.ref a) = true) (hws : ws.set q0 (o, .inr (C.1, fs.set k (.ref a))) = ws') (hd : decode cc pc = .ok (.putfield index, 3)) (kk : WN G nL X ce so ws' (pc + 3) lo st) : WN G nL X ce so ws pc lo (.ref a :: .ref o :: st) := by
  obtain ⟨p, l, e, R', s, m, args, below, meth, c, A, Q⟩ := X
  intro H locs ls hP hD hS hl
  subst hws
  cases hfin : (C.2.2.1 k).2.2.2 with
  | false => exact va_put (D := G.1) (ci := C.1) (C := C.2.1) (T := C.2.2.1) (N := C.2.2.2.1) (ref := C.2.1) (ty := ty) hx.1 hx.2.1 hx.2.2.2.2.1 hC.2.1 C.2.2.2.2 hC.2.2.1 hC.2.2.2 hx.2.2.2.1 hx.2.2.2.2.2.1 hP hD hS q0 hL hC.1 k hF.1 (hx.2.2.2.2.1 _ hF.2.2) (fun x h9 => by rw [← hF.2.1]; exact h9) hfin (by rw [hC.2.2.1 k hF.1, hty]) hn hft hl9 hd (fun H1 locs1 hP1 hD1 hS1 => kk H1 locs1 ls hP1 hD1 hS1 hl)
  | true => exact va_putF (D := G.1) (ci := C.1) (C := C.2.1) (T := C.2.2.1) (N := C.2.2.2.1) (ref := C.2.1) (ty := ty) hx.1 hx.2.1 hx.2.2.2.2.1 hC.2.1 C.2.2.2.2 hC.2.2.1 hC.2.2.2 hx.2.2.2.1 hx.2.2.2.2.2.1 hP hD hS q0 hL hC.1 k hF.1 (hx.2.2.2.2.1 _ hF.2.2) (fun x h9 => by rw [← hF.2.1]; exact h9) hfin hi (by rw [hF.2.1]; exact hown) (by rw [hC.2.2.1 k hF.1, hty]) hn hft hl9 hd (fun H1 locs1 hP1 hD1 hS1 => kk H1 locs1 ls hP1 hD1 hS1 hl)
/-- a row's element -/
theorem WN.iast {q0 a n : Nat} {f : Nat → Int32} {i v : Int32} {ws' : va_W} (hx : OkN G own cc nL R X) (hL : ws[q0]? = some (a, .inl (G.2 0, n, .inl f))) (hin : vp_in i n) (hws : ws.set q0 (a, .inl (G.2 0, n, .inl (upd f i.toNatClampNeg v))) = ws') (hd : decode cc pc = .ok (.iastore, 1)) (kk : WN G nL X ce so ws' (pc + 1) lo st) : WN G nL X ce so ws pc lo (.int v :: .int i :: .ref a :: st) := by
  obtain ⟨p, l, e, R', s, m, args, below, meth, c, A, Q⟩ := X
  intro H locs ls hP hD hS hl
  subst hws
  exact va_iast hx.1 hx.2.1 hx.2.2.2.2.2.1 hP hD hS q0 0 (cA := G.2 0) (n := n) (f := f) hL rfl hin hd (fun H1 locs1 hP1 hD1 hS1 => kk H1 locs1 ls hP1 hD1 hS1 hl)
theorem WN.aast {q0 qk ci a n v t0 : Nat} {r : vw_C} {vs : List Value} {f : Nat → Option Nat} {cA : ClassId} {i : Int32} {ws' : va_W} (hx : OkN G own cc nL R X) (hL : ws[q0]? = some (a, .inl (cA, n, .inr (.inr (.inr (.inr f)))))) (ht : (tysC G.2)[t0]? = some (cA, .object r.1)) (hv : ws[qk]? = some (v, .inr (ci, vs))) (hc : vwCl[ci]? = some r) (hin : vp_in i n) (hws : ws.set q0 (a, .inl (cA, n, .inr (.inr (.inr (.inr (va_up f i.toNatClampNeg (some v))))))) = ws') (hd : decode cc pc = .ok (.aastore, 1)) (kk : WN G nL X ce so ws' (pc + 1) lo st) : WN G nL X ce so ws pc lo (.ref v :: .int i :: .ref a :: st) := by
  obtain ⟨p, l, e, R', s, m, args, below, meth, c, A, Q⟩ := X
  intro H locs ls hP hD hS hl
  subst hws
  exact va_astq hx.1 hx.2.1 hx.2.2.2.2.2.1 hP hD hS q0 t0 qk ci hL ht hv hc hin hd (fun H1 locs1 hP1 hD1 hS1 => kk H1 locs1 ls hP1 hD1 hS1 hl)
theorem ca_eq {U : State} {k : Nat} {cA : ClassId} {ty : FieldType} {tys : List (ClassId × FieldType)} (h : va_K G.1 vwCl tys U) (h2 : va_K G.1 vwCl (tys ++ [(cA, ty)]) U) (hk : tys[k]? = some (G.2 k, ty)) : cA = G.2 k := by
  have a := (h.2 k _ hk).2
  have b := (h2.2 tys.length (cA, ty) (by rw [List.getElem?_append_right (Nat.le_refl _), Nat.sub_self]; rfl)).2
  cases ty with
  | object C =>
    obtain ⟨_, _, _, _, _, a4⟩ := a
    obtain ⟨_, _, _, _, _, b4⟩ := b
    exact Option.some.inj (b4.symm.trans a4)
  | _ => exact Option.some.inj (Eq.trans (Eq.symm b) a)

theorem WN.newI {n : Int32} {N : Nat} (hx : OkN G own cc nL R X) (harr : Cond.arrayClass .int ∈ TBg) (hn : ¬ n < 0) (hN : n.toNatClampNeg = N) (hb : N * componentBytes .int ≤ 536870912) (hc : ce + 1 ≤ R.cells) (hs : so + N ≤ R.slots) (hd : decode cc pc = .ok (.newarray .int, 2)) (kk : ∀ q : Nat, WN G nL X (ce + 1) (so + N) (ws ++ [(q, .inl (G.2 0, N, .inl (fun _ => 0)))]) (pc + 2) lo (.ref q :: st)) : WN G nL X ce so ws pc lo (.int n :: st) := by
  obtain ⟨p, l, e, R', s, m, args, below, meth, c, A, Q⟩ := X
  obtain ⟨hx1, hx2, hx3, hx4, hx5, hx6, hx7, hx8, hx9, hx10⟩ := hx
  subst hx8
  intro H locs ls hP hD hS hl
  refine va_newa (atype := .int) (ty := .int) (a0 := (N, .inl (fun _ => 0))) hx1 hx2 (hx5 _ harr) rfl hx6 hP hD hS hx7 (fun cA => by rw [vp_cell_i]; rfl) hn hN hb hc hs hd (fun q cA H1 hK1 hP1 hD1 hS1 => ?_)
  have hca := ca_eq (k := 0) hx6 hK1 rfl
  subst hca
  exact kk q H1 locs ls hP1 hD1 hS1 hl
theorem WN.newL {n : Int32} {N : Nat} (hx : OkN G own cc nL R X) (harr : Cond.arrayClass .long ∈ TBg) (hn : ¬ n < 0) (hN : n.toNatClampNeg = N) (hb : N * componentBytes .long ≤ 536870912) (hc : ce + 1 ≤ R.cells) (hs : so + N ≤ R.slots) (hd : decode cc pc = .ok (.newarray .long, 2)) (kk : ∀ q : Nat, WN G nL X (ce + 1) (so + N) (ws ++ [(q, .inl (G.2 1, N, .inr (.inl (fun _ => 0))))]) (pc + 2) lo (.ref q :: st)) : WN G nL X ce so ws pc lo (.int n :: st) := by
  obtain ⟨p, l, e, R', s, m, args, below, meth, c, A, Q⟩ := X
  obtain ⟨hx1, hx2, hx3, hx4, hx5, hx6, hx7, hx8, hx9, hx10⟩ := hx
  subst hx8
  intro H locs ls hP hD hS hl
  refine va_newa (atype := .long) (ty := .long) (a0 := (N, .inr (.inl (fun _ => 0)))) hx1 hx2 (hx5 _ harr) rfl hx6 hP hD hS hx7 (fun cA => by rw [vp_cell_l]; rfl) hn hN hb hc hs hd (fun q cA H1 hK1 hP1 hD1 hS1 => ?_)
  have hca := ca_eq (k := 1) hx6 hK1 rfl
  subst hca
  exact kk q H1 locs ls hP1 hD1 hS1 hl
theorem WN.newZ {n : Int32} {N : Nat} (hx : OkN G own cc nL R X) (harr : Cond.arrayClass .boolean ∈ TBg) (hn : ¬ n < 0) (hN : n.toNatClampNeg = N) (hb : N * componentBytes .boolean ≤ 536870912) (hc : ce + 1 ≤ R.cells) (hs : so + N ≤ R.slots) (hd : decode cc pc = .ok (.newarray .boolean, 2)) (kk : ∀ q : Nat, WN G nL X (ce + 1) (so + N) (ws ++ [(q, .inl (G.2 2, N, .inl (fun _ => 0)))]) (pc + 2) lo (.ref q :: st)) : WN G nL X ce so ws pc lo (.int n :: st) := by
  obtain ⟨p, l, e, R', s, m, args, below, meth, c, A, Q⟩ := X
  obtain ⟨hx1, hx2, hx3, hx4, hx5, hx6, hx7, hx8, hx9, hx10⟩ := hx
  subst hx8
  intro H locs ls hP hD hS hl
  refine va_newa (atype := .boolean) (ty := .boolean) (a0 := (N, .inl (fun _ => 0))) hx1 hx2 (hx5 _ harr) rfl hx6 hP hD hS hx7 (fun cA => by rw [vp_cell_i]; rfl) hn hN hb hc hs hd (fun q cA H1 hK1 hP1 hD1 hS1 => ?_)
  have hca := ca_eq (k := 2) hx6 hK1 rfl
  subst hca
  exact kk q H1 locs ls hP1 hD1 hS1 hl
theorem WN.newQ {C : String} {k : Nat} {n : Int32} {N index : Nat} (hx : OkN G own cc nL R X) (hcl : Cond.classLink own index C ∈ TBg) (hk : (tysC G.2)[k]? = some (G.2 k, .object C)) (hao : C = "ToadWall$Shelf" ∨ C = "ToadWall$Thinker") (hn : ¬ n < 0) (hN : n.toNatClampNeg = N) (hb : N * 4 ≤ 536870912) (hc : ce + 1 ≤ R.cells) (hs : so + N ≤ R.slots) (hd : decode cc pc = .ok (.anewarray index, 3)) (kk : ∀ q : Nat, WN G nL X (ce + 1) (so + N) (ws ++ [(q, .inl (G.2 k, N, .inr (.inr (.inr (.inr (fun _ => none))))))]) (pc + 3) lo (.ref q :: st)) : WN G nL X ce so ws pc lo (.int n :: st) := by
  obtain ⟨p, l, e, R', s, m, args, below, meth, c, A, Q⟩ := X
  obtain ⟨hx1, hx2, hx3, hx4, hx5, hx6, hx7, hx8, hx9, hx10⟩ := hx
  subst hx8
  intro H locs ls hP hD hS hl
  refine va_newq hx1 hx2 hx4 (hx5 _ hcl) (by rcases hao with rfl | rfl; exact hx9.1; exact hx9.2.1) hx6 hP hD hS hx7 hn hN hb hc hs hd (fun q cA H1 hK1 hP1 hD1 hS1 => ?_)
  have hca := ca_eq hx6 hK1 hk
  subst hca
  exact kk q H1 locs ls hP1 hD1 hS1 hl
theorem WN.new {C : Ci} {index : Nat} {fs : List Value} (hx : OkN G own cc nL R X) (hC : COk C) (hcl : Cond.classLink own index C.2.1 ∈ TBg) (hi : Cond.instantiable C.2.1 C.2.2.2.1 ∈ TBg) (hini : Cond.initialized C.2.1 ∈ TBg) (hfs : ∀ j, j < C.2.2.2.1 → defaultValue (C.2.2.2.2 j) = vp_V fs j) (hc : ce + 1 ≤ R.cells) (hs : so + C.2.2.2.1 ≤ R.slots) (hd : decode cc pc = .ok (.new index, 3)) (kk : ∀ q : Nat, WN G nL X (ce + 1) (so + C.2.2.2.1) (ws ++ [(q, .inr (C.1, fs))]) (pc + 3) lo (.ref q :: st)) : WN G nL X ce so ws pc lo st := by
  obtain ⟨p, l, e, R', s, m, args, below, meth, c, A, Q⟩ := X
  obtain ⟨hx1, hx2, hx3, hx4, hx5, hx6, hx7, hx8, hx9, hx10⟩ := hx
  subst hx8
  intro H locs ls hP hD hS hl
  exact va_new hx1 hx2 hx5 hC.2.1 C.2.2.2.2 hC.2.2.1 hx4 (hx5 _ hcl) (hx5 _ hi) (hx5 _ hini) hx6 hP hD hS hx7 hC.1 hfs hc hs hd (fun q H1 hP1 hD1 hS1 => kk q H1 locs ls hP1 hD1 hS1 hl)
/-- a constructor's call: its thing lies last -/
def MOkI (M : Mi) (n : Nat) : Prop := MOk M n ∧ M.1.name = "<init>" ∧ M.2.2.2 = none ∧ Cond.instanceMethod M.1 ∈ TBg
theorem wn_pre {s : State} {A : Nat → Prop} {H : Heap} {av : List Value} {wc : va_W} (hK : va_K G.1 vwCl (tysC G.2) s) (hN : Nx s) (hP : va_P G.1 vwCl wc H) (hD : va_D A wc) : FrameBlind (PreN G av wc H.size) ∧ ∀ U : State, U.heap = H → s.WarmedH U.vm → PreN G av wc H.size av.toArray U := by
  refine ⟨fun a U g mk q => ?_, fun U hU hW => ?_⟩
  · obtain ⟨q0, q1, qP, qK, qD, qN⟩ := q
    exact ⟨q0, q1, qP, va_K.moved (u := U) (U := U.calling g mk a) (Vm.Alike.refl U.vm) qK, qD, qN.same rfl⟩
  · exact ⟨rfl, by rw [hU], by rw [hU]; exact hP, va_K.moved hW.alike hK, hD.weaken (fun _ _ _ _ => trivial), hN.warm hW⟩
theorem wn_after {p : Program} {l : Launch} {e : Env} {s : State} {m : MethodId} {args : Array Value} {below : List Frame} {meth : Method} {c : Code} {A : Nat → Prop} {Q : State → Prop} {post : va_W → Prop} {a : Array Value} {H : Heap} {locs : List Loc} {ls : Array Slot} {st0 : List Value} {w0 wc : va_W} {mc ms : Nat}
    (hr : va_Run p l e R s m args below meth c H locs ce so mc ms (F0 m pc ls st0) st (PostN G (va_A wc H.size) post a) (va_A wc H.size)) (hP : va_P G.1 vwCl (w0 ++ wc) H) (hD : va_D A (w0 ++ wc)) (hS : va_S A s.heap H locs) (hA : ∀ q, s.heap.size ≤ q → A q) (hl : lv_has ls nL lo)
    (kk : ∀ ws', post ws' → WN G nL (p, l, e, R, s, m, args, below, meth, c, A, Q) (ce + mc) (so + ms) (w0 ++ ws') (pc + 3) lo st) : W p l e R s m args below meth c H locs ce so Q (F0 m pc ls st0) := by
  have hF : ∀ q, va_A wc H.size q → A q := by
    intro q h
    rcases h with ⟨k, e, h⟩ | h
    · exact hD.r.2 k (q, e) h
    · exact hA q (Nat.le_trans hS.1 h)
  intro T hT X
  obtain ⟨v, st₀, t, T', L, h0, X', hL, e1, e2, ⟨⟨ws', hv, hp, hP1, hD1⟩, hz, hk⟩, stp⟩ := hr T hT X
  cases hv
  rw [h0] at hz hk
  have hS1 : va_S A s.heap T'.heap (locs ++ L) := ⟨Nat.le_trans hS.1 (by rw [e1]; exact hz), fun q h1 h2 => by rw [e1, hk q (Nat.lt_of_lt_of_le h1 hS.1) (fun z => h2 (hF q z))]; exact hS.2.1 q h1 h2, fun q hq => by
      rcases List.mem_append.mp hq with h | h
      · exact hS.2.2 q h
      · exact hF _ (hL q h)⟩
  obtain ⟨hPj, hDj⟩ := side_r hP hD hk hF hP1 hD1
  obtain ⟨t2, a1, b1⟩ := kk ws' hp T'.heap (locs ++ L) ls (by rw [e1]; exact hPj) hDj hS1 hl T' rfl X'
  exact ⟨t2, stp t2 a1, b1⟩
theorem WN.callI {M : Mi} {n index q : Nat} {ev : va_E} {post : va_W → Prop} {R1 : Room} {st0 : List Value} {w0 : va_W} (As : List Value) (hx : OkN G own cc nL R X) (hM : CN G M R1 (.ref q :: As) [(q, ev)] post) (hm : MOkI M n) (hlink : Cond.methodLink own index M.1 ∈ TBg) (hn : As.length = n) (hs : st0 = As.reverse ++ .ref q :: st) (hws : ws = w0 ++ [(q, ev)]) (hw : (st.map fun v => v.category).sum ≤ 8) (hf : R1.frames + 1 ≤ R.frames ∧ 8 + (M.2.2.1 + 11) + R1.locals ≤ R.locals) (hc : ce + R1.cells ≤ R.cells ∧ so + R1.slots ≤ R.slots) (hd : decode cc pc = .ok (.invokespecial index, 3)) (kk : ∀ ws', post ws' → WN G nL X (ce + R1.cells) (so + R1.slots) (w0 ++ ws') (pc + 3) lo st) : WN G nL X ce so ws pc lo st0 := by
  obtain ⟨p, l, e, R', s, m, args, below, meth, c, A, Q⟩ := X
  obtain ⟨hx1, hx2, hx3, hx4, hx5, hx6, hx7, hx8, hx9, hx10⟩ := hx
  subst hx8
  subst hs
  subst hws
  intro H locs ls hP hD hS hl
  have hpre := wn_pre (av := .ref q :: As) hx6 hx9 hP.r hD.r
  have hret : M.2.2.2 = none := hm.2.2.1
  refine wn_after (va_runI (As := As) (rest := st) (bytes := M.2.1) (maxL := M.2.2.1) ⟨hx1, hx2, hx3, hx4, hx5⟩ (hM l H.size) ⟨callB_of n hx5 (tb_good hm.1.1) (by rw [hret]) rfl rfl (hx5 _ hm.1.2.1) (hx5 _ hlink) hm.1.2.2.2 hf, hm.2.1, hx5 _ hm.2.2.2⟩ hpre rfl hn hl.1 rfl (lv_room hw) hd hc) hP hD hS hx7 hl kk
theorem WN.callIN {M : Mi} {n index q : Nat} {ev : va_E} {post : va_W → Prop} {R1 : Room} {st0 : List Value} {w0 : va_W} (As : List Value) (hx : OkN G own cc nL R X) (hM : CN G M R1 (.ref q :: As) [(q, ev)] post) (hm : MOkI M n) (ho : own = RX10) (hlink : (index, M.1) ∈ nx_list) (hn : As.length = n) (hs : st0 = As.reverse ++ .ref q :: st) (hws : ws = w0 ++ [(q, ev)]) (hw : (st.map fun v => v.category).sum ≤ 8) (hf : R1.frames + 1 ≤ R.frames ∧ 8 + (M.2.2.1 + 11) + R1.locals ≤ R.locals) (hc : ce + R1.cells ≤ R.cells ∧ so + R1.slots ≤ R.slots) (hd : decode cc pc = .ok (.invokespecial index, 3)) (kk : ∀ ws', post ws' → WN G nL X (ce + R1.cells) (so + R1.slots) (w0 ++ ws') (pc + 3) lo st) : WN G nL X ce so ws pc lo st0 := by
  obtain ⟨p, l, e, R', s, m, args, below, meth, c, A, Q⟩ := X
  obtain ⟨hx1, hx2, hx3, hx4, hx5, hx6, hx7, hx8, hx9, hx10⟩ := hx
  subst hx8
  subst hs
  subst hws
  subst ho
  intro H locs ls hP hD hS hl
  have hpre := wn_pre (av := .ref q :: As) hx6 hx9 hP.r hD.r
  have hret : M.2.2.2 = none := hm.2.2.1
  refine wn_after (va_runIN (As := As) (rest := st) (bytes := M.2.1) (maxL := M.2.2.1) (host := "ToadWall") ⟨hx1, hx2, hx3, hx4, hx5⟩ (hM l H.size) ⟨va_cnB n hx5 (tb_good hm.1.1) (by rw [hret]) rfl rfl (hx9.2.2 _ hlink) (hx5 _ hm.1.2.1) hm.1.2.2.2 hf, hm.2.1, hx5 _ hm.2.2.2⟩ hpre rfl hn hl.1 rfl (lv_room hw) hd hc) hP hD hS hx7 hl kk
end NEWS
theorem ax_int : Cond.arrayClass .int ∈ TBg := tb1 62 (by decide +kernel) rfl
theorem ax_long : Cond.arrayClass .long ∈ TBg := tb2 86 (by decide +kernel) rfl
theorem ax_boolean : Cond.arrayClass .boolean ∈ TBg := tb6 79 (by decide +kernel) rfl
theorem ob_i : Cond.instanceMethod objectInit ∈ TBg := tb1 23 (by decide +kernel) rfl
theorem ob_c : Cond.code objectInit ⟨#[0xb1]⟩ 1 none ∈ TBg := tb1 24 rfl rfl
theorem liL_9 : Cond.methodLink R_law 9 yX10_init ∈ TBg := tb1 19 (by decide +kernel) rfl
theorem lo10_3 : Cond.methodLink RX10 3 objectInit ∈ TBg := tb1 22 (by decide +kernel) rfl
theorem li10_11 : Cond.methodLink RX10 11 yX7_init ∈ TBg := tb1 27 (by decide +kernel) rfl
theorem lo7_3 : Cond.methodLink RX7 3 objectInit ∈ TBg := tb1 30 (by decide +kernel) rfl
theorem lo5_3 : Cond.methodLink RX5 3 objectInit ∈ TBg := tb1 68 (by decide +kernel) rfl
theorem li10_29 : Cond.methodLink RX10 29 yX4_init ∈ TBg := tb1 108 (by decide +kernel) rfl
theorem lo4_3 : Cond.methodLink RX4 3 objectInit ∈ TBg := tb1 111 (by decide +kernel) rfl
theorem li4_17 : Cond.methodLink RX4 17 yX9_init ∈ TBg := tb1 114 (by decide +kernel) rfl
theorem lo9_3 : Cond.methodLink RX9 3 objectInit ∈ TBg := tb1 117 (by decide +kernel) rfl
theorem li10_38 : Cond.methodLink RX10 38 yX6_init ∈ TBg := tb1 161 (by decide +kernel) rfl
theorem lo6_3 : Cond.methodLink RX6 3 objectInit ∈ TBg := tb1 164 (by decide +kernel) rfl
theorem li6_27 : Cond.methodLink RX6 27 yX9_init ∈ TBg := tb1 166 (by decide +kernel) rfl
theorem li10_45 : Cond.methodLink RX10 45 yX0_init ∈ TBg := tb1 191 (by decide +kernel) rfl
theorem lo0_3 : Cond.methodLink RX0 3 objectInit ∈ TBg := tb1 194 (by decide +kernel) rfl
theorem li0_25 : Cond.methodLink RX0 25 yX9_init ∈ TBg := tb1 197 (by decide +kernel) rfl
theorem li10_52 : Cond.methodLink RX10 52 yX3_init ∈ TBg := tb1 222 (by decide +kernel) rfl
theorem lo3_3 : Cond.methodLink RX3 3 objectInit ∈ TBg := tb1 225 (by decide +kernel) rfl
theorem li3_27 : Cond.methodLink RX3 27 yX9_init ∈ TBg := tb1 227 (by decide +kernel) rfl
theorem li10_59 : Cond.methodLink RX10 59 yX2_init ∈ TBg := tb2 15 (by decide +kernel) rfl
theorem lo2_3 : Cond.methodLink RX2 3 objectInit ∈ TBg := tb2 18 (by decide +kernel) rfl
theorem lo1_3 : Cond.methodLink RX1 3 objectInit ∈ TBg := tb2 46 (by decide +kernel) rfl
theorem lo8_1 : Cond.methodLink RX8 1 objectInit ∈ TBg := tb2 69 (by decide +kernel) rfl
theorem liL_12 : Cond.methodLink R_law 12 yX11_init ∈ TBg := tb5 179 (by decide +kernel) rfl
theorem lo11_3 : Cond.methodLink RX11 3 objectInit ∈ TBg := tb5 182 (by decide +kernel) rfl
theorem lkL_7 : Cond.classLink R_law 7 RX10 ∈ TBg := tb1 17 (by decide +kernel) rfl
theorem iz10 : Cond.instantiable RX10 11 ∈ TBg := tb1 18 (by decide +kernel) rfl
theorem lk10_9 : Cond.classLink RX10 9 RX7 ∈ TBg := tb1 25 (by decide +kernel) rfl
theorem iz7 : Cond.instantiable RX7 9 ∈ TBg := tb1 26 (by decide +kernel) rfl
theorem lk10_16 : Cond.classLink RX10 16 RX5 ∈ TBg := tb1 63 (by decide +kernel) rfl
theorem iz5 : Cond.instantiable RX5 12 ∈ TBg := tb1 64 (by decide +kernel) rfl
theorem lk10_27 : Cond.classLink RX10 27 RX4 ∈ TBg := tb1 106 (by decide +kernel) rfl
theorem iz4 : Cond.instantiable RX4 3 ∈ TBg := tb1 107 (by decide +kernel) rfl
theorem lk4_15 : Cond.classLink RX4 15 RX9 ∈ TBg := tb1 112 (by decide +kernel) rfl
theorem iz9 : Cond.instantiable RX9 10 ∈ TBg := tb1 113 (by decide +kernel) rfl
theorem lk10_36 : Cond.classLink RX10 36 RX6 ∈ TBg := tb1 159 (by decide +kernel) rfl
theorem iz6 : Cond.instantiable RX6 7 ∈ TBg := tb1 160 (by decide +kernel) rfl
theorem lk6_25 : Cond.classLink RX6 25 RX9 ∈ TBg := tb1 165 (by decide +kernel) rfl
theorem lk10_43 : Cond.classLink RX10 43 RX0 ∈ TBg := tb1 189 (by decide +kernel) rfl
theorem iz0 : Cond.instantiable RX0 7 ∈ TBg := tb1 190 (by decide +kernel) rfl
theorem lk0_9 : Cond.classLink RX0 9 RX9 ∈ TBg := tb1 195 (by decide +kernel) rfl
theorem lk10_50 : Cond.classLink RX10 50 RX3 ∈ TBg := tb1 220 (by decide +kernel) rfl
theorem iz3 : Cond.instantiable RX3 8 ∈ TBg := tb1 221 (by decide +kernel) rfl
theorem lk3_25 : Cond.classLink RX3 25 RX9 ∈ TBg := tb1 226 (by decide +kernel) rfl
theorem lk10_57 : Cond.classLink RX10 57 RX2 ∈ TBg := tb2 13 (by decide +kernel) rfl
theorem iz2 : Cond.instantiable RX2 7 ∈ TBg := tb2 14 (by decide +kernel) rfl
theorem lk10_66 : Cond.classLink RX10 66 RX1 ∈ TBg := tb2 41 (by decide +kernel) rfl
theorem iz1 : Cond.instantiable RX1 5 ∈ TBg := tb2 42 (by decide +kernel) rfl
theorem lk10_73 : Cond.classLink RX10 73 RX8 ∈ TBg := tb2 63 (by decide +kernel) rfl
theorem iz8 : Cond.instantiable RX8 5 ∈ TBg := tb2 65 (by decide +kernel) rfl
theorem lkL_10 : Cond.classLink R_law 10 RX11 ∈ TBg := tb5 177 (by decide +kernel) rfl
theorem iz11 : Cond.instantiable RX11 45 ∈ TBg := tb5 178 (by decide +kernel) rfl
theorem in0 : Cond.initialized RX0 ∈ TBg := tb1 8 (by decide +kernel) rfl
theorem in1 : Cond.initialized RX1 ∈ TBg := tb1 11 (by decide +kernel) rfl
theorem in2 : Cond.initialized RX2 ∈ TBg := tb1 10 (by decide +kernel) rfl
theorem in3 : Cond.initialized RX3 ∈ TBg := tb1 9 (by decide +kernel) rfl
theorem in4 : Cond.initialized RX4 ∈ TBg := tb1 5 (by decide +kernel) rfl
theorem in5 : Cond.initialized RX5 ∈ TBg := tb1 4 (by decide +kernel) rfl
theorem in6 : Cond.initialized RX6 ∈ TBg := tb1 7 (by decide +kernel) rfl
theorem in7 : Cond.initialized RX7 ∈ TBg := tb1 2 (by decide +kernel) rfl
theorem in8 : Cond.initialized RX8 ∈ TBg := tb1 12 (by decide +kernel) rfl
theorem in9 : Cond.initialized RX9 ∈ TBg := tb1 6 (by decide +kernel) rfl
theorem in10 : Cond.initialized RX10 ∈ TBg := tb1 1 (by decide +kernel) rfl
theorem in11 : Cond.initialized RX11 ∈ TBg := tb1 13 (by decide +kernel) rfl
abbrev mX0_init : Mi := (yX0_init, cX0_init, 4, none)
theorem okX0_init : MOkI mX0_init 2 := ⟨⟨tb1 193 rfl rfl, tb1 8 (by decide +kernel) rfl, by decide, by decide +kernel⟩, rfl, rfl, tb1 192 (by decide +kernel) rfl⟩
abbrev mX1_init : Mi := (yX1_init, cX1_init, 1, none)
theorem okX1_init : MOkI mX1_init 0 := ⟨⟨tb2 45 rfl rfl, tb1 11 (by decide +kernel) rfl, by decide, by decide +kernel⟩, rfl, rfl, tb2 44 (by decide +kernel) rfl⟩
abbrev mX2_init : Mi := (yX2_init, cX2_init, 2, none)
theorem okX2_init : MOkI mX2_init 1 := ⟨⟨tb2 17 rfl rfl, tb1 10 (by decide +kernel) rfl, by decide, by decide +kernel⟩, rfl, rfl, tb2 16 (by decide +kernel) rfl⟩
abbrev mX3_init : Mi := (yX3_init, cX3_init, 3, none)
theorem okX3_init : MOkI mX3_init 2 := ⟨⟨tb1 224 rfl rfl, tb1 9 (by decide +kernel) rfl, by decide, by decide +kernel⟩, rfl, rfl, tb1 223 (by decide +kernel) rfl⟩
abbrev mX4_init : Mi := (yX4_init, cX4_init, 3, none)
theorem okX4_init : MOkI mX4_init 2 := ⟨⟨tb1 110 rfl rfl, tb1 5 (by decide +kernel) rfl, by decide, by decide +kernel⟩, rfl, rfl, tb1 109 (by decide +kernel) rfl⟩
abbrev mX5_init : Mi := (yX5_init, cX5_init, 1, none)
theorem okX5_init : MOkI mX5_init 0 := ⟨⟨tb1 67 rfl rfl, tb1 4 (by decide +kernel) rfl, by decide, by decide +kernel⟩, rfl, rfl, tb1 66 (by decide +kernel) rfl⟩
abbrev mX6_init : Mi := (yX6_init, cX6_init, 3, none)
theorem okX6_init : MOkI mX6_init 2 := ⟨⟨tb1 163 rfl rfl, tb1 7 (by decide +kernel) rfl, by decide, by decide +kernel⟩, rfl, rfl, tb1 162 (by decide +kernel) rfl⟩
abbrev mX7_init : Mi := (yX7_init, cX7_init, 2, none)
theorem okX7_init : MOkI mX7_init 0 := ⟨⟨tb1 29 rfl rfl, tb1 2 (by decide +kernel) rfl, by decide, by decide +kernel⟩, rfl, rfl, tb1 28 (by decide +kernel) rfl⟩
abbrev mX8_init : Mi := (yX8_init, cX8_init, 1, none)
theorem okX8_init : MOkI mX8_init 0 := ⟨⟨tb2 68 rfl rfl, tb1 12 (by decide +kernel) rfl, by decide, by decide +kernel⟩, rfl, rfl, tb2 67 (by decide +kernel) rfl⟩
abbrev mX9_init : Mi := (yX9_init, cX9_init, 3, none)
theorem okX9_init : MOkI mX9_init 2 := ⟨⟨tb1 116 rfl rfl, tb1 6 (by decide +kernel) rfl, by decide, by decide +kernel⟩, rfl, rfl, tb1 115 (by decide +kernel) rfl⟩
abbrev mX10_init : Mi := (yX10_init, cX10_init, 2, none)
theorem okX10_init : MOkI mX10_init 0 := ⟨⟨tb1 21 rfl rfl, tb1 1 (by decide +kernel) rfl, by decide, by decide +kernel⟩, rfl, rfl, tb1 20 (by decide +kernel) rfl⟩
abbrev mX11_init : Mi := (yX11_init, cX11_init, 2, none)
theorem okX11_init : MOkI mX11_init 0 := ⟨⟨tb5 181 rfl rfl, tb1 13 (by decide +kernel) rfl, by decide, by decide +kernel⟩, rfl, rfl, tb5 180 (by decide +kernel) rfl⟩

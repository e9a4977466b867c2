def R_law : String := "ToadWallLaw"
def lw_P (b : Addr) (xs : List Int32) (args : Array Value) (s : State) : Prop := args = #[.ref b] ∧ s.IntsAt b xs ∧ xs.length ≤ 3072 ∧ (Jvm.Cond.and given_1 narrow_1).before args s = true
def lw_Q (_ : Array Value) (s : State) (o : Outcome) (t : State) : Prop := o = .returned (some (.int 1)) ∧ Framed s o t [] 600000 7302249
def lw_Z (below : List Frame) (a : Array Value) (s : State) : State → Prop := fun t => ∃ o, t.status = .running ∧ Ended t below o ∧ lw_Q a s o t
/-- the law's own end, with 1 on the stack, nothing written that was there before, its room as the claim has it -/
theorem lw_ret {p : Program} {l : Launch} {e : Env} {s : State} {m : MethodId} {below : List Frame} {meth : Method} {c : Code} {b : Nat} (hx : p.tables.exec = Jvm.exec) (hb : c.code = code) (hr : meth.sig.returnType = ret) (hlocks : meth.locks = false) {pc : Nat} {H : Heap} {ls : Array Slot} (hdg : decode code pc = .ok (.ireturn, 1)) : W p l e room_1 s m #[Value.ref b] below meth c H [] 600000 7302249 (lw_Z below #[Value.ref b] s) (F0 m pc ls [.int 1]) := by
  intro T hT X
  obtain ⟨fs, hret, hrun, hended, hW, hframe⟩ := X.leave (v := some (.int 1)) (hlocks := hlocks) (fun h => by rw [hr] at h; cases h)
  have hmeth' : T.vm.method? m = some meth := X.method'
  refine ⟨T.setFrames fs, ?_, .returned (some (.int 1)), hrun, hended, rfl, ⟨_, rfl⟩, hW, hframe⟩
  jvm_step X.here [X.here.top, hx, hb, hdg, hmeth', hr, ret, narrow_b1]
  (try refine ⟨rfl, ?_⟩); (try refine ⟨rfl, ?_⟩)
  first | (intro acts; rw [hret _ acts rfl rfl rfl]) | rw [hret _ _ rfl rfl rfl]
  exact Steps.refl _
/-- what holds at the law's entry: the machine, the code, the tables' words (any of lw_tbl by 'hts w (by decide +kernel)'), the script of L ints xs at the cell b, what the Statement gives of the start (any of its parts by flat_of_before) -/
def lw_At (p : Program) (s : State) (m : MethodId) (meth : Method) (c : Code) (b L : Nat) (xs : Nat → Int32) : Prop :=
  p.tables.exec = Jvm.exec ∧ c.code = code ∧ meth.sig.returnType = ret ∧ c.maxLocals = 4 ∧ s.vm.findClass R_law = some m.cls ∧ (∀ w ∈ lw_tbl, w.before #[Value.ref b] s = true) ∧ va_X b L xs s s.heap ∧ b < s.heap.size ∧ meth.locks = false ∧ (Jvm.Cond.and given_1 narrow_1).before #[Value.ref b] s = true
/-! THE LAW'S BODY: both worlds side by side -/
abbrev VMo (V : Vt) (ad : Nat → Nat) : Vt := (V.1, V.2.1, ad, V.2.2.2)
abbrev Yt : Type := Program × Launch × Env × State × MethodId × List Frame × Method × Code × Nat × Nat × (Nat → Int32) × Nat × Nat
def AL (s : State) : Nat → Prop := fun q => s.heap.size ≤ q
def WL (V : Vt) (ad : Nat → Nat) (Y : Yt) (κ μ : Sg) (pc : Nat) (lo : List (Nat × Value)) (st : List Value) : Prop := match Y with
  | (p, l, e, s, m, below, meth, c, b, _, _, ce, so) => ∀ (H : Heap) (locs : List Loc) (ls : Array Slot), va_P V.1 vwCl (wl V layC κ ++ wl (VMo V ad) layM μ) H → va_D (AL s) (wl V layC κ ++ wl (VMo V ad) layM μ) → va_S (AL s) s.heap H locs → lv_has ls 4 lo → W p l e room_1 s m #[Value.ref b] below meth c H locs ce so (lw_Z below #[Value.ref b] s) (F0 m pc ls st)
def OkL (V : Vt) (Y : Yt) : Prop := match Y with
  | (p, _, _, s, m, _, meth, c, b, L, xs, ce, so) => lw_At p s m meth c b L xs ∧ va_K V.1 vwCl (tysV V) s ∧ Zst V (AL s) s s.heap ∧ Nst s ∧ ce ≤ 600000 ∧ so ≤ 7302249 ∧ L ≤ 3072
def rb (Y : Yt) : Value := .ref Y.2.2.2.2.2.2.2.2.1
def yL (Y : Yt) : Nat := Y.2.2.2.2.2.2.2.2.2.1
def yX (Y : Yt) : Nat → Int32 := Y.2.2.2.2.2.2.2.2.2.2.1
theorem app_l {w1 w2 : va_W} {k : Nat} {q : Nat × va_E} (h : w1[k]? = some q) : (w1 ++ w2)[k]? = some q := by
  rw [List.getElem?_append_left (List.getElem?_eq_some_iff.mp h).1]; exact h
theorem app_r {w1 w2 : va_W} {k : Nat} {q : Nat × va_E} (h : w2[k]? = some q) : (w1 ++ w2)[w1.length + k]? = some q := by
  rw [List.getElem?_append_right (Nat.le_add_right _ _), Nat.add_sub_cancel_left]; exact h
theorem va_P.l {D : va_G} {cl : List vw_C} {w1 w2 : va_W} {H : Heap} (h : va_P D cl (w1 ++ w2) H) : va_P D cl w1 H := fun k q hk => h k q (app_l hk)
theorem va_P.r {D : va_G} {cl : List vw_C} {w1 w2 : va_W} {H : Heap} (h : va_P D cl (w1 ++ w2) H) : va_P D cl w2 H := fun k q hk => h _ q (app_r hk)
theorem va_D.l {A : Nat → Prop} {w1 w2 : va_W} (h : va_D A (w1 ++ w2)) : va_D A w1 := ⟨fun i j p q h1 h2 e => h.1 i j p q (app_l h1) (app_l h2) e, fun k q hk => h.2 k q (app_l hk)⟩
theorem va_D.r {A : Nat → Prop} {w1 w2 : va_W} (h : va_D A (w1 ++ w2)) : va_D A w2 := ⟨fun i j p q h1 h2 e => by have := h.1 _ _ p q (app_r h1) (app_r h2) e; omega, fun k q hk => h.2 _ q (app_r hk)⟩
theorem va_D.x {A : Nat → Prop} {w1 w2 : va_W} (h : va_D A (w1 ++ w2)) {i j : Nat} {p q : Nat × va_E} (h1 : w1[i]? = some p) (h2 : w2[j]? = some q) : p.1 ≠ q.1 := fun e => by
  have h3 := h.1 _ _ p q (app_l h1) (app_r h2) e
  have := (List.getElem?_eq_some_iff.mp h1).1
  omega
/-- behind a call that had the one part: the other is as it was -/
theorem side_l {A : Nat → Prop} {D : va_G} {cl : List vw_C} {w1 w2 w3 : va_W} {H H1 : Heap} (hP : va_P D cl (w1 ++ w2) H) (hD : va_D A (w1 ++ w2)) (hk : ∀ q : Nat, q < H.size → ¬ va_A w1 H.size q → H1[q]? = H[q]?) (hF : ∀ q, va_A w1 H.size q → A q) (hP1 : va_P D cl w3 H1) (hD1 : va_D (va_A w1 H.size) w3) : va_P D cl (w3 ++ w2) H1 ∧ va_D A (w3 ++ w2) := by
  have ap : ∀ (k : Nat) (q : Nat × va_E), w2[k]? = some q → q.1 < H.size ∧ ¬ va_A w1 H.size q.1 := fun k q hq => by
    have hl := (hP.r k q hq).lt
    refine ⟨hl, fun h => ?_⟩
    rcases h with ⟨k2, e, h⟩ | h
    · exact hD.x h hq rfl
    · omega
  refine ⟨hP1.app (fun k q hq => (hP.r k q hq).kept (hk q.1 (ap k q hq).1 (ap k q hq).2)), (hD1.weaken (fun k q _ h => hF q.1 h)).app hD.r (fun i j x y hx hy hxy => ?_)⟩
  exact (ap j y hy).2 (by rw [← hxy]; exact hD1.2 i x hx)
theorem side_r {A : Nat → Prop} {D : va_G} {cl : List vw_C} {w1 w2 w3 : va_W} {H H1 : Heap} (hP : va_P D cl (w1 ++ w2) H) (hD : va_D A (w1 ++ w2)) (hk : ∀ q : Nat, q < H.size → ¬ va_A w2 H.size q → H1[q]? = H[q]?) (hF : ∀ q, va_A w2 H.size q → A q) (hP1 : va_P D cl w3 H1) (hD1 : va_D (va_A w2 H.size) w3) : va_P D cl (w1 ++ w3) H1 ∧ va_D A (w1 ++ w3) := by
  have ap : ∀ (k : Nat) (q : Nat × va_E), w1[k]? = some q → q.1 < H.size ∧ ¬ va_A w2 H.size q.1 := fun k q hq => by
    have hl := (hP.l k q hq).lt
    refine ⟨hl, fun h => ?_⟩
    rcases h with ⟨k2, e, h⟩ | h
    · exact hD.x hq h rfl
    · omega
  refine ⟨va_P.app (fun k q hq => (hP.l k q hq).kept (hk q.1 (ap k q hq).1 (ap k q hq).2)) hP1, hD.l.app (hD1.weaken (fun k q _ h => hF q.1 h)) (fun i j x y hx hy hxy => ?_)⟩
  exact (ap i x hx).2 (by rw [hxy]; exact hD1.2 j y hy)
section LAW
variable {V : Vt} {ad : Nat → Nat} {Y : Yt} {κ μ : Sg} {pc : Nat} {lo : List (Nat × Value)} {st : List Value}
theorem WL.as {st' : List Value} (h : st = st') (k : WL V ad Y κ μ pc lo st') : WL V ad Y κ μ pc lo st := by subst h; exact k
theorem WL.los {lo' : List (Nat × Value)} (ks : List Nat) (hl : lv_pick lo ks = lo') (k : WL V ad Y κ μ pc lo' st) : WL V ad Y κ μ pc lo st := by
  obtain ⟨p, l, e, s, m, below, meth, c, b, L, xs, ce, so⟩ := Y
  intro H locs ls hP hD hS h
  exact k H locs ls hP hD hS (lv_sub h ks hl)
theorem WL.iconst {n : Int} {v : Int32} (hy : OkL V Y) (hd : decode code pc = .ok (.iconst n, 1)) (hv : Int32.ofInt n = v) (k : WL V ad Y κ μ (pc + 1) lo (.int v :: st)) : WL V ad Y κ μ pc lo (st) := by
  obtain ⟨p, l, e, s, m, below, meth, c, b, L, xs, ce, so⟩ := Y
  intro H locs ls hP hD hS hl
  exact lv_iconst hy.1.1 hy.1.2.1 hd hv (k H locs ls hP hD hS hl)
theorem WL.bipush {n : Int} {v : Int32} (hy : OkL V Y) (hd : decode code pc = .ok (.bipush n, 2)) (hv : (Int8.ofInt n).toInt32 = v) (k : WL V ad Y κ μ (pc + 2) lo (.int v :: st)) : WL V ad Y κ μ pc lo (st) := by
  obtain ⟨p, l, e, s, m, below, meth, c, b, L, xs, ce, so⟩ := Y
  intro H locs ls hP hD hS hl
  exact lv_bipush hy.1.1 hy.1.2.1 hd hv (k H locs ls hP hD hS hl)
theorem WL.iadd {x y : Int32} (hy : OkL V Y) (hd : decode code pc = .ok (.iadd, 1)) (k : WL V ad Y κ μ (pc + 1) lo (.int (x + y) :: st)) : WL V ad Y κ μ pc lo (.int y :: .int x :: st) := by
  obtain ⟨p, l, e, s, m, below, meth, c, b, L, xs, ce, so⟩ := Y
  intro H locs ls hP hD hS hl
  exact lv_iadd hy.1.1 hy.1.2.1 hd (k H locs ls hP hD hS hl)
theorem WL.isub {x y : Int32} (hy : OkL V Y) (hd : decode code pc = .ok (.isub, 1)) (k : WL V ad Y κ μ (pc + 1) lo (.int (x - y) :: st)) : WL V ad Y κ μ pc lo (.int y :: .int x :: st) := by
  obtain ⟨p, l, e, s, m, below, meth, c, b, L, xs, ce, so⟩ := Y
  intro H locs ls hP hD hS hl
  exact lv_isub hy.1.1 hy.1.2.1 hd (k H locs ls hP hD hS hl)
theorem WL.iand {x y : Int32} (hy : OkL V Y) (hd : decode code pc = .ok (.iand, 1)) (k : WL V ad Y κ μ (pc + 1) lo (.int (x &&& y) :: st)) : WL V ad Y κ μ pc lo (.int y :: .int x :: st) := by
  obtain ⟨p, l, e, s, m, below, meth, c, b, L, xs, ce, so⟩ := Y
  intro H locs ls hP hD hS hl
  exact lv_iand hy.1.1 hy.1.2.1 hd (k H locs ls hP hD hS hl)
theorem WL.land {x y : Int64} (hy : OkL V Y) (hd : decode code pc = .ok (.land, 1)) (k : WL V ad Y κ μ (pc + 1) lo (.long (x &&& y) :: st)) : WL V ad Y κ μ pc lo (.long y :: .long x :: st) := by
  obtain ⟨p, l, e, s, m, below, meth, c, b, L, xs, ce, so⟩ := Y
  intro H locs ls hP hD hS hl
  exact lv_land hy.1.1 hy.1.2.1 hd (k H locs ls hP hD hS hl)
theorem WL.lor {x y : Int64} (hy : OkL V Y) (hd : decode code pc = .ok (.lor, 1)) (k : WL V ad Y κ μ (pc + 1) lo (.long (x ||| y) :: st)) : WL V ad Y κ μ pc lo (.long y :: .long x :: st) := by
  obtain ⟨p, l, e, s, m, below, meth, c, b, L, xs, ce, so⟩ := Y
  intro H locs ls hP hD hS hl
  exact lv_lor hy.1.1 hy.1.2.1 hd (k H locs ls hP hD hS hl)
theorem WL.lshl {x : Int64} {y : Int32} (hy : OkL V Y) (hd : decode code pc = .ok (.lshl, 1)) (k : WL V ad Y κ μ (pc + 1) lo (.long (x <<< (y.toInt64 &&& 63)) :: st)) : WL V ad Y κ μ pc lo (.int y :: .long x :: st) := by
  obtain ⟨p, l, e, s, m, below, meth, c, b, L, xs, ce, so⟩ := Y
  intro H locs ls hP hD hS hl
  exact lv_lshl hy.1.1 hy.1.2.1 hd rfl (k H locs ls hP hD hS hl)
theorem WL.i2l {x : Int32} (hy : OkL V Y) (hd : decode code pc = .ok (.i2l, 1)) (k : WL V ad Y κ μ (pc + 1) lo (.long x.toInt64 :: st)) : WL V ad Y κ μ pc lo (.int x :: st) := by
  obtain ⟨p, l, e, s, m, below, meth, c, b, L, xs, ce, so⟩ := Y
  intro H locs ls hP hD hS hl
  exact lv_i2l hy.1.1 hy.1.2.1 hd rfl (k H locs ls hP hD hS hl)
theorem WL.lcmp {x y : Int64} (hy : OkL V Y) (hd : decode code pc = .ok (.lcmp, 1)) (k : WL V ad Y κ μ (pc + 1) lo (.int (lg_cmp x y) :: st)) : WL V ad Y κ μ pc lo (.long y :: .long x :: st) := by
  obtain ⟨p, l, e, s, m, below, meth, c, b, L, xs, ce, so⟩ := Y
  intro H locs ls hP hD hS hl
  exact W.lcmp hy.1.1 hy.1.2.1 hd (k H locs ls hP hD hS hl)
theorem WL.iload_n {k : Fin 4} {i : Nat} {x : Int32} (hy : OkL V Y) (hd : decode code pc = .ok (.iload_n k, 1)) (hi : (k : Nat) = i) (j : Nat) (hj : lo[j]? = some (i, .int x)) (k : WL V ad Y κ μ (pc + 1) lo (.int x :: st)) : WL V ad Y κ μ pc lo (st) := by
  obtain ⟨p, l, e, s, m, below, meth, c, b, L, xs, ce, so⟩ := Y
  intro H locs ls hP hD hS hl
  exact lv_iload_n hy.1.1 hy.1.2.1 hd hi (lv_at hl j hj) (k H locs ls hP hD hS hl)
theorem WL.aload_n {k : Fin 4} {i : Nat} {x : Nat} (hy : OkL V Y) (hd : decode code pc = .ok (.aload_n k, 1)) (hi : (k : Nat) = i) (j : Nat) (hj : lo[j]? = some (i, .ref x)) (k : WL V ad Y κ μ (pc + 1) lo (.ref x :: st)) : WL V ad Y κ μ pc lo (st) := by
  obtain ⟨p, l, e, s, m, below, meth, c, b, L, xs, ce, so⟩ := Y
  intro H locs ls hP hD hS hl
  exact lv_aload_n hy.1.1 hy.1.2.1 hd hi (lv_at hl j hj) (k H locs ls hP hD hS hl)
theorem WL.iinc {i : Nat} {n : Int} {x v : Int32} {lo' : List (Nat × Value)} (hy : OkL V Y) (hd : decode code pc = .ok (.iinc i n, 3)) (j : Nat) (hj : lo[j]? = some (i, .int x)) (hv : x + Int32.ofInt n = v) (hn : i < 4) (hlo : (i, Value.int v) :: lo.filter (fun q => !(q.1 == i) && !(q.1 + 1 == i && q.2.category == 2)) = lo') (kk : WL V ad Y κ μ (pc + 3) lo' st) : WL V ad Y κ μ pc lo st := by
  obtain ⟨p, l, e, s, m, below, meth, c, b, L, xs, ce, so⟩ := Y
  intro H locs ls hP hD hS hl
  exact lv_iinc hy.1.1 hy.1.2.1 hd hl hj hv hn hlo (fun ls' hl' => kk H locs ls' hP hD hS hl')
theorem WL.goto {off : Int} {tgt : Nat} (hy : OkL V Y) (hd : decode code pc = .ok (.goto off, 3)) (ht : (pc : Int) + off = (tgt : Int)) (k : WL V ad Y κ μ tgt lo st) : WL V ad Y κ μ pc lo st := by
  obtain ⟨p, l, e, s, m, below, meth, c, b, L, xs, ce, so⟩ := Y
  intro H locs ls hP hD hS hl
  exact lv_goto hy.1.1 hy.1.2.1 hd ht (k H locs ls hP hD hS hl)
theorem WL.icmp_eq {x y : Int32} {off : Int} {tgt : Nat} (hy : OkL V Y) (hd : decode code pc = .ok (.if_icmp .eq off, 3)) (ht : (pc : Int) + off = (tgt : Int)) (he : x = y) (kt : WL V ad Y κ μ tgt lo st) : WL V ad Y κ μ pc lo (.int y :: .int x :: st) := by
  obtain ⟨p, l, e, s, m, below, meth, c, b, L, xs, ce, so⟩ := Y
  intro H locs ls hP hD hS hl
  exact lv_icmp_eq hy.1.1 hy.1.2.1 hd ht (fun h => kt H locs ls hP hD hS hl) (fun h => absurd he h)
theorem WL.icmp_gt {x y : Int32} {off : Int} {tgt : Nat} (hy : OkL V Y) (hd : decode code pc = .ok (.if_icmp .gt off, 3)) (ht : (pc : Int) + off = (tgt : Int)) (kt : y < x → WL V ad Y κ μ tgt lo st) (kf : ¬ y < x → WL V ad Y κ μ (pc + 3) lo st) : WL V ad Y κ μ pc lo (.int y :: .int x :: st) := by
  obtain ⟨p, l, e, s, m, below, meth, c, b, L, xs, ce, so⟩ := Y
  intro H locs ls hP hD hS hl
  exact lv_icmp_gt hy.1.1 hy.1.2.1 hd ht (fun h => kt h H locs ls hP hD hS hl) (fun h => kf h H locs ls hP hD hS hl)
theorem WL.if_eq {x : Int32} {off : Int} {tgt : Nat} (hy : OkL V Y) (hd : decode code pc = .ok (.ifCond .eq off, 3)) (ht : (pc : Int) + off = (tgt : Int)) (he : x = 0) (kt : WL V ad Y κ μ tgt lo st) : WL V ad Y κ μ pc lo (.int x :: st) := by
  obtain ⟨p, l, e, s, m, below, meth, c, b, L, xs, ce, so⟩ := Y
  intro H locs ls hP hD hS hl
  exact lv_if_eq hy.1.1 hy.1.2.1 hd ht (fun h => kt H locs ls hP hD hS hl) (fun h => absurd he h)
theorem WL.ldc2 {index : Nat} {v : Int64} (hy : OkL V Y) (hc : Cond.constantLong R_law index v ∈ TBg) (hd : decode code pc = .ok (.ldc2_w index, 3)) (kk : WL V ad Y κ μ (pc + 3) lo (.long v :: st)) : WL V ad Y κ μ pc lo st := by
  obtain ⟨p, l, e, s, m, below, meth, c, b, L, xs, ce, so⟩ := Y
  intro H locs ls hP hD hS hl
  exact lv_ldc2 hy.1.1 hy.1.2.1 hy.1.2.2.2.2.1 (hy.1.2.2.2.2.2.1 _ (List.mem_filter.mp hc).1) hd (kk H locs ls hP hD hS hl)
theorem WL.tableIn {dflt lw hi : Int} {offs : Array Int} {len : Nat} {x : Int32} {off : Int} {tgt : Nat} (hy : OkL V Y) (hd : decode code pc = .ok (.tableswitch dflt lw hi offs, len)) (h1 : ¬ x.toInt < lw) (h2 : ¬ hi < x.toInt) (ho : offs[(x.toInt - lw).toNat]? = some off) (ht : (pc : Int) + off = (tgt : Int)) (k : WL V ad Y κ μ tgt lo st) : WL V ad Y κ μ pc lo (.int x :: st) := by
  obtain ⟨p, l, e, s, m, below, meth, c, b, L, xs, ce, so⟩ := Y
  intro H locs ls hP hD hS hl
  exact lv_tableIn hy.1.1 hy.1.2.1 hd h1 h2 ho ht (k H locs ls hP hD hS hl)
theorem WL.tableOut {dflt lw hi : Int} {offs : Array Int} {len : Nat} {x : Int32} {tgt : Nat} (hy : OkL V Y) (hd : decode code pc = .ok (.tableswitch dflt lw hi offs, len)) (h : x.toInt < lw ∨ hi < x.toInt) (ht : (pc : Int) + dflt = (tgt : Int)) (k : WL V ad Y κ μ tgt lo st) : WL V ad Y κ μ pc lo (.int x :: st) := by
  obtain ⟨p, l, e, s, m, below, meth, c, b, L, xs, ce, so⟩ := Y
  intro H locs ls hP hD hS hl
  exact lv_tableOut hy.1.1 hy.1.2.1 hd h ht (k H locs ls hP hD hS hl)
theorem WL.sld {i : Int32} (hy : OkL V Y) (hin : vp_in i (yL Y)) (hd : decode code pc = .ok (.iaload, 1)) (kk : WL V ad Y κ μ (pc + 1) lo (.int (yX Y i.toNatClampNeg) :: st)) : WL V ad Y κ μ pc lo (.int i :: rb Y :: st) := by
  obtain ⟨p, l, e, s, m, below, meth, c, b, L, xs, ce, so⟩ := Y
  intro H locs ls hP hD hS hl
  exact va_sld hy.1.1 hy.1.2.1 hy.1.2.2.2.2.2.2.1 hy.1.2.2.2.2.2.2.2.1 (Nat.not_le.mpr hy.1.2.2.2.2.2.2.2.1) hS hin hd (kk H locs ls hP hD hS hl)
theorem WL.slen (hy : OkL V Y) (hd : decode code pc = .ok (.arraylength, 1)) (kk : WL V ad Y κ μ (pc + 1) lo (.int (nI (yL Y)) :: st)) : WL V ad Y κ μ pc lo (rb Y :: st) := by
  obtain ⟨p, l, e, s, m, below, meth, c, b, L, xs, ce, so⟩ := Y
  intro H locs ls hP hD hS hl
  exact va_slen hy.1.1 hy.1.2.1 hy.1.2.2.2.2.2.2.1 hy.1.2.2.2.2.2.2.2.1 (Nat.not_le.mpr hy.1.2.2.2.2.2.2.2.1) hS hd (kk H locs ls hP hD hS hl)
theorem WL.end1 (hy : OkL V Y) (hd : decode code pc = .ok (.ireturn, 1)) : WL V ad Y κ μ pc lo [.int 1] := by
  obtain ⟨p, l, e, s, m, below, meth, c, b, L, xs, ce, so⟩ := Y
  intro H locs ls hP hD hS hl
  refine va_forget (fun q hq => hS.2.2 q hq) ?_
  refine W.widen hy.2.2.2.2.1 hy.2.2.2.2.2.1 ?_
  exact lw_ret hy.1.1 hy.1.2.1 hy.1.2.2.1 hy.1.2.2.2.2.2.2.2.2.1 hd
/-- a call of the class -/
theorem WL.callC {M : Mi} {n index : Nat} {fs : List FK} {post : Option Value → Sg → Prop} {st0 : List Value} (As : List Value) (hy : OkL V Y) (hM : CT layC V M 70 (rf V 0 :: As) κ post) (hm : MOkV M n) (hlink : Cond.methodLink R_law index M.1 ∈ TBg) (hci : vwCl[10]? = some (M.1.cls, TX10, 11)) (hL : layC[0]? = some (.inl (10, fs))) (hn : As.length = n) (hs : st0 = As.reverse ++ rf V 0 :: st) (hw : (st.map fun v => v.category).sum ≤ 8) (hd : decode code pc = .ok (.invokevirtual index, 3)) (kk : ∀ (r : Option Value) (κ' : Sg), post r κ' → WL V ad Y κ' μ (pc + 3) lo (r.toList ++ st)) : WL V ad Y κ μ pc lo st0 := by
  obtain ⟨p, l, e, s, m, below, meth, c, b, L, xs, ce, so⟩ := Y
  subst hs
  intro H locs ls hP hD hS hl
  obtain ⟨⟨hx1, hx2, hr, hml, hown, hts, hX, hbl, hlk, hgv⟩, hK, hZ, hN, hce, hso, hLL⟩ := hy
  have hx5 : ∀ w ∈ TBg, w.before #[Value.ref b] s = true := fun w hw => hts w (List.mem_filter.mp hw).1
  have hA : ∀ q, s.heap.size ≤ q → AL s q := fun _ h => h
  have hpre := ws_pre (av := rf V 0 :: As) hK hZ hN hA hP.l hD.l hS
  have hF : ∀ q, va_A (wl V layC κ) H.size q → AL s q := fun q h => by
    rcases h with ⟨k, e, h⟩ | h
    · exact hD.l.2 k (q, e) h
    · exact hA q (Nat.le_trans hS.1 h)
  have hrun := va_runV (R := room_1) (p := p) (e := e) (below := below) (meth := meth) (locs := locs) (cells := ce) (slots := so) (g := F0 m pc ls (As.reverse ++ rf V 0 :: st)) (As := As) (rest := st) (C := M.1.cls) ⟨hx1, hx2, hml, hown, hx5⟩ (hM l H.size) ⟨callB_of n hx5 (tb_good hm.1.1) rfl rfl rfl (hx5 _ hm.1.2.1) (hx5 _ hlink) hm.1.2.2.2 ⟨Nat.le_of_ble_eq_true rfl, by have := hm.1.2.2.1; show 8 + (M.2.2.1 + 11) + 64 * 70 ≤ 84000; omega⟩, hx5 _ hm.2.1, hx5 _ hm.2.2⟩ ⟨hpre.1, va_recv hK hP.l hci (wl_at hL), hpre.2⟩ rfl hn hl.1 rfl (lv_room hw) hd ⟨hce, hso⟩
  intro T hT X
  obtain ⟨v, st₀, t, T', L', h0, X', hL', e1, e2, ⟨⟨r, σ', hv, hp, hP1, hD1⟩, hz, hk⟩, stp⟩ := hrun T hT X
  cases hv
  rw [h0] at hz hk
  have hS1 : va_S (AL s) s.heap T'.heap (locs ++ L') := ⟨Nat.le_trans hS.1 (by rw [e1]; exact hz), fun q h1 h2 => by rw [e1, hk q (Nat.lt_of_lt_of_le h1 hS.1) (fun z => h2 (hF q z))]; exact hS.2.1 q h1 h2, fun q hq => by
      rcases List.mem_append.mp hq with h | h
      · exact hS.2.2 q h
      · exact hF _ (hL' q h)⟩
  obtain ⟨hPj, hDj⟩ := side_l hP hD hk hF hP1 hD1
  obtain ⟨t2, a1, b1⟩ := kk v σ' hp T'.heap (locs ++ L') ls (by rw [e1]; exact hPj) hDj hS1 hl T' rfl X'
  exact ⟨t2, stp t2 a1, b1⟩
/-- a call of the model -/
theorem WL.callM {M : Mi} {n index : Nat} {fs : List FK} {post : Option Value → Sg → Prop} {st0 : List Value} (As : List Value) (hy : OkL V Y) (hM : CT layM (VMo V ad) M 70 (rf (VMo V ad) 0 :: As) μ post) (hm : MOkV M n) (hlink : Cond.methodLink R_law index M.1 ∈ TBg) (hci : vwCl[11]? = some (M.1.cls, TX11, 45)) (hL : layM[0]? = some (.inl (11, fs))) (hn : As.length = n) (hs : st0 = As.reverse ++ rf (VMo V ad) 0 :: st) (hw : (st.map fun v => v.category).sum ≤ 8) (hd : decode code pc = .ok (.invokevirtual index, 3)) (kk : ∀ (r : Option Value) (μ' : Sg), post r μ' → WL V ad Y κ μ' (pc + 3) lo (r.toList ++ st)) : WL V ad Y κ μ pc lo st0 := by
  obtain ⟨p, l, e, s, m, below, meth, c, b, L, xs, ce, so⟩ := Y
  subst hs
  intro H locs ls hP hD hS hl
  obtain ⟨⟨hx1, hx2, hr, hml, hown, hts, hX, hbl, hlk, hgv⟩, hK, hZ, hN, hce, hso, hLL⟩ := hy
  have hx5 : ∀ w ∈ TBg, w.before #[Value.ref b] s = true := fun w hw => hts w (List.mem_filter.mp hw).1
  have hA : ∀ q, s.heap.size ≤ q → AL s q := fun _ h => h
  have hpre := ws_pre (V := VMo V ad) (av := rf (VMo V ad) 0 :: As) hK hZ hN hA hP.r hD.r hS
  have hF : ∀ q, va_A (wl (VMo V ad) layM μ) H.size q → AL s q := fun q h => by
    rcases h with ⟨k, e, h⟩ | h
    · exact hD.r.2 k (q, e) h
    · exact hA q (Nat.le_trans hS.1 h)
  have hrun := va_runV (R := room_1) (p := p) (e := e) (below := below) (meth := meth) (locs := locs) (cells := ce) (slots := so) (g := F0 m pc ls (As.reverse ++ rf (VMo V ad) 0 :: st)) (As := As) (rest := st) (C := M.1.cls) ⟨hx1, hx2, hml, hown, hx5⟩ (hM l H.size) ⟨callB_of n hx5 (tb_good hm.1.1) rfl rfl rfl (hx5 _ hm.1.2.1) (hx5 _ hlink) hm.1.2.2.2 ⟨Nat.le_of_ble_eq_true rfl, by have := hm.1.2.2.1; show 8 + (M.2.2.1 + 11) + 64 * 70 ≤ 84000; omega⟩, hx5 _ hm.2.1, hx5 _ hm.2.2⟩ ⟨hpre.1, va_recv hK hP.r hci (wl_at hL), hpre.2⟩ rfl hn hl.1 rfl (lv_room hw) hd ⟨hce, hso⟩
  intro T hT X
  obtain ⟨v, st₀, t, T', L', h0, X', hL', e1, e2, ⟨⟨r, σ', hv, hp, hP1, hD1⟩, hz, hk⟩, stp⟩ := hrun T hT X
  cases hv
  rw [h0] at hz hk
  have hS1 : va_S (AL s) s.heap T'.heap (locs ++ L') := ⟨Nat.le_trans hS.1 (by rw [e1]; exact hz), fun q h1 h2 => by rw [e1, hk q (Nat.lt_of_lt_of_le h1 hS.1) (fun z => h2 (hF q z))]; exact hS.2.1 q h1 h2, fun q hq => by
      rcases List.mem_append.mp hq with h | h
      · exact hS.2.2 q h
      · exact hF _ (hL' q h)⟩
  obtain ⟨hPj, hDj⟩ := side_r hP hD hk hF hP1 hD1
  obtain ⟨t2, a1, b1⟩ := kk v σ' hp T'.heap (locs ++ L') ls (by rw [e1]; exact hPj) hDj hS1 hl T' rfl X'
  exact ⟨t2, stp t2 a1, b1⟩
end LAW
theorem lmL_13 : Cond.methodLink R_law 13 yX10_block ∈ TBg := tb2 121 (by decide +kernel) rfl
theorem lmL_18 : Cond.methodLink R_law 18 yX10_blocks ∈ TBg := tb2 137 (by decide +kernel) rfl
theorem lmL_23 : Cond.methodLink R_law 23 yX10_mend ∈ TBg := tb2 171 (by decide +kernel) rfl
theorem lmL_27 : Cond.methodLink R_law 27 yX10_of ∈ TBg := tb2 204 (by decide +kernel) rfl
theorem lmL_32 : Cond.methodLink R_law 32 yX10_feed ∈ TBg := tb2 208 (by decide +kernel) rfl
theorem lmL_36 : Cond.methodLink R_law 36 yX10_law ∈ TBg := tb2 212 (by decide +kernel) rfl
theorem lmL_41 : Cond.methodLink R_law 41 yX10_goes ∈ TBg := tb3 48 (by decide +kernel) rfl
theorem lmL_45 : Cond.methodLink R_law 45 yX10_later ∈ TBg := tb3 105 (by decide +kernel) rfl
theorem lmL_49 : Cond.methodLink R_law 49 yX10_wall ∈ TBg := tb3 131 (by decide +kernel) rfl
theorem lmL_53 : Cond.methodLink R_law 53 yX10_when ∈ TBg := tb3 155 (by decide +kernel) rfl
theorem lmL_57 : Cond.methodLink R_law 57 yX10_meet ∈ TBg := tb3 166 (by decide +kernel) rfl
theorem lmL_61 : Cond.methodLink R_law 61 yX10_steps ∈ TBg := tb3 174 (by decide +kernel) rfl
theorem lmL_65 : Cond.methodLink R_law 65 yX10_net ∈ TBg := tb3 183 (by decide +kernel) rfl
theorem lmL_69 : Cond.methodLink R_law 69 yX10_fewest ∈ TBg := tb3 200 (by decide +kernel) rfl
theorem lmL_73 : Cond.methodLink R_law 73 yX10_openings ∈ TBg := tb3 224 (by decide +kernel) rfl
theorem lmL_77 : Cond.methodLink R_law 77 yX10_chance ∈ TBg := tb4 22 (by decide +kernel) rfl
theorem lmL_82 : Cond.methodLink R_law 82 yX10_judge ∈ TBg := tb4 44 (by decide +kernel) rfl
theorem lmL_86 : Cond.methodLink R_law 86 yX10_fits ∈ TBg := tb4 67 (by decide +kernel) rfl
theorem lmL_90 : Cond.methodLink R_law 90 yX10_changed ∈ TBg := tb4 87 (by decide +kernel) rfl
theorem lmL_94 : Cond.methodLink R_law 94 yX10_byTurns ∈ TBg := tb4 104 (by decide +kernel) rfl
theorem lmL_98 : Cond.methodLink R_law 98 yX10_drawn ∈ TBg := tb4 128 (by decide +kernel) rfl
theorem lmL_102 : Cond.methodLink R_law 102 yX10_century ∈ TBg := tb4 168 (by decide +kernel) rfl
theorem lmL_106 : Cond.methodLink R_law 106 yX10_open ∈ TBg := tb4 183 (by decide +kernel) rfl
theorem lmL_110 : Cond.methodLink R_law 110 yX10_hours ∈ TBg := tb4 193 (by decide +kernel) rfl
theorem lmL_114 : Cond.methodLink R_law 114 yX10_led ∈ TBg := tb4 204 (by decide +kernel) rfl
theorem lmL_118 : Cond.methodLink R_law 118 yX10_image ∈ TBg := tb4 213 (by decide +kernel) rfl
theorem lmL_122 : Cond.methodLink R_law 122 yX10_back ∈ TBg := tb4 223 (by decide +kernel) rfl
theorem lmL_126 : Cond.methodLink R_law 126 yX10_undo ∈ TBg := tb4 235 (by decide +kernel) rfl
theorem lmL_130 : Cond.methodLink R_law 130 yX10_redo ∈ TBg := tb5 8 (by decide +kernel) rfl
theorem lmL_134 : Cond.methodLink R_law 134 yX10_body ∈ TBg := tb5 20 (by decide +kernel) rfl
theorem lmL_138 : Cond.methodLink R_law 138 yX10_act ∈ TBg := tb5 37 (by decide +kernel) rfl
theorem lmL_142 : Cond.methodLink R_law 142 yX10_trace ∈ TBg := tb5 74 (by decide +kernel) rfl
theorem lmL_146 : Cond.methodLink R_law 146 yX10_keep ∈ TBg := tb5 83 (by decide +kernel) rfl
theorem lmL_150 : Cond.methodLink R_law 150 yX10_row ∈ TBg := tb5 96 (by decide +kernel) rfl
theorem lmL_156 : Cond.methodLink R_law 156 yX10_put ∈ TBg := tb5 112 (by decide +kernel) rfl
theorem lmL_161 : Cond.methodLink R_law 161 yX10_element ∈ TBg := tb5 133 (by decide +kernel) rfl
theorem lmL_165 : Cond.methodLink R_law 165 yX10_shift ∈ TBg := tb5 137 (by decide +kernel) rfl
theorem lmL_170 : Cond.methodLink R_law 170 yX10_taken ∈ TBg := tb5 151 (by decide +kernel) rfl
theorem lmL_174 : Cond.methodLink R_law 174 yX10_count ∈ TBg := tb5 163 (by decide +kernel) rfl
theorem lmL_129 : Cond.methodLink R_law 129 yX11_undo ∈ TBg := tb6 80 (by decide +kernel) rfl
theorem lmL_133 : Cond.methodLink R_law 133 yX11_redo ∈ TBg := tb6 84 (by decide +kernel) rfl
theorem lmL_17 : Cond.methodLink R_law 17 yX11_block ∈ TBg := tb6 88 (by decide +kernel) rfl
theorem lmL_22 : Cond.methodLink R_law 22 yX11_blocks ∈ TBg := tb6 107 (by decide +kernel) rfl
theorem lmL_26 : Cond.methodLink R_law 26 yX11_mend ∈ TBg := tb6 116 (by decide +kernel) rfl
theorem lmL_31 : Cond.methodLink R_law 31 yX11_of ∈ TBg := tb6 138 (by decide +kernel) rfl
theorem lmL_35 : Cond.methodLink R_law 35 yX11_feed ∈ TBg := tb6 142 (by decide +kernel) rfl
theorem lmL_40 : Cond.methodLink R_law 40 yX11_law ∈ TBg := tb6 147 (by decide +kernel) rfl
theorem lmL_44 : Cond.methodLink R_law 44 yX11_goes ∈ TBg := tb6 194 (by decide +kernel) rfl
theorem lmL_48 : Cond.methodLink R_law 48 yX11_later ∈ TBg := tb6 221 (by decide +kernel) rfl
theorem lmL_52 : Cond.methodLink R_law 52 yX11_wall ∈ TBg := tb6 238 (by decide +kernel) rfl
theorem lmL_56 : Cond.methodLink R_law 56 yX11_when ∈ TBg := tb7 13 (by decide +kernel) rfl
theorem lmL_60 : Cond.methodLink R_law 60 yX11_meet ∈ TBg := tb7 17 (by decide +kernel) rfl
theorem lmL_64 : Cond.methodLink R_law 64 yX11_steps ∈ TBg := tb7 21 (by decide +kernel) rfl
theorem lmL_68 : Cond.methodLink R_law 68 yX11_net ∈ TBg := tb7 29 (by decide +kernel) rfl
theorem lmL_72 : Cond.methodLink R_law 72 yX11_fewest ∈ TBg := tb7 38 (by decide +kernel) rfl
theorem lmL_76 : Cond.methodLink R_law 76 yX11_openings ∈ TBg := tb7 46 (by decide +kernel) rfl
theorem lmL_81 : Cond.methodLink R_law 81 yX11_chance ∈ TBg := tb7 62 (by decide +kernel) rfl
theorem lmL_85 : Cond.methodLink R_law 85 yX11_judge ∈ TBg := tb7 71 (by decide +kernel) rfl
theorem lmL_89 : Cond.methodLink R_law 89 yX11_fits ∈ TBg := tb7 83 (by decide +kernel) rfl
theorem lmL_93 : Cond.methodLink R_law 93 yX11_changed ∈ TBg := tb7 87 (by decide +kernel) rfl
theorem lmL_97 : Cond.methodLink R_law 97 yX11_byTurns ∈ TBg := tb7 96 (by decide +kernel) rfl
theorem lmL_101 : Cond.methodLink R_law 101 yX11_drawn ∈ TBg := tb7 107 (by decide +kernel) rfl
theorem lmL_105 : Cond.methodLink R_law 105 yX11_century ∈ TBg := tb7 114 (by decide +kernel) rfl
theorem lmL_109 : Cond.methodLink R_law 109 yX11_open ∈ TBg := tb7 118 (by decide +kernel) rfl
theorem lmL_113 : Cond.methodLink R_law 113 yX11_hours ∈ TBg := tb7 122 (by decide +kernel) rfl
theorem lmL_117 : Cond.methodLink R_law 117 yX11_led ∈ TBg := tb7 126 (by decide +kernel) rfl
theorem lmL_121 : Cond.methodLink R_law 121 yX11_image ∈ TBg := tb7 130 (by decide +kernel) rfl
theorem lmL_125 : Cond.methodLink R_law 125 yX11_back ∈ TBg := tb7 134 (by decide +kernel) rfl
theorem lmL_137 : Cond.methodLink R_law 137 yX11_body ∈ TBg := tb7 138 (by decide +kernel) rfl
theorem lmL_141 : Cond.methodLink R_law 141 yX11_act ∈ TBg := tb7 143 (by decide +kernel) rfl
theorem lmL_145 : Cond.methodLink R_law 145 yX11_trace ∈ TBg := tb7 171 (by decide +kernel) rfl
theorem lmL_149 : Cond.methodLink R_law 149 yX11_keep ∈ TBg := tb7 175 (by decide +kernel) rfl
theorem lmL_153 : Cond.methodLink R_law 153 yX11_row ∈ TBg := tb7 179 (by decide +kernel) rfl
theorem lmL_160 : Cond.methodLink R_law 160 yX11_put ∈ TBg := tb7 183 (by decide +kernel) rfl
theorem lmL_164 : Cond.methodLink R_law 164 yX11_element ∈ TBg := tb7 194 (by decide +kernel) rfl
theorem lmL_169 : Cond.methodLink R_law 169 yX11_shift ∈ TBg := tb7 198 (by decide +kernel) rfl
theorem lmL_173 : Cond.methodLink R_law 173 yX11_taken ∈ TBg := tb7 202 (by decide +kernel) rfl
theorem lmL_177 : Cond.methodLink R_law 177 yX11_count ∈ TBg := tb7 213 (by decide +kernel) rfl
theorem lcL_154 : Cond.constantLong R_law 154 (4294967295) ∈ TBg := tb7 221 (by decide +kernel) rfl

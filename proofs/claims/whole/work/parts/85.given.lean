/-! WHAT IS GIVEN AT THE START -/
theorem nw_mem : ∀ q ∈ nw_list, Cond.methodLinkNest q.1 q.2 yX10_within "ToadWall" ∈ lw_tbl := by decide +kernel
theorem nx_mem : ∀ q ∈ nx_list, Cond.methodLinkNest RX10 q.1 q.2 "ToadWall" ∈ lw_tbl := by decide +kernel
theorem ao_mem3 : Cond.arrayOver (.object "ToadWall$Shelf") ∈ lw_tbl := by decide +kernel
theorem ao_mem4 : Cond.arrayOver (.object "ToadWall$Thinker") ∈ lw_tbl := by decide +kernel
theorem in_Nst {args : Array Value} {s : State} (hts : ∀ w ∈ lw_tbl, w.before args s = true) : Nst s := fun q hq => va_Nw.of rfl (hts _ (nw_mem q hq))
theorem in_Nx {args : Array Value} {s : State} (hts : ∀ w ∈ lw_tbl, w.before args s = true) : Nx s := ⟨va_AO.of (hts _ ao_mem3), va_AO.of (hts _ ao_mem4), fun q hq => va_Nw.of rfl (hts _ (nx_mem q hq))⟩
theorem in_A {args : Array Value} {s : State} {ty : FieldType} (h : (Cond.arrayClass ty).before args s = true) : ∃ cA : ClassId, ArrOfT s cA ty ∧ s.vm.findClass ("[" ++ ty.toString) = some cA := by
  obtain ⟨cA, kA, comp, h1, h2, h3⟩ := Cond.arrayClass_spec h
  exact ⟨cA, fun N z => ⟨(fun k h => by cases h), kA, h2, comp, h3⟩, h1⟩
theorem in_AO {s : State} {C : String} (h : va_AO C s) : ∃ cA : ClassId, ArrOfT s cA (.object C) ∧ va_RA s cA (.object C) := by
  obtain ⟨comp, cA, kA, h1, h2, h3, h4, h5⟩ := Cond.arrayOver_spec (va_AO.use (A := #[]) h)
  exact ⟨cA, fun N z => ⟨(fun k h => by cases h), kA, h3, comp, h4⟩, kA, comp, h3, h4, h1, h5⟩
theorem in_K {args : Array Value} {s : State} (hts : ∀ w ∈ TBg, w.before args s = true) (hx : Nx s) : ∃ G : Gc, va_K G.1 vwCl (tysC G.2) s := by
  obtain ⟨c0, i0, h0⟩ := u_known (T := TX0) hts iwX0 (hts _ iz0)
  obtain ⟨c1, i1, h1⟩ := u_known (T := TX1) hts iwX1 (hts _ iz1)
  obtain ⟨c2, i2, h2⟩ := u_known (T := TX2) hts iwX2 (hts _ iz2)
  obtain ⟨c3, i3, h3⟩ := u_known (T := TX3) hts iwX3 (hts _ iz3)
  obtain ⟨c4, i4, h4⟩ := u_known (T := TX4) hts iwX4 (hts _ iz4)
  obtain ⟨c5, i5, h5⟩ := u_known (T := TX5) hts iwX5 (hts _ iz5)
  obtain ⟨c6, i6, h6⟩ := u_known (T := TX6) hts iwX6 (hts _ iz6)
  obtain ⟨c7, i7, h7⟩ := u_known (T := TX7) hts iwX7 (hts _ iz7)
  obtain ⟨c8, i8, h8⟩ := u_known (T := TX8) hts iwX8 (hts _ iz8)
  obtain ⟨c9, i9, h9⟩ := u_known (T := TX9) hts iwX9 (hts _ iz9)
  obtain ⟨c10, i10, h10⟩ := u_known (T := TX10) hts iwX10 (hts _ iz10)
  obtain ⟨c11, i11, h11⟩ := u_known (T := TX11) hts iwX11 (hts _ iz11)
  obtain ⟨a0, g0, f0⟩ := in_A (hts _ ax_int)
  obtain ⟨a1, g1, f1⟩ := in_A (hts _ ax_long)
  obtain ⟨a2, g2, f2⟩ := in_A (hts _ ax_boolean)
  obtain ⟨a3, g3⟩ := in_AO hx.1
  obtain ⟨a4, g4⟩ := in_AO hx.2.1
  refine ⟨((fun c => [c0, c1, c2, c3, c4, c5, c6, c7, c8, c9, c10, c11].getD c c0, fun c => [i0, i1, i2, i3, i4, i5, i6, i7, i8, i9, i10, i11].getD c i0), fun k => [a0, a1, a2, a3, a4].getD k a0), fun c q hq => ?_, fun k q hq => ?_⟩
  · have hc : c < 12 := (List.getElem?_eq_some_iff.mp hq).1
    have hc2 : c = 0 ∨ c = 1 ∨ c = 2 ∨ c = 3 ∨ c = 4 ∨ c = 5 ∨ c = 6 ∨ c = 7 ∨ c = 8 ∨ c = 9 ∨ c = 10 ∨ c = 11 := by omega
    rcases hc2 with rfl | rfl | rfl | rfl | rfl | rfl | rfl | rfl | rfl | rfl | rfl | rfl
    · cases hq; exact h0
    · cases hq; exact h1
    · cases hq; exact h2
    · cases hq; exact h3
    · cases hq; exact h4
    · cases hq; exact h5
    · cases hq; exact h6
    · cases hq; exact h7
    · cases hq; exact h8
    · cases hq; exact h9
    · cases hq; exact h10
    · cases hq; exact h11
  · have hc : k < 5 := (List.getElem?_eq_some_iff.mp hq).1
    have hc2 : k = 0 ∨ k = 1 ∨ k = 2 ∨ k = 3 ∨ k = 4 := by omega
    rcases hc2 with rfl | rfl | rfl | rfl | rfl
    · cases hq; exact ⟨g0, f0⟩
    · cases hq; exact ⟨g1, f1⟩
    · cases hq; exact ⟨g2, f2⟩
    · cases hq; exact g3
    · cases hq; exact g4
def gvW : List Cond := flatC (Jvm.Cond.and given_1 narrow_1)
theorem gz0_s : Cond.laysStatic "ToadWall$Quarry" "MOST_OF" "[I" ∈ lw_tbl ∧ Cond.initialized "ToadWall$Quarry" ∈ lw_tbl := by decide +kernel
theorem gz0_a : Cond.arrayOf (Term.static "ToadWall$Quarry" "MOST_OF" "[I") .int ∈ gvW ∧ Cond.eq (Term.length (Term.static "ToadWall$Quarry" "MOST_OF" "[I")) (.int (Int32.ofNat 8)) ∈ gvW := by decide +kernel
theorem gz0_e : ∀ j : Nat, j < 8 → Cond.eq (Term.elem (Term.static "ToadWall$Quarry" "MOST_OF" "[I") (.int (Int32.ofNat j))) (.int ((zt_list.getD 0 ("", "", 0, fun _ => 0)).2.2.2 j)) ∈ gvW := by decide +kernel
theorem in_z0 {args : Array Value} {s : State} {A : Nat → Prop} (hts : ∀ w ∈ lw_tbl, w.before args s = true) (hgv : ∀ w ∈ gvW, w.before args s = true) (hA : ∀ a : Nat, a < s.heap.size → ¬ A a) : ∃ t : Nat, va_Z "ToadWall$Quarry" "MOST_OF" "[I" (.ref t) A s s.heap ∧ va_T .int t 8 (fun j => .int ((zt_list.getD 0 ("", "", 0, fun _ => 0)).2.2.2 j)) A s s.heap := by
  obtain ⟨t, h1, h2⟩ := va_Tof (N := 8) (f := fun j => .int ((zt_list.getD 0 ("", "", 0, fun _ => 0)).2.2.2 j)) (A := A) (by decide) (hgv _ gz0_a.1) (va_eqt (hgv _ gz0_a.2)) (fun j hj => va_eqt (hgv _ (gz0_e j hj))) hA
  exact ⟨t, va_Zof (hts _ gz0_s.1) (hts _ gz0_s.2) h1 hA, h2⟩
theorem gz1_s : Cond.laysStatic "ToadWall$Law" "KEY_BITS" "[I" ∈ lw_tbl ∧ Cond.initialized "ToadWall$Law" ∈ lw_tbl := by decide +kernel
theorem gz1_a : Cond.arrayOf (Term.static "ToadWall$Law" "KEY_BITS" "[I") .int ∈ gvW ∧ Cond.eq (Term.length (Term.static "ToadWall$Law" "KEY_BITS" "[I")) (.int (Int32.ofNat 6)) ∈ gvW := by decide +kernel
theorem gz1_e : ∀ j : Nat, j < 6 → Cond.eq (Term.elem (Term.static "ToadWall$Law" "KEY_BITS" "[I") (.int (Int32.ofNat j))) (.int ((zt_list.getD 1 ("", "", 0, fun _ => 0)).2.2.2 j)) ∈ gvW := by decide +kernel
theorem in_z1 {args : Array Value} {s : State} {A : Nat → Prop} (hts : ∀ w ∈ lw_tbl, w.before args s = true) (hgv : ∀ w ∈ gvW, w.before args s = true) (hA : ∀ a : Nat, a < s.heap.size → ¬ A a) : ∃ t : Nat, va_Z "ToadWall$Law" "KEY_BITS" "[I" (.ref t) A s s.heap ∧ va_T .int t 6 (fun j => .int ((zt_list.getD 1 ("", "", 0, fun _ => 0)).2.2.2 j)) A s s.heap := by
  obtain ⟨t, h1, h2⟩ := va_Tof (N := 6) (f := fun j => .int ((zt_list.getD 1 ("", "", 0, fun _ => 0)).2.2.2 j)) (A := A) (by decide) (hgv _ gz1_a.1) (va_eqt (hgv _ gz1_a.2)) (fun j hj => va_eqt (hgv _ (gz1_e j hj))) hA
  exact ⟨t, va_Zof (hts _ gz1_s.1) (hts _ gz1_s.2) h1 hA, h2⟩
theorem gz2_s : Cond.laysStatic "ToadWall$Bodies" "OWN" "[I" ∈ lw_tbl ∧ Cond.initialized "ToadWall$Bodies" ∈ lw_tbl := by decide +kernel
theorem gz2_a : Cond.arrayOf (Term.static "ToadWall$Bodies" "OWN" "[I") .int ∈ gvW ∧ Cond.eq (Term.length (Term.static "ToadWall$Bodies" "OWN" "[I")) (.int (Int32.ofNat 32)) ∈ gvW := by decide +kernel
theorem gz2_e : ∀ j : Nat, j < 32 → Cond.eq (Term.elem (Term.static "ToadWall$Bodies" "OWN" "[I") (.int (Int32.ofNat j))) (.int ((zt_list.getD 2 ("", "", 0, fun _ => 0)).2.2.2 j)) ∈ gvW := by decide +kernel
theorem in_z2 {args : Array Value} {s : State} {A : Nat → Prop} (hts : ∀ w ∈ lw_tbl, w.before args s = true) (hgv : ∀ w ∈ gvW, w.before args s = true) (hA : ∀ a : Nat, a < s.heap.size → ¬ A a) : ∃ t : Nat, va_Z "ToadWall$Bodies" "OWN" "[I" (.ref t) A s s.heap ∧ va_T .int t 32 (fun j => .int ((zt_list.getD 2 ("", "", 0, fun _ => 0)).2.2.2 j)) A s s.heap := by
  obtain ⟨t, h1, h2⟩ := va_Tof (N := 32) (f := fun j => .int ((zt_list.getD 2 ("", "", 0, fun _ => 0)).2.2.2 j)) (A := A) (by decide) (hgv _ gz2_a.1) (va_eqt (hgv _ gz2_a.2)) (fun j hj => va_eqt (hgv _ (gz2_e j hj))) hA
  exact ⟨t, va_Zof (hts _ gz2_s.1) (hts _ gz2_s.2) h1 hA, h2⟩
theorem gz3_s : Cond.laysStatic "ToadWall$Bodies" "ABOVE" "[I" ∈ lw_tbl ∧ Cond.initialized "ToadWall$Bodies" ∈ lw_tbl := by decide +kernel
theorem gz3_a : Cond.arrayOf (Term.static "ToadWall$Bodies" "ABOVE" "[I") .int ∈ gvW ∧ Cond.eq (Term.length (Term.static "ToadWall$Bodies" "ABOVE" "[I")) (.int (Int32.ofNat 8)) ∈ gvW := by decide +kernel
theorem gz3_e : ∀ j : Nat, j < 8 → Cond.eq (Term.elem (Term.static "ToadWall$Bodies" "ABOVE" "[I") (.int (Int32.ofNat j))) (.int ((zt_list.getD 3 ("", "", 0, fun _ => 0)).2.2.2 j)) ∈ gvW := by decide +kernel
theorem in_z3 {args : Array Value} {s : State} {A : Nat → Prop} (hts : ∀ w ∈ lw_tbl, w.before args s = true) (hgv : ∀ w ∈ gvW, w.before args s = true) (hA : ∀ a : Nat, a < s.heap.size → ¬ A a) : ∃ t : Nat, va_Z "ToadWall$Bodies" "ABOVE" "[I" (.ref t) A s s.heap ∧ va_T .int t 8 (fun j => .int ((zt_list.getD 3 ("", "", 0, fun _ => 0)).2.2.2 j)) A s s.heap := by
  obtain ⟨t, h1, h2⟩ := va_Tof (N := 8) (f := fun j => .int ((zt_list.getD 3 ("", "", 0, fun _ => 0)).2.2.2 j)) (A := A) (by decide) (hgv _ gz3_a.1) (va_eqt (hgv _ gz3_a.2)) (fun j hj => va_eqt (hgv _ (gz3_e j hj))) hA
  exact ⟨t, va_Zof (hts _ gz3_s.1) (hts _ gz3_s.2) h1 hA, h2⟩
theorem in_Z {args : Array Value} {s : State} {A : Nat → Prop} (hts : ∀ w ∈ lw_tbl, w.before args s = true) (hgv : (Jvm.Cond.and given_1 narrow_1).before args s = true) (hA : ∀ a : Nat, a < s.heap.size → ¬ A a) : ∃ z : Nat → Nat, ∀ (G : va_G) (ca : Nat → ClassId) (ad : Nat → Nat), Zst (G, ca, ad, z) A s s.heap := by
  have hg : ∀ w ∈ gvW, w.before args s = true := flat_of_before _ hgv
  obtain ⟨t0, h0⟩ := in_z0 hts hg hA
  obtain ⟨t1, h1⟩ := in_z1 hts hg hA
  obtain ⟨t2, h2⟩ := in_z2 hts hg hA
  obtain ⟨t3, h3⟩ := in_z3 hts hg hA
  refine ⟨fun k => [t0, t1, t2, t3].getD k t0, fun G ca ad k q hq => ?_⟩
  have hc : k < 4 := (List.getElem?_eq_some_iff.mp hq).1
  have hc2 : k = 0 ∨ k = 1 ∨ k = 2 ∨ k = 3 := by omega
  rcases hc2 with rfl | rfl | rfl | rfl
  · cases hq; exact h0
  · cases hq; exact h1
  · cases hq; exact h2
  · cases hq; exact h3

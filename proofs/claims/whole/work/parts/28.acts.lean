/-- acts: the bodies that ran (as far as they are kept), how many; which body an act has, from a kind on -/
abbrev Tz : Type := (Nat → Int32) × Nat
def rn1 (b : Int32) (s : Tz) : Tz := (if s.2 < 24 then upd s.1 s.2 b else s.1, s.2 + 1)
def bodF (act : Int32) : Nat → Int32 → Int32
  | 0, _ => 0
  | u + 1, k => if 0 ≤ k.toInt ∧ k.toInt ≤ 7 then (if zt_f 2 (nn (k * 4 + act)) = 0 then bodF act u (zt_f 3 (nn k)) else zt_f 2 (nn (k * 4 + act))) else 0
def frmF (R : Int32 → Int32 → Tz → Option (Int32 × Tz)) (k act x : Int32) (s : Tz) : Option (Int32 × Tz) := if bodF act 8 k = 0 then none else R (bodF act 8 k) x s
def runF (K me : Int32) : Nat → Int32 → Int32 → Tz → Option (Int32 × Tz)
  | 0, _, _, _ => none
  | f + 1, b, x, s => if s.2 < 1000 then
      (if b = 1 then some (x + me, rn1 b s)
      else if b = 2 then (frmF (runF K me f) K 1 x (rn1 b s)).bind fun p => (frmF (runF K me f) K 2 1 p.2).bind fun q => some (p.1 - q.1, q.2)
      else if b = 10 then (frmF (runF K me f) K 0 x (rn1 b s)).bind fun p => some (p.1 * 2, p.2)
      else if b = 11 then some (x ^^^ me, rn1 b s)
      else if b = 20 then (frmF (runF K me f) 0 0 x (rn1 b s)).bind fun p => some (p.1 + 3, p.2)
      else if b = 30 then (frmF (runF K me f) 0 1 x (rn1 b s)).bind fun p => some (-p.1, p.2)
      else if b = 40 then (frmF (runF K me f) 2 2 x (rn1 b s)).bind fun p => some (p.1 * 3, p.2)
      else if b = 41 then (frmF (runF K me f) 2 1 (x + 1) (rn1 b s)).bind fun p => some (p.1, p.2)
      else if b = 50 then (frmF (runF K me f) 1 2 x (rn1 b s)).bind fun p => (frmF (runF K me f) K 0 2 p.2).bind fun q => some (p.1 - q.1, q.2)
      else if b = 60 then (frmF (runF K me f) 3 3 x (rn1 b s)).bind fun p => some (p.1 ^^^ 5, p.2)
      else if b = 70 then (frmF (runF K me f) 0 0 x (rn1 b s)).bind fun p => some (p.1 * 2, p.2)
      else if b = 80 then (frmF (runF K me f) 4 1 x (rn1 b s)).bind fun p => (frmF (runF K me f) K 2 2 p.2).bind fun q => some (p.1 + q.1, q.2)
      else if b = 81 then (frmF (runF K me f) 4 3 x (rn1 b s)).bind fun p => some (p.1 - 1, p.2)
      else none)
    else none
def BE (σ τ : Sg) (s : Tz) : Prop := (∀ q, q ≠ 9 → q ≠ 37 → τ.1 q = σ.1 q) ∧ τ.2 = σ.2 ∧ τ.1 37 = s.1 ∧ τ.1 9 3 = nI s.2 ∧ (∀ j, j ≠ 3 → τ.1 9 j = σ.1 9 j)
theorem nn4 {k act : Int32} (hk : 0 ≤ k.toInt ∧ k.toInt ≤ 7) (ha : 0 ≤ act.toInt ∧ act.toInt ≤ 3) : vp_in (k * 4 + act) 32 := by
  have e1 : (k * 4).toInt = k.toInt * 4 := by rw [i_mul (by rw [tI_4]; omega) (by rw [tI_4]; omega), tI_4]
  have e2 : (k * 4 + act).toInt = k.toInt * 4 + act.toInt := by rw [i_add (by rw [e1]; omega) (by rw [e1]; omega), e1]
  exact vp_in_iff.mpr (by omega)
set_option maxHeartbeats 1000000 in
theorem lp_X1_runFrom (V : Vt) (d : Nat) (σ0 : Sg) (z me : Nat) (hz : σ0.1 9 2 = nI z) (hz2 : z ≤ 50) (hme : me < z) (h4 : σ0.1 9 4 = nI me) (f : Nat) (hR : ∀ (b x : Int32) (dep : Nat) (s : Tz) (τ : Sg) (p : Int32 × Tz), runF (σ0.1 36 me) (nI me) f b x s = some p → dep + f ≤ 41 → BE σ0 τ s → CT layC V mX1_run (d + 3) [rf V 9, .int b, .int x, .int (nI dep)] τ (Ri fun v σ' => p.1 = v ∧ BE σ0 σ' p.2)) (k0 act x : Int32) (ha : 0 ≤ act.toInt ∧ act.toInt ≤ 3) (dep : Nat) (hdep : dep + f ≤ 40) (s : Tz) (τ : Sg) (hE : BE σ0 τ s) (p : Int32 × Tz) (B : Int32) (hB0 : ¬ B = 0) (hp : runF (σ0.1 36 me) (nI me) f B x s = some p) (X : Xt) (hx : Ok V RX1 cX1_runFrom 8 (d + 4) X) (he : En layC V (some .int) (Ri fun v σ' => p.1 = v ∧ BE σ0 σ' p.2) X) : ∀ (u i : Nat) (k : Int32), i + u = 8 → bodF act u k = B → WS layC V 8 X τ 15 [(6, .int (nI i)), (5, .int k), (0, rf V 9), (1, .int k0), (2, .int act), (3, .int x), (4, .int (nI dep))] [] := by
  intro u
  induction u with
  | zero => exact fun i k _ hb => absurd hb.symm hB0
  | succ u ih =>
    intro i k hiu hb
    have hiI : (nI i).toInt = (i : Int) := nI_c (by omega)
    unfold bodF at hb
    refine WS.iload hx dX1_runFrom_15 0 rfl ?_
    refine WS.bipush (v := 8) hx dX1_runFrom_17 (by decide) ?_
    refine WS.icmp_ge (tgt := 73) hx dX1_runFrom_19 (by decide) (fun c19 => by exfalso; (try simp only [i_le, i_lt, i_eq, tI_0, tI_1, tI_4, tI_8, tI_40] at c19); (try simp only [i_le, i_lt, i_eq, tI_0, tI_1, tI_4, tI_8, tI_40]); omega) (fun c19 => ?_)
    refine WS.iload hx dX1_runFrom_22 1 rfl ?_
    refine WS.callSi (st := []) [.int k] hx (c_X1_isKind V (d + 2) τ k) okX1_isKind lm1_37 rfl rfl (Nat.le_of_ble_eq_true rfl) dX1_runFrom_24 (fun v1 σ2 h3 => ?_)
    rcases h3 with ⟨rfl, rfl, hb24⟩ | ⟨rfl, rfl, hb24⟩
    · skip
      show WS layC V 8 X τ 27 [(6, .int (nI i)), (5, .int k), (0, rf V 9), (1, .int k0), (2, .int act), (3, .int x), (4, .int (nI dep))] [.int 1]
      rw [if_pos hb24] at hb
      refine WS.if_eq (tgt := 73) hx dX1_runFrom_27 (by decide) (fun h => absurd h (by decide)) (fun _ => ?_)
      refine WS.gets (k := 2) hx rfl ls1_64 dX1_runFrom_30 ?_
      refine WS.iload hx dX1_runFrom_33 1 rfl ?_
      refine WS.iconst (v := 4) hx dX1_runFrom_35 (by decide) ?_
      refine WS.imul hx dX1_runFrom_36 ?_
      refine WS.iload_n hx dX1_runFrom_37 rfl 4 rfl ?_
      refine WS.iadd hx dX1_runFrom_38 ?_
      refine WS.tald (k := 2) hx rfl (show vp_in ((k * 4) + act) 32 from (nn4 hb24 ha)) dX1_runFrom_39 ?_
      refine WS.as rfl rfl (congrArg (fun z => Value.int z :: _) (show zt_f 2 (nn ((k * 4) + act)) = zt_f 2 (nn (k * 4 + act)) from rfl)) ?_
      skip
      refine WS.istore (lo' := [(7, .int (zt_f 2 (nn (k * 4 + act)))), (6, .int (nI i)), (5, .int k), (0, rf V 9), (1, .int k0), (2, .int act), (3, .int x), (4, .int (nI dep))]) hx dX1_runFrom_40 (by decide) rfl ?_
      refine WS.iload hx dX1_runFrom_42 0 rfl ?_
      refine WS.if_eq (tgt := 59) hx dX1_runFrom_44 (by decide) (fun c44 => ?_) (fun c44 => ?_)
      · skip
        show WS layC V 8 X τ 59 [(7, .int (zt_f 2 (nn (k * 4 + act)))), (6, .int (nI i)), (5, .int k), (0, rf V 9), (1, .int k0), (2, .int act), (3, .int x), (4, .int (nI dep))] []
        rw [if_pos c44] at hb
        refine WS.gets (k := 3) hx rfl ls1_40 dX1_runFrom_59 ?_
        refine WS.iload hx dX1_runFrom_62 2 rfl ?_
        refine WS.tald (k := 3) hx rfl (show vp_in k 8 from (vp_in_iff.mpr (by omega))) dX1_runFrom_64 ?_
        refine WS.istore (lo' := [(5, .int (zt_f 3 (nn k))), (7, .int (zt_f 2 (nn (k * 4 + act)))), (6, .int (nI i)), (0, rf V 9), (1, .int k0), (2, .int act), (3, .int x), (4, .int (nI dep))]) hx dX1_runFrom_65 (by decide) rfl ?_
        refine WS.iinc (v := nI (i + 1)) (lo' := [(6, .int (nI (i + 1))), (5, .int (zt_f 3 (nn k))), (7, .int (zt_f 2 (nn (k * 4 + act)))), (0, rf V 9), (1, .int k0), (2, .int act), (3, .int x), (4, .int (nI dep))]) hx dX1_runFrom_67 2 rfl (nI_1 i) (by decide) rfl ?_
        refine WS.goto (tgt := 15) hx dX1_runFrom_70 (by decide) ?_
        exact WS.los [0, 1, 3, 4, 5, 6, 7] rfl (ih (i + 1) _ (by omega) hb)
      · skip
        show WS layC V 8 X τ 47 [(7, .int (zt_f 2 (nn (k * 4 + act)))), (6, .int (nI i)), (5, .int k), (0, rf V 9), (1, .int k0), (2, .int act), (3, .int x), (4, .int (nI dep))] []
        rw [if_neg c44] at hb
        refine WS.aload_n hx dX1_runFrom_47 rfl 3 rfl ?_
        refine WS.iload hx dX1_runFrom_48 0 rfl ?_
        refine WS.iload_n hx dX1_runFrom_50 rfl 6 rfl ?_
        refine WS.iload hx dX1_runFrom_51 7 rfl ?_
        refine WS.iconst (v := 1) hx dX1_runFrom_53 (by decide) ?_
        refine WS.iadd hx dX1_runFrom_54 ?_
        refine WS.as rfl rfl (congrArg (fun z => Value.int z :: _) (show (nI dep) + 1 = nI (dep + 1) from nI_1 dep)) ?_
        skip
        refine WS.callVi (st := []) [.int (zt_f 2 (nn (k * 4 + act))), .int x, .int (nI (dep + 1))] hx (hR (zt_f 2 (nn (k * 4 + act))) x (dep + 1) s τ p (by rw [hb]; exact hp) (by omega) hE) okX1_run lm1_67 rfl rfl rfl rfl (Nat.le_of_ble_eq_true rfl) dX1_runFrom_55 (fun v4 σ5 h6 => ?_)
        obtain ⟨hv55, be55⟩ := h6
        show WS layC V 8 X σ5 58 [(7, .int (zt_f 2 (nn (k * 4 + act)))), (6, .int (nI i)), (5, .int k), (0, rf V 9), (1, .int k0), (2, .int act), (3, .int x), (4, .int (nI dep))] [.int v4]
        exact WS.iret hx he dX1_runFrom_58 ⟨_, rfl, hv55, be55⟩
    · skip
      show WS layC V 8 X τ 27 [(6, .int (nI i)), (5, .int k), (0, rf V 9), (1, .int k0), (2, .int act), (3, .int x), (4, .int (nI dep))] [.int 0]
      rw [if_neg hb24] at hb
      refine WS.if_eq (tgt := 73) hx dX1_runFrom_27 (by decide) (fun _ => ?_) (fun h => absurd (by decide) h)
      exact absurd hb.symm hB0
set_option maxHeartbeats 1000000 in
theorem c_X1_runFrom (V : Vt) (d : Nat) (σ : Sg) (σ0 : Sg) (z me : Nat) (hz : σ0.1 9 2 = nI z) (hz2 : z ≤ 50) (hme : me < z) (h4 : σ0.1 9 4 = nI me) (f : Nat) (hR : ∀ (b x : Int32) (dep : Nat) (s : Tz) (τ : Sg) (p : Int32 × Tz), runF (σ0.1 36 me) (nI me) f b x s = some p → dep + f ≤ 41 → BE σ0 τ s → CT layC V mX1_run (d + 3) [rf V 9, .int b, .int x, .int (nI dep)] τ (Ri fun v σ' => p.1 = v ∧ BE σ0 σ' p.2)) (k act x : Int32) (ha : 0 ≤ act.toInt ∧ act.toInt ≤ 3) (dep : Nat) (hdep : dep + f ≤ 40) (s : Tz) (hE : BE σ0 σ s) (p : Int32 × Tz) (hp : frmF (runF (σ0.1 36 me) (nI me) f) k act x s = some p) : CT layC V mX1_runFrom (d + 4) [rf V 9, .int k, .int act, .int x, .int (nI dep)] σ (Ri fun v σ' => p.1 = v ∧ BE σ0 σ' p.2) := by
  refine CT.of (own := RX1) rfl (by decide) (Nat.le_of_ble_eq_true rfl) (fun X (hx : Ok V RX1 cX1_runFrom 8 (d + 4) X) (he : En layC V (some .int) (Ri fun v σ' => p.1 = v ∧ BE σ0 σ' p.2) X) => ?_)
  change WS layC V 8 X σ 0 [(0, rf V 9), (1, .int k), (2, .int act), (3, .int x), (4, .int (nI dep))] []
  have hdI : (nI dep).toInt = (dep : Int) := nI_c (by omega)
  unfold frmF at hp
  have hb0 : ¬ bodF act 8 k = 0 := by intro h; rw [if_pos h] at hp; cases hp
  rw [if_neg hb0] at hp
  refine WS.iload hx dX1_runFrom_0 4 rfl ?_
  refine WS.bipush (v := 40) hx dX1_runFrom_2 (by decide) ?_
  refine WS.icmp_le (tgt := 9) hx dX1_runFrom_4 (by decide) (fun c4 => ?_) (fun c4 => by exfalso; (try simp only [i_le, i_lt, i_eq, tI_0, tI_1, tI_4, tI_8, tI_40] at c4); (try simp only [i_le, i_lt, i_eq, tI_0, tI_1, tI_4, tI_8, tI_40]); omega)
  refine WS.iload_n hx dX1_runFrom_9 rfl 1 rfl ?_
  refine WS.istore (lo' := [(5, .int k), (0, rf V 9), (1, .int k), (2, .int act), (3, .int x), (4, .int (nI dep))]) hx dX1_runFrom_10 (by decide) rfl ?_
  refine WS.iconst (v := 0) hx dX1_runFrom_12 (by decide) ?_
  refine WS.istore (lo' := [(6, .int 0), (5, .int k), (0, rf V 9), (1, .int k), (2, .int act), (3, .int x), (4, .int (nI dep))]) hx dX1_runFrom_13 (by decide) rfl ?_
  exact WS.los [0, 1, 2, 3, 4, 5, 6] rfl (lp_X1_runFrom V d σ0 z me hz hz2 hme h4 f hR k act x ha dep hdep s σ hE p _ hb0 hp X hx he 8 0 k rfl rfl)
set_option maxHeartbeats 1000000 in
theorem c_X1_own (V : Vt) (d : Nat) (σ : Sg) (σ0 : Sg) (z me : Nat) (hz : σ0.1 9 2 = nI z) (hz2 : z ≤ 50) (hme : me < z) (h4 : σ0.1 9 4 = nI me) (f : Nat) (hR : ∀ (b x : Int32) (dep : Nat) (s : Tz) (τ : Sg) (p : Int32 × Tz), runF (σ0.1 36 me) (nI me) f b x s = some p → dep + f ≤ 41 → BE σ0 τ s → CT layC V mX1_run (d + 3) [rf V 9, .int b, .int x, .int (nI dep)] τ (Ri fun v σ' => p.1 = v ∧ BE σ0 σ' p.2)) (act x : Int32) (ha : 0 ≤ act.toInt ∧ act.toInt ≤ 3) (dep : Nat) (hdep : dep + f ≤ 40) (s : Tz) (hE : BE σ0 σ s) (p : Int32 × Tz) (hp : frmF (runF (σ0.1 36 me) (nI me) f) (σ0.1 36 me) act x s = some p) : CT layC V mX1_own (d + 5) [rf V 9, .int act, .int x, .int (nI dep)] σ (Ri fun v σ' => p.1 = v ∧ BE σ0 σ' p.2) := by
  refine CT.of (own := RX1) rfl (by decide) (Nat.le_of_ble_eq_true rfl) (fun X (hx : Ok V RX1 cX1_own 4 (d + 5) X) (he : En layC V (some .int) (Ri fun v σ' => p.1 = v ∧ BE σ0 σ' p.2) X) => ?_)
  change WS layC V 4 X σ 0 [(0, rf V 9), (1, .int act), (2, .int x), (3, .int (nI dep))] []
  refine WS.aload_n hx dX1_own_0 rfl 0 rfl ?_
  refine WS.aload_n hx dX1_own_1 rfl 0 rfl ?_
  refine WS.aload_n hx dX1_own_2 rfl 0 rfl ?_
  refine WS.getI hx okX1 lf1_49 rfl rfl dX1_own_3 ?_
  refine WS.as rfl rfl (congrArg (fun z => Value.int z :: _) (show σ.1 9 4 = nI me from (hE.2.2.2.2 4 (by decide)).trans h4)) ?_
  skip
  refine WS.callVi (st := [rf V 9]) [.int (nI me)] hx (c_X1_kindOf V (d + 2) σ z ((hE.2.2.2.2 2 (by decide)).trans hz) hz2 me hme) okX1_kindOf lm1_56 rfl rfl rfl rfl (Nat.le_of_ble_eq_true rfl) dX1_own_6 (fun v1 σ2 h3 => ?_)
  obtain ⟨rfl, rfl⟩ := h3
  show WS layC V 4 X σ 9 [(0, rf V 9), (1, .int act), (2, .int x), (3, .int (nI dep))] [.int (σ.1 36 me), rf V 9]
  refine WS.as rfl rfl (congrArg (fun z => Value.int z :: _) (show σ.1 36 me = σ0.1 36 me from by rw [hE.1 36 (by decide) (by decide)])) ?_
  skip
  refine WS.iload_n hx dX1_own_9 rfl 1 rfl ?_
  refine WS.iload_n hx dX1_own_10 rfl 2 rfl ?_
  refine WS.iload_n hx dX1_own_11 rfl 3 rfl ?_
  refine WS.callVi (st := []) [.int (σ0.1 36 me), .int act, .int x, .int (nI dep)] hx (c_X1_runFrom V d σ σ0 z me hz hz2 hme h4 f hR (σ0.1 36 me) act x ha dep hdep s hE p hp) okX1_runFrom lm1_60 rfl rfl rfl rfl (Nat.le_of_ble_eq_true rfl) dX1_own_12 (fun v4 σ5 h6 => ?_)
  obtain ⟨hv12, be12⟩ := h6
  show WS layC V 4 X σ5 15 [(0, rf V 9), (1, .int act), (2, .int x), (3, .int (nI dep))] [.int v4]
  exact WS.iret hx he dX1_own_15 ⟨_, rfl, hv12, be12⟩
set_option maxHeartbeats 1000000 in
theorem c_X1_above (V : Vt) (d : Nat) (σ : Sg) (σ0 : Sg) (z me : Nat) (hz : σ0.1 9 2 = nI z) (hz2 : z ≤ 50) (hme : me < z) (h4 : σ0.1 9 4 = nI me) (f : Nat) (hR : ∀ (b x : Int32) (dep : Nat) (s : Tz) (τ : Sg) (p : Int32 × Tz), runF (σ0.1 36 me) (nI me) f b x s = some p → dep + f ≤ 41 → BE σ0 τ s → CT layC V mX1_run (d + 3) [rf V 9, .int b, .int x, .int (nI dep)] τ (Ri fun v σ' => p.1 = v ∧ BE σ0 σ' p.2)) (k : Int32) (hk : 0 ≤ k.toInt ∧ k.toInt ≤ 7) (act x : Int32) (ha : 0 ≤ act.toInt ∧ act.toInt ≤ 3) (dep : Nat) (hdep : dep + f ≤ 40) (s : Tz) (hE : BE σ0 σ s) (p : Int32 × Tz) (hp : frmF (runF (σ0.1 36 me) (nI me) f) (zt_f 3 (nn k)) act x s = some p) : CT layC V mX1_above (d + 5) [rf V 9, .int k, .int act, .int x, .int (nI dep)] σ (Ri fun v σ' => p.1 = v ∧ BE σ0 σ' p.2) := by
  refine CT.of (own := RX1) rfl (by decide) (Nat.le_of_ble_eq_true rfl) (fun X (hx : Ok V RX1 cX1_above 5 (d + 5) X) (he : En layC V (some .int) (Ri fun v σ' => p.1 = v ∧ BE σ0 σ' p.2) X) => ?_)
  change WS layC V 5 X σ 0 [(0, rf V 9), (1, .int k), (2, .int act), (3, .int x), (4, .int (nI dep))] []
  refine WS.iload_n hx dX1_above_0 rfl 1 rfl ?_
  refine WS.callSi (st := []) [.int k] hx (c_X1_isKind V (d + 3) σ k) okX1_isKind lm1_37 rfl rfl (Nat.le_of_ble_eq_true rfl) dX1_above_1 (fun v1 σ2 h3 => ?_)
  rcases h3 with ⟨rfl, rfl, hb1⟩ | ⟨rfl, rfl, hb1⟩
  · skip
    show WS layC V 5 X σ 4 [(0, rf V 9), (1, .int k), (2, .int act), (3, .int x), (4, .int (nI dep))] [.int 1]
    refine WS.if_eq (tgt := 23) hx dX1_above_4 (by decide) (fun h => absurd h (by decide)) (fun _ => ?_)
    refine WS.aload_n hx dX1_above_7 rfl 0 rfl ?_
    refine WS.gets (k := 3) hx rfl ls1_40 dX1_above_8 ?_
    refine WS.iload_n hx dX1_above_11 rfl 1 rfl ?_
    refine WS.tald (k := 3) hx rfl (show vp_in k 8 from (vp_in_iff.mpr (by omega))) dX1_above_12 ?_
    refine WS.iload_n hx dX1_above_13 rfl 2 rfl ?_
    refine WS.iload_n hx dX1_above_14 rfl 3 rfl ?_
    refine WS.iload hx dX1_above_15 4 rfl ?_
    refine WS.callVi (st := []) [.int (zt_f 3 (nn k)), .int act, .int x, .int (nI dep)] hx (c_X1_runFrom V d σ σ0 z me hz hz2 hme h4 f hR (zt_f 3 (nn k)) act x ha dep hdep s hE p hp) okX1_runFrom lm1_60 rfl rfl rfl rfl (Nat.le_of_ble_eq_true rfl) dX1_above_17 (fun v4 σ5 h6 => ?_)
    obtain ⟨hv17, be17⟩ := h6
    show WS layC V 5 X σ5 20 [(0, rf V 9), (1, .int k), (2, .int act), (3, .int x), (4, .int (nI dep))] [.int v4]
    refine WS.goto (tgt := 24) hx dX1_above_20 (by decide) ?_
    exact WS.iret hx he dX1_above_24 ⟨_, rfl, hv17, be17⟩
  · skip
    show WS layC V 5 X σ 4 [(0, rf V 9), (1, .int k), (2, .int act), (3, .int x), (4, .int (nI dep))] [.int 0]
    
    refine WS.if_eq (tgt := 23) hx dX1_above_4 (by decide) (fun _ => ?_) (fun h => absurd (by decide) h)
    exact absurd hk hb1
theorem run_1 {K me b x : Int32} {f : Nat} {s : Tz} (h : s.2 < 1000) (hb : b = 1) : runF K me (f + 1) b x s = some (x + me, rn1 b s) := by subst hb; exact if_pos h
theorem run_2 {K me b x : Int32} {f : Nat} {s : Tz} (h : s.2 < 1000) (hb : b = 2) : runF K me (f + 1) b x s = (frmF (runF K me f) K 1 x (rn1 b s)).bind fun p => (frmF (runF K me f) K 2 1 p.2).bind fun q => some (p.1 - q.1, q.2) := by subst hb; exact if_pos h
theorem run_10 {K me b x : Int32} {f : Nat} {s : Tz} (h : s.2 < 1000) (hb : b = 10) : runF K me (f + 1) b x s = (frmF (runF K me f) K 0 x (rn1 b s)).bind fun p => some (p.1 * 2, p.2) := by subst hb; exact if_pos h
theorem run_11 {K me b x : Int32} {f : Nat} {s : Tz} (h : s.2 < 1000) (hb : b = 11) : runF K me (f + 1) b x s = some (x ^^^ me, rn1 b s) := by subst hb; exact if_pos h
theorem run_20 {K me b x : Int32} {f : Nat} {s : Tz} (h : s.2 < 1000) (hb : b = 20) : runF K me (f + 1) b x s = (frmF (runF K me f) 0 0 x (rn1 b s)).bind fun p => some (p.1 + 3, p.2) := by subst hb; exact if_pos h
theorem run_30 {K me b x : Int32} {f : Nat} {s : Tz} (h : s.2 < 1000) (hb : b = 30) : runF K me (f + 1) b x s = (frmF (runF K me f) 0 1 x (rn1 b s)).bind fun p => some (-p.1, p.2) := by subst hb; exact if_pos h
theorem run_40 {K me b x : Int32} {f : Nat} {s : Tz} (h : s.2 < 1000) (hb : b = 40) : runF K me (f + 1) b x s = (frmF (runF K me f) 2 2 x (rn1 b s)).bind fun p => some (p.1 * 3, p.2) := by subst hb; exact if_pos h
theorem run_41 {K me b x : Int32} {f : Nat} {s : Tz} (h : s.2 < 1000) (hb : b = 41) : runF K me (f + 1) b x s = (frmF (runF K me f) 2 1 (x + 1) (rn1 b s)).bind fun p => some (p.1, p.2) := by subst hb; exact if_pos h
theorem run_50 {K me b x : Int32} {f : Nat} {s : Tz} (h : s.2 < 1000) (hb : b = 50) : runF K me (f + 1) b x s = (frmF (runF K me f) 1 2 x (rn1 b s)).bind fun p => (frmF (runF K me f) K 0 2 p.2).bind fun q => some (p.1 - q.1, q.2) := by subst hb; exact if_pos h
theorem run_60 {K me b x : Int32} {f : Nat} {s : Tz} (h : s.2 < 1000) (hb : b = 60) : runF K me (f + 1) b x s = (frmF (runF K me f) 3 3 x (rn1 b s)).bind fun p => some (p.1 ^^^ 5, p.2) := by subst hb; exact if_pos h
theorem run_70 {K me b x : Int32} {f : Nat} {s : Tz} (h : s.2 < 1000) (hb : b = 70) : runF K me (f + 1) b x s = (frmF (runF K me f) 0 0 x (rn1 b s)).bind fun p => some (p.1 * 2, p.2) := by subst hb; exact if_pos h
theorem run_80 {K me b x : Int32} {f : Nat} {s : Tz} (h : s.2 < 1000) (hb : b = 80) : runF K me (f + 1) b x s = (frmF (runF K me f) 4 1 x (rn1 b s)).bind fun p => (frmF (runF K me f) K 2 2 p.2).bind fun q => some (p.1 + q.1, q.2) := by subst hb; exact if_pos h
theorem run_81 {K me b x : Int32} {f : Nat} {s : Tz} (h : s.2 < 1000) (hb : b = 81) : runF K me (f + 1) b x s = (frmF (runF K me f) 4 3 x (rn1 b s)).bind fun p => some (p.1 - 1, p.2) := by subst hb; exact if_pos h
set_option maxHeartbeats 1000000 in
theorem lp_X1_run (V : Vt) (d : Nat) (σ0 : Sg) (z me : Nat) (hz : σ0.1 9 2 = nI z) (hz2 : z ≤ 50) (hme : me < z) (h4 : σ0.1 9 4 = nI me) (f : Nat) (hR : ∀ (b x : Int32) (dep : Nat) (s : Tz) (τ : Sg) (p : Int32 × Tz), runF (σ0.1 36 me) (nI me) f b x s = some p → dep + f ≤ 41 → BE σ0 τ s → CT layC V mX1_run (d + 3) [rf V 9, .int b, .int x, .int (nI dep)] τ (Ri fun v σ' => p.1 = v ∧ BE σ0 σ' p.2)) (b x : Int32) (dep : Nat) (hdep : dep + (f + 1) ≤ 41) (s : Tz) (p : Int32 × Tz) (hr : runF (σ0.1 36 me) (nI me) (f + 1) b x s = some p) (hs1000 : s.2 < 1000) (X : Xt) (hx : Ok V RX1 cX1_run 4 (d + 6) X) (he : En layC V (some .int) (Ri fun v σ' => p.1 = v ∧ BE σ0 σ' p.2) X) (τ : Sg) (hE : BE σ0 τ ((rn1 b s).1, s.2)) : WS layC V 4 X τ 19 [(0, rf V 9), (1, .int b), (2, .int x), (3, .int (nI dep))] [] := by
  obtain ⟨e1, e2, e3, e4, e5⟩ := id hE
  have hE9 : BE σ0 (stI τ 9 3 (nI (s.2 + 1))) (rn1 b s) := ⟨fun q a c => (stI_o _ _ _ _ a).trans (e1 q a c), e2, e3, stI_1 _ _ _ _, fun j hj => (stI_k _ _ _ _ hj).trans (e5 j hj)⟩
  have hme9 : (stI τ 9 3 (nI (s.2 + 1))).1 9 4 = nI me := (hE9.2.2.2.2 4 (by decide)).trans h4
  refine WS.aload_n hx dX1_run_19 rfl 0 rfl ?_
  refine WS.dup hx dX1_run_20 rfl ?_
  refine WS.getI hx okX1 lf1_22 rfl rfl dX1_run_21 ?_
  refine WS.as rfl rfl (congrArg (fun z => Value.int z :: _) (show τ.1 9 3 = nI s.2 from e4)) ?_
  skip
  refine WS.iconst (v := 1) hx dX1_run_24 (by decide) ?_
  refine WS.iadd hx dX1_run_25 ?_
  refine WS.as rfl rfl (congrArg (fun z => Value.int z :: _) (show (nI s.2) + 1 = nI (s.2 + 1) from nI_1 _)) ?_
  skip
  refine WS.putI hx okX1 lf1_22 rfl rfl rfl rfl dX1_run_26 ?_
  refine WS.iload_n hx dX1_run_29 rfl 1 rfl ?_
  by_cases s30_1 : b = 1
  · refine WS.lookup (off := 114) (tgt := 144) hx dX1_run_30 (by decide) (by rw [s30_1]; decide) (by decide) ?_
    show WS layC V 4 X (stI τ 9 3 (nI (s.2 + 1))) 144 [(0, rf V 9), (1, .int b), (2, .int x), (3, .int (nI dep))] []
    have hr9 := run_1 (K := σ0.1 36 me) (me := nI me) (f := f) (x := x) hs1000 s30_1
    rw [hr9] at hr
    cases hr
    refine WS.iload_n hx dX1_run_144 rfl 2 rfl ?_
    refine WS.aload_n hx dX1_run_145 rfl 0 rfl ?_
    refine WS.getI hx okX1 lf1_49 rfl rfl dX1_run_146 ?_
    refine WS.as rfl rfl (congrArg (fun z => Value.int z :: _) (show (stI τ 9 3 (nI (s.2 + 1))).1 9 4 = nI me from hme9)) ?_
    skip
    refine WS.iadd hx dX1_run_149 ?_
    exact WS.iret hx he dX1_run_150 ⟨_, rfl, rfl, hE9⟩
  by_cases s30_2 : b = 2
  · refine WS.lookup (off := 121) (tgt := 151) hx dX1_run_30 (by decide) (by rw [s30_2]; decide) (by decide) ?_
    show WS layC V 4 X (stI τ 9 3 (nI (s.2 + 1))) 151 [(0, rf V 9), (1, .int b), (2, .int x), (3, .int (nI dep))] []
    have hr9 := run_2 (K := σ0.1 36 me) (me := nI me) (f := f) (x := x) hs1000 s30_2
    rw [hr9] at hr
    obtain ⟨p1, hp1, hr⟩ := Option.bind_eq_some_iff.mp hr
    obtain ⟨p2, hp2, hr⟩ := Option.bind_eq_some_iff.mp hr
    cases hr
    refine WS.aload_n hx dX1_run_151 rfl 0 rfl ?_
    refine WS.iconst (v := 1) hx dX1_run_152 (by decide) ?_
    refine WS.iload_n hx dX1_run_153 rfl 2 rfl ?_
    refine WS.iload_n hx dX1_run_154 rfl 3 rfl ?_
    refine WS.callVi (st := []) [.int 1, .int x, .int (nI dep)] hx (c_X1_own V d (stI τ 9 3 (nI (s.2 + 1))) σ0 z me hz hz2 hme h4 f hR 1 x (by decide) dep (by omega) (rn1 b s) hE9 p1 hp1) okX1_own lm1_52 rfl rfl rfl rfl (Nat.le_of_ble_eq_true rfl) dX1_run_155 (fun v1 σ2 h3 => ?_)
    obtain ⟨hv155, be155⟩ := h3
    show WS layC V 4 X σ2 158 [(0, rf V 9), (1, .int b), (2, .int x), (3, .int (nI dep))] [.int v1]
    refine WS.aload_n hx dX1_run_158 rfl 0 rfl ?_
    refine WS.iconst (v := 2) hx dX1_run_159 (by decide) ?_
    refine WS.iconst (v := 1) hx dX1_run_160 (by decide) ?_
    refine WS.iload_n hx dX1_run_161 rfl 3 rfl ?_
    refine WS.callVi (st := [.int v1]) [.int 2, .int 1, .int (nI dep)] hx (c_X1_own V d σ2 σ0 z me hz hz2 hme h4 f hR 2 1 (by decide) dep (by omega) p1.2 be155 p2 hp2) okX1_own lm1_52 rfl rfl rfl rfl (Nat.le_of_ble_eq_true rfl) dX1_run_162 (fun v4 σ5 h6 => ?_)
    obtain ⟨hv162, be162⟩ := h6
    show WS layC V 4 X σ5 165 [(0, rf V 9), (1, .int b), (2, .int x), (3, .int (nI dep))] [.int v4, .int v1]
    refine WS.isub hx dX1_run_165 ?_
    exact WS.iret hx he dX1_run_166 ⟨_, rfl, by rw [hv155, hv162], be162⟩
  by_cases s30_10 : b = 10
  · refine WS.lookup (off := 137) (tgt := 167) hx dX1_run_30 (by decide) (by rw [s30_10]; decide) (by decide) ?_
    show WS layC V 4 X (stI τ 9 3 (nI (s.2 + 1))) 167 [(0, rf V 9), (1, .int b), (2, .int x), (3, .int (nI dep))] []
    have hr9 := run_10 (K := σ0.1 36 me) (me := nI me) (f := f) (x := x) hs1000 s30_10
    rw [hr9] at hr
    obtain ⟨p1, hp1, hr⟩ := Option.bind_eq_some_iff.mp hr
    cases hr
    refine WS.aload_n hx dX1_run_167 rfl 0 rfl ?_
    refine WS.iconst (v := 0) hx dX1_run_168 (by decide) ?_
    refine WS.iload_n hx dX1_run_169 rfl 2 rfl ?_
    refine WS.iload_n hx dX1_run_170 rfl 3 rfl ?_
    refine WS.callVi (st := []) [.int 0, .int x, .int (nI dep)] hx (c_X1_own V d (stI τ 9 3 (nI (s.2 + 1))) σ0 z me hz hz2 hme h4 f hR 0 x (by decide) dep (by omega) (rn1 b s) hE9 p1 hp1) okX1_own lm1_52 rfl rfl rfl rfl (Nat.le_of_ble_eq_true rfl) dX1_run_171 (fun v7 σ8 h9 => ?_)
    obtain ⟨hv171, be171⟩ := h9
    show WS layC V 4 X σ8 174 [(0, rf V 9), (1, .int b), (2, .int x), (3, .int (nI dep))] [.int v7]
    refine WS.iconst (v := 2) hx dX1_run_174 (by decide) ?_
    refine WS.imul hx dX1_run_175 ?_
    exact WS.iret hx he dX1_run_176 ⟨_, rfl, by rw [hv171], be171⟩
  by_cases s30_11 : b = 11
  · refine WS.lookup (off := 147) (tgt := 177) hx dX1_run_30 (by decide) (by rw [s30_11]; decide) (by decide) ?_
    show WS layC V 4 X (stI τ 9 3 (nI (s.2 + 1))) 177 [(0, rf V 9), (1, .int b), (2, .int x), (3, .int (nI dep))] []
    have hr9 := run_11 (K := σ0.1 36 me) (me := nI me) (f := f) (x := x) hs1000 s30_11
    rw [hr9] at hr
    cases hr
    refine WS.iload_n hx dX1_run_177 rfl 2 rfl ?_
    refine WS.aload_n hx dX1_run_178 rfl 0 rfl ?_
    refine WS.getI hx okX1 lf1_49 rfl rfl dX1_run_179 ?_
    refine WS.as rfl rfl (congrArg (fun z => Value.int z :: _) (show (stI τ 9 3 (nI (s.2 + 1))).1 9 4 = nI me from hme9)) ?_
    skip
    refine WS.ixor hx dX1_run_182 ?_
    exact WS.iret hx he dX1_run_183 ⟨_, rfl, rfl, hE9⟩
  by_cases s30_20 : b = 20
  · refine WS.lookup (off := 154) (tgt := 184) hx dX1_run_30 (by decide) (by rw [s30_20]; decide) (by decide) ?_
    show WS layC V 4 X (stI τ 9 3 (nI (s.2 + 1))) 184 [(0, rf V 9), (1, .int b), (2, .int x), (3, .int (nI dep))] []
    have hr9 := run_20 (K := σ0.1 36 me) (me := nI me) (f := f) (x := x) hs1000 s30_20
    rw [hr9] at hr
    obtain ⟨p1, hp1, hr⟩ := Option.bind_eq_some_iff.mp hr
    cases hr
    refine WS.aload_n hx dX1_run_184 rfl 0 rfl ?_
    refine WS.iconst (v := 1) hx dX1_run_185 (by decide) ?_
    refine WS.iconst (v := 0) hx dX1_run_186 (by decide) ?_
    refine WS.iload_n hx dX1_run_187 rfl 2 rfl ?_
    refine WS.iload_n hx dX1_run_188 rfl 3 rfl ?_
    refine WS.callVi (st := []) [.int 1, .int 0, .int x, .int (nI dep)] hx (c_X1_above V d (stI τ 9 3 (nI (s.2 + 1))) σ0 z me hz hz2 hme h4 f hR 1 (by decide) 0 x (by decide) dep (by omega) (rn1 b s) hE9 p1 hp1) okX1_above lm1_70 rfl rfl rfl rfl (Nat.le_of_ble_eq_true rfl) dX1_run_189 (fun v10 σ11 h12 => ?_)
    obtain ⟨hv189, be189⟩ := h12
    show WS layC V 4 X σ11 192 [(0, rf V 9), (1, .int b), (2, .int x), (3, .int (nI dep))] [.int v10]
    refine WS.iconst (v := 3) hx dX1_run_192 (by decide) ?_
    refine WS.iadd hx dX1_run_193 ?_
    exact WS.iret hx he dX1_run_194 ⟨_, rfl, by rw [hv189], be189⟩
  by_cases s30_30 : b = 30
  · refine WS.lookup (off := 165) (tgt := 195) hx dX1_run_30 (by decide) (by rw [s30_30]; decide) (by decide) ?_
    show WS layC V 4 X (stI τ 9 3 (nI (s.2 + 1))) 195 [(0, rf V 9), (1, .int b), (2, .int x), (3, .int (nI dep))] []
    have hr9 := run_30 (K := σ0.1 36 me) (me := nI me) (f := f) (x := x) hs1000 s30_30
    rw [hr9] at hr
    obtain ⟨p1, hp1, hr⟩ := Option.bind_eq_some_iff.mp hr
    cases hr
    refine WS.aload_n hx dX1_run_195 rfl 0 rfl ?_
    refine WS.iconst (v := 2) hx dX1_run_196 (by decide) ?_
    refine WS.iconst (v := 1) hx dX1_run_197 (by decide) ?_
    refine WS.iload_n hx dX1_run_198 rfl 2 rfl ?_
    refine WS.iload_n hx dX1_run_199 rfl 3 rfl ?_
    refine WS.callVi (st := []) [.int 2, .int 1, .int x, .int (nI dep)] hx (c_X1_above V d (stI τ 9 3 (nI (s.2 + 1))) σ0 z me hz hz2 hme h4 f hR 2 (by decide) 1 x (by decide) dep (by omega) (rn1 b s) hE9 p1 hp1) okX1_above lm1_70 rfl rfl rfl rfl (Nat.le_of_ble_eq_true rfl) dX1_run_200 (fun v13 σ14 h15 => ?_)
    obtain ⟨hv200, be200⟩ := h15
    show WS layC V 4 X σ14 203 [(0, rf V 9), (1, .int b), (2, .int x), (3, .int (nI dep))] [.int v13]
    refine WS.ineg hx dX1_run_203 ?_
    exact WS.iret hx he dX1_run_204 ⟨_, rfl, by rw [hv200], be200⟩
  by_cases s30_40 : b = 40
  · refine WS.lookup (off := 175) (tgt := 205) hx dX1_run_30 (by decide) (by rw [s30_40]; decide) (by decide) ?_
    show WS layC V 4 X (stI τ 9 3 (nI (s.2 + 1))) 205 [(0, rf V 9), (1, .int b), (2, .int x), (3, .int (nI dep))] []
    have hr9 := run_40 (K := σ0.1 36 me) (me := nI me) (f := f) (x := x) hs1000 s30_40
    rw [hr9] at hr
    obtain ⟨p1, hp1, hr⟩ := Option.bind_eq_some_iff.mp hr
    cases hr
    refine WS.aload_n hx dX1_run_205 rfl 0 rfl ?_
    refine WS.iconst (v := 3) hx dX1_run_206 (by decide) ?_
    refine WS.iconst (v := 2) hx dX1_run_207 (by decide) ?_
    refine WS.iload_n hx dX1_run_208 rfl 2 rfl ?_
    refine WS.iload_n hx dX1_run_209 rfl 3 rfl ?_
    refine WS.callVi (st := []) [.int 3, .int 2, .int x, .int (nI dep)] hx (c_X1_above V d (stI τ 9 3 (nI (s.2 + 1))) σ0 z me hz hz2 hme h4 f hR 3 (by decide) 2 x (by decide) dep (by omega) (rn1 b s) hE9 p1 hp1) okX1_above lm1_70 rfl rfl rfl rfl (Nat.le_of_ble_eq_true rfl) dX1_run_210 (fun v16 σ17 h18 => ?_)
    obtain ⟨hv210, be210⟩ := h18
    show WS layC V 4 X σ17 213 [(0, rf V 9), (1, .int b), (2, .int x), (3, .int (nI dep))] [.int v16]
    refine WS.iconst (v := 3) hx dX1_run_213 (by decide) ?_
    refine WS.imul hx dX1_run_214 ?_
    exact WS.iret hx he dX1_run_215 ⟨_, rfl, by rw [hv210], be210⟩
  by_cases s30_41 : b = 41
  · refine WS.lookup (off := 186) (tgt := 216) hx dX1_run_30 (by decide) (by rw [s30_41]; decide) (by decide) ?_
    show WS layC V 4 X (stI τ 9 3 (nI (s.2 + 1))) 216 [(0, rf V 9), (1, .int b), (2, .int x), (3, .int (nI dep))] []
    have hr9 := run_41 (K := σ0.1 36 me) (me := nI me) (f := f) (x := x) hs1000 s30_41
    rw [hr9] at hr
    obtain ⟨p1, hp1, hr⟩ := Option.bind_eq_some_iff.mp hr
    cases hr
    refine WS.aload_n hx dX1_run_216 rfl 0 rfl ?_
    refine WS.iconst (v := 3) hx dX1_run_217 (by decide) ?_
    refine WS.iconst (v := 1) hx dX1_run_218 (by decide) ?_
    refine WS.iload_n hx dX1_run_219 rfl 2 rfl ?_
    refine WS.iconst (v := 1) hx dX1_run_220 (by decide) ?_
    refine WS.iadd hx dX1_run_221 ?_
    refine WS.iload_n hx dX1_run_222 rfl 3 rfl ?_
    refine WS.callVi (st := []) [.int 3, .int 1, .int (x + 1), .int (nI dep)] hx (c_X1_above V d (stI τ 9 3 (nI (s.2 + 1))) σ0 z me hz hz2 hme h4 f hR 3 (by decide) 1 (x + 1) (by decide) dep (by omega) (rn1 b s) hE9 p1 hp1) okX1_above lm1_70 rfl rfl rfl rfl (Nat.le_of_ble_eq_true rfl) dX1_run_223 (fun v19 σ20 h21 => ?_)
    obtain ⟨hv223, be223⟩ := h21
    show WS layC V 4 X σ20 226 [(0, rf V 9), (1, .int b), (2, .int x), (3, .int (nI dep))] [.int v19]
    exact WS.iret hx he dX1_run_226 ⟨_, rfl, by rw [hv223], be223⟩
  by_cases s30_50 : b = 50
  · refine WS.lookup (off := 197) (tgt := 227) hx dX1_run_30 (by decide) (by rw [s30_50]; decide) (by decide) ?_
    show WS layC V 4 X (stI τ 9 3 (nI (s.2 + 1))) 227 [(0, rf V 9), (1, .int b), (2, .int x), (3, .int (nI dep))] []
    have hr9 := run_50 (K := σ0.1 36 me) (me := nI me) (f := f) (x := x) hs1000 s30_50
    rw [hr9] at hr
    obtain ⟨p1, hp1, hr⟩ := Option.bind_eq_some_iff.mp hr
    obtain ⟨p2, hp2, hr⟩ := Option.bind_eq_some_iff.mp hr
    cases hr
    refine WS.aload_n hx dX1_run_227 rfl 0 rfl ?_
    refine WS.iconst (v := 4) hx dX1_run_228 (by decide) ?_
    refine WS.iconst (v := 2) hx dX1_run_229 (by decide) ?_
    refine WS.iload_n hx dX1_run_230 rfl 2 rfl ?_
    refine WS.iload_n hx dX1_run_231 rfl 3 rfl ?_
    refine WS.callVi (st := []) [.int 4, .int 2, .int x, .int (nI dep)] hx (c_X1_above V d (stI τ 9 3 (nI (s.2 + 1))) σ0 z me hz hz2 hme h4 f hR 4 (by decide) 2 x (by decide) dep (by omega) (rn1 b s) hE9 p1 hp1) okX1_above lm1_70 rfl rfl rfl rfl (Nat.le_of_ble_eq_true rfl) dX1_run_232 (fun v22 σ23 h24 => ?_)
    obtain ⟨hv232, be232⟩ := h24
    show WS layC V 4 X σ23 235 [(0, rf V 9), (1, .int b), (2, .int x), (3, .int (nI dep))] [.int v22]
    refine WS.aload_n hx dX1_run_235 rfl 0 rfl ?_
    refine WS.iconst (v := 0) hx dX1_run_236 (by decide) ?_
    refine WS.iconst (v := 2) hx dX1_run_237 (by decide) ?_
    refine WS.iload_n hx dX1_run_238 rfl 3 rfl ?_
    refine WS.callVi (st := [.int v22]) [.int 0, .int 2, .int (nI dep)] hx (c_X1_own V d σ23 σ0 z me hz hz2 hme h4 f hR 0 2 (by decide) dep (by omega) p1.2 be232 p2 hp2) okX1_own lm1_52 rfl rfl rfl rfl (Nat.le_of_ble_eq_true rfl) dX1_run_239 (fun v25 σ26 h27 => ?_)
    obtain ⟨hv239, be239⟩ := h27
    show WS layC V 4 X σ26 242 [(0, rf V 9), (1, .int b), (2, .int x), (3, .int (nI dep))] [.int v25, .int v22]
    refine WS.isub hx dX1_run_242 ?_
    exact WS.iret hx he dX1_run_243 ⟨_, rfl, by rw [hv232, hv239], be239⟩
  by_cases s30_60 : b = 60
  · refine WS.lookup (off := 214) (tgt := 244) hx dX1_run_30 (by decide) (by rw [s30_60]; decide) (by decide) ?_
    show WS layC V 4 X (stI τ 9 3 (nI (s.2 + 1))) 244 [(0, rf V 9), (1, .int b), (2, .int x), (3, .int (nI dep))] []
    have hr9 := run_60 (K := σ0.1 36 me) (me := nI me) (f := f) (x := x) hs1000 s30_60
    rw [hr9] at hr
    obtain ⟨p1, hp1, hr⟩ := Option.bind_eq_some_iff.mp hr
    cases hr
    refine WS.aload_n hx dX1_run_244 rfl 0 rfl ?_
    refine WS.iconst (v := 5) hx dX1_run_245 (by decide) ?_
    refine WS.iconst (v := 3) hx dX1_run_246 (by decide) ?_
    refine WS.iload_n hx dX1_run_247 rfl 2 rfl ?_
    refine WS.iload_n hx dX1_run_248 rfl 3 rfl ?_
    refine WS.callVi (st := []) [.int 5, .int 3, .int x, .int (nI dep)] hx (c_X1_above V d (stI τ 9 3 (nI (s.2 + 1))) σ0 z me hz hz2 hme h4 f hR 5 (by decide) 3 x (by decide) dep (by omega) (rn1 b s) hE9 p1 hp1) okX1_above lm1_70 rfl rfl rfl rfl (Nat.le_of_ble_eq_true rfl) dX1_run_249 (fun v28 σ29 h30 => ?_)
    obtain ⟨hv249, be249⟩ := h30
    show WS layC V 4 X σ29 252 [(0, rf V 9), (1, .int b), (2, .int x), (3, .int (nI dep))] [.int v28]
    refine WS.iconst (v := 5) hx dX1_run_252 (by decide) ?_
    refine WS.ixor hx dX1_run_253 ?_
    exact WS.iret hx he dX1_run_254 ⟨_, rfl, by rw [hv249], be249⟩
  by_cases s30_70 : b = 70
  · refine WS.lookup (off := 225) (tgt := 255) hx dX1_run_30 (by decide) (by rw [s30_70]; decide) (by decide) ?_
    show WS layC V 4 X (stI τ 9 3 (nI (s.2 + 1))) 255 [(0, rf V 9), (1, .int b), (2, .int x), (3, .int (nI dep))] []
    have hr9 := run_70 (K := σ0.1 36 me) (me := nI me) (f := f) (x := x) hs1000 s30_70
    rw [hr9] at hr
    obtain ⟨p1, hp1, hr⟩ := Option.bind_eq_some_iff.mp hr
    cases hr
    refine WS.aload_n hx dX1_run_255 rfl 0 rfl ?_
    refine WS.bipush (v := 6) hx dX1_run_256 (by decide) ?_
    refine WS.iconst (v := 0) hx dX1_run_258 (by decide) ?_
    refine WS.iload_n hx dX1_run_259 rfl 2 rfl ?_
    refine WS.iload_n hx dX1_run_260 rfl 3 rfl ?_
    refine WS.callVi (st := []) [.int 6, .int 0, .int x, .int (nI dep)] hx (c_X1_above V d (stI τ 9 3 (nI (s.2 + 1))) σ0 z me hz hz2 hme h4 f hR 6 (by decide) 0 x (by decide) dep (by omega) (rn1 b s) hE9 p1 hp1) okX1_above lm1_70 rfl rfl rfl rfl (Nat.le_of_ble_eq_true rfl) dX1_run_261 (fun v31 σ32 h33 => ?_)
    obtain ⟨hv261, be261⟩ := h33
    show WS layC V 4 X σ32 264 [(0, rf V 9), (1, .int b), (2, .int x), (3, .int (nI dep))] [.int v31]
    refine WS.iconst (v := 2) hx dX1_run_264 (by decide) ?_
    refine WS.imul hx dX1_run_265 ?_
    exact WS.iret hx he dX1_run_266 ⟨_, rfl, by rw [hv261], be261⟩
  by_cases s30_80 : b = 80
  · refine WS.lookup (off := 237) (tgt := 267) hx dX1_run_30 (by decide) (by rw [s30_80]; decide) (by decide) ?_
    show WS layC V 4 X (stI τ 9 3 (nI (s.2 + 1))) 267 [(0, rf V 9), (1, .int b), (2, .int x), (3, .int (nI dep))] []
    have hr9 := run_80 (K := σ0.1 36 me) (me := nI me) (f := f) (x := x) hs1000 s30_80
    rw [hr9] at hr
    obtain ⟨p1, hp1, hr⟩ := Option.bind_eq_some_iff.mp hr
    obtain ⟨p2, hp2, hr⟩ := Option.bind_eq_some_iff.mp hr
    cases hr
    refine WS.aload_n hx dX1_run_267 rfl 0 rfl ?_
    refine WS.bipush (v := 7) hx dX1_run_268 (by decide) ?_
    refine WS.iconst (v := 1) hx dX1_run_270 (by decide) ?_
    refine WS.iload_n hx dX1_run_271 rfl 2 rfl ?_
    refine WS.iload_n hx dX1_run_272 rfl 3 rfl ?_
    refine WS.callVi (st := []) [.int 7, .int 1, .int x, .int (nI dep)] hx (c_X1_above V d (stI τ 9 3 (nI (s.2 + 1))) σ0 z me hz hz2 hme h4 f hR 7 (by decide) 1 x (by decide) dep (by omega) (rn1 b s) hE9 p1 hp1) okX1_above lm1_70 rfl rfl rfl rfl (Nat.le_of_ble_eq_true rfl) dX1_run_273 (fun v34 σ35 h36 => ?_)
    obtain ⟨hv273, be273⟩ := h36
    show WS layC V 4 X σ35 276 [(0, rf V 9), (1, .int b), (2, .int x), (3, .int (nI dep))] [.int v34]
    refine WS.aload_n hx dX1_run_276 rfl 0 rfl ?_
    refine WS.iconst (v := 2) hx dX1_run_277 (by decide) ?_
    refine WS.iconst (v := 2) hx dX1_run_278 (by decide) ?_
    refine WS.iload_n hx dX1_run_279 rfl 3 rfl ?_
    refine WS.callVi (st := [.int v34]) [.int 2, .int 2, .int (nI dep)] hx (c_X1_own V d σ35 σ0 z me hz hz2 hme h4 f hR 2 2 (by decide) dep (by omega) p1.2 be273 p2 hp2) okX1_own lm1_52 rfl rfl rfl rfl (Nat.le_of_ble_eq_true rfl) dX1_run_280 (fun v37 σ38 h39 => ?_)
    obtain ⟨hv280, be280⟩ := h39
    show WS layC V 4 X σ38 283 [(0, rf V 9), (1, .int b), (2, .int x), (3, .int (nI dep))] [.int v37, .int v34]
    refine WS.iadd hx dX1_run_283 ?_
    exact WS.iret hx he dX1_run_284 ⟨_, rfl, by rw [hv273, hv280], be280⟩
  by_cases s30_81 : b = 81
  · refine WS.lookup (off := 255) (tgt := 285) hx dX1_run_30 (by decide) (by rw [s30_81]; decide) (by decide) ?_
    show WS layC V 4 X (stI τ 9 3 (nI (s.2 + 1))) 285 [(0, rf V 9), (1, .int b), (2, .int x), (3, .int (nI dep))] []
    have hr9 := run_81 (K := σ0.1 36 me) (me := nI me) (f := f) (x := x) hs1000 s30_81
    rw [hr9] at hr
    obtain ⟨p1, hp1, hr⟩ := Option.bind_eq_some_iff.mp hr
    cases hr
    refine WS.aload_n hx dX1_run_285 rfl 0 rfl ?_
    refine WS.bipush (v := 7) hx dX1_run_286 (by decide) ?_
    refine WS.iconst (v := 3) hx dX1_run_288 (by decide) ?_
    refine WS.iload_n hx dX1_run_289 rfl 2 rfl ?_
    refine WS.iload_n hx dX1_run_290 rfl 3 rfl ?_
    refine WS.callVi (st := []) [.int 7, .int 3, .int x, .int (nI dep)] hx (c_X1_above V d (stI τ 9 3 (nI (s.2 + 1))) σ0 z me hz hz2 hme h4 f hR 7 (by decide) 3 x (by decide) dep (by omega) (rn1 b s) hE9 p1 hp1) okX1_above lm1_70 rfl rfl rfl rfl (Nat.le_of_ble_eq_true rfl) dX1_run_291 (fun v40 σ41 h42 => ?_)
    obtain ⟨hv291, be291⟩ := h42
    show WS layC V 4 X σ41 294 [(0, rf V 9), (1, .int b), (2, .int x), (3, .int (nI dep))] [.int v40]
    refine WS.iconst (v := 1) hx dX1_run_294 (by decide) ?_
    refine WS.isub hx dX1_run_295 ?_
    exact WS.iret hx he dX1_run_296 ⟨_, rfl, by rw [hv291], be291⟩
  refine WS.lookup (off := 267) (tgt := 297) hx dX1_run_30 (by decide) (sw_c s30_1 rfl (sw_c s30_2 rfl (sw_c s30_10 rfl (sw_c s30_11 rfl (sw_c s30_20 rfl (sw_c s30_30 rfl (sw_c s30_40 rfl (sw_c s30_41 rfl (sw_c s30_50 rfl (sw_c s30_60 rfl (sw_c s30_70 rfl (sw_c s30_80 rfl (sw_c s30_81 rfl rfl))))))))))))) (by decide) ?_
  show WS layC V 4 X (stI τ 9 3 (nI (s.2 + 1))) 297 [(0, rf V 9), (1, .int b), (2, .int x), (3, .int (nI dep))] []
  exfalso
  rw [runF, if_pos hs1000, if_neg s30_1, if_neg s30_2, if_neg s30_10, if_neg s30_11, if_neg s30_20, if_neg s30_30, if_neg s30_40, if_neg s30_41, if_neg s30_50, if_neg s30_60, if_neg s30_70, if_neg s30_80, if_neg s30_81] at hr
  cases hr
set_option maxHeartbeats 1000000 in
theorem c_X1_runS (V : Vt) (d : Nat) (σ : Sg) (σ0 : Sg) (z me : Nat) (hz : σ0.1 9 2 = nI z) (hz2 : z ≤ 50) (hme : me < z) (h4 : σ0.1 9 4 = nI me) (f : Nat) (hR : ∀ (b x : Int32) (dep : Nat) (s : Tz) (τ : Sg) (p : Int32 × Tz), runF (σ0.1 36 me) (nI me) f b x s = some p → dep + f ≤ 41 → BE σ0 τ s → CT layC V mX1_run (d + 3) [rf V 9, .int b, .int x, .int (nI dep)] τ (Ri fun v σ' => p.1 = v ∧ BE σ0 σ' p.2)) (b x : Int32) (dep : Nat) (hdep : dep + (f + 1) ≤ 41) (s : Tz) (hE : BE σ0 σ s) (p : Int32 × Tz) (hr : runF (σ0.1 36 me) (nI me) (f + 1) b x s = some p) : CT layC V mX1_run (d + 6) [rf V 9, .int b, .int x, .int (nI dep)] σ (Ri fun v σ' => p.1 = v ∧ BE σ0 σ' p.2) := by
  refine CT.of (own := RX1) rfl (by decide) (Nat.le_of_ble_eq_true rfl) (fun X (hx : Ok V RX1 cX1_run 4 (d + 6) X) (he : En layC V (some .int) (Ri fun v σ' => p.1 = v ∧ BE σ0 σ' p.2) X) => ?_)
  change WS layC V 4 X σ 0 [(0, rf V 9), (1, .int b), (2, .int x), (3, .int (nI dep))] []
  have hs1000 : s.2 < 1000 := by
    rcases Nat.lt_or_ge s.2 1000 with h | h
    · exact h
    · rw [show runF (σ0.1 36 me) (nI me) (f + 1) b x s = none from if_neg (by omega)] at hr; cases hr
  obtain ⟨e1, e2, e3, e4, e5⟩ := id hE
  have hsI : (nI s.2).toInt = (s.2 : Int) := nI_c (by omega)
  refine WS.aload_n hx dX1_run_0 rfl 0 rfl ?_
  refine WS.getI hx okX1 lf1_22 rfl rfl dX1_run_1 ?_
  refine WS.as rfl rfl (congrArg (fun z => Value.int z :: _) (show σ.1 9 3 = nI s.2 from e4)) ?_
  skip
  refine WS.bipush (v := 24) hx dX1_run_4 (by decide) ?_
  refine WS.icmp_ge (tgt := 19) hx dX1_run_6 (by decide) (fun c6 => ?_) (fun c6 => ?_)
  · skip
    show WS layC V 4 X σ 19 [(0, rf V 9), (1, .int b), (2, .int x), (3, .int (nI dep))] []
    exact lp_X1_run V d σ0 z me hz hz2 hme h4 f hR b x dep hdep s p hr hs1000 X hx he σ ⟨e1, e2, by rw [e3]; exact (if_neg (by (try simp only [i_le, i_lt, i_eq, tI_0, tI_1, tI_2, tI_3, tI_4, tI_5, tI_6, tI_7, tI_24] at c6); (try simp only [i_le, i_lt, i_eq, tI_0, tI_1, tI_2, tI_3, tI_4, tI_5, tI_6, tI_7, tI_24]); omega)).symm, e4, e5⟩
  · skip
    show WS layC V 4 X σ 9 [(0, rf V 9), (1, .int b), (2, .int x), (3, .int (nI dep))] []
    refine WS.aload_n hx dX1_run_9 rfl 0 rfl ?_
    refine WS.getR hx okX1 lf1_15 rfl rfl dX1_run_10 ?_
    refine WS.aload_n hx dX1_run_13 rfl 0 rfl ?_
    refine WS.getI hx okX1 lf1_22 rfl rfl dX1_run_14 ?_
    refine WS.as rfl rfl (congrArg (fun z => Value.int z :: _) (show σ.1 9 3 = nI s.2 from e4)) ?_
    skip
    refine WS.iload_n hx dX1_run_17 rfl 1 rfl ?_
    refine WS.iast hx rfl (vp_in_nI (by (try simp only [i_le, i_lt, i_eq, tI_0, tI_1, tI_2, tI_3, tI_4, tI_5, tI_6, tI_7, tI_24] at c6); omega) (by decide)) dX1_run_18 ?_
    exact lp_X1_run V d σ0 z me hz hz2 hme h4 f hR b x dep hdep s p hr hs1000 X hx he _ ⟨fun q a c => (stI_o _ _ _ _ c).trans (e1 q a c), e2, by rw [show (rn1 b s).1 = upd s.1 s.2 b from if_pos (by (try simp only [i_le, i_lt, i_eq, tI_0, tI_1, tI_2, tI_3, tI_4, tI_5, tI_6, tI_7, tI_24] at c6); (try simp only [i_le, i_lt, i_eq, tI_0, tI_1, tI_2, tI_3, tI_4, tI_5, tI_6, tI_7, tI_24]); omega), ← e3, nI_clamp (show s.2 < 2 ^ 31 by omega)]; simp [stI, va_up], e4, e5⟩
theorem c_X1_run (V : Vt) (σ0 : Sg) (z me : Nat) (hz : σ0.1 9 2 = nI z) (hz2 : z ≤ 50) (hme : me < z) (h4 : σ0.1 9 4 = nI me) : ∀ (f d : Nat) (b x : Int32) (dep : Nat) (s : Tz) (τ : Sg) (p : Int32 × Tz), runF (σ0.1 36 me) (nI me) f b x s = some p → dep + f ≤ 41 → BE σ0 τ s → CT layC V mX1_run (d + 3 * f + 3) [rf V 9, .int b, .int x, .int (nI dep)] τ (Ri fun v σ' => p.1 = v ∧ BE σ0 σ' p.2)
  | 0, d, b, x, dep, s, τ, p, hr, _, _ => by cases hr
  | f + 1, d, b, x, dep, s, τ, p, hr, hd, hE => by
    have h := c_X1_runS V (d + 3 * f) τ σ0 z me hz hz2 hme h4 f (fun b x dep s τ p hr hd hE => c_X1_run V σ0 z me hz hz2 hme h4 f d b x dep s τ p hr hd hE) b x dep hd s hE p hr
    rw [show d + 3 * f + 6 = d + 3 * (f + 1) + 3 by omega] at h
    exact h

/-- what is only worked with -/
def scr (q : Nat) : Prop := q = 5 ∨ q = 6 ∨ (21 ≤ q ∧ q ≤ 26) ∨ q = 28 ∨ (38 ≤ q ∧ q ≤ 51)
def SE (σ σ' : Sg) : Prop := (∀ q, ¬ scr q → σ'.1 q = σ.1 q) ∧ σ'.2 = σ.2
theorem SE.rf {σ : Sg} : SE σ σ := ⟨fun _ _ => rfl, rfl⟩
theorem SE.tr {σ τ υ : Sg} (h : SE σ τ) (g : SE τ υ) : SE σ υ := ⟨fun q h1 => (g.1 q h1).trans (h.1 q h1), g.2.trans h.2⟩
theorem SE.the {t : Nat} {σ σ' : Sg} (ht : 38 ≤ t ∧ t ≤ 51) (h : ThE t σ σ') : SE σ σ' := ⟨fun q hq => h.1 q (by unfold scr at hq; omega) (by unfold scr at hq; omega) (by unfold scr at hq; omega) (by unfold scr at hq; omega), h.2⟩
theorem SE.le {σ σ' : Sg} (h : LE σ σ') : SE σ σ' := ⟨fun q hq => h.1 q (by unfold scr at hq; omega) (by unfold scr at hq; omega) (by unfold scr at hq; omega), h.2⟩
theorem SE.st {σ : Sg} {o k : Nat} {v : Int32} (h : scr o) : SE σ (stI σ o k v) := ⟨fun q hq => stI_o _ _ _ _ (fun e => hq (e ▸ h)), rfl⟩
theorem SE.sr {σ : Sg} {o : Nat} {f : Nat → Int32} (h : scr o) : SE σ (stR σ o f) := ⟨fun q hq => stR_o _ _ _ (fun e => hq (e ▸ h)), rfl⟩
theorem ns {q : Nat} (h : q ≤ 4 ∨ (7 ≤ q ∧ q ≤ 20) ∨ q = 27 ∨ (29 ≤ q ∧ q ≤ 37) ∨ 52 ≤ q) : ¬ scr q := by unfold scr; omega
theorem QI.se {σ σ' : Sg} {n : Nat} (h : QI σ n) (e : SE σ σ') : QI σ' n := by
  unfold QI
  rw [e.1 1 (ns (by decide)), e.1 11 (ns (by decide)), e.1 12 (ns (by decide)), e.1 13 (ns (by decide)), e.1 14 (ns (by decide)), e.1 15 (ns (by decide)), e.1 16 (ns (by decide)), e.1 17 (ns (by decide)), e.1 18 (ns (by decide))]
  exact h
/-- the world that a thinker sees -/
abbrev Wd : Type := (Int32 → Int32 → Int32 → Int32 → Int32 → Int32 → Int32) × (Nat → Nat) × (Nat → Int32) × (Nat → Nat) × (Nat → Nat) × Nat × (Nat → Bool) × Nat
def wdS (σ : Sg) (n m c : Nat) : Wd := (lwF (σ.1 c) m, Lc σ, σ.1 17, fun k => nn (σ.1 11 k), fun k => nn (σ.1 12 k), cnt (σ.1 14) n, fun k => decide (σ.1 14 k = 1), nn (σ.1 18 0))
def Wd.bd (W : Wd) (k : Nat) : Nat := W.2.2.2.1 k
def Wd.cn (W : Wd) (k b : Nat) (s : Nat × Nat) : Nat × Nat := cen W.1 W.2.1 W.2.2.1 k b W.2.2.2.2.2.1 (W.2.2.2.2.2.2.1 k) s
def Wd.s0 (W : Wd) (k : Nat) : Nat × Nat := (W.2.2.2.2.1 k, W.2.2.2.2.2.2.2)
def rep (f : Nat × Nat → Nat × Nat) : Nat → Nat × Nat → Nat × Nat
  | 0, s => s
  | u + 1, s => rep f u (f s)
theorem wdS_se {σ σ' : Sg} {n m c : Nat} (e : SE σ σ') (hc : c = 19 ∨ c = 20) : wdS σ' n m c = wdS σ n m c := by
  unfold wdS Lc
  rw [e.1 c (ns (by omega)), e.1 11 (ns (by decide)), e.1 12 (ns (by decide)), e.1 14 (ns (by decide)), e.1 16 (ns (by decide)), e.1 17 (ns (by decide)), e.1 18 (ns (by decide))]
theorem itr_congr {L L' : Nat → Nat} (h : ∀ a, a < 16 → L a = L' a) (h2 : ∀ a, a < 16 → L' a < 16) : ∀ (j a : Nat), a < 16 → itr L j a = itr L' j a
  | 0, a, _ => rfl
  | j + 1, a, ha => by
    show itr L j (L a) = itr L' j (L' a)
    rw [h a ha]
    exact itr_congr h h2 j _ (h2 a ha)
theorem elF_m1 {L : Nat → Nat} {ol : Int32} {a : Nat} (h : a < 16) : elF L (-1) ol a = L a := if_neg (by rw [i_eq, nI_c (by omega), tI_m1]; omega)
theorem cenN_rep {lw : Int32 → Int32 → Int32 → Int32 → Int32 → Int32 → Int32} {L L' : Nat → Nat} {wd : Nat → Int32} {k b o : Nat} {op : Bool} (h : ∀ a, a < 16 → L a = L' a) (h2 : ∀ a, a < 16 → L' a < 16) : ∀ (u : Nat) (s : Nat × Nat), s.1 < 16 → cenN lw L wd k b o op u s = rep (cen lw L' wd k b o op) u s ∧ (rep (cen lw L' wd k b o op) u s).1 < 16
  | 0, s, hs => ⟨rfl, hs⟩
  | u + 1, s, hs => by
    have e : cen lw L wd k b o op s = cen lw L' wd k b o op s := by unfold cen; rw [itr_congr h h2 _ _ hs]
    show cenN lw L wd k b o op u (cen lw L wd k b o op s) = _ ∧ _
    rw [e]
    exact cenN_rep h h2 u _ (itr_lt h2 _ _ hs)
theorem cn_r {σ : Sg} {n m c k b : Nat} (hQ : QI σ n) {s : Nat × Nat} (hs : s.1 < 16) : ((wdS σ n m c).cn k b s).1 < 16 ∧ ((wdS σ n m c).cn k b s).2 ≤ 99 := cen_r (fun a ha => (hQ.L ha).2) hs
theorem s0_r {σ : Sg} {n m c k : Nat} (hQ : QI σ n) (hk : k < n) : ((wdS σ n m c).s0 k).1 < 16 ∧ ((wdS σ n m c).s0 k).2 ≤ 99 := by
  have h1 := (hQ.2.2.2.1 k (by have := hQ.n; omega)).le
  have h2 := hQ.2.2.2.2.2.2.2.2.2.le
  exact ⟨by show nn (σ.1 12 k) < 16; omega, h2⟩
/-- a thinker in thought for the block k, at s: nothing else than the net leads him on -/
def Tk (W : Wd) (b : Nat) (σ : Sg) (t k : Nat) (s : Nat × Nat) : Prop := ∃ ol, Th σ t k b s.1 s.2 W.2.2.2.2.2.1 (-1) ol (W.2.2.2.2.2.2.1 k)
theorem Tk.tr {σ : Sg} {n m c k b : Nat} (hQ : QI σ n) (hk : k < n) (hb : b ≤ 9) {s : Nat × Nat} (hs : s.1 < 16) (hy : s.2 ≤ 99) : Tr k b s.1 s.2 ((wdS σ n m c).2.2.2.2.2.1) := by
  have h0 := hQ.n
  have h2 := hQ.o.2
  exact ⟨by omega, hb, by omega, hy, by show cnt (σ.1 14) n ≤ 15; omega⟩
theorem bd_r {σ : Sg} {n m c k : Nat} (hQ : QI σ n) (hk : k < n) : (wdS σ n m c).bd k ≤ 9 := (hQ.2.2.1 k (by have := hQ.n; omega)).le
theorem Tk.at {W : Wd} {b : Nat} {σ : Sg} {t k : Nat} {s : Nat × Nat} (h : Tk W b σ t k s) : σ.1 t 4 = nI s.1 := by obtain ⟨_, h⟩ := h; exact h.2.2.1
theorem Tk.ne {W : Wd} {b : Nat} {σ σ' : Sg} {t u k : Nat} {s : Nat × Nat} (h : Tk W b σ t k s) (ht : 38 ≤ t) (hu : t ≠ u) (e : ThE u σ σ') : Tk W b σ' t k s := by
  obtain ⟨ol, h⟩ := h
  refine ⟨ol, ?_⟩
  unfold Th
  rw [e.1 t (by omega) (by omega) (by omega) hu]
  exact h
theorem rep_r {σ : Sg} {n m c k b : Nat} (hQ : QI σ n) : ∀ (u : Nat) {s : Nat × Nat}, s.1 < 16 → s.2 ≤ 99 → (rep ((wdS σ n m c).cn k b) u s).1 < 16 ∧ (rep ((wdS σ n m c).cn k b) u s).2 ≤ 99
  | 0, s, h1, h2 => ⟨h1, h2⟩
  | u + 1, s, h1, h2 => rep_r hQ u (cn_r hQ h1).1 (cn_r hQ h1).2
theorem ck_begin (V : Vt) (d : Nat) (τ : Sg) (t : Nat) (ht : 38 ≤ t ∧ t ≤ 51) (n : Nat) (hQ : QI τ n) (m c : Nat) (hL : LI V τ m c) (k : Nat) (hk : k < n) : CT layC V mX9_begin (d + 3) [rf V t, .int (nI k)] τ (Rv fun σ' => ThE t τ σ' ∧ LI V σ' m c ∧ Tk (wdS τ n m c) ((wdS τ n m c).bd k) σ' t k ((wdS τ n m c).s0 k)) :=
  (c_X9_begin V d τ t ht n hQ k hk).weaken (fun r σ' h => ⟨h.1, h.2.1, h.2.2.1 m c hL, _, h.2.2.2⟩)
theorem ck_pass (V : Vt) (d : Nat) (τ : Sg) (t : Nat) (ht : 38 ≤ t ∧ t ≤ 51) (n : Nat) (hQ : QI τ n) (m c : Nat) (hL : LI V τ m c) (k : Nat) (hk : k < n) (b : Nat) (hb : b ≤ 9) (s : Nat × Nat) (hs : s.1 < 16) (hy : s.2 ≤ 99) (hT : Tk (wdS τ n m c) b τ t k s) (u : Nat) (hu : u ≤ 100) : CT layC V mX9_passCenturies (d + 4) [rf V t, .int (nI u)] τ (Rv fun σ' => ThE t τ σ' ∧ LI V σ' m c ∧ Tk (wdS τ n m c) b σ' t k (rep ((wdS τ n m c).cn k b) u s)) := by
  obtain ⟨ol, hT⟩ := hT
  refine (c_X9_passCenturies V d τ t ht n hQ m c hL k _ _ _ _ _ _ _ hT (Tk.tr hQ hk hb hs hy) (Or.inl rfl) u hu).weaken (fun r σ' h => ⟨h.1, h.2.1, h.2.2.1, ol, ?_⟩)
  have e := (cenN_rep (lw := lwF (τ.1 c) m) (L := elF (Lc τ) (-1) ol) (L' := Lc τ) (wd := τ.1 17) (k := k) (b := b) (o := (wdS τ n m c).2.2.2.2.2.1) (op := (wdS τ n m c).2.2.2.2.2.2.1 k) (fun a ha => elF_m1 ha) (fun a ha => (hQ.L ha).2) u s hs).1
  have h2 := h.2.2.2
  rw [show ((s.1, s.2) : Nat × Nat) = s from rfl, e] at h2
  exact h2
theorem wdS_the {σ σ' : Sg} {n m c t : Nat} (ht : 38 ≤ t ∧ t ≤ 51) (e : ThE t σ σ') (hc : c = 19 ∨ c = 20) : wdS σ' n m c = wdS σ n m c := wdS_se (SE.the ht e) hc
/-- first found: alone, together, told otherwise -/
def fsA (f : Nat × Nat → Nat × Nat) (th : Nat) : Nat → Nat → Nat × Nat → Option Nat
  | 0, _, _ => none
  | u + 1, i, s => if s.1 = th then some i else fsA f th u (i + 1) (f s)
def fsT (f g : Nat × Nat → Nat × Nat) : Nat → Nat → Nat × Nat → Nat × Nat → Option Nat
  | 0, _, _, _ => none
  | u + 1, i, s, r => if s.1 = r.1 then some i else fsT f g u (i + 1) (f s) (g r)
def fsB (f : Nat × Nat → Nat × Nat) (wd : Nat → Int32) (bk : Nat → Int64) : Nat → Nat → Nat × Nat → Option Nat
  | 0, _, _ => none
  | u + 1, i, s => if ¬ bk i = 10 ∧ ¬ bk i = (wd s.1).toInt64 then some i else fsB f wd bk u (i + 1) (f s)
set_option maxHeartbeats 1000000 in
theorem c_X4_thoughtsNow (V : Vt) (d : Nat) (σ : Sg) (n : Nat) (hQ : QI σ n) (m c : Nat) (hL : LI V σ m c) (k : Nat) (hk : k < n) : CT layC V mX4_thoughtsNow (d + 4) [rf V 4, .int (nI k)] σ (Ri fun v σ' => (wdS σ n m c).1 (nI ((wdS σ n m c).2.2.2.1 k)) (nI ((wdS σ n m c).s0 k).1) (σ.1 17 ((wdS σ n m c).s0 k).1) (nI k) (nI (wdS σ n m c).2.2.2.2.2.1) (nI ((wdS σ n m c).s0 k).2) = v ∧ SE σ σ' ∧ LI V σ' m c) := by
  refine CT.of (own := RX4) rfl (by decide) (Nat.le_of_ble_eq_true rfl) (fun X (hx : Ok V RX4 cX4_thoughtsNow 2 (d + 4) X) (he : En layC V (some .int) (Ri fun v σ' => (wdS σ n m c).1 (nI ((wdS σ n m c).2.2.2.1 k)) (nI ((wdS σ n m c).s0 k).1) (σ.1 17 ((wdS σ n m c).s0 k).1) (nI k) (nI (wdS σ n m c).2.2.2.2.2.1) (nI ((wdS σ n m c).s0 k).2) = v ∧ SE σ σ' ∧ LI V σ' m c) X) => ?_)
  change WS layC V 2 X σ 0 [(0, rf V 4), (1, .int (nI k))] []
  have hr0 := s0_r (m := m) (c := c) hQ hk
  refine WS.aload_n hx dX4_thoughtsNow_0 rfl 0 rfl ?_
  refine WS.getR hx okX4 lf4_20 rfl rfl dX4_thoughtsNow_1 ?_
  refine WS.iload_n hx dX4_thoughtsNow_4 rfl 1 rfl ?_
  refine WS.callVv (st := []) [.int (nI k)] hx (ck_begin V d σ 38 (by decide) n hQ m c hL k hk) okX9_begin lm4_27 rfl rfl rfl rfl (Nat.le_of_ble_eq_true rfl) dX4_thoughtsNow_5 (fun σ2 h3 => ?_)
  obtain ⟨the5, li5, tk5⟩ := h3
  obtain ⟨ol, tk5⟩ := tk5
  show WS layC V 2 X σ2 8 [(0, rf V 4), (1, .int (nI k))] []
  refine WS.aload_n hx dX4_thoughtsNow_8 rfl 0 rfl ?_
  refine WS.getR hx okX4 lf4_20 rfl rfl dX4_thoughtsNow_9 ?_
  refine WS.callVi (st := []) [] hx (c_X9_goesOnNow V d σ2 38 (by decide : 38 ≤ 38 ∧ 38 ≤ 51) n (hQ.se (SE.the (by decide : 38 ≤ 38 ∧ 38 ≤ 51) the5)) m c li5 k _ _ _ _ _ ol _ tk5 (Tk.tr (m := m) (c := c) hQ hk (bd_r (m := m) (c := c) hQ hk) hr0.1 hr0.2)) okX9_goesOnNow lm4_31 rfl rfl rfl rfl (Nat.le_of_ble_eq_true rfl) dX4_thoughtsNow_12 (fun v4 σ5 h6 => ?_)
  obtain ⟨hg12, le12, li12⟩ := h6
  show WS layC V 2 X σ5 15 [(0, rf V 4), (1, .int (nI k))] [.int v4]
  exact WS.iret hx he dX4_thoughtsNow_15 ⟨_, rfl, by rw [← hg12, the5.1 17 (by decide) (by decide) (by decide) (by decide), show σ2.1 c = σ.1 c from by rcases hL.c.2.2 with rfl | rfl <;> exact the5.1 _ (by decide) (by decide) (by decide) (by decide)]; rfl, (SE.the (by decide : 38 ≤ 38 ∧ 38 ≤ 51) the5).tr (SE.le le12), li12⟩
set_option maxHeartbeats 1000000 in
theorem c_X4_atBehind (V : Vt) (d : Nat) (σ : Sg) (n : Nat) (hQ : QI σ n) (m c : Nat) (hL : LI V σ m c) (u : Nat) (hu : u ≤ 100) (k : Nat) (hk : k < n) : CT layC V mX4_atBehind (d + 5) [rf V 4, .int (nI u), .int (nI k)] σ (Ri fun v σ' => nI (rep ((wdS σ n m c).cn k ((wdS σ n m c).bd k)) u ((wdS σ n m c).s0 k)).1 = v ∧ SE σ σ' ∧ LI V σ' m c) := by
  refine CT.of (own := RX4) rfl (by decide) (Nat.le_of_ble_eq_true rfl) (fun X (hx : Ok V RX4 cX4_atBehind 3 (d + 5) X) (he : En layC V (some .int) (Ri fun v σ' => nI (rep ((wdS σ n m c).cn k ((wdS σ n m c).bd k)) u ((wdS σ n m c).s0 k)).1 = v ∧ SE σ σ' ∧ LI V σ' m c) X) => ?_)
  change WS layC V 3 X σ 0 [(0, rf V 4), (1, .int (nI u)), (2, .int (nI k))] []
  have hb0 := bd_r (m := m) (c := c) hQ hk
  have hr0 := s0_r (m := m) (c := c) hQ hk
  have hcc := hL.c.2.2
  refine WS.aload_n hx dX4_atBehind_0 rfl 0 rfl ?_
  refine WS.getR hx okX4 lf4_20 rfl rfl dX4_atBehind_1 ?_
  refine WS.iload_n hx dX4_atBehind_4 rfl 2 rfl ?_
  refine WS.callVv (st := []) [.int (nI k)] hx (ck_begin V (d + 1) σ 38 (by decide) n hQ m c hL k hk) okX9_begin lm4_27 rfl rfl rfl rfl (Nat.le_of_ble_eq_true rfl) dX4_atBehind_5 (fun σ2 h3 => ?_)
  obtain ⟨the5, li5, tk5⟩ := h3
  have hQ5 := hQ.se (SE.the (by decide) the5)
  have hw5 : wdS σ2 n m c = wdS σ n m c := wdS_the (by decide) the5 hcc
  show WS layC V 3 X σ2 8 [(0, rf V 4), (1, .int (nI u)), (2, .int (nI k))] []
  refine WS.aload_n hx dX4_atBehind_8 rfl 0 rfl ?_
  refine WS.getR hx okX4 lf4_20 rfl rfl dX4_atBehind_9 ?_
  refine WS.iload_n hx dX4_atBehind_12 rfl 1 rfl ?_
  refine WS.callVv (st := []) [.int (nI u)] hx (ck_pass V d σ2 38 (by decide) n hQ5 m c li5 k hk _ hb0 _ hr0.1 hr0.2 (by rw [hw5]; exact tk5) u hu) okX9_passCenturies lm4_35 rfl rfl rfl rfl (Nat.le_of_ble_eq_true rfl) dX4_atBehind_13 (fun σ5 h6 => ?_)
  obtain ⟨the13, li13, tk13⟩ := h6
  rw [hw5] at tk13
  show WS layC V 3 X σ5 16 [(0, rf V 4), (1, .int (nI u)), (2, .int (nI k))] []
  refine WS.aload_n hx dX4_atBehind_16 rfl 0 rfl ?_
  refine WS.getR hx okX4 lf4_20 rfl rfl dX4_atBehind_17 ?_
  refine WS.callVi (st := []) [] hx (c_X9_place V (d + 4) σ5 38 (by decide)) okX9_place lm4_38 rfl rfl rfl rfl (Nat.le_of_ble_eq_true rfl) dX4_atBehind_20 (fun v7 σ8 h9 => ?_)
  obtain ⟨rfl, rfl⟩ := h9
  show WS layC V 3 X σ5 23 [(0, rf V 4), (1, .int (nI u)), (2, .int (nI k))] [.int (σ5.1 38 4)]
  exact WS.iret hx he dX4_atBehind_23 ⟨_, rfl, tk13.at.symm, (SE.the (by decide) the5).tr (SE.the (by decide) the13), li13⟩
set_option maxHeartbeats 1000000 in
theorem lp_X4_thoughtsBehind (V : Vt) (d : Nat) (σ : Sg) (n : Nat) (hQ : QI σ n) (m c : Nat) (hL : LI V σ m c) (u : Nat) (hu : u ≤ 100) (X : Xt) (hx : Ok V RX4 cX4_thoughtsBehind 4 (d + 6) X) (he : En layC V (some .int) (Ri fun v σ' => orW (fun j => decide (¬ σ.1 14 j = 1)) (fun j => nI (rep ((wdS σ n m c).cn j ((wdS σ n m c).bd j)) u ((wdS σ n m c).s0 j)).1) n = v ∧ SE σ σ' ∧ LI V σ' m c) X) : ∀ (i : Nat) (τ : Sg), i ≤ n → SE σ τ → LI V τ m c → WS layC V 4 X τ 4 [(3, .int (nI i)), (2, .int (orW (fun j => decide (¬ σ.1 14 j = 1)) (fun j => nI (rep ((wdS σ n m c).cn j ((wdS σ n m c).bd j)) u ((wdS σ n m c).s0 j)).1) i)), (0, rf V 4), (1, .int (nI u))] [] := by
  intro i
  induction hm : n - i using Nat.strongRecOn generalizing i with
  | _ m9 ih =>
    intro τ hi hE hLt
    have hn10 := hQ.n
    have hiI : (nI i).toInt = (i : Int) := nI_c (by omega)
    have hnI : (nI n).toInt = (n : Int) := nI_c (by omega)
    have hQt := hQ.se hE
    have hwt : wdS τ n m c = wdS σ n m c := wdS_se hE hL.c.2.2
    have h14 : τ.1 14 = σ.1 14 := hE.1 14 (ns (by decide))
    refine WS.iload_n hx dX4_thoughtsBehind_4 rfl 0 rfl ?_
    refine WS.aload_n hx dX4_thoughtsBehind_5 rfl 2 rfl ?_
    refine WS.getR hx okX4 lf4_9 rfl rfl dX4_thoughtsBehind_6 ?_
    refine WS.callVi (st := [.int (nI i)]) [] hx (c_X7_size V (d + 5) τ n hQt) okX7_size lm4_41 rfl rfl rfl rfl (Nat.le_of_ble_eq_true rfl) dX4_thoughtsBehind_9 (fun v1 σ2 h3 => ?_)
    obtain ⟨rfl, rfl⟩ := h3
    show WS layC V 4 X τ 12 [(3, .int (nI i)), (2, .int (orW (fun j => decide (¬ σ.1 14 j = 1)) (fun j => nI (rep ((wdS σ n m c).cn j ((wdS σ n m c).bd j)) u ((wdS σ n m c).s0 j)).1) i)), (0, rf V 4), (1, .int (nI u))] [.int (nI n), .int (nI i)]
    refine WS.icmp_ge (tgt := 43) hx dX4_thoughtsBehind_12 (by decide) (fun c12 => ?_) (fun c12 => ?_)
    · skip
      show WS layC V 4 X τ 43 [(3, .int (nI i)), (2, .int (orW (fun j => decide (¬ σ.1 14 j = 1)) (fun j => nI (rep ((wdS σ n m c).cn j ((wdS σ n m c).bd j)) u ((wdS σ n m c).s0 j)).1) i)), (0, rf V 4), (1, .int (nI u))] []
      refine WS.iload_n hx dX4_thoughtsBehind_43 rfl 1 rfl ?_
      exact WS.iret hx he dX4_thoughtsBehind_44 ⟨_, rfl, by rw [show n = i by (try simp only [i_le, i_lt, i_eq, tI_0, tI_1] at c12); (try simp only [i_le, i_lt, i_eq, tI_0, tI_1]); omega], hE, hLt⟩
    · skip
      show WS layC V 4 X τ 15 [(3, .int (nI i)), (2, .int (orW (fun j => decide (¬ σ.1 14 j = 1)) (fun j => nI (rep ((wdS σ n m c).cn j ((wdS σ n m c).bd j)) u ((wdS σ n m c).s0 j)).1) i)), (0, rf V 4), (1, .int (nI u))] []
      refine WS.aload_n hx dX4_thoughtsBehind_15 rfl 2 rfl ?_
      refine WS.getR hx okX4 lf4_9 rfl rfl dX4_thoughtsBehind_16 ?_
      refine WS.iload_n hx dX4_thoughtsBehind_19 rfl 0 rfl ?_
      refine WS.callVi (st := []) [.int (nI i)] hx (c_X7_isOpen V (d + 3) τ n hQt i (by (try simp only [i_le, i_lt, i_eq, tI_0, tI_1] at c12); (try simp only [i_le, i_lt, i_eq, tI_0, tI_1]); omega)) okX7_isOpen lm4_46 rfl rfl rfl rfl (Nat.le_of_ble_eq_true rfl) dX4_thoughtsBehind_20 (fun v4 σ5 h6 => ?_)
      rcases h6 with ⟨rfl, rfl, hb20⟩ | ⟨rfl, rfl, hb20⟩
      · skip
        show WS layC V 4 X τ 23 [(3, .int (nI i)), (2, .int (orW (fun j => decide (¬ σ.1 14 j = 1)) (fun j => nI (rep ((wdS σ n m c).cn j ((wdS σ n m c).bd j)) u ((wdS σ n m c).s0 j)).1) i)), (0, rf V 4), (1, .int (nI u))] [.int 1]
        rw [h14] at hb20
        refine WS.if_ne (tgt := 37) hx dX4_thoughtsBehind_23 (by decide) (fun _ => ?_) (fun h => absurd h (by decide))
        refine WS.iinc (v := nI (i + 1)) (lo' := [(3, .int (nI (i + 1))), (2, .int (orW (fun j => decide (¬ σ.1 14 j = 1)) (fun j => nI (rep ((wdS σ n m c).cn j ((wdS σ n m c).bd j)) u ((wdS σ n m c).s0 j)).1) i)), (0, rf V 4), (1, .int (nI u))]) hx dX4_thoughtsBehind_37 0 rfl (nI_1 i) (by decide) rfl ?_
        refine WS.goto (tgt := 4) hx dX4_thoughtsBehind_40 (by decide) ?_
        have hw : orW (fun j => decide (¬ σ.1 14 j = 1)) (fun j => nI (rep ((wdS σ n m c).cn j ((wdS σ n m c).bd j)) u ((wdS σ n m c).s0 j)).1) (i + 1) = (orW (fun j => decide (¬ σ.1 14 j = 1)) (fun j => nI (rep ((wdS σ n m c).cn j ((wdS σ n m c).bd j)) u ((wdS σ n m c).s0 j)).1) i) := if_neg (by rw [decide_eq_true_eq]; exact fun h => h hb20)
        have h9 := ih (n - (i + 1)) (by (try simp only [i_le, i_lt, i_eq, tI_0, tI_1] at c12); (try simp only [i_le, i_lt, i_eq, tI_0, tI_1] at hb20); (try simp only [i_le, i_lt, i_eq, tI_0, tI_1]); omega) (i + 1) rfl τ (by (try simp only [i_le, i_lt, i_eq, tI_0, tI_1] at c12); (try simp only [i_le, i_lt, i_eq, tI_0, tI_1] at hb20); (try simp only [i_le, i_lt, i_eq, tI_0, tI_1]); omega) hE hLt
        rw [hw] at h9
        exact WS.los [0, 1, 2, 3] rfl h9
      · skip
        show WS layC V 4 X τ 23 [(3, .int (nI i)), (2, .int (orW (fun j => decide (¬ σ.1 14 j = 1)) (fun j => nI (rep ((wdS σ n m c).cn j ((wdS σ n m c).bd j)) u ((wdS σ n m c).s0 j)).1) i)), (0, rf V 4), (1, .int (nI u))] [.int 0]
        rw [h14] at hb20
        refine WS.if_ne (tgt := 37) hx dX4_thoughtsBehind_23 (by decide) (fun h => absurd (by decide) h) (fun _ => ?_)
        refine WS.iload_n hx dX4_thoughtsBehind_26 rfl 1 rfl ?_
        refine WS.iconst (v := 1) hx dX4_thoughtsBehind_27 (by decide) ?_
        refine WS.aload_n hx dX4_thoughtsBehind_28 rfl 2 rfl ?_
        refine WS.iload_n hx dX4_thoughtsBehind_29 rfl 3 rfl ?_
        refine WS.iload_n hx dX4_thoughtsBehind_30 rfl 0 rfl ?_
        refine WS.callVi (st := [.int 1, .int (orW (fun j => decide (¬ σ.1 14 j = 1)) (fun j => nI (rep ((wdS σ n m c).cn j ((wdS σ n m c).bd j)) u ((wdS σ n m c).s0 j)).1) i)]) [.int (nI u), .int (nI i)] hx (c_X4_atBehind V d τ n hQt m c hLt u hu i (by (try simp only [i_le, i_lt, i_eq, tI_0, tI_1] at c12); (try simp only [i_le, i_lt, i_eq, tI_0, tI_1] at hb20); (try simp only [i_le, i_lt, i_eq, tI_0, tI_1]); omega)) okX4_atBehind lm4_50 rfl rfl rfl rfl (Nat.le_of_ble_eq_true rfl) dX4_thoughtsBehind_31 (fun v7 σ8 h9 => ?_)
        obtain ⟨rfl, se31, li31⟩ := h9
        show WS layC V 4 X σ8 34 [(3, .int (nI i)), (2, .int (orW (fun j => decide (¬ σ.1 14 j = 1)) (fun j => nI (rep ((wdS σ n m c).cn j ((wdS σ n m c).bd j)) u ((wdS σ n m c).s0 j)).1) i)), (0, rf V 4), (1, .int (nI u))] [.int (nI (rep ((wdS τ n m c).cn i ((wdS τ n m c).bd i)) u ((wdS τ n m c).s0 i)).1), .int 1, .int (orW (fun j => decide (¬ σ.1 14 j = 1)) (fun j => nI (rep ((wdS σ n m c).cn j ((wdS σ n m c).bd j)) u ((wdS σ n m c).s0 j)).1) i)]
        refine WS.as rfl rfl (congrArg (fun z => Value.int z :: _) (show nI (rep ((wdS τ n m c).cn i ((wdS τ n m c).bd i)) u ((wdS τ n m c).s0 i)).1 = nI (rep ((wdS σ n m c).cn i ((wdS σ n m c).bd i)) u ((wdS σ n m c).s0 i)).1 from by rw [hwt])) ?_
        skip
        refine WS.ishl hx dX4_thoughtsBehind_34 ?_
        refine WS.ior hx dX4_thoughtsBehind_35 ?_
        refine WS.istore_n (lo' := [(2, .int ((orW (fun j => decide (¬ σ.1 14 j = 1)) (fun j => nI (rep ((wdS σ n m c).cn j ((wdS σ n m c).bd j)) u ((wdS σ n m c).s0 j)).1) i) ||| (1 <<< ((nI (rep ((wdS σ n m c).cn i ((wdS σ n m c).bd i)) u ((wdS σ n m c).s0 i)).1) &&& 31)))), (3, .int (nI i)), (0, rf V 4), (1, .int (nI u))]) hx dX4_thoughtsBehind_36 rfl (by decide) rfl ?_
        refine WS.iinc (v := nI (i + 1)) (lo' := [(3, .int (nI (i + 1))), (2, .int ((orW (fun j => decide (¬ σ.1 14 j = 1)) (fun j => nI (rep ((wdS σ n m c).cn j ((wdS σ n m c).bd j)) u ((wdS σ n m c).s0 j)).1) i) ||| (1 <<< ((nI (rep ((wdS σ n m c).cn i ((wdS σ n m c).bd i)) u ((wdS σ n m c).s0 i)).1) &&& 31)))), (0, rf V 4), (1, .int (nI u))]) hx dX4_thoughtsBehind_37 1 rfl (nI_1 i) (by decide) rfl ?_
        refine WS.goto (tgt := 4) hx dX4_thoughtsBehind_40 (by decide) ?_
        have hw : orW (fun j => decide (¬ σ.1 14 j = 1)) (fun j => nI (rep ((wdS σ n m c).cn j ((wdS σ n m c).bd j)) u ((wdS σ n m c).s0 j)).1) (i + 1) = ((orW (fun j => decide (¬ σ.1 14 j = 1)) (fun j => nI (rep ((wdS σ n m c).cn j ((wdS σ n m c).bd j)) u ((wdS σ n m c).s0 j)).1) i) ||| (1 <<< ((nI (rep ((wdS σ n m c).cn i ((wdS σ n m c).bd i)) u ((wdS σ n m c).s0 i)).1) &&& 31))) := if_pos (by rw [decide_eq_true_eq]; exact hb20)
        have h9 := ih (n - (i + 1)) (by (try simp only [i_le, i_lt, i_eq, tI_0, tI_1] at c12); (try simp only [i_le, i_lt, i_eq, tI_0, tI_1] at hb20); (try simp only [i_le, i_lt, i_eq, tI_0, tI_1]); omega) (i + 1) rfl σ8 (by (try simp only [i_le, i_lt, i_eq, tI_0, tI_1] at c12); (try simp only [i_le, i_lt, i_eq, tI_0, tI_1] at hb20); (try simp only [i_le, i_lt, i_eq, tI_0, tI_1]); omega) (hE.tr se31) li31
        rw [hw] at h9
        exact WS.los [0, 1, 2, 3] rfl h9
set_option maxHeartbeats 1000000 in
theorem c_X4_thoughtsBehind (V : Vt) (d : Nat) (σ : Sg) (n : Nat) (hQ : QI σ n) (m c : Nat) (hL : LI V σ m c) (u : Nat) (hu : u ≤ 100) : CT layC V mX4_thoughtsBehind (d + 6) [rf V 4, .int (nI u)] σ (Ri fun v σ' => orW (fun j => decide (¬ σ.1 14 j = 1)) (fun j => nI (rep ((wdS σ n m c).cn j ((wdS σ n m c).bd j)) u ((wdS σ n m c).s0 j)).1) n = v ∧ SE σ σ' ∧ LI V σ' m c) := by
  refine CT.of (own := RX4) rfl (by decide) (Nat.le_of_ble_eq_true rfl) (fun X (hx : Ok V RX4 cX4_thoughtsBehind 4 (d + 6) X) (he : En layC V (some .int) (Ri fun v σ' => orW (fun j => decide (¬ σ.1 14 j = 1)) (fun j => nI (rep ((wdS σ n m c).cn j ((wdS σ n m c).bd j)) u ((wdS σ n m c).s0 j)).1) n = v ∧ SE σ σ' ∧ LI V σ' m c) X) => ?_)
  change WS layC V 4 X σ 0 [(0, rf V 4), (1, .int (nI u))] []
  refine WS.iconst (v := 0) hx dX4_thoughtsBehind_0 (by decide) ?_
  refine WS.istore_n (lo' := [(2, .int 0), (0, rf V 4), (1, .int (nI u))]) hx dX4_thoughtsBehind_1 rfl (by decide) rfl ?_
  refine WS.iconst (v := 0) hx dX4_thoughtsBehind_2 (by decide) ?_
  refine WS.istore_n (lo' := [(3, .int 0), (2, .int 0), (0, rf V 4), (1, .int (nI u))]) hx dX4_thoughtsBehind_3 rfl (by decide) rfl ?_
  exact lp_X4_thoughtsBehind V d σ n hQ m c hL u hu X hx he 0 σ (Nat.zero_le n) SE.rf hL
set_option maxHeartbeats 1000000 in
theorem lp_X4_firstAt (V : Vt) (d : Nat) (σ : Sg) (n : Nat) (hQ : QI σ n) (m c : Nat) (hL : LI V σ m c) (k : Nat) (hk : k < n) (th : Nat) (hth : th < 16) (r : Option Nat) (X : Xt) (hx : Ok V RX4 cX4_firstAt 4 (d + 5) X) (he : En layC V (some .int) (Ri fun v σ' => oN r = v ∧ SE σ σ' ∧ LI V σ' m c) X) : ∀ (j i : Nat) (s : Nat × Nat) (τ : Sg), i + j = 61 → s.1 < 16 → s.2 ≤ 99 → ThE 38 σ τ → LI V τ m c → Tk (wdS σ n m c) ((wdS σ n m c).bd k) τ 38 k s → fsA ((wdS σ n m c).cn k ((wdS σ n m c).bd k)) th j i s = r → WS layC V 4 X τ 10 [(3, .int (nI i)), (0, rf V 4), (1, .int (nI k)), (2, .int (nI th))] [] := by
  intro j
  induction j with
  | zero =>
    intro i s τ hij hs hy hE hLt hT hf
    have hiI : (nI i).toInt = (i : Int) := nI_c (by omega)
    refine WS.iload_n hx dX4_firstAt_10 rfl 0 rfl ?_
    refine WS.bipush (v := 60) hx dX4_firstAt_11 (by decide) ?_
    refine WS.icmp_gt (tgt := 43) hx dX4_firstAt_13 (by decide) (fun c13 => ?_) (fun c13 => by exfalso; (try simp only [i_le, i_lt, i_eq, tI_m2, tI_0, tI_1, tI_60] at c13); (try simp only [i_le, i_lt, i_eq, tI_m2, tI_0, tI_1, tI_60]); omega)
    refine WS.bipush (v := (-2)) hx dX4_firstAt_43 (by decide) ?_
    exact WS.iret hx he dX4_firstAt_45 ⟨_, rfl, by rw [← hf]; rfl, SE.the (by decide) hE, hLt⟩
  | succ j ih =>
    intro i s τ hij hs hy hE hLt hT hf
    have hiI : (nI i).toInt = (i : Int) := nI_c (by omega)
    have hsI : (nI s.1).toInt = (s.1 : Int) := nI_c (by omega)
    have htI : (nI th).toInt = (th : Int) := nI_c (by omega)
    have hQt := hQ.the (by decide) hE
    have hcc := hL.c.2.2
    have hwt : wdS τ n m c = wdS σ n m c := wdS_the (by decide) hE hcc
    have hb0 := bd_r (m := m) (c := c) hQ hk
    have hcr := cn_r (m := m) (c := c) (k := k) (b := (wdS σ n m c).bd k) hQ hs
    unfold fsA at hf
    refine WS.iload_n hx dX4_firstAt_10 rfl 0 rfl ?_
    refine WS.bipush (v := 60) hx dX4_firstAt_11 (by decide) ?_
    refine WS.icmp_gt (tgt := 43) hx dX4_firstAt_13 (by decide) (fun c13 => by exfalso; (try simp only [i_le, i_lt, i_eq, tI_m2, tI_0, tI_1, tI_60] at c13); (try simp only [i_le, i_lt, i_eq, tI_m2, tI_0, tI_1, tI_60]); omega) (fun c13 => ?_)
    refine WS.aload_n hx dX4_firstAt_16 rfl 1 rfl ?_
    refine WS.getR hx okX4 lf4_20 rfl rfl dX4_firstAt_17 ?_
    refine WS.callVi (st := []) [] hx (c_X9_place V (d + 4) τ 38 (by decide)) okX9_place lm4_38 rfl rfl rfl rfl (Nat.le_of_ble_eq_true rfl) dX4_firstAt_20 (fun v1 σ2 h3 => ?_)
    obtain ⟨rfl, rfl⟩ := h3
    show WS layC V 4 X τ 23 [(3, .int (nI i)), (0, rf V 4), (1, .int (nI k)), (2, .int (nI th))] [.int (τ.1 38 4)]
    refine WS.as rfl rfl (congrArg (fun z => Value.int z :: _) (show τ.1 38 4 = nI s.1 from hT.at)) ?_
    skip
    refine WS.iload_n hx dX4_firstAt_23 rfl 3 rfl ?_
    refine WS.icmp_ne (tgt := 29) hx dX4_firstAt_24 (by decide) (fun c24 => ?_) (fun c24 => ?_)
    · skip
      show WS layC V 4 X τ 29 [(3, .int (nI i)), (0, rf V 4), (1, .int (nI k)), (2, .int (nI th))] []
      refine WS.aload_n hx dX4_firstAt_29 rfl 1 rfl ?_
      refine WS.getR hx okX4 lf4_20 rfl rfl dX4_firstAt_30 ?_
      refine WS.iconst (v := 1) hx dX4_firstAt_33 (by decide) ?_
      refine WS.callVv (st := []) [.int 1] hx (ck_pass V d τ 38 (by decide) n hQt m c hLt k hk _ hb0 s hs hy (by rw [hwt]; exact hT) 1 (by decide)) okX9_passCenturies lm4_35 rfl rfl rfl rfl (Nat.le_of_ble_eq_true rfl) dX4_firstAt_34 (fun σ5 h6 => ?_)
      obtain ⟨the34, li34, tk34⟩ := h6
      rw [hwt] at tk34
      show WS layC V 4 X σ5 37 [(3, .int (nI i)), (0, rf V 4), (1, .int (nI k)), (2, .int (nI th))] []
      refine WS.iinc (v := nI (i + 1)) (lo' := [(3, .int (nI (i + 1))), (0, rf V 4), (1, .int (nI k)), (2, .int (nI th))]) hx dX4_firstAt_37 0 rfl (nI_1 i) (by decide) rfl ?_
      refine WS.goto (tgt := 10) hx dX4_firstAt_40 (by decide) ?_
      rw [if_neg (by (try simp only [i_le, i_lt, i_eq, tI_m2, tI_0, tI_1, tI_60] at c13); (try simp only [i_le, i_lt, i_eq, tI_m2, tI_0, tI_1, tI_60] at c24); (try simp only [i_le, i_lt, i_eq, tI_m2, tI_0, tI_1, tI_60]); omega)] at hf
      exact WS.los [0, 1, 2, 3] rfl (ih (i + 1) _ σ5 (by omega) hcr.1 hcr.2 (hE.tr the34) li34 tk34 hf)
    · skip
      show WS layC V 4 X τ 27 [(3, .int (nI i)), (0, rf V 4), (1, .int (nI k)), (2, .int (nI th))] []
      refine WS.iload_n hx dX4_firstAt_27 rfl 0 rfl ?_
      exact WS.iret hx he dX4_firstAt_28 ⟨_, rfl, by rw [if_pos (by (try simp only [i_le, i_lt, i_eq, tI_m2, tI_0, tI_1, tI_60] at c13); (try simp only [i_le, i_lt, i_eq, tI_m2, tI_0, tI_1, tI_60] at c24); (try simp only [i_le, i_lt, i_eq, tI_m2, tI_0, tI_1, tI_60]); omega)] at hf; rw [← hf]; rfl, SE.the (by decide) hE, hLt⟩
set_option maxHeartbeats 1000000 in
theorem c_X4_firstAt (V : Vt) (d : Nat) (σ : Sg) (n : Nat) (hQ : QI σ n) (m c : Nat) (hL : LI V σ m c) (k : Nat) (hk : k < n) (th : Nat) (hth : th < 16) : CT layC V mX4_firstAt (d + 5) [rf V 4, .int (nI k), .int (nI th)] σ (Ri fun v σ' => oN (fsA ((wdS σ n m c).cn k ((wdS σ n m c).bd k)) th 61 0 ((wdS σ n m c).s0 k)) = v ∧ SE σ σ' ∧ LI V σ' m c) := by
  refine CT.of (own := RX4) rfl (by decide) (Nat.le_of_ble_eq_true rfl) (fun X (hx : Ok V RX4 cX4_firstAt 4 (d + 5) X) (he : En layC V (some .int) (Ri fun v σ' => oN (fsA ((wdS σ n m c).cn k ((wdS σ n m c).bd k)) th 61 0 ((wdS σ n m c).s0 k)) = v ∧ SE σ σ' ∧ LI V σ' m c) X) => ?_)
  change WS layC V 4 X σ 0 [(0, rf V 4), (1, .int (nI k)), (2, .int (nI th))] []
  have hb0 := bd_r (m := m) (c := c) hQ hk
  have hr0 := s0_r (m := m) (c := c) hQ hk
  have hcc := hL.c.2.2
  refine WS.aload_n hx dX4_firstAt_0 rfl 0 rfl ?_
  refine WS.getR hx okX4 lf4_20 rfl rfl dX4_firstAt_1 ?_
  refine WS.iload_n hx dX4_firstAt_4 rfl 1 rfl ?_
  refine WS.callVv (st := []) [.int (nI k)] hx (ck_begin V (d + 1) σ 38 (by decide) n hQ m c hL k hk) okX9_begin lm4_27 rfl rfl rfl rfl (Nat.le_of_ble_eq_true rfl) dX4_firstAt_5 (fun σ2 h3 => ?_)
  obtain ⟨the5, li5, tk5⟩ := h3
  show WS layC V 4 X σ2 8 [(0, rf V 4), (1, .int (nI k)), (2, .int (nI th))] []
  refine WS.iconst (v := 0) hx dX4_firstAt_8 (by decide) ?_
  refine WS.istore_n (lo' := [(3, .int 0), (0, rf V 4), (1, .int (nI k)), (2, .int (nI th))]) hx dX4_firstAt_9 rfl (by decide) rfl ?_
  exact WS.los [0, 1, 2, 3] rfl (lp_X4_firstAt V d σ n hQ m c hL k hk th hth _ X hx he 61 0 _ σ2 rfl hr0.1 hr0.2 the5 li5 tk5 rfl)
set_option maxHeartbeats 1000000 in
theorem lp_X4_firstTogether (V : Vt) (d : Nat) (σ : Sg) (n : Nat) (hQ : QI σ n) (m c : Nat) (hL : LI V σ m c) (k : Nat) (hk : k < n) (q : Nat) (hq : q < n) (r : Option Nat) (X : Xt) (hx : Ok V RX4 cX4_firstTogether 4 (d + 5) X) (he : En layC V (some .int) (Ri fun v σ' => oN r = v ∧ SE σ σ' ∧ LI V σ' m c) X) : ∀ (j i : Nat) (s z : Nat × Nat) (τ : Sg), i + j = 61 → s.1 < 16 → s.2 ≤ 99 → z.1 < 16 → z.2 ≤ 99 → SE σ τ → LI V τ m c → Tk (wdS σ n m c) ((wdS σ n m c).bd k) τ 38 k s → Tk (wdS σ n m c) ((wdS σ n m c).bd q) τ 39 q z → fsT ((wdS σ n m c).cn k ((wdS σ n m c).bd k)) ((wdS σ n m c).cn q ((wdS σ n m c).bd q)) j i s z = r → WS layC V 4 X τ 18 [(3, .int (nI i)), (0, rf V 4), (1, .int (nI k)), (2, .int (nI q))] [] := by
  intro j
  induction j with
  | zero =>
    intro i s z τ hij hs hy hz hy2 hE hLt hT hT2 hf
    have hiI : (nI i).toInt = (i : Int) := nI_c (by omega)
    refine WS.iload_n hx dX4_firstTogether_18 rfl 0 rfl ?_
    refine WS.bipush (v := 60) hx dX4_firstTogether_19 (by decide) ?_
    refine WS.icmp_gt (tgt := 65) hx dX4_firstTogether_21 (by decide) (fun c21 => ?_) (fun c21 => by exfalso; (try simp only [i_le, i_lt, i_eq, tI_m2, tI_0, tI_1, tI_60] at c21); (try simp only [i_le, i_lt, i_eq, tI_m2, tI_0, tI_1, tI_60]); omega)
    refine WS.bipush (v := (-2)) hx dX4_firstTogether_65 (by decide) ?_
    exact WS.iret hx he dX4_firstTogether_67 ⟨_, rfl, by rw [← hf]; rfl, hE, hLt⟩
  | succ j ih =>
    intro i s z τ hij hs hy hz hy2 hE hLt hT hT2 hf
    have hiI : (nI i).toInt = (i : Int) := nI_c (by omega)
    have hsI : (nI s.1).toInt = (s.1 : Int) := nI_c (by omega)
    have hzI : (nI z.1).toInt = (z.1 : Int) := nI_c (by omega)
    have hQt := hQ.se hE
    have hcc := hL.c.2.2
    have hwt : wdS τ n m c = wdS σ n m c := wdS_se hE hcc
    have hb0 := bd_r (m := m) (c := c) hQ hk
    have hb1 := bd_r (m := m) (c := c) hQ hq
    have hcr := cn_r (m := m) (c := c) (k := k) (b := (wdS σ n m c).bd k) hQ hs
    have hcq := cn_r (m := m) (c := c) (k := q) (b := (wdS σ n m c).bd q) hQ hz
    unfold fsT at hf
    refine WS.iload_n hx dX4_firstTogether_18 rfl 0 rfl ?_
    refine WS.bipush (v := 60) hx dX4_firstTogether_19 (by decide) ?_
    refine WS.icmp_gt (tgt := 65) hx dX4_firstTogether_21 (by decide) (fun c21 => by exfalso; (try simp only [i_le, i_lt, i_eq, tI_m2, tI_0, tI_1, tI_60] at c21); (try simp only [i_le, i_lt, i_eq, tI_m2, tI_0, tI_1, tI_60]); omega) (fun c21 => ?_)
    refine WS.aload_n hx dX4_firstTogether_24 rfl 1 rfl ?_
    refine WS.getR hx okX4 lf4_20 rfl rfl dX4_firstTogether_25 ?_
    refine WS.callVi (st := []) [] hx (c_X9_place V (d + 4) τ 38 (by decide)) okX9_place lm4_38 rfl rfl rfl rfl (Nat.le_of_ble_eq_true rfl) dX4_firstTogether_28 (fun v1 σ2 h3 => ?_)
    obtain ⟨rfl, rfl⟩ := h3
    show WS layC V 4 X τ 31 [(3, .int (nI i)), (0, rf V 4), (1, .int (nI k)), (2, .int (nI q))] [.int (τ.1 38 4)]
    refine WS.as rfl rfl (congrArg (fun z => Value.int z :: _) (show τ.1 38 4 = nI s.1 from hT.at)) ?_
    skip
    refine WS.aload_n hx dX4_firstTogether_31 rfl 1 rfl ?_
    refine WS.getR hx okX4 lf4_24 rfl rfl dX4_firstTogether_32 ?_
    refine WS.callVi (st := [.int (nI s.1)]) [] hx (c_X9_place V (d + 4) τ 39 (by decide)) okX9_place lm4_38 rfl rfl rfl rfl (Nat.le_of_ble_eq_true rfl) dX4_firstTogether_35 (fun v4 σ5 h6 => ?_)
    obtain ⟨rfl, rfl⟩ := h6
    show WS layC V 4 X τ 38 [(3, .int (nI i)), (0, rf V 4), (1, .int (nI k)), (2, .int (nI q))] [.int (τ.1 39 4), .int (nI s.1)]
    refine WS.as rfl rfl (congrArg (fun z => Value.int z :: _) (show τ.1 39 4 = nI z.1 from hT2.at)) ?_
    skip
    refine WS.icmp_ne (tgt := 43) hx dX4_firstTogether_38 (by decide) (fun c38 => ?_) (fun c38 => ?_)
    · skip
      show WS layC V 4 X τ 43 [(3, .int (nI i)), (0, rf V 4), (1, .int (nI k)), (2, .int (nI q))] []
      refine WS.aload_n hx dX4_firstTogether_43 rfl 1 rfl ?_
      refine WS.getR hx okX4 lf4_20 rfl rfl dX4_firstTogether_44 ?_
      refine WS.iconst (v := 1) hx dX4_firstTogether_47 (by decide) ?_
      refine WS.callVv (st := []) [.int 1] hx (ck_pass V d τ 38 (by decide) n hQt m c hLt k hk _ hb0 s hs hy (by rw [hwt]; exact hT) 1 (by decide)) okX9_passCenturies lm4_35 rfl rfl rfl rfl (Nat.le_of_ble_eq_true rfl) dX4_firstTogether_48 (fun σ8 h9 => ?_)
      obtain ⟨the48, li48, tk48⟩ := h9
      rw [hwt] at tk48
      have hQ48 := hQt.the (by decide) the48
      have hw48 : wdS σ8 n m c = wdS σ n m c := (wdS_the (by decide) the48 hcc).trans hwt
      show WS layC V 4 X σ8 51 [(3, .int (nI i)), (0, rf V 4), (1, .int (nI k)), (2, .int (nI q))] []
      refine WS.aload_n hx dX4_firstTogether_51 rfl 1 rfl ?_
      refine WS.getR hx okX4 lf4_24 rfl rfl dX4_firstTogether_52 ?_
      refine WS.iconst (v := 1) hx dX4_firstTogether_55 (by decide) ?_
      refine WS.callVv (st := []) [.int 1] hx (ck_pass V d σ8 39 (by decide) n hQ48 m c li48 q hq _ hb1 z hz hy2 (by rw [hw48]; exact hT2.ne (by decide) (by decide) the48) 1 (by decide)) okX9_passCenturies lm4_35 rfl rfl rfl rfl (Nat.le_of_ble_eq_true rfl) dX4_firstTogether_56 (fun σ11 h12 => ?_)
      obtain ⟨the56, li56, tk56⟩ := h12
      rw [hw48] at tk56
      show WS layC V 4 X σ11 59 [(3, .int (nI i)), (0, rf V 4), (1, .int (nI k)), (2, .int (nI q))] []
      refine WS.iinc (v := nI (i + 1)) (lo' := [(3, .int (nI (i + 1))), (0, rf V 4), (1, .int (nI k)), (2, .int (nI q))]) hx dX4_firstTogether_59 0 rfl (nI_1 i) (by decide) rfl ?_
      refine WS.goto (tgt := 18) hx dX4_firstTogether_62 (by decide) ?_
      rw [if_neg (by (try simp only [i_le, i_lt, i_eq, tI_m2, tI_0, tI_1, tI_60] at c21); (try simp only [i_le, i_lt, i_eq, tI_m2, tI_0, tI_1, tI_60] at c38); (try simp only [i_le, i_lt, i_eq, tI_m2, tI_0, tI_1, tI_60]); omega)] at hf
      exact WS.los [0, 1, 2, 3] rfl (ih (i + 1) _ _ σ11 (by omega) hcr.1 hcr.2 hcq.1 hcq.2 ((hE.tr (SE.the (by decide) the48)).tr (SE.the (by decide) the56)) li56 (tk48.ne (by decide) (by decide) the56) tk56 hf)
    · skip
      show WS layC V 4 X τ 41 [(3, .int (nI i)), (0, rf V 4), (1, .int (nI k)), (2, .int (nI q))] []
      refine WS.iload_n hx dX4_firstTogether_41 rfl 0 rfl ?_
      exact WS.iret hx he dX4_firstTogether_42 ⟨_, rfl, by rw [if_pos (by (try simp only [i_le, i_lt, i_eq, tI_m2, tI_0, tI_1, tI_60] at c21); (try simp only [i_le, i_lt, i_eq, tI_m2, tI_0, tI_1, tI_60] at c38); (try simp only [i_le, i_lt, i_eq, tI_m2, tI_0, tI_1, tI_60]); omega)] at hf; rw [← hf]; rfl, hE, hLt⟩
set_option maxHeartbeats 1000000 in
theorem c_X4_firstTogether (V : Vt) (d : Nat) (σ : Sg) (n : Nat) (hQ : QI σ n) (m c : Nat) (hL : LI V σ m c) (k : Nat) (hk : k < n) (q : Nat) (hq : q < n) : CT layC V mX4_firstTogether (d + 5) [rf V 4, .int (nI k), .int (nI q)] σ (Ri fun v σ' => oN (fsT ((wdS σ n m c).cn k ((wdS σ n m c).bd k)) ((wdS σ n m c).cn q ((wdS σ n m c).bd q)) 61 0 ((wdS σ n m c).s0 k) ((wdS σ n m c).s0 q)) = v ∧ SE σ σ' ∧ LI V σ' m c) := by
  refine CT.of (own := RX4) rfl (by decide) (Nat.le_of_ble_eq_true rfl) (fun X (hx : Ok V RX4 cX4_firstTogether 4 (d + 5) X) (he : En layC V (some .int) (Ri fun v σ' => oN (fsT ((wdS σ n m c).cn k ((wdS σ n m c).bd k)) ((wdS σ n m c).cn q ((wdS σ n m c).bd q)) 61 0 ((wdS σ n m c).s0 k) ((wdS σ n m c).s0 q)) = v ∧ SE σ σ' ∧ LI V σ' m c) X) => ?_)
  change WS layC V 4 X σ 0 [(0, rf V 4), (1, .int (nI k)), (2, .int (nI q))] []
  have hb0 := bd_r (m := m) (c := c) hQ hk
  have hr0 := s0_r (m := m) (c := c) hQ hk
  have hcc := hL.c.2.2
  have hr1 := s0_r (m := m) (c := c) hQ hq
  refine WS.aload_n hx dX4_firstTogether_0 rfl 0 rfl ?_
  refine WS.getR hx okX4 lf4_20 rfl rfl dX4_firstTogether_1 ?_
  refine WS.iload_n hx dX4_firstTogether_4 rfl 1 rfl ?_
  refine WS.callVv (st := []) [.int (nI k)] hx (ck_begin V (d + 1) σ 38 (by decide) n hQ m c hL k hk) okX9_begin lm4_27 rfl rfl rfl rfl (Nat.le_of_ble_eq_true rfl) dX4_firstTogether_5 (fun σ2 h3 => ?_)
  obtain ⟨the5, li5, tk5⟩ := h3
  have hQ5 := hQ.se (SE.the (by decide) the5)
  have hw5 : wdS σ2 n m c = wdS σ n m c := wdS_the (by decide) the5 hcc
  show WS layC V 4 X σ2 8 [(0, rf V 4), (1, .int (nI k)), (2, .int (nI q))] []
  refine WS.aload_n hx dX4_firstTogether_8 rfl 0 rfl ?_
  refine WS.getR hx okX4 lf4_24 rfl rfl dX4_firstTogether_9 ?_
  refine WS.iload_n hx dX4_firstTogether_12 rfl 2 rfl ?_
  refine WS.callVv (st := []) [.int (nI q)] hx (ck_begin V (d + 1) σ2 39 (by decide) n hQ5 m c li5 q hq) okX9_begin lm4_27 rfl rfl rfl rfl (Nat.le_of_ble_eq_true rfl) dX4_firstTogether_13 (fun σ5 h6 => ?_)
  obtain ⟨the13, li13, tk13⟩ := h6
  rw [hw5] at tk13
  show WS layC V 4 X σ5 16 [(0, rf V 4), (1, .int (nI k)), (2, .int (nI q))] []
  refine WS.iconst (v := 0) hx dX4_firstTogether_16 (by decide) ?_
  refine WS.istore_n (lo' := [(3, .int 0), (0, rf V 4), (1, .int (nI k)), (2, .int (nI q))]) hx dX4_firstTogether_17 rfl (by decide) rfl ?_
  exact WS.los [0, 1, 2, 3] rfl (lp_X4_firstTogether V d σ n hQ m c hL k hk q hq _ X hx he 61 0 _ _ σ5 rfl hr0.1 hr0.2 hr1.1 hr1.2 ((SE.the (by decide) the5).tr (SE.the (by decide) the13)) li13 (tk5.ne (by decide) (by decide) the13) tk13 rfl)

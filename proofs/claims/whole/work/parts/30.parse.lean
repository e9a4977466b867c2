/-- reading the law: the place, how many codes, the codes, the names' bits -/
abbrev Ps : Type := Nat × Nat × (Nat → Int32) × Int32
def cm (t : Nat → Int32) (L : Nat) (s : Ps) : Int32 := if s.1 < L then t s.1 else -1
def adv (s : Ps) : Ps := (s.1 + 1, s.2)
def wr (c : Int32) (s : Ps) : Ps := if s.2.1 < 128 then (s.1, s.2.1 + 1, upd s.2.2.1 s.2.1 c, s.2.2.2) else s
def isDg (c : Int32) : Bool := decide (48 ≤ c.toInt ∧ c.toInt ≤ 57)
def nmF (c : Int32) : Int32 := if c = 97 then 1 else if c = 98 then 0 else if c = 110 then 3 else if c = 111 then 4 else if c = 119 then 2 else if c = 121 then 5 else -1
def nbF (t : Nat → Int32) (L : Nat) : Nat → Int32 → Ps → Int32 × Ps
  | 0, v, s => (v, s)
  | u + 1, v, s => if isDg (cm t L s) = true then nbF t L u (v * 10 + cm t L s - 48) (adv s) else (v, s)
def nuF (t : Nat → Int32) (L : Nat) (s : Ps) : Ps := wr (nbF t L 4 0 s).1 (nbF t L 4 0 s).2
def naF (k : Int32) (s : Ps) : Ps := adv (wr (-1 - k) (s.1, s.2.1, s.2.2.1, s.2.2.2 ||| zt_f 1 (nn k)))
def lpF (t : Nat → Int32) (L : Nat) (test : Int32 → Bool) (sub : Ps → Bool × Ps) : Nat → Bool × Ps → Bool × Ps
  | 0, r => r
  | u + 1, r => if r.1 = true ∧ test (cm t L r.2) = true then lpF t L test sub u ((sub (adv r.2)).1, wr (-(cm t L r.2)) (sub (adv r.2)).2) else r
def tP (c : Int32) : Bool := decide (c = 42 ∨ c = 47 ∨ c = 37)
def tS (c : Int32) : Bool := decide (c = 43 ∨ c = 45)
def tB (c : Int32) : Bool := decide (c = 60 ∨ c = 61 ∨ c = 62)
def tA (c : Int32) : Bool := decide (c = 38)
def tE (c : Int32) : Bool := decide (c = 124)
def pPF (t : Nat → Int32) (L : Nat) (o : Ps → Bool × Ps) (s : Ps) : Bool × Ps := lpF t L tP o 120 (o s)
def pSF (t : Nat → Int32) (L : Nat) (o : Ps → Bool × Ps) (s : Ps) : Bool × Ps := lpF t L tS (pPF t L o) 120 (pPF t L o s)
def pBF (t : Nat → Int32) (L : Nat) (o : Ps → Bool × Ps) (s : Ps) : Bool × Ps := if (pSF t L o s).1 = true ∧ tB (cm t L (pSF t L o s).2) = true then ((pSF t L o (adv (pSF t L o s).2)).1, wr (-(cm t L (pSF t L o s).2)) (pSF t L o (adv (pSF t L o s).2)).2) else pSF t L o s
def pAF (t : Nat → Int32) (L : Nat) (o : Ps → Bool × Ps) (s : Ps) : Bool × Ps := lpF t L tA (pBF t L o) 120 (pBF t L o s)
def pEF (t : Nat → Int32) (L : Nat) (o : Ps → Bool × Ps) (s : Ps) : Bool × Ps := lpF t L tE (pAF t L o) 120 (pAF t L o s)
def brF (t : Nat → Int32) (L : Nat) (o : Ps → Bool × Ps) (s : Ps) : Bool × Ps := if (pEF t L o s).1 = true ∧ cm t L (pEF t L o s).2 = 41 then (true, adv (pEF t L o s).2) else (false, (pEF t L o s).2)
def sgF (o : Ps → Bool × Ps) (c : Int32) (s : Ps) : Bool × Ps := ((o s).1, wr (if c = 45 then -126 else -c) (o s).2)
def oF (t : Nat → Int32) (L : Nat) : Nat → Ps → Bool × Ps
  | k, s =>
    if isDg (cm t L s) = true then (true, nuF t L s)
    else if nmF (cm t L s) = -1 then
      (match k with
      | 0 => (false, s)
      | k + 1 => if cm t L s = 40 then brF t L (oF t L k) (adv s) else if cm t L s = 33 ∨ cm t L s = 45 then sgF (oF t L k) (cm t L s) (adv s) else (false, s))
    else (true, naF (nmF (cm t L s)) s)
def PB (V : Vt) (σ0 : Sg) (d9 L : Nat) : Prop := (d9 = 19 ∨ d9 = 20) ∧ L ≤ 120 ∧ σ0.1 2 7 = nI L ∧ σ0.2.2 2 6 = rf V 3 ∧ σ0.2.2 2 1 = rf V d9
def PS (σ0 τ : Sg) (d9 L : Nat) (s : Ps) : Prop := (∀ q, q ≠ 2 → q ≠ d9 → τ.1 q = σ0.1 q) ∧ τ.2 = σ0.2 ∧ τ.1 2 8 = nI s.1 ∧ τ.1 2 3 = nI s.2.1 ∧ τ.1 2 5 = s.2.2.2 ∧ τ.1 d9 = s.2.2.1 ∧ (∀ j, j ≠ 3 → j ≠ 5 → j ≠ 8 → τ.1 2 j = σ0.1 2 j) ∧ s.1 ≤ L ∧ s.2.1 ≤ 128
theorem PB.lay {V : Vt} {σ0 : Sg} {d9 L : Nat} (h : PB V σ0 d9 L) : layC[d9]? = some (.inr (.inl (0, 128))) := by rcases h.1 with rfl | rfl <;> rfl
theorem PB.n2 {V : Vt} {σ0 : Sg} {d9 L : Nat} (h : PB V σ0 d9 L) : d9 ≠ 2 := by rcases h.1 with rfl | rfl <;> decide
theorem PS.ad {V : Vt} {σ0 τ : Sg} {d9 L : Nat} {s : Ps} (hB : PB V σ0 d9 L) (h : PS σ0 τ d9 L s) (hl : s.1 < L) : PS σ0 (stI τ 2 8 (nI (s.1 + 1))) d9 L (adv s) := by
  obtain ⟨h1, h2, h3, h4, h5, h6, h7, h8, h9⟩ := h
  exact ⟨fun q a b => (stI_o _ _ _ _ a).trans (h1 q a b), h2, stI_1 _ _ _ _, (stI_k _ _ _ _ (by decide)).trans h4, (stI_k _ _ _ _ (by decide)).trans h5, by rw [stI_o _ _ _ _ hB.n2]; exact h6, fun j a b c => (stI_k _ _ _ _ c).trans (h7 j a b c), hl, h9⟩
theorem cm_lt {t : Nat → Int32} {L : Nat} {s : Ps} (h : ¬ cm t L s = -1) : s.1 < L := by
  rcases Nat.lt_or_ge s.1 L with q | q
  · exact q
  · exact absurd (if_neg (by omega)) h
set_option maxHeartbeats 1000000 in
theorem c_X5_comes (V : Vt) (d : Nat) (σ : Sg) (σ0 : Sg) (d9 L : Nat) (hB : PB V σ0 d9 L) (s : Ps) (hS : PS σ0 σ d9 L s) : CT layC V mX5_comes (d) [rf V 2] σ (Ro (cm (σ0.1 3) L s) σ) := by
  refine CT.of (own := RX5) rfl (by decide) (Nat.le_of_ble_eq_true rfl) (fun X (hx : Ok V RX5 cX5_comes 1 (d) X) (he : En layC V (some .int) (Ro (cm (σ0.1 3) L s) σ) X) => ?_)
  change WS layC V 1 X σ 0 [(0, rf V 2)] []
  obtain ⟨h1, h2, h3, h4, h5, h6, h7, h8, h9⟩ := id hS
  have hL := hB.2.1
  have hpI : (nI s.1).toInt = (s.1 : Int) := nI_c (by omega)
  have hLI : (nI L).toInt = (L : Int) := nI_c (by omega)
  refine WS.aload_n hx dX5_comes_0 rfl 0 rfl ?_
  refine WS.getI hx okX5 lf5_40 rfl rfl dX5_comes_1 ?_
  refine WS.as rfl rfl (congrArg (fun z => Value.int z :: _) (show σ.1 2 8 = nI s.1 from h3)) ?_
  skip
  refine WS.aload_n hx dX5_comes_4 rfl 0 rfl ?_
  refine WS.getI hx okX5 lf5_36 rfl rfl dX5_comes_5 ?_
  refine WS.as rfl rfl (congrArg (fun z => Value.int z :: _) (show σ.1 2 7 = nI L from (h7 7 (by decide) (by decide) (by decide)).trans hB.2.2.1)) ?_
  skip
  refine WS.icmp_ge (tgt := 23) hx dX5_comes_8 (by decide) (fun c8 => ?_) (fun c8 => ?_)
  · skip
    show WS layC V 1 X σ 23 [(0, rf V 2)] []
    refine WS.iconst (v := (-1)) hx dX5_comes_23 (by decide) ?_
    exact WS.iret hx he dX5_comes_24 (Ro.i (if_neg (by (try simp only [i_le, i_lt, i_eq, tI_m1, tI_0, tI_1] at c8); (try simp only [i_le, i_lt, i_eq, tI_m1, tI_0, tI_1]); omega)))
  · skip
    show WS layC V 1 X σ 11 [(0, rf V 2)] []
    refine WS.aload_n hx dX5_comes_11 rfl 0 rfl ?_
    refine WS.getT hx okX5 lf5_27 rfl rfl dX5_comes_12 ?_
    refine WS.as rfl rfl (congrArg (· :: _) (show σ.2.2 2 6 = rf V 3 from by rw [h2]; exact hB.2.2.2.1)) ?_
    refine WS.aload_n hx dX5_comes_15 rfl 0 rfl ?_
    refine WS.getI hx okX5 lf5_40 rfl rfl dX5_comes_16 ?_
    refine WS.as rfl rfl (congrArg (fun z => Value.int z :: _) (show σ.1 2 8 = nI s.1 from h3)) ?_
    skip
    refine WS.iald hx rfl (vp_in_nI (by (try simp only [i_le, i_lt, i_eq, tI_m1, tI_0, tI_1] at c8); omega) (by decide)) dX5_comes_19 ?_
    refine WS.as rfl rfl (congrArg (fun z => Value.int z :: _) (show σ.1 3 (nn (nI s.1)) = σ0.1 3 s.1 from by rw [nn_nI (by omega), h1 3 (by decide) (by rcases hB.1 with rfl | rfl <;> decide)])) ?_
    skip
    refine WS.goto (tgt := 24) hx dX5_comes_20 (by decide) ?_
    exact WS.iret hx he dX5_comes_24 (Ro.i (if_pos (by (try simp only [i_le, i_lt, i_eq, tI_m1, tI_0, tI_1] at c8); (try simp only [i_le, i_lt, i_eq, tI_m1, tI_0, tI_1]); omega)))
set_option maxHeartbeats 1000000 in
theorem c_X5_write (V : Vt) (d : Nat) (σ : Sg) (σ0 : Sg) (d9 L : Nat) (hB : PB V σ0 d9 L) (s : Ps) (hS : PS σ0 σ d9 L s) (c : Int32) : CT layC V mX5_write (d) [rf V 2, .int c] σ (Rv fun σ' => PS σ0 σ' d9 L (wr c s)) := by
  refine CT.of (own := RX5) rfl (by decide) (Nat.le_of_ble_eq_true rfl) (fun X (hx : Ok V RX5 cX5_write 2 (d) X) (he : En layC V none (Rv fun σ' => PS σ0 σ' d9 L (wr c s)) X) => ?_)
  change WS layC V 2 X σ 0 [(0, rf V 2), (1, .int c)] []
  obtain ⟨h1, h2, h3, h4, h5, h6, h7, h8, h9⟩ := id hS
  have hlI : (nI s.2.1).toInt = (s.2.1 : Int) := nI_c (by omega)
  have hn2 := hB.n2
  refine WS.aload_n hx dX5_write_0 rfl 0 rfl ?_
  refine WS.getI hx okX5 lf5_43 rfl rfl dX5_write_1 ?_
  refine WS.as rfl rfl (congrArg (fun z => Value.int z :: _) (show σ.1 2 3 = nI s.2.1 from h4)) ?_
  skip
  refine WS.sipush (v := 128) hx dX5_write_4 (by decide) ?_
  refine WS.icmp_lt (tgt := 11) hx dX5_write_7 (by decide) (fun c7 => ?_) (fun c7 => ?_)
  · skip
    show WS layC V 2 X σ 11 [(0, rf V 2), (1, .int c)] []
    refine WS.aload_n hx dX5_write_11 rfl 0 rfl ?_
    refine WS.getT hx okX5 lf5_15 rfl rfl dX5_write_12 ?_
    refine WS.as rfl rfl (congrArg (· :: _) (show σ.2.2 2 1 = rf V d9 from by rw [h2]; exact hB.2.2.2.2)) ?_
    refine WS.aload_n hx dX5_write_15 rfl 0 rfl ?_
    refine WS.getI hx okX5 lf5_43 rfl rfl dX5_write_16 ?_
    refine WS.as rfl rfl (congrArg (fun z => Value.int z :: _) (show σ.1 2 3 = nI s.2.1 from h4)) ?_
    skip
    refine WS.iload_n hx dX5_write_19 rfl 1 rfl ?_
    refine WS.iast hx hB.lay (vp_in_nI (by (try simp only [i_le, i_lt, i_eq, tI_0, tI_1, tI_128] at c7); omega) (by decide)) dX5_write_20 ?_
    refine WS.aload_n hx dX5_write_21 rfl 0 rfl ?_
    refine WS.dup hx dX5_write_22 rfl ?_
    refine WS.getI hx okX5 lf5_43 rfl rfl dX5_write_23 ?_
    refine WS.as rfl rfl (congrArg (fun z => Value.int z :: _) (show (stI σ d9 (nn (nI s.2.1)) c).1 2 3 = nI s.2.1 from by rw [stI_o _ _ _ _ (Ne.symm hn2)]; exact h4)) ?_
    skip
    refine WS.iconst (v := 1) hx dX5_write_26 (by decide) ?_
    refine WS.iadd hx dX5_write_27 ?_
    refine WS.as rfl rfl (congrArg (fun z => Value.int z :: _) (show (nI s.2.1) + 1 = nI (s.2.1 + 1) from nI_1 _)) ?_
    skip
    refine WS.putI hx okX5 lf5_43 rfl rfl rfl rfl dX5_write_28 ?_
    exact WS.vret hx he dX5_write_31 ⟨rfl, by rw [show wr c s = _ from if_pos (by (try simp only [i_le, i_lt, i_eq, tI_0, tI_1, tI_128] at c7); (try simp only [i_le, i_lt, i_eq, tI_0, tI_1, tI_128]); omega)]; exact ⟨fun q a b => (stI_o _ _ _ _ a).trans ((stI_o _ _ _ _ b).trans (h1 q a b)), h2, (stI_k _ _ _ _ (by decide)).trans ((congrFun (stI_o _ _ _ _ (Ne.symm hn2)) 8).trans h3), stI_1 _ _ _ _, (stI_k _ _ _ _ (by decide)).trans ((congrFun (stI_o _ _ _ _ (Ne.symm hn2)) 5).trans h5), by rw [stI_o _ _ _ _ hn2, nI_clamp (show s.2.1 < 2 ^ 31 by omega), ← h6]; simp [stI, va_up], fun j a b e => (stI_k _ _ _ _ a).trans ((congrFun (stI_o _ _ _ _ (Ne.symm hn2)) j).trans (h7 j a b e)), h8, by show s.2.1 + 1 ≤ 128; (try simp only [i_le, i_lt, i_eq, tI_0, tI_1, tI_128] at c7); (try simp only [i_le, i_lt, i_eq, tI_0, tI_1, tI_128]); omega⟩⟩
  · skip
    show WS layC V 2 X σ 10 [(0, rf V 2), (1, .int c)] []
    exact WS.vret hx he dX5_write_10 ⟨rfl, by rw [show wr c s = s from if_neg (by (try simp only [i_le, i_lt, i_eq, tI_0, tI_1, tI_128] at c7); (try simp only [i_le, i_lt, i_eq, tI_0, tI_1, tI_128]); omega)]; exact hS⟩
set_option maxHeartbeats 1000000 in
theorem c_X5_isDigit (V : Vt) (d : Nat) (σ : Sg) (c : Int32) : CT layC V mX5_isDigit (d) [.int c] σ (Rb (isDg c = true) σ) := by
  refine CT.of (own := RX5) rfl (by decide) (Nat.le_of_ble_eq_true rfl) (fun X (hx : Ok V RX5 cX5_isDigit 1 (d) X) (he : En layC V (some .boolean) (Rb (isDg c = true) σ) X) => ?_)
  change WS layC V 1 X σ 0 [(0, .int c)] []
  refine WS.iload_n hx dX5_isDigit_0 rfl 0 rfl ?_
  refine WS.bipush (v := 48) hx dX5_isDigit_1 (by decide) ?_
  refine WS.icmp_lt (tgt := 16) hx dX5_isDigit_3 (by decide) (fun c3 => ?_) (fun c3 => ?_)
  · skip
    show WS layC V 1 X σ 16 [(0, .int c)] []
    refine WS.iconst (v := 0) hx dX5_isDigit_16 (by decide) ?_
    exact WS.zret hx he dX5_isDigit_17 (Or.inl rfl) (Rb.f (by unfold isDg; rw [decide_eq_true_eq]; (try simp only [i_le, i_lt, i_eq, tI_0, tI_1, tI_48, tI_57] at c3); (try simp only [i_le, i_lt, i_eq, tI_0, tI_1, tI_48, tI_57]); omega))
  · skip
    show WS layC V 1 X σ 6 [(0, .int c)] []
    refine WS.iload_n hx dX5_isDigit_6 rfl 0 rfl ?_
    refine WS.bipush (v := 57) hx dX5_isDigit_7 (by decide) ?_
    refine WS.icmp_gt (tgt := 16) hx dX5_isDigit_9 (by decide) (fun c9 => ?_) (fun c9 => ?_)
    · skip
      show WS layC V 1 X σ 16 [(0, .int c)] []
      refine WS.iconst (v := 0) hx dX5_isDigit_16 (by decide) ?_
      exact WS.zret hx he dX5_isDigit_17 (Or.inl rfl) (Rb.f (by unfold isDg; rw [decide_eq_true_eq]; (try simp only [i_le, i_lt, i_eq, tI_0, tI_1, tI_48, tI_57] at c3); (try simp only [i_le, i_lt, i_eq, tI_0, tI_1, tI_48, tI_57] at c9); (try simp only [i_le, i_lt, i_eq, tI_0, tI_1, tI_48, tI_57]); omega))
    · skip
      show WS layC V 1 X σ 12 [(0, .int c)] []
      refine WS.iconst (v := 1) hx dX5_isDigit_12 (by decide) ?_
      refine WS.goto (tgt := 17) hx dX5_isDigit_13 (by decide) ?_
      exact WS.zret hx he dX5_isDigit_17 (Or.inr rfl) (Rb.t (by unfold isDg; rw [decide_eq_true_eq]; (try simp only [i_le, i_lt, i_eq, tI_0, tI_1, tI_48, tI_57] at c3); (try simp only [i_le, i_lt, i_eq, tI_0, tI_1, tI_48, tI_57] at c9); (try simp only [i_le, i_lt, i_eq, tI_0, tI_1, tI_48, tI_57]); omega))
set_option maxHeartbeats 1000000 in
theorem c_X5_nameOf (V : Vt) (d : Nat) (σ : Sg) (c : Int32) : CT layC V mX5_nameOf (d) [.int c] σ (Ro (nmF c) σ) := by
  refine CT.of (own := RX5) rfl (by decide) (Nat.le_of_ble_eq_true rfl) (fun X (hx : Ok V RX5 cX5_nameOf 1 (d) X) (he : En layC V (some .int) (Ro (nmF c) σ) X) => ?_)
  change WS layC V 1 X σ 0 [(0, .int c)] []
  refine WS.iload_n hx dX5_nameOf_0 rfl 0 rfl ?_
  by_cases s1_97 : c = 97
  · refine WS.lookup (off := 61) (tgt := 62) hx dX5_nameOf_1 (by decide) (by rw [s1_97]; decide) (by decide) ?_
    show WS layC V 1 X σ 62 [(0, .int c)] []
    refine WS.iconst (v := 1) hx dX5_nameOf_62 (by decide) ?_
    exact WS.iret hx he dX5_nameOf_63 (Ro.i (by simp [nmF, *]))
  by_cases s1_98 : c = 98
  · refine WS.lookup (off := 59) (tgt := 60) hx dX5_nameOf_1 (by decide) (by rw [s1_98]; decide) (by decide) ?_
    show WS layC V 1 X σ 60 [(0, .int c)] []
    refine WS.iconst (v := 0) hx dX5_nameOf_60 (by decide) ?_
    exact WS.iret hx he dX5_nameOf_61 (Ro.i (by simp [nmF, *]))
  by_cases s1_110 : c = 110
  · refine WS.lookup (off := 65) (tgt := 66) hx dX5_nameOf_1 (by decide) (by rw [s1_110]; decide) (by decide) ?_
    show WS layC V 1 X σ 66 [(0, .int c)] []
    refine WS.iconst (v := 3) hx dX5_nameOf_66 (by decide) ?_
    exact WS.iret hx he dX5_nameOf_67 (Ro.i (by simp [nmF, *]))
  by_cases s1_111 : c = 111
  · refine WS.lookup (off := 67) (tgt := 68) hx dX5_nameOf_1 (by decide) (by rw [s1_111]; decide) (by decide) ?_
    show WS layC V 1 X σ 68 [(0, .int c)] []
    refine WS.iconst (v := 4) hx dX5_nameOf_68 (by decide) ?_
    exact WS.iret hx he dX5_nameOf_69 (Ro.i (by simp [nmF, *]))
  by_cases s1_119 : c = 119
  · refine WS.lookup (off := 63) (tgt := 64) hx dX5_nameOf_1 (by decide) (by rw [s1_119]; decide) (by decide) ?_
    show WS layC V 1 X σ 64 [(0, .int c)] []
    refine WS.iconst (v := 2) hx dX5_nameOf_64 (by decide) ?_
    exact WS.iret hx he dX5_nameOf_65 (Ro.i (by simp [nmF, *]))
  by_cases s1_121 : c = 121
  · refine WS.lookup (off := 69) (tgt := 70) hx dX5_nameOf_1 (by decide) (by rw [s1_121]; decide) (by decide) ?_
    show WS layC V 1 X σ 70 [(0, .int c)] []
    refine WS.iconst (v := 5) hx dX5_nameOf_70 (by decide) ?_
    exact WS.iret hx he dX5_nameOf_71 (Ro.i (by simp [nmF, *]))
  refine WS.lookup (off := 71) (tgt := 72) hx dX5_nameOf_1 (by decide) (sw_c s1_97 rfl (sw_c s1_98 rfl (sw_c s1_110 rfl (sw_c s1_111 rfl (sw_c s1_119 rfl (sw_c s1_121 rfl rfl)))))) (by decide) ?_
  show WS layC V 1 X σ 72 [(0, .int c)] []
  refine WS.iconst (v := (-1)) hx dX5_nameOf_72 (by decide) ?_
  exact WS.iret hx he dX5_nameOf_73 (Ro.i (by simp [nmF, *]))
theorem nmF_r {c : Int32} (h : ¬ nmF c = -1) : 0 ≤ (nmF c).toInt ∧ (nmF c).toInt ≤ 5 := by
  have e : nmF c = 0 ∨ nmF c = 1 ∨ nmF c = 2 ∨ nmF c = 3 ∨ nmF c = 4 ∨ nmF c = 5 ∨ nmF c = -1 := by
    unfold nmF
    split
    · simp
    · split
      · simp
      · split
        · simp
        · split
          · simp
          · split
            · simp
            · split <;> simp
  rcases e with e | e | e | e | e | e | e
  · rw [e]; decide
  · rw [e]; decide
  · rw [e]; decide
  · rw [e]; decide
  · rw [e]; decide
  · rw [e]; decide
  · exact absurd e h

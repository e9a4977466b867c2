/-- the words foretold, if one is opened ahead of each century -/
def ftS (W : Wd) (k : Nat) : Nat → Nat × Nat
  | 0 => W.s0 k
  | c + 1 => cen W.1 W.2.1 W.2.2.1 k (W.bd k) (W.2.2.2.2.2.1 + (c + 1)) (W.2.2.2.2.2.2.1 k) (ftS W k c)
def ftA (W : Wd) (k : Nat) (f : Nat → Int32) (i : Nat) : Nat → Int32 := fun j => if j % 10 = k ∧ j / 10 < i then W.2.2.1 (ftS W k (j / 10)).1 else f j
theorem ftA_s {W : Wd} {k i : Nat} {f : Nat → Int32} (hk : k < 10) : upd (ftA W k f i) (10 * i + k) (W.2.2.1 (ftS W k i).1) = ftA W k f (i + 1) := by
  funext j
  unfold upd ftA
  by_cases e : j = 10 * i + k
  · have e1 : j / 10 = i := by omega
    rw [if_pos e, if_pos (by omega), e1]
  · rw [if_neg e]
    simp only [show (j % 10 = k ∧ j / 10 < i + 1) ↔ (j % 10 = k ∧ j / 10 < i) by omega]
theorem ftA_0 {W : Wd} {k : Nat} {f : Nat → Int32} : ftA W k f 0 = f := by funext j; simp [ftA]
def FE (σ τ : Sg) : Prop := (∀ q, q ≠ 21 → q ≠ 22 → q ≠ 23 → q ≠ 24 → q ≠ 40 → τ.1 q = σ.1 q) ∧ τ.2 = σ.2
theorem FE.se {σ τ : Sg} (h : FE σ τ) : SE σ τ := ⟨fun q hq => h.1 q (by unfold scr at hq; omega) (by unfold scr at hq; omega) (by unfold scr at hq; omega) (by unfold scr at hq; omega) (by unfold scr at hq; omega), h.2⟩
theorem FE.tr {σ τ υ : Sg} (h : FE σ τ) (g : FE τ υ) : FE σ υ := ⟨fun q a b c d e => (g.1 q a b c d e).trans (h.1 q a b c d e), g.2.trans h.2⟩
theorem FE.the {σ τ : Sg} (h : ThE 40 σ τ) : FE σ τ := ⟨fun q a b c _ e => h.1 q a b c e, h.2⟩
theorem FE.st {σ : Sg} {k : Nat} {v : Int32} : FE σ (stI σ 24 k v) := ⟨fun q _ _ _ d _ => stI_o _ _ _ _ d, rfl⟩
theorem ftS_r {σ : Sg} {n m c k : Nat} (hQ : QI σ n) (hk : k < n) : ∀ i, (ftS (wdS σ n m c) k i).1 < 16 ∧ (ftS (wdS σ n m c) k i).2 ≤ 99
  | 0 => s0_r hQ hk
  | i + 1 => cen_r (fun a ha => (hQ.L ha).2) (ftS_r hQ hk i).1
set_option maxHeartbeats 1000000 in
theorem lp_X6_foretell (V : Vt) (d : Nat) (σ : Sg) (n : Nat) (hQ : QI σ n) (m c : Nat) (hL : LI V σ m c) (k : Nat) (hk : k < n) (X : Xt) (hx : Ok V RX6 cX6_foretell 4 (d + 4) X) (he : En layC V none (Rv fun σ' => FE σ σ' ∧ σ'.1 24 = ftA (wdS σ n m c) k (σ.1 24) 4 ∧ LI V σ' m c) X) : ∀ (i : Nat) (τ : Sg), i ≤ 4 → FE σ τ → τ.1 24 = ftA (wdS σ n m c) k (σ.1 24) i → LI V τ m c → Tk (wdS σ n m c) ((wdS σ n m c).bd k) τ 40 k (ftS (wdS σ n m c) k i) → WS layC V 4 X τ 18 [(3, .int (nI i)), (2, .int (nI ((wdS σ n m c).2.2.2.2.2.1 + i))), (0, rf V 5), (1, .int (nI k))] [] := by
  intro i
  induction hm : 4 - i using Nat.strongRecOn generalizing i with
  | _ m9 ih =>
    intro τ hi hE h24 hLt hT
    have hn10 := hQ.n
    have hiI : (nI i).toInt = (i : Int) := nI_c (by omega)
    have hQt := hQ.se hE.se
    have hcc := hL.c.2.2
    have hwt : wdS τ n m c = wdS σ n m c := wdS_se hE.se hcc
    have hfr := ftS_r (m := m) (c := c) hQ hk i
    have h17 : τ.1 17 = σ.1 17 := hE.1 17 (by decide) (by decide) (by decide) (by decide) (by decide)
    have hcn := hQ.o.2
    have hix : nI i * 10 + nI k = nI (10 * i + k) := by rw [show (10 : Int32) = nI 10 from rfl, pk_mul, nI_add, Nat.mul_comm]
    refine WS.iload_n hx dX6_foretell_18 rfl 0 rfl ?_
    refine WS.iconst (v := 4) hx dX6_foretell_19 (by decide) ?_
    refine WS.icmp_ge (tgt := 58) hx dX6_foretell_20 (by decide) (fun c20 => ?_) (fun c20 => ?_)
    · skip
      show WS layC V 4 X τ 58 [(3, .int (nI i)), (2, .int (nI ((wdS σ n m c).2.2.2.2.2.1 + i))), (0, rf V 5), (1, .int (nI k))] []
      exact WS.vret hx he dX6_foretell_58 ⟨rfl, hE, by rw [h24, show i = 4 by (try simp only [i_le, i_lt, i_eq, tI_0, tI_1, tI_4, tI_10] at c20); (try simp only [i_le, i_lt, i_eq, tI_0, tI_1, tI_4, tI_10]); omega], hLt⟩
    · skip
      show WS layC V 4 X τ 23 [(3, .int (nI i)), (2, .int (nI ((wdS σ n m c).2.2.2.2.2.1 + i))), (0, rf V 5), (1, .int (nI k))] []
      obtain ⟨ol, tq⟩ := id hT
      refine WS.aload_n hx dX6_foretell_23 rfl 2 rfl ?_
      refine WS.getR hx okX6 lf6_9 rfl rfl dX6_foretell_24 ?_
      refine WS.iload_n hx dX6_foretell_27 rfl 0 rfl ?_
      refine WS.bipush (v := 10) hx dX6_foretell_28 (by decide) ?_
      refine WS.imul hx dX6_foretell_30 ?_
      refine WS.iload_n hx dX6_foretell_31 rfl 3 rfl ?_
      refine WS.iadd hx dX6_foretell_32 ?_
      refine WS.as rfl rfl (congrArg (fun z => Value.int z :: _) (show ((nI i) * 10) + (nI k) = nI (10 * i + k) from hix)) ?_
      skip
      refine WS.aload_n hx dX6_foretell_33 rfl 2 rfl ?_
      refine WS.getR hx okX6 lf6_30 rfl rfl dX6_foretell_34 ?_
      refine WS.callVi (st := [.int (nI (10 * i + k)), rf V 24]) [] hx (c_X9_wouldSay V (d + 2) τ 40 (by decide) (ftS (wdS σ n m c) k i).1 hfr.1 hT.at) okX9_wouldSay lm6_95 rfl rfl rfl rfl (Nat.le_of_ble_eq_true rfl) dX6_foretell_37 (fun v1 σ2 h3 => ?_)
      obtain ⟨rfl, rfl⟩ := h3
      show WS layC V 4 X τ 40 [(3, .int (nI i)), (2, .int (nI ((wdS σ n m c).2.2.2.2.2.1 + i))), (0, rf V 5), (1, .int (nI k))] [.int (τ.1 17 (ftS (wdS σ n m c) k i).1), .int (nI (10 * i + k)), rf V 24]
      refine WS.as rfl rfl (congrArg (fun z => Value.int z :: _) (show τ.1 17 (ftS (wdS σ n m c) k i).1 = (wdS σ n m c).2.2.1 (ftS (wdS σ n m c) k i).1 from by rw [h17]; rfl)) ?_
      skip
      refine WS.iast hx rfl (vp_in_nI (by (try simp only [i_le, i_lt, i_eq, tI_0, tI_1, tI_4, tI_10] at c20); omega) (by decide)) dX6_foretell_40 ?_
      refine WS.iinc (v := nI ((wdS σ n m c).2.2.2.2.2.1 + (i + 1))) (lo' := [(2, .int (nI ((wdS σ n m c).2.2.2.2.2.1 + (i + 1)))), (3, .int (nI i)), (0, rf V 5), (1, .int (nI k))]) hx dX6_foretell_41 1 rfl (nI_1 _) (by decide) rfl ?_
      refine WS.aload_n hx dX6_foretell_44 rfl 2 rfl ?_
      refine WS.getR hx okX6 lf6_30 rfl rfl dX6_foretell_45 ?_
      refine WS.iload_n hx dX6_foretell_48 rfl 0 rfl ?_
      refine WS.callVv (st := []) [.int (nI ((wdS σ n m c).2.2.2.2.2.1 + (i + 1)))] hx (c_X9_passCentury V d (stI τ 24 (nn (nI (10 * i + k))) ((wdS σ n m c).2.2.1 (ftS (wdS σ n m c) k i).1)) 40 (by decide) n (hQt.se FE.st.se) m c (hLt.ne (by decide)) k _ _ _ _ _ ol _ tq (Tk.tr (m := m) (c := c) hQ hk (bd_r (m := m) (c := c) hQ hk) hfr.1 hfr.2) (Or.inl rfl) ((wdS σ n m c).2.2.2.2.2.1 + (i + 1)) (by show cnt (σ.1 14) n + (i + 1) ≤ 15; (try simp only [i_le, i_lt, i_eq, tI_0, tI_1, tI_4, tI_10] at c20); omega)) okX9_passCentury lm6_98 rfl rfl rfl rfl (Nat.le_of_ble_eq_true rfl) dX6_foretell_49 (fun σ5 h6 => ?_)
      obtain ⟨the49, li49, th49⟩ := h6
      have e9 : cen (lwF ((stI τ 24 (nn (nI (10 * i + k))) ((wdS σ n m c).2.2.1 (ftS (wdS σ n m c) k i).1)).1 c) m) (elF (Lc (stI τ 24 (nn (nI (10 * i + k))) ((wdS σ n m c).2.2.1 (ftS (wdS σ n m c) k i).1))) (-1) ol) ((stI τ 24 (nn (nI (10 * i + k))) ((wdS σ n m c).2.2.1 (ftS (wdS σ n m c) k i).1)).1 17) k ((wdS σ n m c).bd k) ((wdS σ n m c).2.2.2.2.2.1 + (i + 1)) ((wdS σ n m c).2.2.2.2.2.2.1 k) ((ftS (wdS σ n m c) k i).1, (ftS (wdS σ n m c) k i).2) = ftS (wdS σ n m c) k (i + 1) := by
        have hw9 := wdS_se (n := n) (m := m) (FE.st (σ := τ) (k := nn (nI (10 * i + k))) (v := (wdS σ n m c).2.2.1 (ftS (wdS σ n m c) k i).1)).se hcc
        have hw8 := hw9.trans hwt
        have c1 : lwF ((stI τ 24 (nn (nI (10 * i + k))) ((wdS σ n m c).2.2.1 (ftS (wdS σ n m c) k i).1)).1 c) m = (wdS σ n m c).1 := congrArg (fun z : Wd => z.1) hw8
        have c2 : Lc (stI τ 24 (nn (nI (10 * i + k))) ((wdS σ n m c).2.2.1 (ftS (wdS σ n m c) k i).1)) = (wdS σ n m c).2.1 := congrArg (fun z : Wd => z.2.1) hw8
        have c3 : (stI τ 24 (nn (nI (10 * i + k))) ((wdS σ n m c).2.2.1 (ftS (wdS σ n m c) k i).1)).1 17 = (wdS σ n m c).2.2.1 := congrArg (fun z : Wd => z.2.2.1) hw8
        show _ = cen (wdS σ n m c).1 (wdS σ n m c).2.1 (wdS σ n m c).2.2.1 k ((wdS σ n m c).bd k) ((wdS σ n m c).2.2.2.2.2.1 + (i + 1)) ((wdS σ n m c).2.2.2.2.2.2.1 k) (ftS (wdS σ n m c) k i)
        unfold cen
        rw [itr_congr (L' := Lc (stI τ 24 (nn (nI (10 * i + k))) ((wdS σ n m c).2.2.1 (ftS (wdS σ n m c) k i).1))) (fun a ha => elF_m1 ha) (fun a ha => ((hQt.se FE.st.se).L ha).2) _ _ hfr.1, c1, c2, c3]
      show WS layC V 4 X σ5 52 [(2, .int (nI ((wdS σ n m c).2.2.2.2.2.1 + (i + 1)))), (3, .int (nI i)), (0, rf V 5), (1, .int (nI k))] []
      refine WS.iinc (v := nI (i + 1)) (lo' := [(3, .int (nI (i + 1))), (2, .int (nI ((wdS σ n m c).2.2.2.2.2.1 + (i + 1)))), (0, rf V 5), (1, .int (nI k))]) hx dX6_foretell_52 1 rfl (nI_1 i) (by decide) rfl ?_
      refine WS.goto (tgt := 18) hx dX6_foretell_55 (by decide) ?_
      rw [e9] at th49
      exact WS.los [0, 1, 2, 3] rfl (ih _ (by (try simp only [i_le, i_lt, i_eq, tI_0, tI_1, tI_4, tI_10] at c20); (try simp only [i_le, i_lt, i_eq, tI_0, tI_1, tI_4, tI_10]); omega) (i + 1) rfl σ5 (by (try simp only [i_le, i_lt, i_eq, tI_0, tI_1, tI_4, tI_10] at c20); (try simp only [i_le, i_lt, i_eq, tI_0, tI_1, tI_4, tI_10]); omega) ((hE.tr FE.st).tr (FE.the the49)) (by rw [the49.1 24 (by decide) (by decide) (by decide) (by decide), ← ftA_s (show k < 10 by omega), ← h24, nn_nI (by (try simp only [i_le, i_lt, i_eq, tI_0, tI_1, tI_4, tI_10] at c20); omega)]; simp [stI, va_up]) li49 ⟨ol, th49⟩)
set_option maxHeartbeats 1000000 in
theorem c_X6_foretell (V : Vt) (d : Nat) (σ : Sg) (n : Nat) (hQ : QI σ n) (m c : Nat) (hL : LI V σ m c) (k : Nat) (hk : k < n) : CT layC V mX6_foretell (d + 4) [rf V 5, .int (nI k)] σ (Rv fun σ' => FE σ σ' ∧ σ'.1 24 = ftA (wdS σ n m c) k (σ.1 24) 4 ∧ LI V σ' m c) := by
  refine CT.of (own := RX6) rfl (by decide) (Nat.le_of_ble_eq_true rfl) (fun X (hx : Ok V RX6 cX6_foretell 4 (d + 4) X) (he : En layC V none (Rv fun σ' => FE σ σ' ∧ σ'.1 24 = ftA (wdS σ n m c) k (σ.1 24) 4 ∧ LI V σ' m c) X) => ?_)
  change WS layC V 4 X σ 0 [(0, rf V 5), (1, .int (nI k))] []
  have hr0 := s0_r (m := m) (c := c) hQ hk
  refine WS.aload_n hx dX6_foretell_0 rfl 0 rfl ?_
  refine WS.getR hx okX6 lf6_30 rfl rfl dX6_foretell_1 ?_
  refine WS.iload_n hx dX6_foretell_4 rfl 1 rfl ?_
  refine WS.callVv (st := []) [.int (nI k)] hx (ck_begin V d σ 40 (by decide) n hQ m c hL k hk) okX9_begin lm6_92 rfl rfl rfl rfl (Nat.le_of_ble_eq_true rfl) dX6_foretell_5 (fun σ2 h3 => ?_)
  obtain ⟨the5, li5, tk5⟩ := h3
  show WS layC V 4 X σ2 8 [(0, rf V 5), (1, .int (nI k))] []
  refine WS.aload_n hx dX6_foretell_8 rfl 0 rfl ?_
  refine WS.getR hx okX6 lf6_21 rfl rfl dX6_foretell_9 ?_
  refine WS.callVi (st := []) [] hx (c_X7_openOnes V (d + 3) σ2 n (hQ.the (by decide) the5)) okX7_openOnes lm6_40 rfl rfl rfl rfl (Nat.le_of_ble_eq_true rfl) dX6_foretell_12 (fun v4 σ5 h6 => ?_)
  obtain ⟨rfl, rfl⟩ := h6
  show WS layC V 4 X σ2 15 [(0, rf V 5), (1, .int (nI k))] [.int (l_sum (σ2.1 14) n)]
  refine WS.as rfl rfl (congrArg (fun z => Value.int z :: _) (show l_sum (σ2.1 14) n = nI ((wdS σ n m c).2.2.2.2.2.1 + 0) from by rw [the5.1 14 (by decide) (by decide) (by decide) (by decide)]; exact hQ.o.1)) ?_
  skip
  refine WS.istore_n (lo' := [(2, .int (nI ((wdS σ n m c).2.2.2.2.2.1 + 0))), (0, rf V 5), (1, .int (nI k))]) hx dX6_foretell_15 rfl (by decide) rfl ?_
  refine WS.iconst (v := 0) hx dX6_foretell_16 (by decide) ?_
  refine WS.istore_n (lo' := [(3, .int 0), (2, .int (nI ((wdS σ n m c).2.2.2.2.2.1 + 0))), (0, rf V 5), (1, .int (nI k))]) hx dX6_foretell_17 rfl (by decide) rfl ?_
  exact WS.los [0, 1, 2, 3] rfl (lp_X6_foretell V d σ n hQ m c hL k hk X hx he 0 σ2 (by decide) (FE.the the5) (by rw [ftA_0]; exact the5.1 24 (by decide) (by decide) (by decide) (by decide)) li5 tk5)

def OW (W : Wd) (tr : Nat → Nat) : Nat → Int32
  | 0 => 0
  | d + 1 => OW W tr d ||| ((1 : Int32) <<< (W.2.2.1 (ftS W (tr d) d).1 &&& 31))
theorem OW_cg {W : Wd} {tr tr' : Nat → Nat} : ∀ d, (∀ j, j < d → tr' j = tr j) → OW W tr' d = OW W tr d
  | 0, _ => rfl
  | d + 1, h => by
    show OW W tr' d ||| ((1 : Int32) <<< (W.2.2.1 (ftS W (tr' d) d).1 &&& 31)) = OW W tr d ||| ((1 : Int32) <<< (W.2.2.1 (ftS W (tr d) d).1 &&& 31))
    rw [OW_cg d (fun j hj => h j (by omega)), h d (by omega)]
def MO (σ τ : Sg) : Prop := (∀ q, ¬ msc q → q ≠ 16 → q ≠ 17 → τ.1 q = σ.1 q) ∧ (∀ j, j ≠ 25 → j ≠ 26 → j ≠ 29 → τ.1 0 j = σ.1 0 j) ∧ τ.2 = σ.2
theorem MO.rf {σ : Sg} : MO σ σ := ⟨fun _ _ _ _ => rfl, fun _ _ _ _ => rfl, rfl⟩
theorem MO.tr {σ τ υ : Sg} (h : MO σ τ) (g : MO τ υ) : MO σ υ := ⟨fun q a b c => (g.1 q a b c).trans (h.1 q a b c), fun j a b c => (g.2.1 j a b c).trans (h.2.1 j a b c), g.2.2.trans h.2.2⟩
theorem ME.mo {σ τ : Sg} (h : ME σ τ) : MO σ τ := ⟨fun q a _ _ => h.1 q a, fun j a b _ => h.2.1 j a b (Nat.zero_le _), h.2.2⟩
theorem MO.st {σ : Sg} {o k : Nat} {v : Int32} (h : o = 16 ∨ o = 17) : MO σ (stI σ o k v) := ⟨fun q _ a b => stI_o _ _ _ _ (by omega), fun j _ _ _ => by rw [stI_o _ _ _ _ (by omega)], rfl⟩
theorem MO.s0 {σ : Sg} {v : Int32} : MO σ (stI σ 0 29 v) := ⟨fun q hq _ _ => stI_o _ _ _ _ (fun e => hq (by unfold msc; omega)), fun j _ _ c => stI_k _ _ _ _ c, rfl⟩
theorem MR.mo {κ σ τ : Sg} {n : Nat} (h : MR κ σ n) (e : MO σ τ) : MR κ τ n := MR_o h (e.1 1 (nmsc (by decide)) (by decide) (by decide)) (e.2.1 6 (by decide) (by decide) (by decide))
theorem ML.mo {σ τ : Sg} {cs : Nat → Int32} {T : Nat} {lw : Lw} (h : ML σ cs T lw) (e : MO σ τ) : ML τ cs T lw := by
  obtain ⟨h1, h2, h3, h4, h5⟩ := h
  refine ⟨h1, h2, (e.2.1 17 (by decide) (by decide) (by decide)).trans h3, fun j hj => by rw [e.1 7 (nmsc (by decide)) (by decide) (by decide)]; exact h4 j hj, ?_⟩
  rw [e.1 10 (nmsc (by decide)) (by decide) (by decide), e.1 11 (nmsc (by decide)) (by decide) (by decide)]; exact h5
def TR (κ : Sg) (n : Nat) (tr : Nat → Nat) (dp : Nat) : Prop := (∀ j, j < dp → tr j < n ∧ ¬ κ.1 14 (tr j) = 1) ∧ ∀ i j, i < j → j < dp → ¬ tr i = tr j
/-- what the toads not yet opened are at, before the opening i -/
def SB (W : Wd) (n : Nat) (tr : Nat → Nat) (i c : Nat) (s : Ms) : Prop := (∀ b, b < n → (∀ j, j < i → ¬ tr j = b) → (s.1 b, s.2.2.1) = ftS W b c ∧ s.2.1 b = W.2.2.2.2.2.2.1 b) ∧ s.2.2.2 = W.2.2.2.2.2.1 + i
theorem SB.c {W : Wd} {n : Nat} {tr : Nat → Nat} {i : Nat} {s : Ms} (h : SB W n tr i (i - 1) s) (hi : 0 < i) : SB W n tr i i (msC W s) := by
  refine ⟨fun b hb hj => ?_, h.2⟩
  obtain ⟨h1, h2⟩ := h.1 b hb hj
  refine ⟨?_, h2⟩
  have e : ftS W b i = cen W.1 W.2.1 W.2.2.1 b (W.bd b) (W.2.2.2.2.2.1 + i) (W.2.2.2.2.2.2.1 b) (ftS W b (i - 1)) := by
    cases i with
    | zero => omega
    | succ i => rfl
  rw [e, ← h1, ← h2, ← h.2]
  rfl
theorem MT.op {μ : Sg} {n b : Nat} {s : Ms} (h : MT μ n s) (ho : s.2.2.2 < 100) : MT (stI (stI μ 15 b 1) 0 26 (nI (s.2.2.2 + 1))) n (s.1, fun j => if j = b then true else s.2.1 j, s.2.2.1, s.2.2.2 + 1) := by
  obtain ⟨t1, t2, t3, t4, t5⟩ := h
  refine ⟨fun k hk => ⟨(t1 k hk).1, (t1 k hk).2.1, ?_⟩, t2, t3, rfl, by show s.2.2.2 + 1 ≤ 100; omega⟩
  show (stI μ 15 b 1).1 15 k = bI (if k = b then true else s.2.1 k)
  by_cases e : k = b
  · rw [e, stI_1, if_pos rfl]; rfl
  · rw [stI_k _ _ _ _ e, if_neg e]; exact (t1 k hk).2.2
set_option maxHeartbeats 1000000 in
theorem tl_X11_saidBy (V : Vt) (d : Nat) (σ : Sg) (κ : Sg) (n : Nat) (hM : MR κ σ n) (cs : Nat → Int32) (T : Nat) (lw : Lw) (hL : ML σ cs T lw) (tr : Nat → Nat) (ol : Nat) (hol : ol ≤ 4) (hTR : TR κ n tr ol) (ht : ∀ j, j < ol → σ.1 16 j = nI (tr j)) (X : Xt) (hx : Ok V RX11 cX11_saidBy 4 (d + 6) X) (i : Nat) (hi : i < ol) (s : Ms) (τ : Sg) (hE : ME σ τ) (hT : MT τ n s) (hS : SB (wdM κ n lw) n tr i i s) (hC : ∀ (s' : Ms) (τ' : Sg), ME σ τ' → MT τ' n s' → SB (wdM κ n lw) n tr (i + 1) i s' → WS layM V 4 X τ' 8 [(3, .int (nI (i + 1))), (2, .int (OW (wdM κ n lw) tr (i + 1))), (0, rf V 0), (1, .int (nI ol))] []) : WS layM V 4 X τ 21 [(3, .int (nI i)), (2, .int (OW (wdM κ n lw) tr i)), (0, rf V 0), (1, .int (nI ol))] [] := by
  have hn := hM.n
  have hti := hTR.1 i hi
  have htr9 : τ.1 16 i = nI (tr i) := by rw [hE.1 16 (nmsc (by decide))]; exact ht i hi
  have ho9 : s.2.2.2 ≤ 14 := by rw [hS.2]; have := hM.q.o.2; show cnt (κ.1 14) n + i ≤ 14; omega
  refine WS.iload_n hx dX11_saidBy_21 rfl 1 rfl ?_
  refine WS.iconst (v := 1) hx dX11_saidBy_22 (by decide) ?_
  refine WS.aload_n hx dX11_saidBy_23 rfl 2 rfl ?_
  refine WS.aload_n hx dX11_saidBy_24 rfl 2 rfl ?_
  refine WS.getR hx okX11 lf11_56 rfl rfl dX11_saidBy_25 ?_
  refine WS.iload_n hx dX11_saidBy_28 rfl 0 rfl ?_
  refine WS.iald hx rfl (vp_in_nI (by omega) (by decide)) dX11_saidBy_29 ?_
  refine WS.as rfl rfl (congrArg (fun z => Value.int z :: _) (show τ.1 16 (nn (nI i)) = nI (tr i) from by rw [nn_nI (by omega)]; exact htr9)) ?_
  skip
  refine WS.callVi (st := [.int 1, .int (OW (wdM κ n lw) tr i)]) [.int (nI (tr i))] hx (c_X11_wordOf V (d + 5) τ κ n (hM.me hE) s hT (tr i) hti.1) okX11_wordOf lm11_219 rfl rfl rfl rfl (Nat.le_of_ble_eq_true rfl) dX11_saidBy_30 (fun v1 σ2 h3 => ?_)
  obtain ⟨rfl, rfl⟩ := h3
  show WS layM V 4 X τ 33 [(3, .int (nI i)), (2, .int (OW (wdM κ n lw) tr i)), (0, rf V 0), (1, .int (nI ol))] [.int (κ.1 17 (s.1 (tr i))), .int 1, .int (OW (wdM κ n lw) tr i)]
  refine WS.ishl hx dX11_saidBy_33 ?_
  refine WS.ior hx dX11_saidBy_34 ?_
  refine WS.as rfl rfl (congrArg (fun z => Value.int z :: _) (show (OW (wdM κ n lw) tr i) ||| (1 <<< ((κ.1 17 (s.1 (tr i))) &&& 31)) = OW (wdM κ n lw) tr (i + 1) from by
    show _ = OW _ tr i ||| ((1 : Int32) <<< ((wdM κ n lw).2.2.1 (ftS (wdM κ n lw) (tr i) i).1 &&& 31))
    rw [← (hS.1 (tr i) hti.1 (fun j hj => hTR.2 j i hj hi)).1]
    rfl)) ?_
  skip
  refine WS.istore_n (lo' := [(2, .int (OW (wdM κ n lw) tr (i + 1))), (3, .int (nI i)), (0, rf V 0), (1, .int (nI ol))]) hx dX11_saidBy_35 rfl (by decide) rfl ?_
  refine WS.aload_n hx dX11_saidBy_36 rfl 2 rfl ?_
  refine WS.getR hx okX11 lf11_52 rfl rfl dX11_saidBy_37 ?_
  refine WS.aload_n hx dX11_saidBy_40 rfl 2 rfl ?_
  refine WS.getR hx okX11 lf11_56 rfl rfl dX11_saidBy_41 ?_
  refine WS.iload_n hx dX11_saidBy_44 rfl 1 rfl ?_
  refine WS.iald hx rfl (vp_in_nI (by omega) (by decide)) dX11_saidBy_45 ?_
  refine WS.as rfl rfl (congrArg (fun z => Value.int z :: _) (show τ.1 16 (nn (nI i)) = nI (tr i) from by rw [nn_nI (by omega)]; exact htr9)) ?_
  skip
  refine WS.iconst (v := 1) hx dX11_saidBy_46 (by decide) ?_
  refine WS.zast hx rfl (vp_in_nI (by omega) (by decide)) (Or.inr rfl) dX11_saidBy_47 ?_
  refine WS.aload_n hx dX11_saidBy_48 rfl 2 rfl ?_
  refine WS.dup hx dX11_saidBy_49 rfl ?_
  refine WS.getI hx okX11 lf11_213 rfl rfl dX11_saidBy_50 ?_
  refine WS.as rfl rfl (congrArg (fun z => Value.int z :: _) (show (stI τ 15 (nn (nI (tr i))) 1).1 0 26 = nI s.2.2.2 from hT.2.2.2.1)) ?_
  skip
  refine WS.iconst (v := 1) hx dX11_saidBy_53 (by decide) ?_
  refine WS.iadd hx dX11_saidBy_54 ?_
  refine WS.as rfl rfl (congrArg (fun z => Value.int z :: _) (show (nI s.2.2.2) + 1 = nI (s.2.2.2 + 1) from nI_1 _)) ?_
  skip
  refine WS.putI hx okX11 lf11_213 rfl rfl rfl rfl dX11_saidBy_55 ?_
  refine WS.iinc (v := nI (i + 1)) (lo' := [(3, .int (nI (i + 1))), (2, .int (OW (wdM κ n lw) tr (i + 1))), (0, rf V 0), (1, .int (nI ol))]) hx dX11_saidBy_58 1 rfl (nI_1 i) (by decide) rfl ?_
  refine WS.goto (tgt := 8) hx dX11_saidBy_61 (by decide) ?_
  refine WS.los [0, 1, 2, 3] rfl (hC (s.1, fun j => if j = tr i then true else s.2.1 j, s.2.2.1, s.2.2.2 + 1) _ ((hE.tr (ME.st (by decide))).tr (ME.s0 (by decide))) ?_ ⟨fun b hb hj => ?_, ?_⟩)
  · (try simp only [nn_nI (show tr i < 2 ^ 31 by omega), nI_clamp (show tr i < 2 ^ 31 by omega)])
    exact hT.op (by omega)
  · have h9 := hS.1 b hb (fun j hj9 => hj j (by omega))
    refine ⟨h9.1, ?_⟩
    show (if b = tr i then true else s.2.1 b) = _
    rw [if_neg (fun e => hj i (by omega) e.symm)]
    exact h9.2
  · show s.2.2.2 + 1 = _
    rw [hS.2]
    omega
set_option maxHeartbeats 1000000 in
theorem lp_X11_saidBy (V : Vt) (d : Nat) (σ : Sg) (κ : Sg) (n : Nat) (hM : MR κ σ n) (cs : Nat → Int32) (T : Nat) (lw : Lw) (hL : ML σ cs T lw) (tr : Nat → Nat) (ol : Nat) (hol : ol ≤ 4) (hTR : TR κ n tr ol) (ht : ∀ j, j < ol → σ.1 16 j = nI (tr j)) (P : Int32 → Sg → Prop) (X : Xt) (hx : Ok V RX11 cX11_saidBy 4 (d + 6) X) (he : En layM V (some .int) (Ri P) X) (hP : ∀ σ', ME σ σ' → P (OW (wdM κ n lw) tr ol) σ') : ∀ (i : Nat) (s : Ms) (τ : Sg), i ≤ ol → ME σ τ → MT τ n s → SB (wdM κ n lw) n tr i (i - 1) s → WS layM V 4 X τ 8 [(3, .int (nI i)), (2, .int (OW (wdM κ n lw) tr i)), (0, rf V 0), (1, .int (nI ol))] [] := by
  have hn := hM.n
  have hoI : (nI ol).toInt = (ol : Int) := nI_c (by omega)
  intro i
  induction hm : ol - i using Nat.strongRecOn generalizing i with
  | _ m9 ih =>
    intro s τ hi hE hT hS
    have hiI : (nI i).toInt = (i : Int) := nI_c (by omega)
    refine WS.iload_n hx dX11_saidBy_8 rfl 0 rfl ?_
    refine WS.iload_n hx dX11_saidBy_9 rfl 3 rfl ?_
    refine WS.icmp_ge (tgt := 64) hx dX11_saidBy_10 (by decide) (fun c10 => ?_) (fun c10 => ?_)
    · skip
      show WS layM V 4 X τ 64 [(3, .int (nI i)), (2, .int (OW (wdM κ n lw) tr i)), (0, rf V 0), (1, .int (nI ol))] []
      refine WS.iload_n hx dX11_saidBy_64 rfl 1 rfl ?_
      exact WS.iret hx he dX11_saidBy_65 ⟨_, rfl, by rw [show i = ol by (try simp only [l_int, tL_0, tL_1, tL_2, tL_4, tL_5, tL_6, tL_7, tL_9, tL_10, tL_12, tL_15, tL_30, tL_40, tL_60, tL_99, tL_255, tL_1023, tL_m1, lc_lt, lc_gt, lc_ge, lc_le, lc_eq, l6_le, l6_lt, l6_eq, tI_m133, tI_m226, i_le, i_lt, i_eq, tI_0, tI_1] at c10); (try simp only [l_int, tL_0, tL_1, tL_2, tL_4, tL_5, tL_6, tL_7, tL_9, tL_10, tL_12, tL_15, tL_30, tL_40, tL_60, tL_99, tL_255, tL_1023, tL_m1, lc_lt, lc_gt, lc_ge, lc_le, lc_eq, l6_le, l6_lt, l6_eq, tI_m133, tI_m226, i_le, i_lt, i_eq, tI_0, tI_1]); omega]; exact hP τ hE⟩
    · skip
      show WS layM V 4 X τ 13 [(3, .int (nI i)), (2, .int (OW (wdM κ n lw) tr i)), (0, rf V 0), (1, .int (nI ol))] []
      have hi9 : i < ol := by (try simp only [l_int, tL_0, tL_1, tL_2, tL_4, tL_5, tL_6, tL_7, tL_9, tL_10, tL_12, tL_15, tL_30, tL_40, tL_60, tL_99, tL_255, tL_1023, tL_m1, lc_lt, lc_gt, lc_ge, lc_le, lc_eq, l6_le, l6_lt, l6_eq, tI_m133, tI_m226, i_le, i_lt, i_eq, tI_0, tI_1] at c10); (try simp only [l_int, tL_0, tL_1, tL_2, tL_4, tL_5, tL_6, tL_7, tL_9, tL_10, tL_12, tL_15, tL_30, tL_40, tL_60, tL_99, tL_255, tL_1023, tL_m1, lc_lt, lc_gt, lc_ge, lc_le, lc_eq, l6_le, l6_lt, l6_eq, tI_m133, tI_m226, i_le, i_lt, i_eq, tI_0, tI_1]); omega
      refine WS.iload_n hx dX11_saidBy_13 rfl 0 rfl ?_
      refine WS.if_le (tgt := 21) hx dX11_saidBy_14 (by decide) (fun c14 => ?_) (fun c14 => ?_)
      · skip
        show WS layM V 4 X τ 21 [(3, .int (nI i)), (2, .int (OW (wdM κ n lw) tr i)), (0, rf V 0), (1, .int (nI ol))] []
        have hi0 : i = 0 := by (try simp only [l_int, tL_0, tL_1, tL_2, tL_4, tL_5, tL_6, tL_7, tL_9, tL_10, tL_12, tL_15, tL_30, tL_40, tL_60, tL_99, tL_255, tL_1023, tL_m1, lc_lt, lc_gt, lc_ge, lc_le, lc_eq, l6_le, l6_lt, l6_eq, tI_m133, tI_m226, i_le, i_lt, i_eq, tI_0, tI_1] at c10); (try simp only [l_int, tL_0, tL_1, tL_2, tL_4, tL_5, tL_6, tL_7, tL_9, tL_10, tL_12, tL_15, tL_30, tL_40, tL_60, tL_99, tL_255, tL_1023, tL_m1, lc_lt, lc_gt, lc_ge, lc_le, lc_eq, l6_le, l6_lt, l6_eq, tI_m133, tI_m226, i_le, i_lt, i_eq, tI_0, tI_1] at c14); (try simp only [l_int, tL_0, tL_1, tL_2, tL_4, tL_5, tL_6, tL_7, tL_9, tL_10, tL_12, tL_15, tL_30, tL_40, tL_60, tL_99, tL_255, tL_1023, tL_m1, lc_lt, lc_gt, lc_ge, lc_le, lc_eq, l6_le, l6_lt, l6_eq, tI_m133, tI_m226, i_le, i_lt, i_eq, tI_0, tI_1]); omega
        exact tl_X11_saidBy V d σ κ n hM cs T lw hL tr ol hol hTR ht X hx i (by (try simp only [l_int, tL_0, tL_1, tL_2, tL_4, tL_5, tL_6, tL_7, tL_9, tL_10, tL_12, tL_15, tL_30, tL_40, tL_60, tL_99, tL_255, tL_1023, tL_m1, lc_lt, lc_gt, lc_ge, lc_le, lc_eq, l6_le, l6_lt, l6_eq, tI_m133, tI_m226, i_le, i_lt, i_eq, tI_0, tI_1] at c10); (try simp only [l_int, tL_0, tL_1, tL_2, tL_4, tL_5, tL_6, tL_7, tL_9, tL_10, tL_12, tL_15, tL_30, tL_40, tL_60, tL_99, tL_255, tL_1023, tL_m1, lc_lt, lc_gt, lc_ge, lc_le, lc_eq, l6_le, l6_lt, l6_eq, tI_m133, tI_m226, i_le, i_lt, i_eq, tI_0, tI_1] at c14); (try simp only [l_int, tL_0, tL_1, tL_2, tL_4, tL_5, tL_6, tL_7, tL_9, tL_10, tL_12, tL_15, tL_30, tL_40, tL_60, tL_99, tL_255, tL_1023, tL_m1, lc_lt, lc_gt, lc_ge, lc_le, lc_eq, l6_le, l6_lt, l6_eq, tI_m133, tI_m226, i_le, i_lt, i_eq, tI_0, tI_1]); omega) s τ hE hT (by rw [hi0]; rw [hi0] at hS; exact hS) (fun s9 τ9 h1 h2 h3 => ih _ (by omega) (i + 1) rfl s9 τ9 (by omega) h1 h2 h3)
      · skip
        show WS layM V 4 X τ 17 [(3, .int (nI i)), (2, .int (OW (wdM κ n lw) tr i)), (0, rf V 0), (1, .int (nI ol))] []
        refine WS.aload_n hx dX11_saidBy_17 rfl 2 rfl ?_
        refine WS.callVv (st := []) [] hx (c_X11_goesCentury V d τ κ n (hM.me hE) s hT cs T lw (hL.me hE)) okX11_goesCentury lm11_234 rfl rfl rfl rfl (Nat.le_of_ble_eq_true rfl) dX11_saidBy_18 (fun σ2 h3 => ?_)
        obtain ⟨me18, mt18⟩ := h3
        show WS layM V 4 X σ2 21 [(3, .int (nI i)), (2, .int (OW (wdM κ n lw) tr i)), (0, rf V 0), (1, .int (nI ol))] []
        have hi0 : 0 < i := by (try simp only [l_int, tL_0, tL_1, tL_2, tL_4, tL_5, tL_6, tL_7, tL_9, tL_10, tL_12, tL_15, tL_30, tL_40, tL_60, tL_99, tL_255, tL_1023, tL_m1, lc_lt, lc_gt, lc_ge, lc_le, lc_eq, l6_le, l6_lt, l6_eq, tI_m133, tI_m226, i_le, i_lt, i_eq, tI_0, tI_1] at c10); (try simp only [l_int, tL_0, tL_1, tL_2, tL_4, tL_5, tL_6, tL_7, tL_9, tL_10, tL_12, tL_15, tL_30, tL_40, tL_60, tL_99, tL_255, tL_1023, tL_m1, lc_lt, lc_gt, lc_ge, lc_le, lc_eq, l6_le, l6_lt, l6_eq, tI_m133, tI_m226, i_le, i_lt, i_eq, tI_0, tI_1] at c14); (try simp only [l_int, tL_0, tL_1, tL_2, tL_4, tL_5, tL_6, tL_7, tL_9, tL_10, tL_12, tL_15, tL_30, tL_40, tL_60, tL_99, tL_255, tL_1023, tL_m1, lc_lt, lc_gt, lc_ge, lc_le, lc_eq, l6_le, l6_lt, l6_eq, tI_m133, tI_m226, i_le, i_lt, i_eq, tI_0, tI_1]); omega
        exact tl_X11_saidBy V d σ κ n hM cs T lw hL tr ol hol hTR ht X hx i (by (try simp only [l_int, tL_0, tL_1, tL_2, tL_4, tL_5, tL_6, tL_7, tL_9, tL_10, tL_12, tL_15, tL_30, tL_40, tL_60, tL_99, tL_255, tL_1023, tL_m1, lc_lt, lc_gt, lc_ge, lc_le, lc_eq, l6_le, l6_lt, l6_eq, tI_m133, tI_m226, i_le, i_lt, i_eq, tI_0, tI_1] at c10); (try simp only [l_int, tL_0, tL_1, tL_2, tL_4, tL_5, tL_6, tL_7, tL_9, tL_10, tL_12, tL_15, tL_30, tL_40, tL_60, tL_99, tL_255, tL_1023, tL_m1, lc_lt, lc_gt, lc_ge, lc_le, lc_eq, l6_le, l6_lt, l6_eq, tI_m133, tI_m226, i_le, i_lt, i_eq, tI_0, tI_1] at c14); (try simp only [l_int, tL_0, tL_1, tL_2, tL_4, tL_5, tL_6, tL_7, tL_9, tL_10, tL_12, tL_15, tL_30, tL_40, tL_60, tL_99, tL_255, tL_1023, tL_m1, lc_lt, lc_gt, lc_ge, lc_le, lc_eq, l6_le, l6_lt, l6_eq, tI_m133, tI_m226, i_le, i_lt, i_eq, tI_0, tI_1]); omega) (msC (wdM κ n lw) s) σ2 (hE.tr me18) mt18 (hS.c hi0) (fun s9 τ9 h1 h2 h3 => ih _ (by omega) (i + 1) rfl s9 τ9 (by omega) h1 h2 h3)
set_option maxHeartbeats 1000000 in
theorem c_X11_saidBy (V : Vt) (d : Nat) (σ : Sg) (κ : Sg) (n : Nat) (hM : MR κ σ n) (cs : Nat → Int32) (T : Nat) (lw : Lw) (hL : ML σ cs T lw) (tr : Nat → Nat) (ol : Nat) (hol : ol ≤ 4) (hTR : TR κ n tr ol) (ht : ∀ j, j < ol → σ.1 16 j = nI (tr j)) : CT layM V mX11_saidBy (d + 6) [rf V 0, .int (nI ol)] σ (Ri fun v σ' => OW (wdM κ n lw) tr ol = v ∧ ME σ σ') := by
  refine CT.of (own := RX11) rfl (by decide) (Nat.le_of_ble_eq_true rfl) (fun X (hx : Ok V RX11 cX11_saidBy 4 (d + 6) X) (he : En layM V (some .int) (Ri fun v σ' => OW (wdM κ n lw) tr ol = v ∧ ME σ σ') X) => ?_)
  change WS layM V 4 X σ 0 [(0, rf V 0), (1, .int (nI ol))] []
  refine WS.aload_n hx dX11_saidBy_0 rfl 0 rfl ?_
  refine WS.callVv (st := []) [] hx (c_X11_begins V (d + 5) σ κ n lw hM) okX11_begins lm11_231 rfl rfl rfl rfl (Nat.le_of_ble_eq_true rfl) dX11_saidBy_1 (fun σ2 h3 => ?_)
  obtain ⟨me1, mt1⟩ := h3
  show WS layM V 4 X σ2 4 [(0, rf V 0), (1, .int (nI ol))] []
  refine WS.iconst (v := 0) hx dX11_saidBy_4 (by decide) ?_
  refine WS.istore_n (lo' := [(2, .int 0), (0, rf V 0), (1, .int (nI ol))]) hx dX11_saidBy_5 rfl (by decide) rfl ?_
  refine WS.iconst (v := 0) hx dX11_saidBy_6 (by decide) ?_
  refine WS.istore_n (lo' := [(3, .int 0), (2, .int 0), (0, rf V 0), (1, .int (nI ol))]) hx dX11_saidBy_7 rfl (by decide) rfl ?_
  exact WS.los [0, 1, 2, 3] rfl (lp_X11_saidBy V d σ κ n hM cs T lw hL tr ol hol hTR ht _ X hx he (fun τ h => ⟨rfl, h⟩) 0 (ms0 (wdM κ n lw)) _ (Nat.zero_le _) me1 mt1 ⟨fun b hb _ => ⟨rfl, rfl⟩, rfl⟩)

def OR (τ : Sg) (s : Od) (dp ol : Nat) (tr : Nat → Nat) : Prop := τ.1 0 29 = s.2.2 ∧ (s.2.2 = -1 ∨ ∀ j, j < ol → τ.1 17 j = s.2.1 j) ∧ ∀ j, j < dp → τ.1 16 j = nI (tr j) ∧ s.1 j = nI (tr j)
theorem OR.me {σ τ : Sg} {s : Od} {dp ol : Nat} {tr : Nat → Nat} (h : OR σ s dp ol tr) (e : ME σ τ) : OR τ s dp ol tr := by
  unfold OR
  rw [e.2.1 29 (by decide) (by decide) (by decide), e.1 16 (nmsc (by decide)), e.1 17 (nmsc (by decide))]
  exact h
def CL (κ : Sg) (n : Nat) (tr : Nat → Nat) (dp : Nat) (cl : Int32) : Prop := ∀ b, b < n → (bitP cl b = true ↔ ¬ κ.1 14 b = 1 ∧ ∀ j, j < dp → ¬ tr j = b)
theorem clr_b {cl : Int32} {b i : Nat} (hb : b < 32) (hi : i < 32) : bitP (clr cl b) i = (bitP cl i && decide (¬ i = b)) := by
  rw [bitP_b hi, bitP_b hi]
  unfold clr
  rw [b_and, b_xor, b_one hb hi, b_m1 i hi]
  by_cases e : i = b
  · rw [decide_eq_true e, decide_eq_false (fun h => h e)]; rfl
  · rw [decide_eq_false e, decide_eq_true e]; rfl
def trN (tr : Nat → Nat) (dp b : Nat) : Nat → Nat := fun j => if j = dp then b else tr j
theorem CL.s {κ : Sg} {n : Nat} {tr : Nat → Nat} {dp : Nat} {cl : Int32} (h : CL κ n tr dp cl) (hn : n ≤ 10) {b : Nat} (hb : b < n) : CL κ n (trN tr dp b) (dp + 1) (clr cl b) := by
  intro i hi
  rw [clr_b (by omega) (by omega), Bool.and_eq_true, h i hi]
  unfold trN
  constructor
  · rintro ⟨⟨h1, h2⟩, h3⟩
    refine ⟨h1, fun j hj => ?_⟩
    by_cases e : j = dp
    · rw [if_pos e]; exact fun e2 => (of_decide_eq_true h3) e2.symm
    · rw [if_neg e]; exact h2 j (by omega)
  · rintro ⟨h1, h2⟩
    refine ⟨⟨h1, fun j hj => ?_⟩, decide_eq_true (fun e => ?_)⟩
    · have := h2 j (by omega); rwa [if_neg (by omega)] at this
    · have := h2 dp (by omega); rw [if_pos rfl] at this; exact this e.symm
theorem TR.s {κ : Sg} {n : Nat} {tr : Nat → Nat} {dp b : Nat} (h : TR κ n tr dp) (hb : b < n) (h1 : ¬ κ.1 14 b = 1) (h2 : ∀ j, j < dp → ¬ tr j = b) : TR κ n (trN tr dp b) (dp + 1) := by
  unfold trN
  refine ⟨fun j hj => ?_, fun i j hij hj => ?_⟩
  · (try dsimp only)
    by_cases e : j = dp
    · rw [if_pos e]; exact ⟨hb, h1⟩
    · rw [if_neg e]; exact h.1 j (by omega)
  · (try dsimp only)
    by_cases e : j = dp
    · rw [if_pos e, if_neg (by omega)]; exact h2 i (by omega)
    · rw [if_neg e, if_neg (by omega)]; exact h.2 i j hij (by omega)
theorem OW_n {W : Wd} {tr : Nat → Nat} : ∀ d, (∀ j, j < d → ∃ v, v < 10 ∧ W.2.2.1 (ftS W (tr j) j).1 = nI v) → ∃ k, k < 1024 ∧ OW W tr d = nI k
  | 0, _ => ⟨0, by decide, rfl⟩
  | d + 1, h => by
    obtain ⟨k, h1, h2⟩ := OW_n d (fun j hj => h j (by omega))
    obtain ⟨v, h3, h4⟩ := h d (by omega)
    refine ⟨k ||| 2 ^ v, Nat.or_lt_two_pow (n := 10) h1 (Nat.pow_lt_pow_right (by decide) h3), ?_⟩
    show OW W tr d ||| ((1 : Int32) <<< (W.2.2.1 (ftS W (tr d) d).1 &&& 31)) = _
    rw [h2, h4]
    apply b_ext
    intro i hi
    rw [b_or, b_one (by omega) hi, b_nI hi, b_nI hi, Nat.testBit_or, Nat.testBit_two_pow]
    by_cases e : i = v
    · rw [decide_eq_true e, decide_eq_true e.symm]
    · rw [decide_eq_false e, decide_eq_false (fun h => e h.symm)]
theorem ftS_w {κ : Sg} {n b : Nat} {lw : Lw} (hQ : QI κ n) (hb : b < n) : ∀ i, (ftS (wdM κ n lw) b i).1 < 16 ∧ ∃ v, v < 10 ∧ (wdM κ n lw).2.2.1 (ftS (wdM κ n lw) b i).1 = nI v := by
  have h0 : ∀ i, (ftS (wdM κ n lw) b i).1 < 16 := by
    intro i
    induction i with
    | zero => exact (s0_r (m := 0) (c := 0) hQ hb).1
    | succ i ih => exact itr_lt (fun a ha => (hQ.L ha).2) _ _ ih
  intro i
  have h1 := hQ.2.2.2.2.2.2.2.2.1 _ (h0 i)
  exact ⟨h0 i, nn (κ.1 17 (ftS (wdM κ n lw) b i).1), by have := h1.le; omega, h1.i⟩
def trU (κ : Sg) (tr : Nat → Nat) (b : Nat) : Nat → Bool
  | 0 => decide (κ.1 14 b = 0)
  | j + 1 => trU κ tr b j && !decide (tr j = b)
theorem trU_i {κ : Sg} {tr : Nat → Nat} {b : Nat} : ∀ dp, (trU κ tr b dp = true ↔ κ.1 14 b = 0 ∧ ∀ j, j < dp → ¬ tr j = b)
  | 0 => ⟨fun h => ⟨of_decide_eq_true h, fun j hj => absurd hj (Nat.not_lt_zero j)⟩, fun h => decide_eq_true h.1⟩
  | dp + 1 => by
    show (trU κ tr b dp && !decide (tr dp = b)) = true ↔ _
    rw [Bool.and_eq_true, trU_i dp]
    constructor
    · rintro ⟨⟨h1, h2⟩, h3⟩
      refine ⟨h1, fun j hj e => ?_⟩
      by_cases g : j = dp
      · subst g; rw [decide_eq_true e] at h3; exact absurd h3 (by decide)
      · exact h2 j (by omega) e
    · rintro ⟨h1, h2⟩
      exact ⟨⟨h1, fun j hj => h2 j (by omega)⟩, by rw [decide_eq_false (h2 dp (by omega))]; rfl⟩
def CPY (σ τ : Sg) (i : Nat) : Prop := (∀ q, q ≠ 17 → τ.1 q = σ.1 q) ∧ τ.2 = σ.2 ∧ ∀ j, j < i → τ.1 17 j = σ.1 16 j
theorem CPY.mo {σ τ : Sg} {i : Nat} (h : CPY σ τ i) : MO σ τ := ⟨fun q _ _ a => h.1 q a, fun j _ _ _ => by rw [h.1 0 (by decide)], h.2.1⟩
set_option maxHeartbeats 1000000 in
theorem lc_X11_triesOpening (V : Vt) (d : Nat) (σ : Sg) (ol : Nat) (hol : ol ≤ 4) (x : Int32) (P : Sg → Prop) (X : Xt) (hx : Ok V RX11 cX11_triesOpening 6 (d + 7) X) (he : En layM V none (Rv P) X) (hP : ∀ τ, CPY σ τ ol → P τ) : ∀ (i : Nat) (τ : Sg), i ≤ ol → CPY σ τ i → WS layM V 6 X τ 33 [(4, .int (nI i)), (3, .int x), (0, rf V 0), (1, .int (nI ol)), (2, .int (nI ol))] [] := by
  have hoI : (nI ol).toInt = (ol : Int) := nI_c (by omega)
  intro i
  induction hm : ol - i using Nat.strongRecOn generalizing i with
  | _ m9 ih =>
    intro τ hi hE
    have hiI : (nI i).toInt = (i : Int) := nI_c (by omega)
    refine WS.iload hx dX11_triesOpening_33 0 rfl ?_
    refine WS.iload_n hx dX11_triesOpening_35 rfl 4 rfl ?_
    refine WS.icmp_ge (tgt := 59) hx dX11_triesOpening_36 (by decide) (fun c36 => ?_) (fun c36 => ?_)
    · skip
      show WS layM V 6 X τ 59 [(4, .int (nI i)), (3, .int x), (0, rf V 0), (1, .int (nI ol)), (2, .int (nI ol))] []
      exact WS.vret hx he dX11_triesOpening_59 ⟨rfl, hP τ (by rw [show ol = i by (try simp only [l_int, tL_0, tL_1, tL_2, tL_4, tL_5, tL_6, tL_7, tL_9, tL_10, tL_12, tL_15, tL_30, tL_40, tL_60, tL_99, tL_255, tL_1023, tL_m1, lc_lt, lc_gt, lc_ge, lc_le, lc_eq, l6_le, l6_lt, l6_eq, tI_m133, tI_m226, i_le, i_lt, i_eq, tI_0, tI_1, tI_30] at c36); (try simp only [l_int, tL_0, tL_1, tL_2, tL_4, tL_5, tL_6, tL_7, tL_9, tL_10, tL_12, tL_15, tL_30, tL_40, tL_60, tL_99, tL_255, tL_1023, tL_m1, lc_lt, lc_gt, lc_ge, lc_le, lc_eq, l6_le, l6_lt, l6_eq, tI_m133, tI_m226, i_le, i_lt, i_eq, tI_0, tI_1, tI_30]); omega]; exact hE)⟩
    · skip
      show WS layM V 6 X τ 39 [(4, .int (nI i)), (3, .int x), (0, rf V 0), (1, .int (nI ol)), (2, .int (nI ol))] []
      refine WS.aload_n hx dX11_triesOpening_39 rfl 2 rfl ?_
      refine WS.getR hx okX11 lf11_59 rfl rfl dX11_triesOpening_40 ?_
      refine WS.iload hx dX11_triesOpening_43 0 rfl ?_
      refine WS.aload_n hx dX11_triesOpening_45 rfl 2 rfl ?_
      refine WS.getR hx okX11 lf11_56 rfl rfl dX11_triesOpening_46 ?_
      refine WS.iload hx dX11_triesOpening_49 0 rfl ?_
      refine WS.iald hx rfl (vp_in_nI (by (try simp only [l_int, tL_0, tL_1, tL_2, tL_4, tL_5, tL_6, tL_7, tL_9, tL_10, tL_12, tL_15, tL_30, tL_40, tL_60, tL_99, tL_255, tL_1023, tL_m1, lc_lt, lc_gt, lc_ge, lc_le, lc_eq, l6_le, l6_lt, l6_eq, tI_m133, tI_m226, i_le, i_lt, i_eq, tI_0, tI_1, tI_30] at c36); (try simp only [l_int, tL_0, tL_1, tL_2, tL_4, tL_5, tL_6, tL_7, tL_9, tL_10, tL_12, tL_15, tL_30, tL_40, tL_60, tL_99, tL_255, tL_1023, tL_m1, lc_lt, lc_gt, lc_ge, lc_le, lc_eq, l6_le, l6_lt, l6_eq, tI_m133, tI_m226, i_le, i_lt, i_eq, tI_0, tI_1, tI_30]); omega) (by decide)) dX11_triesOpening_51 ?_
      refine WS.as rfl rfl (congrArg (fun z => Value.int z :: _) (show τ.1 16 (nn (nI i)) = σ.1 16 i from by rw [nn_nI (by omega), hE.1 16 (by decide)])) ?_
      skip
      refine WS.iast hx rfl (vp_in_nI (by (try simp only [l_int, tL_0, tL_1, tL_2, tL_4, tL_5, tL_6, tL_7, tL_9, tL_10, tL_12, tL_15, tL_30, tL_40, tL_60, tL_99, tL_255, tL_1023, tL_m1, lc_lt, lc_gt, lc_ge, lc_le, lc_eq, l6_le, l6_lt, l6_eq, tI_m133, tI_m226, i_le, i_lt, i_eq, tI_0, tI_1, tI_30] at c36); (try simp only [l_int, tL_0, tL_1, tL_2, tL_4, tL_5, tL_6, tL_7, tL_9, tL_10, tL_12, tL_15, tL_30, tL_40, tL_60, tL_99, tL_255, tL_1023, tL_m1, lc_lt, lc_gt, lc_ge, lc_le, lc_eq, l6_le, l6_lt, l6_eq, tI_m133, tI_m226, i_le, i_lt, i_eq, tI_0, tI_1, tI_30]); omega) (by decide)) dX11_triesOpening_52 ?_
      refine WS.iinc (v := nI (i + 1)) (lo' := [(4, .int (nI (i + 1))), (3, .int x), (0, rf V 0), (1, .int (nI ol)), (2, .int (nI ol))]) hx dX11_triesOpening_53 0 rfl (nI_1 i) (by decide) rfl ?_
      refine WS.goto (tgt := 33) hx dX11_triesOpening_56 (by decide) ?_
      (try simp only [nn_nI (show i < 2 ^ 31 by omega), nI_clamp (show i < 2 ^ 31 by omega)])
      exact WS.los [0, 1, 2, 3, 4] rfl (ih _ (by (try simp only [l_int, tL_0, tL_1, tL_2, tL_4, tL_5, tL_6, tL_7, tL_9, tL_10, tL_12, tL_15, tL_30, tL_40, tL_60, tL_99, tL_255, tL_1023, tL_m1, lc_lt, lc_gt, lc_ge, lc_le, lc_eq, l6_le, l6_lt, l6_eq, tI_m133, tI_m226, i_le, i_lt, i_eq, tI_0, tI_1, tI_30] at c36); (try simp only [l_int, tL_0, tL_1, tL_2, tL_4, tL_5, tL_6, tL_7, tL_9, tL_10, tL_12, tL_15, tL_30, tL_40, tL_60, tL_99, tL_255, tL_1023, tL_m1, lc_lt, lc_gt, lc_ge, lc_le, lc_eq, l6_le, l6_lt, l6_eq, tI_m133, tI_m226, i_le, i_lt, i_eq, tI_0, tI_1, tI_30]); omega) (i + 1) rfl _ (by (try simp only [l_int, tL_0, tL_1, tL_2, tL_4, tL_5, tL_6, tL_7, tL_9, tL_10, tL_12, tL_15, tL_30, tL_40, tL_60, tL_99, tL_255, tL_1023, tL_m1, lc_lt, lc_gt, lc_ge, lc_le, lc_eq, l6_le, l6_lt, l6_eq, tI_m133, tI_m226, i_le, i_lt, i_eq, tI_0, tI_1, tI_30] at c36); (try simp only [l_int, tL_0, tL_1, tL_2, tL_4, tL_5, tL_6, tL_7, tL_9, tL_10, tL_12, tL_15, tL_30, tL_40, tL_60, tL_99, tL_255, tL_1023, tL_m1, lc_lt, lc_gt, lc_ge, lc_le, lc_eq, l6_le, l6_lt, l6_eq, tI_m133, tI_m226, i_le, i_lt, i_eq, tI_0, tI_1, tI_30]); omega) ⟨fun q hq => (stI_o _ _ _ _ hq).trans (hE.1 q hq), hE.2.1, fun j hj => by
          by_cases e : j = i
          · rw [e, stI_1]
          · rw [stI_k _ _ _ _ e]; exact hE.2.2 j (by omega)⟩)
set_option maxHeartbeats 1000000 in
theorem c_X11_triesOpening0 (V : Vt) (d : Nat) (σ : Sg) (κ : Sg) (n : Nat) (hM : MR κ σ n) (cs : Nat → Int32) (T : Nat) (lw : Lw) (hL : ML σ cs T lw) (ol : Nat) (hol : ol ≤ 4) (tr : Nat → Nat) (cl : Int32) (s : Od) (sd : Nat → Int32) (hTR : TR κ n tr ol) (hCL : CL κ n tr ol cl) (hO : OR σ s ol ol tr) : CT layM V mX11_triesOpening (d + 7) [rf V 0, .int (nI ol), .int (nI ol)] σ (Rv fun τ' => MO σ τ' ∧ OR τ' (tryF sd n ol 0 ol cl (OW (wdM κ n lw) tr ol) s) ol ol tr) := by
  refine CT.of (own := RX11) rfl (by decide) (Nat.le_of_ble_eq_true rfl) (fun X (hx : Ok V RX11 cX11_triesOpening 6 (d + 7) X) (he : En layM V none (Rv fun τ' => MO σ τ' ∧ OR τ' (tryF sd n ol 0 ol cl (OW (wdM κ n lw) tr ol) s) ol ol tr) X) => ?_)
  change WS layM V 6 X σ 0 [(0, rf V 0), (1, .int (nI ol)), (2, .int (nI ol))] []
  have hn := hM.n
  have hbc : bcF (OW (wdM κ n lw) tr ol) = btM (OW (wdM κ n lw) tr ol) 16 := by
    obtain ⟨k, h1, h2⟩ := OW_n (W := (wdM κ n lw)) (tr := tr) ol (fun j hj => (ftS_w hM.q (hTR.1 j hj).1 j).2)
    rw [h2]; exact bc_bt (by omega)
  refine WS.iload_n hx dX11_triesOpening_0 rfl 1 rfl ?_
  refine WS.iload_n hx dX11_triesOpening_1 rfl 2 rfl ?_
  refine WS.icmp_ne (tgt := 60) hx dX11_triesOpening_2 (by decide) (fun c2 => absurd rfl c2) (fun c2 => ?_)
  refine WS.aload_n hx dX11_triesOpening_5 rfl 0 rfl ?_
  refine WS.iload_n hx dX11_triesOpening_6 rfl 2 rfl ?_
  refine WS.callVi (st := []) [.int (nI ol)] hx (c_X11_saidBy V d σ κ n hM cs T lw hL tr ol hol hTR (fun j hj => (hO.2.2 j hj).1)) okX11_saidBy lm11_264 rfl rfl rfl rfl (Nat.le_of_ble_eq_true rfl) dX11_triesOpening_7 (fun v1 σ2 h3 => ?_)
  obtain ⟨rfl, me7⟩ := h3
  show WS layM V 6 X σ2 10 [(0, rf V 0), (1, .int (nI ol)), (2, .int (nI ol))] [.int (OW (wdM κ n lw) tr ol)]
  refine WS.istore_n (lo' := [(3, .int (OW (wdM κ n lw) tr ol)), (0, rf V 0), (1, .int (nI ol)), (2, .int (nI ol))]) hx dX11_triesOpening_10 rfl (by decide) rfl ?_
  refine WS.iload_n hx dX11_triesOpening_11 rfl 0 rfl ?_
  refine WS.callSi (st := []) [.int (OW (wdM κ n lw) tr ol)] hx (c_X11_bitsOf V (d + 6) σ2 (OW (wdM κ n lw) tr ol)) okX11_bitsOf lm11_248 rfl rfl (Nat.le_of_ble_eq_true rfl) dX11_triesOpening_12 (fun v4 σ5 h6 => ?_)
  obtain ⟨rfl, rfl⟩ := h6
  show WS layM V 6 X σ2 15 [(3, .int (OW (wdM κ n lw) tr ol)), (0, rf V 0), (1, .int (nI ol)), (2, .int (nI ol))] [.int (btM (OW (wdM κ n lw) tr ol) 16)]
  refine WS.aload_n hx dX11_triesOpening_15 rfl 1 rfl ?_
  refine WS.getI hx okX11 lf11_267 rfl rfl dX11_triesOpening_16 ?_
  refine WS.as rfl rfl (congrArg (fun z => Value.int z :: _) (show σ2.1 0 29 = s.2.2 from (hO.me me7).1)) ?_
  skip
  refine WS.icmp_le (tgt := 59) hx dX11_triesOpening_19 (by decide) (fun c19 => ?_) (fun c19 => ?_)
  · skip
    show WS layM V 6 X σ2 59 [(3, .int (OW (wdM κ n lw) tr ol)), (0, rf V 0), (1, .int (nI ol)), (2, .int (nI ol))] []
    have hk9 : kib ol (bcF (OW (wdM κ n lw) tr ol)) s = s := if_pos (by rw [hbc]; exact c19)
    exact WS.vret hx he dX11_triesOpening_59 ⟨rfl, me7.mo, by show OR _ (kib ol (bcF (OW (wdM κ n lw) tr ol)) s) ol ol tr; rw [hk9]; exact hO.me me7⟩
  · skip
    show WS layM V 6 X σ2 22 [(3, .int (OW (wdM κ n lw) tr ol)), (0, rf V 0), (1, .int (nI ol)), (2, .int (nI ol))] []
    have hk9 : kib ol (bcF (OW (wdM κ n lw) tr ol)) s = (s.1, va_cpy s.1 s.2.1 0 0 ol, btM (OW (wdM κ n lw) tr ol) 16) := by
      rw [← hbc]; exact if_neg (by rw [hbc]; exact c19)
    refine WS.aload_n hx dX11_triesOpening_22 rfl 1 rfl ?_
    refine WS.iload_n hx dX11_triesOpening_23 rfl 0 rfl ?_
    refine WS.callSi (st := [rf V 0]) [.int (OW (wdM κ n lw) tr ol)] hx (c_X11_bitsOf V (d + 6) σ2 (OW (wdM κ n lw) tr ol)) okX11_bitsOf lm11_248 rfl rfl (Nat.le_of_ble_eq_true rfl) dX11_triesOpening_24 (fun v7 σ8 h9 => ?_)
    obtain ⟨rfl, rfl⟩ := h9
    show WS layM V 6 X σ2 27 [(3, .int (OW (wdM κ n lw) tr ol)), (0, rf V 0), (1, .int (nI ol)), (2, .int (nI ol))] [.int (btM (OW (wdM κ n lw) tr ol) 16), rf V 0]
    refine WS.putI hx okX11 lf11_267 rfl rfl rfl rfl dX11_triesOpening_27 ?_
    refine WS.iconst (v := 0) hx dX11_triesOpening_30 (by decide) ?_
    refine WS.istore (lo' := [(4, .int 0), (3, .int (OW (wdM κ n lw) tr ol)), (0, rf V 0), (1, .int (nI ol)), (2, .int (nI ol))]) hx dX11_triesOpening_31 (by decide) rfl ?_
    exact WS.los [0, 1, 2, 3, 4] rfl (lc_X11_triesOpening V d _ ol hol _ _ X hx he (fun τ h9 => ⟨(me7.mo.tr MO.s0).tr h9.mo, by
        show OR τ (kib ol (bcF (OW (wdM κ n lw) tr ol)) s) ol ol tr
        rw [hk9]
        refine ⟨by rw [h9.1 0 (by decide)]; rfl, Or.inr (fun j hj => ?_), fun j hj => ?_⟩
        · rw [h9.2.2 j hj]
          have h8 := ((hO.me me7).2.2 j hj)
          show _ = va_cpy s.1 s.2.1 0 0 ol j
          unfold va_cpy
          rw [if_pos (by omega)]
          show σ2.1 16 j = s.1 (0 + (j - 0))
          rw [h8.1, show 0 + (j - 0) = j by omega, h8.2]
        · rw [h9.1 16 (by decide)]; exact (hO.me me7).2.2 j hj⟩) 0 _ (Nat.zero_le _) ⟨fun _ _ => rfl, rfl, fun j hj => absurd hj (Nat.not_lt_zero j)⟩)
set_option maxHeartbeats 1000000 in
theorem li_X11_triesOpening (V : Vt) (d : Nat) (τ κ : Sg) (ol dp b : Nat) (hb : b < 10) (hol : ol ≤ 4) (hdp : dp ≤ 4) (tr : Nat → Nat) (ht : ∀ j, j < dp → τ.1 16 j = nI (tr j) ∧ tr j < 10) (X : Xt) (hx : Ok V RX11 cX11_triesOpening 6 (d + 8) X) (hC : WS layM V 6 X τ 127 [(5, .int (nI dp)), (4, .int (bI (trU κ tr b dp))), (3, .int (nI b)), (0, rf V 0), (1, .int (nI dp)), (2, .int (nI ol))] []) : ∀ (j : Nat), j ≤ dp → WS layM V 6 X τ 92 [(5, .int (nI j)), (4, .int (bI (trU κ tr b j))), (3, .int (nI b)), (0, rf V 0), (1, .int (nI dp)), (2, .int (nI ol))] [] := by
  have hdI : (nI dp).toInt = (dp : Int) := nI_c (by omega)
  intro j
  induction hm : dp - j using Nat.strongRecOn generalizing j with
  | _ m9 ih =>
    intro hj
    have hjI : (nI j).toInt = (j : Int) := nI_c (by omega)
    refine WS.iload hx dX11_triesOpening_92 0 rfl ?_
    refine WS.iload_n hx dX11_triesOpening_94 rfl 4 rfl ?_
    refine WS.icmp_ge (tgt := 127) hx dX11_triesOpening_95 (by decide) (fun c95 => ?_) (fun c95 => ?_)
    · skip
      show WS layM V 6 X τ 127 [(5, .int (nI j)), (4, .int (bI (trU κ tr b j))), (3, .int (nI b)), (0, rf V 0), (1, .int (nI dp)), (2, .int (nI ol))] []
      have hjd : j = dp := by (try simp only [l_int, tL_0, tL_1, tL_2, tL_4, tL_5, tL_6, tL_7, tL_9, tL_10, tL_12, tL_15, tL_30, tL_40, tL_60, tL_99, tL_255, tL_1023, tL_m1, lc_lt, lc_gt, lc_ge, lc_le, lc_eq, l6_le, l6_lt, l6_eq, tI_m133, tI_m226, i_le, i_lt, i_eq, tI_0, tI_1, tI_30] at c95); (try simp only [l_int, tL_0, tL_1, tL_2, tL_4, tL_5, tL_6, tL_7, tL_9, tL_10, tL_12, tL_15, tL_30, tL_40, tL_60, tL_99, tL_255, tL_1023, tL_m1, lc_lt, lc_gt, lc_ge, lc_le, lc_eq, l6_le, l6_lt, l6_eq, tI_m133, tI_m226, i_le, i_lt, i_eq, tI_0, tI_1, tI_30]); omega
      subst hjd
      exact WS.los [0, 1, 2, 3, 4, 5] rfl hC
    · skip
      show WS layM V 6 X τ 98 [(5, .int (nI j)), (4, .int (bI (trU κ tr b j))), (3, .int (nI b)), (0, rf V 0), (1, .int (nI dp)), (2, .int (nI ol))] []
      refine WS.iload hx dX11_triesOpening_98 1 rfl ?_
      refine WS.if_eq (tgt := 118) hx dX11_triesOpening_100 (by decide) (fun c100 => ?_) (fun c100 => ?_)
      · skip
        show WS layM V 6 X τ 118 [(5, .int (nI j)), (4, .int (bI (trU κ tr b j))), (3, .int (nI b)), (0, rf V 0), (1, .int (nI dp)), (2, .int (nI ol))] []
        refine WS.iconst (v := 0) hx dX11_triesOpening_118 (by decide) ?_
        refine WS.as rfl rfl (congrArg (fun z => Value.int z :: _) (show 0 = bI (trU κ tr b (j + 1)) from by
    show _ = bI (trU κ tr b j && !decide (tr j = b))
    first | (rw [bI_0.mp c100]; rfl) | (rw [decide_eq_true ((nI_eq (by have := (ht j (by (try simp only [l_int, tL_0, tL_1, tL_2, tL_4, tL_5, tL_6, tL_7, tL_9, tL_10, tL_12, tL_15, tL_30, tL_40, tL_60, tL_99, tL_255, tL_1023, tL_m1, lc_lt, lc_gt, lc_ge, lc_le, lc_eq, l6_le, l6_lt, l6_eq, tI_m133, tI_m226, i_le, i_lt, i_eq, tI_0, tI_1, tI_30] at c95); (try simp only [l_int, tL_0, tL_1, tL_2, tL_4, tL_5, tL_6, tL_7, tL_9, tL_10, tL_12, tL_15, tL_30, tL_40, tL_60, tL_99, tL_255, tL_1023, tL_m1, lc_lt, lc_gt, lc_ge, lc_le, lc_eq, l6_le, l6_lt, l6_eq, tI_m133, tI_m226, i_le, i_lt, i_eq, tI_0, tI_1, tI_30] at c100); (try simp only [l_int, tL_0, tL_1, tL_2, tL_4, tL_5, tL_6, tL_7, tL_9, tL_10, tL_12, tL_15, tL_30, tL_40, tL_60, tL_99, tL_255, tL_1023, tL_m1, lc_lt, lc_gt, lc_ge, lc_le, lc_eq, l6_le, l6_lt, l6_eq, tI_m133, tI_m226, i_le, i_lt, i_eq, tI_0, tI_1, tI_30]); omega)).2; omega) (by omega)).mp c111), Bool.not_true, Bool.and_false]; rfl))) ?_
        skip
        refine WS.istore (lo' := [(4, .int (bI (trU κ tr b (j + 1)))), (5, .int (nI j)), (3, .int (nI b)), (0, rf V 0), (1, .int (nI dp)), (2, .int (nI ol))]) hx dX11_triesOpening_119 (by decide) rfl ?_
        refine WS.iinc (v := nI (j + 1)) (lo' := [(5, .int (nI (j + 1))), (4, .int (bI (trU κ tr b (j + 1)))), (3, .int (nI b)), (0, rf V 0), (1, .int (nI dp)), (2, .int (nI ol))]) hx dX11_triesOpening_121 1 rfl (nI_1 j) (by decide) rfl ?_
        refine WS.goto (tgt := 92) hx dX11_triesOpening_124 (by decide) ?_
        exact WS.los [0, 1, 2, 3, 4, 5] rfl (ih _ (by (try simp only [l_int, tL_0, tL_1, tL_2, tL_4, tL_5, tL_6, tL_7, tL_9, tL_10, tL_12, tL_15, tL_30, tL_40, tL_60, tL_99, tL_255, tL_1023, tL_m1, lc_lt, lc_gt, lc_ge, lc_le, lc_eq, l6_le, l6_lt, l6_eq, tI_m133, tI_m226, i_le, i_lt, i_eq, tI_0, tI_1, tI_30] at c95); (try simp only [l_int, tL_0, tL_1, tL_2, tL_4, tL_5, tL_6, tL_7, tL_9, tL_10, tL_12, tL_15, tL_30, tL_40, tL_60, tL_99, tL_255, tL_1023, tL_m1, lc_lt, lc_gt, lc_ge, lc_le, lc_eq, l6_le, l6_lt, l6_eq, tI_m133, tI_m226, i_le, i_lt, i_eq, tI_0, tI_1, tI_30] at c100); (try simp only [l_int, tL_0, tL_1, tL_2, tL_4, tL_5, tL_6, tL_7, tL_9, tL_10, tL_12, tL_15, tL_30, tL_40, tL_60, tL_99, tL_255, tL_1023, tL_m1, lc_lt, lc_gt, lc_ge, lc_le, lc_eq, l6_le, l6_lt, l6_eq, tI_m133, tI_m226, i_le, i_lt, i_eq, tI_0, tI_1, tI_30]); omega) (j + 1) rfl (by (try simp only [l_int, tL_0, tL_1, tL_2, tL_4, tL_5, tL_6, tL_7, tL_9, tL_10, tL_12, tL_15, tL_30, tL_40, tL_60, tL_99, tL_255, tL_1023, tL_m1, lc_lt, lc_gt, lc_ge, lc_le, lc_eq, l6_le, l6_lt, l6_eq, tI_m133, tI_m226, i_le, i_lt, i_eq, tI_0, tI_1, tI_30] at c95); (try simp only [l_int, tL_0, tL_1, tL_2, tL_4, tL_5, tL_6, tL_7, tL_9, tL_10, tL_12, tL_15, tL_30, tL_40, tL_60, tL_99, tL_255, tL_1023, tL_m1, lc_lt, lc_gt, lc_ge, lc_le, lc_eq, l6_le, l6_lt, l6_eq, tI_m133, tI_m226, i_le, i_lt, i_eq, tI_0, tI_1, tI_30] at c100); (try simp only [l_int, tL_0, tL_1, tL_2, tL_4, tL_5, tL_6, tL_7, tL_9, tL_10, tL_12, tL_15, tL_30, tL_40, tL_60, tL_99, tL_255, tL_1023, tL_m1, lc_lt, lc_gt, lc_ge, lc_le, lc_eq, l6_le, l6_lt, l6_eq, tI_m133, tI_m226, i_le, i_lt, i_eq, tI_0, tI_1, tI_30]); omega))
      · skip
        show WS layM V 6 X τ 103 [(5, .int (nI j)), (4, .int (bI (trU κ tr b j))), (3, .int (nI b)), (0, rf V 0), (1, .int (nI dp)), (2, .int (nI ol))] []
        refine WS.aload_n hx dX11_triesOpening_103 rfl 3 rfl ?_
        refine WS.getR hx okX11 lf11_56 rfl rfl dX11_triesOpening_104 ?_
        refine WS.iload hx dX11_triesOpening_107 0 rfl ?_
        refine WS.iald hx rfl (vp_in_nI (by (try simp only [l_int, tL_0, tL_1, tL_2, tL_4, tL_5, tL_6, tL_7, tL_9, tL_10, tL_12, tL_15, tL_30, tL_40, tL_60, tL_99, tL_255, tL_1023, tL_m1, lc_lt, lc_gt, lc_ge, lc_le, lc_eq, l6_le, l6_lt, l6_eq, tI_m133, tI_m226, i_le, i_lt, i_eq, tI_0, tI_1, tI_30] at c95); (try simp only [l_int, tL_0, tL_1, tL_2, tL_4, tL_5, tL_6, tL_7, tL_9, tL_10, tL_12, tL_15, tL_30, tL_40, tL_60, tL_99, tL_255, tL_1023, tL_m1, lc_lt, lc_gt, lc_ge, lc_le, lc_eq, l6_le, l6_lt, l6_eq, tI_m133, tI_m226, i_le, i_lt, i_eq, tI_0, tI_1, tI_30] at c100); (try simp only [l_int, tL_0, tL_1, tL_2, tL_4, tL_5, tL_6, tL_7, tL_9, tL_10, tL_12, tL_15, tL_30, tL_40, tL_60, tL_99, tL_255, tL_1023, tL_m1, lc_lt, lc_gt, lc_ge, lc_le, lc_eq, l6_le, l6_lt, l6_eq, tI_m133, tI_m226, i_le, i_lt, i_eq, tI_0, tI_1, tI_30]); omega) (by decide)) dX11_triesOpening_109 ?_
        refine WS.as rfl rfl (congrArg (fun z => Value.int z :: _) (show τ.1 16 (nn (nI j)) = nI (tr j) from by rw [nn_nI (by omega)]; exact (ht j (by (try simp only [l_int, tL_0, tL_1, tL_2, tL_4, tL_5, tL_6, tL_7, tL_9, tL_10, tL_12, tL_15, tL_30, tL_40, tL_60, tL_99, tL_255, tL_1023, tL_m1, lc_lt, lc_gt, lc_ge, lc_le, lc_eq, l6_le, l6_lt, l6_eq, tI_m133, tI_m226, i_le, i_lt, i_eq, tI_0, tI_1, tI_30] at c95); (try simp only [l_int, tL_0, tL_1, tL_2, tL_4, tL_5, tL_6, tL_7, tL_9, tL_10, tL_12, tL_15, tL_30, tL_40, tL_60, tL_99, tL_255, tL_1023, tL_m1, lc_lt, lc_gt, lc_ge, lc_le, lc_eq, l6_le, l6_lt, l6_eq, tI_m133, tI_m226, i_le, i_lt, i_eq, tI_0, tI_1, tI_30] at c100); (try simp only [l_int, tL_0, tL_1, tL_2, tL_4, tL_5, tL_6, tL_7, tL_9, tL_10, tL_12, tL_15, tL_30, tL_40, tL_60, tL_99, tL_255, tL_1023, tL_m1, lc_lt, lc_gt, lc_ge, lc_le, lc_eq, l6_le, l6_lt, l6_eq, tI_m133, tI_m226, i_le, i_lt, i_eq, tI_0, tI_1, tI_30]); omega)).1)) ?_
        skip
        refine WS.iload_n hx dX11_triesOpening_110 rfl 2 rfl ?_
        refine WS.icmp_eq (tgt := 118) hx dX11_triesOpening_111 (by decide) (fun c111 => ?_) (fun c111 => ?_)
        · skip
          show WS layM V 6 X τ 118 [(5, .int (nI j)), (4, .int (bI (trU κ tr b j))), (3, .int (nI b)), (0, rf V 0), (1, .int (nI dp)), (2, .int (nI ol))] []
          refine WS.iconst (v := 0) hx dX11_triesOpening_118 (by decide) ?_
          refine WS.as rfl rfl (congrArg (fun z => Value.int z :: _) (show 0 = bI (trU κ tr b (j + 1)) from by
    show _ = bI (trU κ tr b j && !decide (tr j = b))
    first | (rw [bI_0.mp c100]; rfl) | (rw [decide_eq_true ((nI_eq (by have := (ht j (by (try simp only [l_int, tL_0, tL_1, tL_2, tL_4, tL_5, tL_6, tL_7, tL_9, tL_10, tL_12, tL_15, tL_30, tL_40, tL_60, tL_99, tL_255, tL_1023, tL_m1, lc_lt, lc_gt, lc_ge, lc_le, lc_eq, l6_le, l6_lt, l6_eq, tI_m133, tI_m226, i_le, i_lt, i_eq, tI_0, tI_1, tI_30] at c95); (try simp only [l_int, tL_0, tL_1, tL_2, tL_4, tL_5, tL_6, tL_7, tL_9, tL_10, tL_12, tL_15, tL_30, tL_40, tL_60, tL_99, tL_255, tL_1023, tL_m1, lc_lt, lc_gt, lc_ge, lc_le, lc_eq, l6_le, l6_lt, l6_eq, tI_m133, tI_m226, i_le, i_lt, i_eq, tI_0, tI_1, tI_30] at c100); (try simp only [l_int, tL_0, tL_1, tL_2, tL_4, tL_5, tL_6, tL_7, tL_9, tL_10, tL_12, tL_15, tL_30, tL_40, tL_60, tL_99, tL_255, tL_1023, tL_m1, lc_lt, lc_gt, lc_ge, lc_le, lc_eq, l6_le, l6_lt, l6_eq, tI_m133, tI_m226, i_le, i_lt, i_eq, tI_0, tI_1, tI_30] at c111); (try simp only [l_int, tL_0, tL_1, tL_2, tL_4, tL_5, tL_6, tL_7, tL_9, tL_10, tL_12, tL_15, tL_30, tL_40, tL_60, tL_99, tL_255, tL_1023, tL_m1, lc_lt, lc_gt, lc_ge, lc_le, lc_eq, l6_le, l6_lt, l6_eq, tI_m133, tI_m226, i_le, i_lt, i_eq, tI_0, tI_1, tI_30]); omega)).2; omega) (by omega)).mp c111), Bool.not_true, Bool.and_false]; rfl))) ?_
          skip
          refine WS.istore (lo' := [(4, .int (bI (trU κ tr b (j + 1)))), (5, .int (nI j)), (3, .int (nI b)), (0, rf V 0), (1, .int (nI dp)), (2, .int (nI ol))]) hx dX11_triesOpening_119 (by decide) rfl ?_
          refine WS.iinc (v := nI (j + 1)) (lo' := [(5, .int (nI (j + 1))), (4, .int (bI (trU κ tr b (j + 1)))), (3, .int (nI b)), (0, rf V 0), (1, .int (nI dp)), (2, .int (nI ol))]) hx dX11_triesOpening_121 1 rfl (nI_1 j) (by decide) rfl ?_
          refine WS.goto (tgt := 92) hx dX11_triesOpening_124 (by decide) ?_
          exact WS.los [0, 1, 2, 3, 4, 5] rfl (ih _ (by (try simp only [l_int, tL_0, tL_1, tL_2, tL_4, tL_5, tL_6, tL_7, tL_9, tL_10, tL_12, tL_15, tL_30, tL_40, tL_60, tL_99, tL_255, tL_1023, tL_m1, lc_lt, lc_gt, lc_ge, lc_le, lc_eq, l6_le, l6_lt, l6_eq, tI_m133, tI_m226, i_le, i_lt, i_eq, tI_0, tI_1, tI_30] at c95); (try simp only [l_int, tL_0, tL_1, tL_2, tL_4, tL_5, tL_6, tL_7, tL_9, tL_10, tL_12, tL_15, tL_30, tL_40, tL_60, tL_99, tL_255, tL_1023, tL_m1, lc_lt, lc_gt, lc_ge, lc_le, lc_eq, l6_le, l6_lt, l6_eq, tI_m133, tI_m226, i_le, i_lt, i_eq, tI_0, tI_1, tI_30] at c100); (try simp only [l_int, tL_0, tL_1, tL_2, tL_4, tL_5, tL_6, tL_7, tL_9, tL_10, tL_12, tL_15, tL_30, tL_40, tL_60, tL_99, tL_255, tL_1023, tL_m1, lc_lt, lc_gt, lc_ge, lc_le, lc_eq, l6_le, l6_lt, l6_eq, tI_m133, tI_m226, i_le, i_lt, i_eq, tI_0, tI_1, tI_30] at c111); (try simp only [l_int, tL_0, tL_1, tL_2, tL_4, tL_5, tL_6, tL_7, tL_9, tL_10, tL_12, tL_15, tL_30, tL_40, tL_60, tL_99, tL_255, tL_1023, tL_m1, lc_lt, lc_gt, lc_ge, lc_le, lc_eq, l6_le, l6_lt, l6_eq, tI_m133, tI_m226, i_le, i_lt, i_eq, tI_0, tI_1, tI_30]); omega) (j + 1) rfl (by (try simp only [l_int, tL_0, tL_1, tL_2, tL_4, tL_5, tL_6, tL_7, tL_9, tL_10, tL_12, tL_15, tL_30, tL_40, tL_60, tL_99, tL_255, tL_1023, tL_m1, lc_lt, lc_gt, lc_ge, lc_le, lc_eq, l6_le, l6_lt, l6_eq, tI_m133, tI_m226, i_le, i_lt, i_eq, tI_0, tI_1, tI_30] at c95); (try simp only [l_int, tL_0, tL_1, tL_2, tL_4, tL_5, tL_6, tL_7, tL_9, tL_10, tL_12, tL_15, tL_30, tL_40, tL_60, tL_99, tL_255, tL_1023, tL_m1, lc_lt, lc_gt, lc_ge, lc_le, lc_eq, l6_le, l6_lt, l6_eq, tI_m133, tI_m226, i_le, i_lt, i_eq, tI_0, tI_1, tI_30] at c100); (try simp only [l_int, tL_0, tL_1, tL_2, tL_4, tL_5, tL_6, tL_7, tL_9, tL_10, tL_12, tL_15, tL_30, tL_40, tL_60, tL_99, tL_255, tL_1023, tL_m1, lc_lt, lc_gt, lc_ge, lc_le, lc_eq, l6_le, l6_lt, l6_eq, tI_m133, tI_m226, i_le, i_lt, i_eq, tI_0, tI_1, tI_30] at c111); (try simp only [l_int, tL_0, tL_1, tL_2, tL_4, tL_5, tL_6, tL_7, tL_9, tL_10, tL_12, tL_15, tL_30, tL_40, tL_60, tL_99, tL_255, tL_1023, tL_m1, lc_lt, lc_gt, lc_ge, lc_le, lc_eq, l6_le, l6_lt, l6_eq, tI_m133, tI_m226, i_le, i_lt, i_eq, tI_0, tI_1, tI_30]); omega))
        · skip
          show WS layM V 6 X τ 114 [(5, .int (nI j)), (4, .int (bI (trU κ tr b j))), (3, .int (nI b)), (0, rf V 0), (1, .int (nI dp)), (2, .int (nI ol))] []
          refine WS.iconst (v := 1) hx dX11_triesOpening_114 (by decide) ?_
          refine WS.as rfl rfl (congrArg (fun z => Value.int z :: _) (show 1 = bI (trU κ tr b (j + 1)) from by
    show _ = bI (trU κ tr b j && !decide (tr j = b))
    rw [decide_eq_false (fun e => c111 (by rw [e]))]; cases h9 : trU κ tr b j with | true => rfl | false => rw [h9] at c100; exact absurd rfl c100)) ?_
          skip
          refine WS.goto (tgt := 119) hx dX11_triesOpening_115 (by decide) ?_
          refine WS.istore (lo' := [(4, .int (bI (trU κ tr b (j + 1)))), (5, .int (nI j)), (3, .int (nI b)), (0, rf V 0), (1, .int (nI dp)), (2, .int (nI ol))]) hx dX11_triesOpening_119 (by decide) rfl ?_
          refine WS.iinc (v := nI (j + 1)) (lo' := [(5, .int (nI (j + 1))), (4, .int (bI (trU κ tr b (j + 1)))), (3, .int (nI b)), (0, rf V 0), (1, .int (nI dp)), (2, .int (nI ol))]) hx dX11_triesOpening_121 1 rfl (nI_1 j) (by decide) rfl ?_
          refine WS.goto (tgt := 92) hx dX11_triesOpening_124 (by decide) ?_
          exact WS.los [0, 1, 2, 3, 4, 5] rfl (ih _ (by (try simp only [l_int, tL_0, tL_1, tL_2, tL_4, tL_5, tL_6, tL_7, tL_9, tL_10, tL_12, tL_15, tL_30, tL_40, tL_60, tL_99, tL_255, tL_1023, tL_m1, lc_lt, lc_gt, lc_ge, lc_le, lc_eq, l6_le, l6_lt, l6_eq, tI_m133, tI_m226, i_le, i_lt, i_eq, tI_0, tI_1, tI_30] at c95); (try simp only [l_int, tL_0, tL_1, tL_2, tL_4, tL_5, tL_6, tL_7, tL_9, tL_10, tL_12, tL_15, tL_30, tL_40, tL_60, tL_99, tL_255, tL_1023, tL_m1, lc_lt, lc_gt, lc_ge, lc_le, lc_eq, l6_le, l6_lt, l6_eq, tI_m133, tI_m226, i_le, i_lt, i_eq, tI_0, tI_1, tI_30] at c100); (try simp only [l_int, tL_0, tL_1, tL_2, tL_4, tL_5, tL_6, tL_7, tL_9, tL_10, tL_12, tL_15, tL_30, tL_40, tL_60, tL_99, tL_255, tL_1023, tL_m1, lc_lt, lc_gt, lc_ge, lc_le, lc_eq, l6_le, l6_lt, l6_eq, tI_m133, tI_m226, i_le, i_lt, i_eq, tI_0, tI_1, tI_30] at c111); (try simp only [l_int, tL_0, tL_1, tL_2, tL_4, tL_5, tL_6, tL_7, tL_9, tL_10, tL_12, tL_15, tL_30, tL_40, tL_60, tL_99, tL_255, tL_1023, tL_m1, lc_lt, lc_gt, lc_ge, lc_le, lc_eq, l6_le, l6_lt, l6_eq, tI_m133, tI_m226, i_le, i_lt, i_eq, tI_0, tI_1, tI_30]); omega) (j + 1) rfl (by (try simp only [l_int, tL_0, tL_1, tL_2, tL_4, tL_5, tL_6, tL_7, tL_9, tL_10, tL_12, tL_15, tL_30, tL_40, tL_60, tL_99, tL_255, tL_1023, tL_m1, lc_lt, lc_gt, lc_ge, lc_le, lc_eq, l6_le, l6_lt, l6_eq, tI_m133, tI_m226, i_le, i_lt, i_eq, tI_0, tI_1, tI_30] at c95); (try simp only [l_int, tL_0, tL_1, tL_2, tL_4, tL_5, tL_6, tL_7, tL_9, tL_10, tL_12, tL_15, tL_30, tL_40, tL_60, tL_99, tL_255, tL_1023, tL_m1, lc_lt, lc_gt, lc_ge, lc_le, lc_eq, l6_le, l6_lt, l6_eq, tI_m133, tI_m226, i_le, i_lt, i_eq, tI_0, tI_1, tI_30] at c100); (try simp only [l_int, tL_0, tL_1, tL_2, tL_4, tL_5, tL_6, tL_7, tL_9, tL_10, tL_12, tL_15, tL_30, tL_40, tL_60, tL_99, tL_255, tL_1023, tL_m1, lc_lt, lc_gt, lc_ge, lc_le, lc_eq, l6_le, l6_lt, l6_eq, tI_m133, tI_m226, i_le, i_lt, i_eq, tI_0, tI_1, tI_30] at c111); (try simp only [l_int, tL_0, tL_1, tL_2, tL_4, tL_5, tL_6, tL_7, tL_9, tL_10, tL_12, tL_15, tL_30, tL_40, tL_60, tL_99, tL_255, tL_1023, tL_m1, lc_lt, lc_gt, lc_ge, lc_le, lc_eq, l6_le, l6_lt, l6_eq, tI_m133, tI_m226, i_le, i_lt, i_eq, tI_0, tI_1, tI_30]); omega))
set_option maxHeartbeats 1000000 in
theorem lt_X11_triesOpening (V : Vt) (d : Nat) (τ : Sg) (κ : Sg) (n : Nat) (hM : MR κ τ n) (cs : Nat → Int32) (T : Nat) (lw : Lw) (hL : ML τ cs T lw) (ol : Nat) (hol : ol ≤ 4) (tr : Nat → Nat) (cl : Int32) (sd : Nat → Int32) (dp r : Nat) (hdp : dp + (r + 1) = ol) (hTR : TR κ n tr dp) (hCL : CL κ n tr dp cl) (hsd : ∀ b, b < n → sd (10 * dp + b) = (wdM κ n lw).2.2.1 (ftS (wdM κ n lw) b dp).1) (hT : ∀ (tr : Nat → Nat) (cl : Int32) (s : Od) (τ : Sg), MR κ τ n → ML τ cs T lw → TR κ n tr (dp + 1) → CL κ n tr (dp + 1) cl → OR τ s (dp + 1) ol tr → CT layM V mX11_triesOpening (d + 7) [rf V 0, .int (nI (dp + 1)), .int (nI ol)] τ (Rv fun τ' => MO τ τ' ∧ OR τ' (tryF sd n ol r (dp + 1) cl (OW (wdM κ n lw) tr (dp + 1)) s) (dp + 1) ol tr)) (i : Nat) (hi : i < n) (s : Od) (hO : OR τ s dp ol tr) (X : Xt) (hx : Ok V RX11 cX11_triesOpening 6 (d + 8) X) (hC : ∀ τ', MO τ τ' → OR τ' ((fun i s => if bitP cl i = true then tryF sd n ol r (dp + 1) (clr cl i) (OW (wdM κ n lw) tr dp ||| ((1 : Int32) <<< (sd (10 * dp + i) &&& 31))) (upd s.1 dp (nI i), s.2) else s) i s) dp ol tr → WS layM V 6 X τ' 62 [(3, .int (nI (i + 1))), (0, rf V 0), (1, .int (nI dp)), (2, .int (nI ol))] []) : WS layM V 6 X τ 127 [(5, .int (nI dp)), (4, .int (bI (trU κ tr i dp))), (3, .int (nI i)), (0, rf V 0), (1, .int (nI dp)), (2, .int (nI ol))] [] := by
  have hn := hM.n
  (try dsimp only at hC)
  refine WS.iload hx dX11_triesOpening_127 1 rfl ?_
  refine WS.if_eq (tgt := 147) hx dX11_triesOpening_129 (by decide) (fun c129 => ?_) (fun c129 => ?_)
  · skip
    show WS layM V 6 X τ 147 [(5, .int (nI dp)), (4, .int (bI (trU κ tr i dp))), (3, .int (nI i)), (0, rf V 0), (1, .int (nI dp)), (2, .int (nI ol))] []
    refine WS.iinc (v := nI (i + 1)) (lo' := [(3, .int (nI (i + 1))), (5, .int (nI dp)), (4, .int (bI (trU κ tr i dp))), (0, rf V 0), (1, .int (nI dp)), (2, .int (nI ol))]) hx dX11_triesOpening_147 2 rfl (nI_1 i) (by decide) rfl ?_
    refine WS.goto (tgt := 62) hx dX11_triesOpening_150 (by decide) ?_
    rw [if_neg (fun h => ?_)] at hC
    · exact WS.los [0, 3, 4, 5] rfl (hC τ MO.rf hO)
    · have h9 := (hCL i hi).mp h
      have h8 := (trU_i dp).mpr ⟨(o_01 hM.q hi).resolve_right h9.1, h9.2⟩
      rw [h8] at c129; exact absurd c129 (by decide)
  · skip
    show WS layM V 6 X τ 132 [(5, .int (nI dp)), (4, .int (bI (trU κ tr i dp))), (3, .int (nI i)), (0, rf V 0), (1, .int (nI dp)), (2, .int (nI ol))] []
    refine WS.aload_n hx dX11_triesOpening_132 rfl 3 rfl ?_
    refine WS.getR hx okX11 lf11_56 rfl rfl dX11_triesOpening_133 ?_
    refine WS.iload_n hx dX11_triesOpening_136 rfl 4 rfl ?_
    refine WS.iload_n hx dX11_triesOpening_137 rfl 2 rfl ?_
    refine WS.iast hx rfl (vp_in_nI (by omega) (by decide)) dX11_triesOpening_138 ?_
    refine WS.sg (fun υ eυ => ?_)
    have eu : υ = stI τ 16 dp (nI i) := by rw [eυ]; simp only [nn_nI (show dp < 2 ^ 31 by omega), nI_clamp (show dp < 2 ^ 31 by omega)]
    have hu : ¬ κ.1 14 i = 1 ∧ ∀ j, j < dp → ¬ tr j = i := by
      have h9 : trU κ tr i dp = true := by cases h8 : trU κ tr i dp with | true => rfl | false => rw [h8] at c129; exact absurd rfl c129
      have h7 := (trU_i dp).mp h9
      exact ⟨by rw [h7.1]; decide, h7.2⟩
    have hor : OR υ (upd s.1 dp (nI i), s.2) (dp + 1) ol (trN tr dp i) := by
      refine ⟨by rw [eu]; exact hO.1, by rw [eu]; exact hO.2.1, fun j hj => ?_⟩
      unfold trN
      by_cases e : j = dp
      · rw [e, if_pos rfl, eu]; exact ⟨stI_1 _ _ _ _, by show upd s.1 dp (nI i) dp = _; simp [upd]⟩
      · rw [if_neg e, eu, stI_k _ _ _ _ e]; exact ⟨(hO.2.2 j (by omega)).1, by show upd s.1 dp (nI i) j = _; simp [upd, e]; exact (hO.2.2 j (by omega)).2⟩
    refine WS.aload_n hx dX11_triesOpening_139 rfl 3 rfl ?_
    refine WS.iload_n hx dX11_triesOpening_140 rfl 4 rfl ?_
    refine WS.iconst (v := 1) hx dX11_triesOpening_141 (by decide) ?_
    refine WS.iadd hx dX11_triesOpening_142 ?_
    refine WS.as rfl rfl (congrArg (fun z => Value.int z :: _) (show (nI dp) + 1 = nI (dp + 1) from nI_1 dp)) ?_
    skip
    refine WS.iload_n hx dX11_triesOpening_143 rfl 5 rfl ?_
    refine WS.callVv (st := []) [.int (nI (dp + 1)), .int (nI ol)] hx (hT (trN tr dp i) (clr cl i) (upd s.1 dp (nI i), s.2) υ (hM.mo (by rw [eu]; exact MO.st (Or.inl rfl))) (hL.mo (by rw [eu]; exact MO.st (Or.inl rfl))) (hTR.s hi hu.1 hu.2) (hCL.s hn hi) hor) okX11_triesOpening lm11_270 rfl rfl rfl rfl (Nat.le_of_ble_eq_true rfl) dX11_triesOpening_144 (fun σ2 h3 => ?_)
    obtain ⟨mo144, or144⟩ := h3
    show WS layM V 6 X σ2 147 [(5, .int (nI dp)), (4, .int (bI (trU κ tr i dp))), (3, .int (nI i)), (0, rf V 0), (1, .int (nI dp)), (2, .int (nI ol))] []
    refine WS.iinc (v := nI (i + 1)) (lo' := [(3, .int (nI (i + 1))), (5, .int (nI dp)), (4, .int (bI (trU κ tr i dp))), (0, rf V 0), (1, .int (nI dp)), (2, .int (nI ol))]) hx dX11_triesOpening_147 2 rfl (nI_1 i) (by decide) rfl ?_
    refine WS.goto (tgt := 62) hx dX11_triesOpening_150 (by decide) ?_
    rw [if_pos ((hCL i hi).mpr hu)] at hC
    refine WS.los [0, 3, 4, 5] rfl (hC _ (MO.tr (by rw [eu]; exact MO.st (Or.inl rfl)) mo144) ?_)
    have h9 := or144
    rw [show OW (wdM κ n lw) (trN tr dp i) (dp + 1) = OW (wdM κ n lw) tr dp ||| ((1 : Int32) <<< (sd (10 * dp + i) &&& 31)) from by
        rw [hsd i hi]
        show OW (wdM κ n lw) (trN tr dp i) dp ||| ((1 : Int32) <<< ((wdM κ n lw).2.2.1 (ftS (wdM κ n lw) (trN tr dp i dp) dp).1 &&& 31)) = _
        rw [OW_cg (tr := tr) (tr' := trN tr dp i) dp (fun j hj => (if_neg (by omega) : trN tr dp i j = tr j)), show trN tr dp i dp = i from if_pos rfl]] at h9
    exact ⟨h9.1, h9.2.1, fun j hj => by
        have h8 := h9.2.2 j (by omega)
        rwa [show trN tr dp i j = tr j from if_neg (by omega)] at h8⟩
set_option maxHeartbeats 1000000 in
theorem lp_X11_triesOpening (V : Vt) (d : Nat) (σ : Sg) (κ : Sg) (n : Nat) (hM : MR κ σ n) (cs : Nat → Int32) (T : Nat) (lw : Lw) (hL : ML σ cs T lw) (ol : Nat) (hol : ol ≤ 4) (tr : Nat → Nat) (cl : Int32) (sd : Nat → Int32) (dp r : Nat) (hdp : dp + (r + 1) = ol) (hTR : TR κ n tr dp) (hCL : CL κ n tr dp cl) (hsd : ∀ b, b < n → sd (10 * dp + b) = (wdM κ n lw).2.2.1 (ftS (wdM κ n lw) b dp).1) (hT : ∀ (tr : Nat → Nat) (cl : Int32) (s : Od) (τ : Sg), MR κ τ n → ML τ cs T lw → TR κ n tr (dp + 1) → CL κ n tr (dp + 1) cl → OR τ s (dp + 1) ol tr → CT layM V mX11_triesOpening (d + 7) [rf V 0, .int (nI (dp + 1)), .int (nI ol)] τ (Rv fun τ' => MO τ τ' ∧ OR τ' (tryF sd n ol r (dp + 1) cl (OW (wdM κ n lw) tr (dp + 1)) s) (dp + 1) ol tr)) (sF : Od) (X : Xt) (hx : Ok V RX11 cX11_triesOpening 6 (d + 8) X) (he : En layM V none (Rv fun τ' => MO σ τ' ∧ OR τ' sF dp ol tr) X) : ∀ (u i : Nat) (s : Od) (τ : Sg), i + u = n → MO σ τ → OR τ s dp ol tr → fdN (fun i s => if bitP cl i = true then tryF sd n ol r (dp + 1) (clr cl i) (OW (wdM κ n lw) tr dp ||| ((1 : Int32) <<< (sd (10 * dp + i) &&& 31))) (upd s.1 dp (nI i), s.2) else s) u i s = sF → WS layM V 6 X τ 62 [(3, .int (nI i)), (0, rf V 0), (1, .int (nI dp)), (2, .int (nI ol))] [] := by
  have hn := hM.n
  have hnI : (nI n).toInt = (n : Int) := nI_c (by omega)
  intro u
  induction u with
  | zero =>
    intro i s τ hiu hE hO hf
    have hM9 := hM.mo hE
    have hiI : (nI i).toInt = (i : Int) := nI_c (by omega)
    refine WS.iload_n hx dX11_triesOpening_62 rfl 0 rfl ?_
    refine WS.aload_n hx dX11_triesOpening_63 rfl 1 rfl ?_
    refine WS.getI hx okX11 lf11_97 rfl rfl dX11_triesOpening_64 ?_
    refine WS.as rfl rfl (congrArg (fun z => Value.int z :: _) (show τ.1 0 6 = nI n from hM9.s)) ?_
    skip
    refine WS.icmp_ge (tgt := 153) hx dX11_triesOpening_67 (by decide) (fun c67 => ?_) (fun c67 => by exfalso; (try simp only [l_int, tL_0, tL_1, tL_2, tL_4, tL_5, tL_6, tL_7, tL_9, tL_10, tL_12, tL_15, tL_30, tL_40, tL_60, tL_99, tL_255, tL_1023, tL_m1, lc_lt, lc_gt, lc_ge, lc_le, lc_eq, l6_le, l6_lt, l6_eq, tI_m133, tI_m226, i_le, i_lt, i_eq, tI_0, tI_1, tI_30] at c67); (try simp only [l_int, tL_0, tL_1, tL_2, tL_4, tL_5, tL_6, tL_7, tL_9, tL_10, tL_12, tL_15, tL_30, tL_40, tL_60, tL_99, tL_255, tL_1023, tL_m1, lc_lt, lc_gt, lc_ge, lc_le, lc_eq, l6_le, l6_lt, l6_eq, tI_m133, tI_m226, i_le, i_lt, i_eq, tI_0, tI_1, tI_30]); omega)
    exact WS.vret hx he dX11_triesOpening_153 ⟨rfl, hE, by rw [← hf]; exact hO⟩
  | succ u ih =>
    intro i s τ hiu hE hO hf
    have hM9 := hM.mo hE
    have hiI : (nI i).toInt = (i : Int) := nI_c (by omega)
    refine WS.iload_n hx dX11_triesOpening_62 rfl 0 rfl ?_
    refine WS.aload_n hx dX11_triesOpening_63 rfl 1 rfl ?_
    refine WS.getI hx okX11 lf11_97 rfl rfl dX11_triesOpening_64 ?_
    refine WS.as rfl rfl (congrArg (fun z => Value.int z :: _) (show τ.1 0 6 = nI n from hM9.s)) ?_
    skip
    refine WS.icmp_ge (tgt := 153) hx dX11_triesOpening_67 (by decide) (fun c67 => by exfalso; (try simp only [l_int, tL_0, tL_1, tL_2, tL_4, tL_5, tL_6, tL_7, tL_9, tL_10, tL_12, tL_15, tL_30, tL_40, tL_60, tL_99, tL_255, tL_1023, tL_m1, lc_lt, lc_gt, lc_ge, lc_le, lc_eq, l6_le, l6_lt, l6_eq, tI_m133, tI_m226, i_le, i_lt, i_eq, tI_0, tI_1, tI_30] at c67); (try simp only [l_int, tL_0, tL_1, tL_2, tL_4, tL_5, tL_6, tL_7, tL_9, tL_10, tL_12, tL_15, tL_30, tL_40, tL_60, tL_99, tL_255, tL_1023, tL_m1, lc_lt, lc_gt, lc_ge, lc_le, lc_eq, l6_le, l6_lt, l6_eq, tI_m133, tI_m226, i_le, i_lt, i_eq, tI_0, tI_1, tI_30]); omega) (fun c67 => ?_)
    refine WS.aload_n hx dX11_triesOpening_70 rfl 1 rfl ?_
    refine WS.getR hx okX11 lf11_9 rfl rfl dX11_triesOpening_71 ?_
    refine WS.bipush (v := 30) hx dX11_triesOpening_74 (by decide) ?_
    refine WS.iload_n hx dX11_triesOpening_76 rfl 0 rfl ?_
    refine WS.iadd hx dX11_triesOpening_77 ?_
    refine WS.as rfl rfl (congrArg (fun z => Value.int z :: _) (show 30 + (nI i) = nI (30 + i) from nI_add 30 i)) ?_
    skip
    refine WS.iald hx rfl (vp_in_nI (by omega) (by decide)) dX11_triesOpening_78 ?_
    refine WS.as rfl rfl (congrArg (fun z => Value.int z :: _) (show τ.1 1 (nn (nI (30 + i))) = κ.1 14 i from by rw [nn_nI (by omega)]; exact hM9.o (by omega))) ?_
    skip
    refine WS.if_ne (tgt := 86) hx dX11_triesOpening_79 (by decide) (fun c79 => ?_) (fun c79 => ?_)
    · skip
      show WS layM V 6 X τ 86 [(3, .int (nI i)), (0, rf V 0), (1, .int (nI dp)), (2, .int (nI ol))] []
      refine WS.iconst (v := 0) hx dX11_triesOpening_86 (by decide) ?_
      refine WS.istore (lo' := [(4, .int 0), (3, .int (nI i)), (0, rf V 0), (1, .int (nI dp)), (2, .int (nI ol))]) hx dX11_triesOpening_87 (by decide) rfl ?_
      refine WS.iconst (v := 0) hx dX11_triesOpening_89 (by decide) ?_
      refine WS.istore (lo' := [(5, .int 0), (4, .int 0), (3, .int (nI i)), (0, rf V 0), (1, .int (nI dp)), (2, .int (nI ol))]) hx dX11_triesOpening_90 (by decide) rfl ?_
      have hb0 : bI (trU κ tr i 0) = 0 := by show bI (decide (κ.1 14 i = 0)) = 0; rw [decide_eq_false c79]; rfl
      have hl9 := li_X11_triesOpening V d τ κ ol dp i (by omega) hol (by omega) tr (fun j hj => ⟨(hO.2.2 j hj).1, by have := (hTR.1 j hj).1; omega⟩) X hx (lt_X11_triesOpening V d τ κ n hM9 cs T lw (hL.mo hE) ol hol tr cl sd dp r hdp hTR hCL hsd hT i (by omega) s hO X hx (fun τ9 g1 g2 => ih (i + 1) _ τ9 (by omega) (hE.tr g1) g2 hf)) 0 (Nat.zero_le _)
      rw [hb0] at hl9
      exact WS.los [0, 1, 2, 3, 4, 5] rfl hl9
    · skip
      show WS layM V 6 X τ 82 [(3, .int (nI i)), (0, rf V 0), (1, .int (nI dp)), (2, .int (nI ol))] []
      refine WS.iconst (v := 1) hx dX11_triesOpening_82 (by decide) ?_
      refine WS.goto (tgt := 87) hx dX11_triesOpening_83 (by decide) ?_
      refine WS.istore (lo' := [(4, .int 1), (3, .int (nI i)), (0, rf V 0), (1, .int (nI dp)), (2, .int (nI ol))]) hx dX11_triesOpening_87 (by decide) rfl ?_
      refine WS.iconst (v := 0) hx dX11_triesOpening_89 (by decide) ?_
      refine WS.istore (lo' := [(5, .int 0), (4, .int 1), (3, .int (nI i)), (0, rf V 0), (1, .int (nI dp)), (2, .int (nI ol))]) hx dX11_triesOpening_90 (by decide) rfl ?_
      have hb0 : bI (trU κ tr i 0) = 1 := by show bI (decide (κ.1 14 i = 0)) = 1; rw [decide_eq_true c79]; rfl
      have hl9 := li_X11_triesOpening V d τ κ ol dp i (by omega) hol (by omega) tr (fun j hj => ⟨(hO.2.2 j hj).1, by have := (hTR.1 j hj).1; omega⟩) X hx (lt_X11_triesOpening V d τ κ n hM9 cs T lw (hL.mo hE) ol hol tr cl sd dp r hdp hTR hCL hsd hT i (by omega) s hO X hx (fun τ9 g1 g2 => ih (i + 1) _ τ9 (by omega) (hE.tr g1) g2 hf)) 0 (Nat.zero_le _)
      rw [hb0] at hl9
      exact WS.los [0, 1, 2, 3, 4, 5] rfl hl9
set_option maxHeartbeats 1000000 in
theorem c_X11_triesOpeningS (V : Vt) (d : Nat) (σ : Sg) (κ : Sg) (n : Nat) (hM : MR κ σ n) (cs : Nat → Int32) (T : Nat) (lw : Lw) (hL : ML σ cs T lw) (ol : Nat) (hol : ol ≤ 4) (tr : Nat → Nat) (cl : Int32) (sd : Nat → Int32) (dp r : Nat) (hdp : dp + (r + 1) = ol) (hTR : TR κ n tr dp) (hCL : CL κ n tr dp cl) (hsd : ∀ b, b < n → sd (10 * dp + b) = (wdM κ n lw).2.2.1 (ftS (wdM κ n lw) b dp).1) (hT : ∀ (tr : Nat → Nat) (cl : Int32) (s : Od) (τ : Sg), MR κ τ n → ML τ cs T lw → TR κ n tr (dp + 1) → CL κ n tr (dp + 1) cl → OR τ s (dp + 1) ol tr → CT layM V mX11_triesOpening (d + 7) [rf V 0, .int (nI (dp + 1)), .int (nI ol)] τ (Rv fun τ' => MO τ τ' ∧ OR τ' (tryF sd n ol r (dp + 1) cl (OW (wdM κ n lw) tr (dp + 1)) s) (dp + 1) ol tr)) (s : Od) (hO : OR σ s dp ol tr) : CT layM V mX11_triesOpening (d + 8) [rf V 0, .int (nI dp), .int (nI ol)] σ (Rv fun τ' => MO σ τ' ∧ OR τ' (tryF sd n ol (r + 1) dp cl (OW (wdM κ n lw) tr dp) s) dp ol tr) := by
  refine CT.of (own := RX11) rfl (by decide) (Nat.le_of_ble_eq_true rfl) (fun X (hx : Ok V RX11 cX11_triesOpening 6 (d + 8) X) (he : En layM V none (Rv fun τ' => MO σ τ' ∧ OR τ' (tryF sd n ol (r + 1) dp cl (OW (wdM κ n lw) tr dp) s) dp ol tr) X) => ?_)
  change WS layM V 6 X σ 0 [(0, rf V 0), (1, .int (nI dp)), (2, .int (nI ol))] []
  have hdI : (nI dp).toInt = (dp : Int) := nI_c (by omega)
  have hoI : (nI ol).toInt = (ol : Int) := nI_c (by omega)
  refine WS.iload_n hx dX11_triesOpening_0 rfl 1 rfl ?_
  refine WS.iload_n hx dX11_triesOpening_1 rfl 2 rfl ?_
  refine WS.icmp_ne (tgt := 60) hx dX11_triesOpening_2 (by decide) (fun c2 => ?_) (fun c2 => by exfalso; (try simp only [l_int, tL_0, tL_1, tL_2, tL_4, tL_5, tL_6, tL_7, tL_9, tL_10, tL_12, tL_15, tL_30, tL_40, tL_60, tL_99, tL_255, tL_1023, tL_m1, lc_lt, lc_gt, lc_ge, lc_le, lc_eq, l6_le, l6_lt, l6_eq, tI_m133, tI_m226, i_le, i_lt, i_eq, tI_0, tI_1, tI_30] at c2); (try simp only [l_int, tL_0, tL_1, tL_2, tL_4, tL_5, tL_6, tL_7, tL_9, tL_10, tL_12, tL_15, tL_30, tL_40, tL_60, tL_99, tL_255, tL_1023, tL_m1, lc_lt, lc_gt, lc_ge, lc_le, lc_eq, l6_le, l6_lt, l6_eq, tI_m133, tI_m226, i_le, i_lt, i_eq, tI_0, tI_1, tI_30]); omega)
  refine WS.iconst (v := 0) hx dX11_triesOpening_60 (by decide) ?_
  refine WS.istore_n (lo' := [(3, .int 0), (0, rf V 0), (1, .int (nI dp)), (2, .int (nI ol))]) hx dX11_triesOpening_61 rfl (by decide) rfl ?_
  exact WS.los [0, 1, 2, 3] rfl (lp_X11_triesOpening V d σ κ n hM cs T lw hL ol hol tr cl sd dp r hdp hTR hCL hsd hT _ X hx he n 0 s σ (Nat.zero_add n) MO.rf hO rfl)
theorem c_X11_triesOpening (V : Vt) (κ : Sg) (n : Nat) (cs : Nat → Int32) (T : Nat) (lw : Lw) (ol : Nat) (hol : ol ≤ 4) (sd : Nat → Int32) (hsd : ∀ dp b, dp < 4 → b < n → sd (10 * dp + b) = (wdM κ n lw).2.2.1 (ftS (wdM κ n lw) b dp).1) : ∀ (r d dp : Nat), dp + r = ol → ∀ (tr : Nat → Nat) (cl : Int32) (s : Od) (τ : Sg), MR κ τ n → ML τ cs T lw → TR κ n tr dp → CL κ n tr dp cl → OR τ s dp ol tr → CT layM V mX11_triesOpening (d + r + 7) [rf V 0, .int (nI dp), .int (nI ol)] τ (Rv fun τ' => MO τ τ' ∧ OR τ' (tryF sd n ol r dp cl (OW (wdM κ n lw) tr dp) s) dp ol tr)
  | 0, d, dp, hdp, tr, cl, s, τ, hM, hL, hTR, hCL, hO => by
    have e : dp = ol := hdp
    subst e
    exact c_X11_triesOpening0 V (d + 0) τ κ n hM cs T lw hL dp hol tr cl s sd hTR hCL hO
  | r + 1, d, dp, hdp, tr, cl, s, τ, hM, hL, hTR, hCL, hO => by
    have h := c_X11_triesOpeningS V (d + r) τ κ n hM cs T lw hL ol hol tr cl sd dp r hdp hTR hCL (fun b hb => hsd dp b (by omega) hb) (fun tr cl s τ hM hL hTR hCL hO => c_X11_triesOpening V κ n cs T lw ol hol sd hsd r d (dp + 1) (by omega) tr cl s τ hM hL hTR hCL hO) s hO
    rw [show d + r + 8 = d + (r + 1) + 7 by omega] at h
    exact h

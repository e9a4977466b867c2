theorem bt_cnt {x : Int32} : ∀ i, i ≤ 32 → btM x i = nI (cntB (bitP x) i)
  | 0, _ => rfl
  | i + 1, h => by
    show btM x i + ((x >>> (nI i &&& 31)) &&& 1) = _
    rw [bt_cnt i (by omega), cntB_s, ← nI_add]
    congr 1
    cases h1 : bitP x i with
    | true => rw [if_pos rfl]; exact of_decide_eq_true h1
    | false =>
      rw [if_neg (by decide)]
      have h2 : ¬ (x >>> (nI i &&& 31)) &&& 1 = 1 := of_decide_eq_false h1
      apply b_ext
      intro j hj
      rw [show nI 0 = 0 from rfl, b_0, b_and, b_1 j hj]
      by_cases e : j = 0
      · rw [bitP_b (by omega)] at h1
        rw [e, b_sshr i (by omega) _ (by decide), if_pos (by omega), Nat.add_zero, h1]; rfl
      · rw [decide_eq_false e, Bool.and_false]
/-- who is left, and who is gone -/
def CG (n : Nat) (cl g : Int32) : Prop := (∀ b, b < n → bitP cl b = !bitP g b) ∧ ∀ i, n ≤ i → i < 32 → bt cl i = false ∧ bt g i = false
theorem CG.s {n : Nat} {cl g : Int32} (h : CG n cl g) (hn : n ≤ 10) {b : Nat} (hb : b < n) : CG n (clr cl b) (g ||| ((1 : Int32) <<< (nI b &&& 31))) := by
  refine ⟨fun i hi => ?_, fun i h1 h2 => ?_⟩
  · rw [clr_b (by omega) (by omega), h.1 i hi, bitP_b (x := g ||| _) (by omega), b_or, b_one (by omega) (by omega), ← bitP_b (by omega)]
    by_cases e : i = b
    · rw [decide_eq_true e, decide_eq_false (fun h => h e)]; cases bitP g i <;> rfl
    · rw [decide_eq_false e, decide_eq_true e]; cases bitP g i <;> rfl
  · have h3 := h.2 i h1 h2
    refine ⟨?_, ?_⟩
    · rw [← bitP_b h2, clr_b (by omega) h2, bitP_b h2, h3.1]; rfl
    · rw [b_or, b_one (by omega) h2, h3.2, decide_eq_false (by omega)]; rfl
theorem CG.z {n : Nat} {cl g : Int32} (h : CG n cl g) (hn : n ≤ 10) : (cl = 0 ↔ ∀ b, b < n → bitP cl b = false) := by
  constructor
  · intro e b hb
    rw [e, bitP_b (by omega), b_0]
  · intro h1
    apply b_ext
    intro i hi
    rw [b_0]
    by_cases e : i < n
    · rw [← bitP_b hi]; exact h1 i e
    · exact (h.2 i (by omega) hi).1
theorem CG.c {n : Nat} {cl g : Int32} (h : CG n cl g) (hn : n ≤ 10) : (btM g 16 = nI n ↔ cl = 0) := by
  rw [h.z hn, bt_cnt 16 (by decide)]
  have e : cntB (bitP g) 16 = cntB (bitP g) n := by
    have : ∀ j, n + j ≤ 32 → cntB (bitP g) (n + j) = cntB (bitP g) n := by
      intro j
      induction j with
      | zero => intro _; rfl
      | succ j ih =>
        intro hj
        rw [← Nat.add_assoc, cntB_s, ih (by omega), bitP_b (by omega), (h.2 (n + j) (by omega) (by omega)).2]
        rfl
    have h9 := this (16 - n) (by omega)
    rwa [show n + (16 - n) = 16 by omega] at h9
  have hle := cntB_le (bitP g) n
  rw [e, nI_eq (by omega) (by omega)]
  have key : ∀ m, (cntB (bitP g) m = m ↔ ∀ b, b < m → bitP g b = true) := by
    intro m
    induction m with
    | zero => exact ⟨fun _ b hb => absurd hb (Nat.not_lt_zero b), fun _ => rfl⟩
    | succ m ih =>
      have hl := cntB_le (bitP g) m
      rw [cntB_s]
      constructor
      · intro h1 b hb
        by_cases e2 : bitP g m = true
        · rw [if_pos e2] at h1
          by_cases e3 : b = m
          · rw [e3]; exact e2
          · exact ih.mp (by omega) b (by omega)
        · rw [if_neg e2] at h1; omega
      · intro h1
        rw [if_pos (h1 m (by omega)), ih.mpr (fun b hb => h1 b (by omega))]
  rw [key n]
  constructor
  · intro h1 b hb; rw [h.1 b hb, h1 b hb]; rfl
  · intro h1 b hb
    have h2 := h1 b hb
    rw [h.1 b hb] at h2
    cases h3 : bitP g b with
    | true => rfl
    | false => rw [h3] at h2; exact absurd h2 (by decide)
def bxE (p : Nat → Bool) (f : Nat → Int32) : Nat → Int32
  | 0 => -1000000
  | k + 1 => if p k = true then (if f k ≤ bxE p f k then bxE p f k else f k) else bxE p f k
theorem bxE_r {p : Nat → Bool} {f : Nat → Int32} : ∀ k, (∀ b, b < k → p b = true → -1000 ≤ (f b).toInt ∧ (f b).toInt ≤ 1000) → -1000000 ≤ (bxE p f k).toInt ∧ (bxE p f k).toInt ≤ 1000
  | 0, _ => by show -1000000 ≤ (-1000000 : Int32).toInt ∧ (-1000000 : Int32).toInt ≤ 1000; decide
  | k + 1, h => by
    have ih := bxE_r k (fun b hb => h b (by omega))
    unfold bxE
    split
    · split
      · exact ih
      · have := h k (by omega) (by assumption); omega
    · exact ih
theorem bxE_b {p : Nat → Bool} {f : Nat → Int32} : ∀ k, (∀ b, b < k → p b = true → -1000 ≤ (f b).toInt ∧ (f b).toInt ≤ 1000) → ((∃ b, b < k ∧ p b = true) → bxE p f k = bmx p f k ∧ -1000 ≤ (bmx p f k).toInt ∧ (bmx p f k).toInt ≤ 1000) ∧ ((¬ ∃ b, b < k ∧ p b = true) → bxE p f k = -1000000 ∧ bmx p f k = -2000000000)
  | 0, _ => ⟨fun ⟨b, hb, _⟩ => absurd hb (Nat.not_lt_zero b), fun _ => ⟨rfl, rfl⟩⟩
  | k + 1, h => by
    obtain ⟨i1, i2⟩ := bxE_b k (fun b hb => h b (by omega))
    by_cases e : p k = true
    · refine ⟨fun _ => ?_, fun g => absurd ⟨k, by omega, e⟩ g⟩
      have hk := h k (by omega) e
      show (if p k = true then (if f k ≤ bxE p f k then bxE p f k else f k) else bxE p f k) = (if p k = true then mx (bmx p f k) (f k) else bmx p f k) ∧ -1000 ≤ (if p k = true then mx (bmx p f k) (f k) else bmx p f k).toInt ∧ (if p k = true then mx (bmx p f k) (f k) else bmx p f k).toInt ≤ 1000
      rw [if_pos e, if_pos e]
      unfold mx
      by_cases g : ∃ b, b < k ∧ p b = true
      · obtain ⟨j1, j2, j3⟩ := i1 g
        rw [j1]
        by_cases c : f k ≤ bmx p f k
        · rw [if_pos c, if_neg (by rw [i_lt]; rw [i_le] at c; omega)]; exact ⟨rfl, j2, j3⟩
        · rw [if_neg c, if_pos (by rw [i_lt]; rw [i_le] at c; omega)]; exact ⟨rfl, hk.1, hk.2⟩
      · obtain ⟨j1, j2⟩ := i2 g
        rw [j1, j2, if_neg (by rw [i_le, show (-1000000 : Int32).toInt = -1000000 from by decide]; omega), if_pos (by rw [i_lt, show (-2000000000 : Int32).toInt = -2000000000 from by decide]; omega)]
        exact ⟨rfl, hk.1, hk.2⟩
    · have e2 : (∃ b, b < k + 1 ∧ p b = true) ↔ ∃ b, b < k ∧ p b = true := by
        constructor
        · rintro ⟨b, h1, h2⟩
          exact ⟨b, by by_cases e3 : b = k; (subst e3; exact absurd h2 e); omega, h2⟩
        · rintro ⟨b, h1, h2⟩; exact ⟨b, by omega, h2⟩
      rw [e2]
      show (_ → (if p k = true then (if f k ≤ bxE p f k then bxE p f k else f k) else bxE p f k) = (if p k = true then mx (bmx p f k) (f k) else bmx p f k) ∧ -1000 ≤ (if p k = true then mx (bmx p f k) (f k) else bmx p f k).toInt ∧ (if p k = true then mx (bmx p f k) (f k) else bmx p f k).toInt ≤ 1000) ∧ (_ → (if p k = true then (if f k ≤ bxE p f k then bxE p f k else f k) else bxE p f k) = -1000000 ∧ (if p k = true then mx (bmx p f k) (f k) else bmx p f k) = -2000000000)
      rw [if_neg e, if_neg e]
      exact ⟨i1, i2⟩
theorem bmx_le {p : Nat → Bool} {f : Nat → Int32} {M : Int} : ∀ k, (∀ b, b < k → p b = true → -M ≤ (f b).toInt ∧ (f b).toInt ≤ M) → M ≤ 1000 → (∃ b, b < k ∧ p b = true) → -M ≤ (bmx p f k).toInt ∧ (bmx p f k).toInt ≤ M
  | 0, _, _, h => absurd h (fun ⟨b, hb, _⟩ => Nat.not_lt_zero b hb)
  | k + 1, h, hM, hx => by
    show -M ≤ (if p k = true then mx (bmx p f k) (f k) else bmx p f k).toInt ∧ (if p k = true then mx (bmx p f k) (f k) else bmx p f k).toInt ≤ M
    by_cases e : p k = true
    · have hk := h k (by omega) e
      rw [if_pos e]
      unfold mx
      by_cases g : ∃ b, b < k ∧ p b = true
      · have ih := bmx_le k (fun b hb => h b (by omega)) hM g
        split <;> omega
      · have h2 := ((bxE_b (p := p) (f := f) k (fun b hb hp => by have := h b (by omega) hp; omega)).2 g).2
        rw [h2, if_pos (by rw [i_lt, show (-2000000000 : Int32).toInt = -2000000000 from by decide]; omega)]
        exact hk
    · rw [if_neg e]
      obtain ⟨b, h1, h2⟩ := hx
      exact bmx_le k (fun b hb => h b (by omega)) hM ⟨b, by by_cases e3 : b = k; (subst e3; exact absurd h2 e); omega, h2⟩
theorem bg_r {κ : Sg} {n : Nat} (hQ : QI κ n) : ∀ (t : Nat) (cl g : Int32), t ≤ 4 → CG n cl g → -(9 * (t : Int)) ≤ (bgF κ n t cl).toInt ∧ (bgF κ n t cl).toInt ≤ 9 * t
  | 0, _, _, _, _ => by show -(9 * ((0 : Nat) : Int)) ≤ (0 : Int32).toInt ∧ (0 : Int32).toInt ≤ 9 * ((0 : Nat) : Int); decide
  | t + 1, cl, g, ht, hG => by
    unfold bgF
    by_cases e : cl = 0
    · rw [if_pos e, tI_0]; omega
    · rw [if_neg e]
      have hx : ∃ b, b < n ∧ bitP cl b = true := by
        refine Classical.byContradiction fun h => e ((hG.z hQ.1).mpr fun b hb => ?_)
        cases h2 : bitP cl b with
        | false => rfl
        | true => exact absurd ⟨b, hb, h2⟩ h
      refine bmx_le n (fun b hb _ => ?_) (by omega) hx
      have h1 := wn_r hQ hb
      have h2 := bg_r hQ t (clr cl b) _ (by omega) (hG.s hQ.1 hb)
      unfold rg at h1
      rw [i_sub (by omega) (by omega)]
      omega
def gF (κ : Sg) (n t : Nat) (cl : Int32) (b : Nat) : Int32 := wn κ b - bgF κ n t (clr cl b)
theorem gF_r {κ : Sg} {n t b : Nat} {cl g : Int32} (hQ : QI κ n) (ht : t ≤ 3) (hG : CG n cl g) (hb : b < n) : -1000 ≤ (gF κ n t cl b).toInt ∧ (gF κ n t cl b).toInt ≤ 1000 := by
  have h1 := wn_r hQ hb
  have h2 := bg_r hQ t (clr cl b) _ (by omega) (hG.s hQ.1 hb)
  unfold rg at h1
  unfold gF
  rw [i_sub (by omega) (by omega)]
  omega
def mpV (κ : Sg) (n k t : Nat) (cl : Int32) : Int32 := if k % 2 = 0 then bgF κ n t cl else -bgF κ n t cl
theorem mpV_0 {κ : Sg} {n k : Nat} {cl : Int32} : mpV κ n k 0 cl = 0 := by
  unfold mpV
  rw [show bgF κ n 0 cl = 0 from rfl]
  split <;> first | rfl | decide
theorem mpV_z {κ : Sg} {n k t : Nat} {cl : Int32} (h : cl = 0) : mpV κ n k (t + 1) cl = 0 := by
  unfold mpV bgF
  rw [if_pos h]
  split <;> rfl
theorem mpV_n {κ : Sg} {n k t : Nat} {cl g : Int32} (hQ : QI κ n) (ht : t ≤ 3) (hG : CG n cl g) (h : ¬ cl = 0) : mpV κ n k (t + 1) cl = if k % 2 = 0 then bxE (bitP cl) (gF κ n t cl) n else -bxE (bitP cl) (gF κ n t cl) n := by
  have hx : ∃ b, b < n ∧ bitP cl b = true := by
    refine Classical.byContradiction fun h9 => h ((hG.z hQ.1).mpr fun b hb => ?_)
    cases h2 : bitP cl b with
    | false => rfl
    | true => exact absurd ⟨b, hb, h2⟩ h9
  have e := ((bxE_b (p := bitP cl) (f := gF κ n t cl) n (fun b hb _ => gF_r hQ ht hG hb)).1 hx).1
  unfold mpV bgF
  rw [if_neg h, e]
  rfl
theorem sub_neg' (a b : Int32) : a + -b = a - b := by rw [Int32.sub_eq_add_neg]
theorem neg_add' (a b : Int32) : -a + b = -(a - b) := by rw [Int32.neg_sub, Int32.sub_eq_add_neg, Int32.add_comm]
theorem bxE_t {p : Nat → Bool} {f : Nat → Int32} {k : Nat} (hp : p k = true) (h : f k ≤ bxE p f k) : bxE p f (k + 1) = bxE p f k := by
  show (if p k = true then (if f k ≤ bxE p f k then bxE p f k else f k) else bxE p f k) = _
  rw [if_pos hp, if_pos h]
theorem bxE_u {p : Nat → Bool} {f : Nat → Int32} {k : Nat} (hp : p k = true) (h : ¬ f k ≤ bxE p f k) : bxE p f (k + 1) = f k := by
  show (if p k = true then (if f k ≤ bxE p f k then bxE p f k else f k) else bxE p f k) = _
  rw [if_pos hp, if_neg h]
theorem bxE_f {p : Nat → Bool} {f : Nat → Int32} {k : Nat} (hp : ¬ p k = true) : bxE p f (k + 1) = bxE p f k := if_neg hp
theorem neg_le' {a b : Int32} (ha : -2147483648 < a.toInt) (hb : -2147483648 < b.toInt) : (-a ≤ -b) ↔ b ≤ a := by
  have h1 := i_rng a
  have h2 := i_rng b
  have e : ∀ c : Int32, -2147483648 < c.toInt → (-c).toInt = -c.toInt := fun c hc => by
    have h3 := i_rng c
    rw [← Int32.zero_sub, i_sub (by rw [tI_0]; omega) (by rw [tI_0]; omega), tI_0]; omega
  rw [i_le, i_le, e a ha, e b hb]
  omega
set_option maxHeartbeats 1000000 in
theorem c_X11_playsFrom0 (V : Vt) (d : Nat) (σ : Sg) (κ : Sg) (n : Nat) (lw : Lw) (hM : MR κ σ n) (hT : MT σ n (ms0 (wdM κ n lw))) (N : Nat) (cl g : Int32) : CT layM V mX11_playsFrom (d + 1) [rf V 0, .int (nI N), .int (nI N), .int g] σ (Ro (mpV κ n N 0 cl) σ) := by
  refine CT.of (own := RX11) rfl (by decide) (Nat.le_of_ble_eq_true rfl) (fun X (hx : Ok V RX11 cX11_playsFrom 7 (d + 1) X) (he : En layM V (some .int) (Ro (mpV κ n N 0 cl) σ) X) => ?_)
  change WS layM V 7 X σ 0 [(0, rf V 0), (1, .int (nI N)), (2, .int (nI N)), (3, .int g)] []
  refine WS.iload_n hx dX11_playsFrom_0 rfl 1 rfl ?_
  refine WS.iload_n hx dX11_playsFrom_1 rfl 2 rfl ?_
  refine WS.icmp_eq (tgt := 16) hx dX11_playsFrom_2 (by decide) (fun c2 => ?_) (fun c2 => absurd rfl c2)
  refine WS.iconst (v := 0) hx dX11_playsFrom_16 (by decide) ?_
  exact WS.iret hx he dX11_playsFrom_17 (Ro.i mpV_0)
set_option maxHeartbeats 1000000 in
theorem le_X11_playsFrom (V : Vt) (d : Nat) (σ : Sg) (κ : Sg) (n : Nat) (lw : Lw) (hM : MR κ σ n) (hT : MT σ n (ms0 (wdM κ n lw))) (k t N : Nat) (hk : k + (t + 1) = N) (hN : N ≤ 4) (hB : ∀ (cl g : Int32), CG n cl g → CT layM V mX11_playsFrom (d + 1) [rf V 0, .int (nI (k + 1)), .int (nI N), .int g] σ (Ro (mpV κ n (k + 1) t cl) σ)) (cl g : Int32) (hG : CG n cl g) (hcl : ¬ cl = 0) (hp : k % 2 = 0) (r : Int32) (hr : r = bxE (bitP cl) (gF κ n t cl) n) (X : Xt) (hx : Ok V RX11 cX11_playsFrom 7 (d + 2) X) (he : En layM V (some .int) (Ro r σ) X) : ∀ (i : Nat), i ≤ n → WS layM V 7 X σ 38 [(5, .int (nI i)), (4, .int (bxE (bitP cl) (gF κ n t cl) i)), (0, rf V 0), (1, .int (nI k)), (2, .int (nI N)), (3, .int g)] [] := by
  have hn := hM.n
  have hnI : (nI n).toInt = (n : Int) := nI_c (by omega)
  intro i
  induction hm : n - i using Nat.strongRecOn generalizing i with
  | _ m9 ih =>
    intro hi
    have hiI : (nI i).toInt = (i : Int) := nI_c (by omega)
    refine WS.iload hx dX11_playsFrom_38 0 rfl ?_
    refine WS.aload_n hx dX11_playsFrom_40 rfl 2 rfl ?_
    refine WS.getI hx okX11 lf11_97 rfl rfl dX11_playsFrom_41 ?_
    refine WS.as rfl rfl (congrArg (fun z => Value.int z :: _) (show σ.1 0 6 = nI n from hM.s)) ?_
    skip
    refine WS.icmp_ge (tgt := 140) hx dX11_playsFrom_44 (by decide) (fun c44 => ?_) (fun c44 => ?_)
    · skip
      show WS layM V 7 X σ 140 [(5, .int (nI i)), (4, .int (bxE (bitP cl) (gF κ n t cl) i)), (0, rf V 0), (1, .int (nI k)), (2, .int (nI N)), (3, .int g)] []
      refine WS.iload hx dX11_playsFrom_140 1 rfl ?_
      exact WS.iret hx he dX11_playsFrom_142 (Ro.i (by rw [hr, show i = n by (try simp only [l_int, tL_0, tL_1, tL_2, tL_4, tL_5, tL_6, tL_7, tL_9, tL_10, tL_12, tL_15, tL_30, tL_40, tL_60, tL_99, tL_255, tL_1023, tL_m1, lc_lt, lc_gt, lc_ge, lc_le, lc_eq, l6_le, l6_lt, l6_eq, tI_m133, tI_m226, i_le, i_lt, i_eq, tI_0, tI_1, tI_2] at c44); (try simp only [l_int, tL_0, tL_1, tL_2, tL_4, tL_5, tL_6, tL_7, tL_9, tL_10, tL_12, tL_15, tL_30, tL_40, tL_60, tL_99, tL_255, tL_1023, tL_m1, lc_lt, lc_gt, lc_ge, lc_le, lc_eq, l6_le, l6_lt, l6_eq, tI_m133, tI_m226, i_le, i_lt, i_eq, tI_0, tI_1, tI_2]); omega]))
    · skip
      show WS layM V 7 X σ 47 [(5, .int (nI i)), (4, .int (bxE (bitP cl) (gF κ n t cl) i)), (0, rf V 0), (1, .int (nI k)), (2, .int (nI N)), (3, .int g)] []
      refine WS.iload_n hx dX11_playsFrom_47 rfl 5 rfl ?_
      refine WS.iload hx dX11_playsFrom_48 0 rfl ?_
      refine WS.callSi (st := []) [.int g, .int (nI i)] hx (c_X11_isIn V (d + 1) σ g (nI i)) okX11_isIn lm11_261 rfl rfl (Nat.le_of_ble_eq_true rfl) dX11_playsFrom_50 (fun v1 σ2 h3 => ?_)
      rcases h3 with ⟨rfl, rfl, hb50⟩ | ⟨rfl, rfl, hb50⟩
      · skip
        show WS layM V 7 X σ 53 [(5, .int (nI i)), (4, .int (bxE (bitP cl) (gF κ n t cl) i)), (0, rf V 0), (1, .int (nI k)), (2, .int (nI N)), (3, .int g)] [.int 1]
        have hi9 : i < n := by (try simp only [l_int, tL_0, tL_1, tL_2, tL_4, tL_5, tL_6, tL_7, tL_9, tL_10, tL_12, tL_15, tL_30, tL_40, tL_60, tL_99, tL_255, tL_1023, tL_m1, lc_lt, lc_gt, lc_ge, lc_le, lc_eq, l6_le, l6_lt, l6_eq, tI_m133, tI_m226, i_le, i_lt, i_eq, tI_0, tI_1, tI_2] at c44); (try simp only [l_int, tL_0, tL_1, tL_2, tL_4, tL_5, tL_6, tL_7, tL_9, tL_10, tL_12, tL_15, tL_30, tL_40, tL_60, tL_99, tL_255, tL_1023, tL_m1, lc_lt, lc_gt, lc_ge, lc_le, lc_eq, l6_le, l6_lt, l6_eq, tI_m133, tI_m226, i_le, i_lt, i_eq, tI_0, tI_1, tI_2]); omega
        have hp9 : ¬ bitP cl i = true := by rw [hG.1 i hi9, bP_t hb50]; decide
        refine WS.if_ne (tgt := 134) hx dX11_playsFrom_53 (by decide) (fun _ => ?_) (fun h => absurd h (by decide))
        refine WS.iinc (v := nI (i + 1)) (lo' := [(5, .int (nI (i + 1))), (4, .int (bxE (bitP cl) (gF κ n t cl) i)), (0, rf V 0), (1, .int (nI k)), (2, .int (nI N)), (3, .int g)]) hx dX11_playsFrom_134 0 rfl (nI_1 i) (by decide) rfl ?_
        refine WS.goto (tgt := 38) hx dX11_playsFrom_137 (by decide) ?_
        have h9 := ih _ (by (try simp only [l_int, tL_0, tL_1, tL_2, tL_4, tL_5, tL_6, tL_7, tL_9, tL_10, tL_12, tL_15, tL_30, tL_40, tL_60, tL_99, tL_255, tL_1023, tL_m1, lc_lt, lc_gt, lc_ge, lc_le, lc_eq, l6_le, l6_lt, l6_eq, tI_m133, tI_m226, i_le, i_lt, i_eq, tI_0, tI_1, tI_2] at c44); (try simp only [l_int, tL_0, tL_1, tL_2, tL_4, tL_5, tL_6, tL_7, tL_9, tL_10, tL_12, tL_15, tL_30, tL_40, tL_60, tL_99, tL_255, tL_1023, tL_m1, lc_lt, lc_gt, lc_ge, lc_le, lc_eq, l6_le, l6_lt, l6_eq, tI_m133, tI_m226, i_le, i_lt, i_eq, tI_0, tI_1, tI_2] at hb50); (try simp only [l_int, tL_0, tL_1, tL_2, tL_4, tL_5, tL_6, tL_7, tL_9, tL_10, tL_12, tL_15, tL_30, tL_40, tL_60, tL_99, tL_255, tL_1023, tL_m1, lc_lt, lc_gt, lc_ge, lc_le, lc_eq, l6_le, l6_lt, l6_eq, tI_m133, tI_m226, i_le, i_lt, i_eq, tI_0, tI_1, tI_2]); omega) (i + 1) rfl (by (try simp only [l_int, tL_0, tL_1, tL_2, tL_4, tL_5, tL_6, tL_7, tL_9, tL_10, tL_12, tL_15, tL_30, tL_40, tL_60, tL_99, tL_255, tL_1023, tL_m1, lc_lt, lc_gt, lc_ge, lc_le, lc_eq, l6_le, l6_lt, l6_eq, tI_m133, tI_m226, i_le, i_lt, i_eq, tI_0, tI_1, tI_2] at c44); (try simp only [l_int, tL_0, tL_1, tL_2, tL_4, tL_5, tL_6, tL_7, tL_9, tL_10, tL_12, tL_15, tL_30, tL_40, tL_60, tL_99, tL_255, tL_1023, tL_m1, lc_lt, lc_gt, lc_ge, lc_le, lc_eq, l6_le, l6_lt, l6_eq, tI_m133, tI_m226, i_le, i_lt, i_eq, tI_0, tI_1, tI_2] at hb50); (try simp only [l_int, tL_0, tL_1, tL_2, tL_4, tL_5, tL_6, tL_7, tL_9, tL_10, tL_12, tL_15, tL_30, tL_40, tL_60, tL_99, tL_255, tL_1023, tL_m1, lc_lt, lc_gt, lc_ge, lc_le, lc_eq, l6_le, l6_lt, l6_eq, tI_m133, tI_m226, i_le, i_lt, i_eq, tI_0, tI_1, tI_2]); omega)
        rw [bxE_f hp9] at h9
        exact WS.los [0, 1, 2, 3, 4, 5] rfl h9
      · skip
        show WS layM V 7 X σ 53 [(5, .int (nI i)), (4, .int (bxE (bitP cl) (gF κ n t cl) i)), (0, rf V 0), (1, .int (nI k)), (2, .int (nI N)), (3, .int g)] [.int 0]
        have hi9 : i < n := by (try simp only [l_int, tL_0, tL_1, tL_2, tL_4, tL_5, tL_6, tL_7, tL_9, tL_10, tL_12, tL_15, tL_30, tL_40, tL_60, tL_99, tL_255, tL_1023, tL_m1, lc_lt, lc_gt, lc_ge, lc_le, lc_eq, l6_le, l6_lt, l6_eq, tI_m133, tI_m226, i_le, i_lt, i_eq, tI_0, tI_1, tI_2] at c44); (try simp only [l_int, tL_0, tL_1, tL_2, tL_4, tL_5, tL_6, tL_7, tL_9, tL_10, tL_12, tL_15, tL_30, tL_40, tL_60, tL_99, tL_255, tL_1023, tL_m1, lc_lt, lc_gt, lc_ge, lc_le, lc_eq, l6_le, l6_lt, l6_eq, tI_m133, tI_m226, i_le, i_lt, i_eq, tI_0, tI_1, tI_2]); omega
        have hp9 : bitP cl i = true := by rw [hG.1 i hi9, bP_f hb50]; rfl
        have r1 := gF_r hM.q (by omega) hG hi9 (t := t)
        have r2 := bxE_r (p := bitP cl) (f := gF κ n t cl) i (fun b hb _ => gF_r hM.q (by omega) hG (by omega))
        refine WS.if_ne (tgt := 134) hx dX11_playsFrom_53 (by decide) (fun h => absurd (by decide) h) (fun _ => ?_)
        refine WS.iload_n hx dX11_playsFrom_56 rfl 3 rfl ?_
        refine WS.iconst (v := 2) hx dX11_playsFrom_57 (by decide) ?_
        refine WS.irem hx dX11_playsFrom_58 (by decide) ?_
        refine WS.as rfl rfl (congrArg (fun z => Value.int z :: _) (show (nI k) - (nI k) / 2 * 2 = 0 from by rw [show (2 : Int32) = nI 2 from rfl, pk_rem (by omega) (by decide) (by decide), hp]; rfl)) ?_
        skip
        refine WS.if_ne (tgt := 71) hx dX11_playsFrom_59 (by decide) (fun h => absurd (by decide) h) (fun _ => ?_)
        refine WS.aload_n hx dX11_playsFrom_62 rfl 2 rfl ?_
        refine WS.iload hx dX11_playsFrom_63 0 rfl ?_
        refine WS.callVi (st := []) [.int (nI i)] hx (c_X11_wordOf V (d + 1) σ κ n hM (ms0 (wdM κ n lw)) hT i (by (try simp only [l_int, tL_0, tL_1, tL_2, tL_4, tL_5, tL_6, tL_7, tL_9, tL_10, tL_12, tL_15, tL_30, tL_40, tL_60, tL_99, tL_255, tL_1023, tL_m1, lc_lt, lc_gt, lc_ge, lc_le, lc_eq, l6_le, l6_lt, l6_eq, tI_m133, tI_m226, i_le, i_lt, i_eq, tI_0, tI_1, tI_2] at c44); (try simp only [l_int, tL_0, tL_1, tL_2, tL_4, tL_5, tL_6, tL_7, tL_9, tL_10, tL_12, tL_15, tL_30, tL_40, tL_60, tL_99, tL_255, tL_1023, tL_m1, lc_lt, lc_gt, lc_ge, lc_le, lc_eq, l6_le, l6_lt, l6_eq, tI_m133, tI_m226, i_le, i_lt, i_eq, tI_0, tI_1, tI_2] at hb50); (try simp only [l_int, tL_0, tL_1, tL_2, tL_4, tL_5, tL_6, tL_7, tL_9, tL_10, tL_12, tL_15, tL_30, tL_40, tL_60, tL_99, tL_255, tL_1023, tL_m1, lc_lt, lc_gt, lc_ge, lc_le, lc_eq, l6_le, l6_lt, l6_eq, tI_m133, tI_m226, i_le, i_lt, i_eq, tI_0, tI_1, tI_2]); omega)) okX11_wordOf lm11_219 rfl rfl rfl rfl (Nat.le_of_ble_eq_true rfl) dX11_playsFrom_65 (fun v4 σ5 h6 => ?_)
        obtain ⟨rfl, rfl⟩ := h6
        show WS layM V 7 X σ 68 [(5, .int (nI i)), (4, .int (bxE (bitP cl) (gF κ n t cl) i)), (0, rf V 0), (1, .int (nI k)), (2, .int (nI N)), (3, .int g)] [.int (κ.1 17 ((ms0 (wdM κ n lw)).1 i))]
        refine WS.goto (tgt := 78) hx dX11_playsFrom_68 (by decide) ?_
        refine WS.aload_n hx dX11_playsFrom_78 rfl 2 rfl ?_
        refine WS.iload_n hx dX11_playsFrom_79 rfl 3 rfl ?_
        refine WS.iconst (v := 1) hx dX11_playsFrom_80 (by decide) ?_
        refine WS.iadd hx dX11_playsFrom_81 ?_
        refine WS.as rfl rfl (congrArg (fun z => Value.int z :: _) (show (nI k) + 1 = nI (k + 1) from nI_1 k)) ?_
        skip
        refine WS.iload_n hx dX11_playsFrom_82 rfl 4 rfl ?_
        refine WS.iload_n hx dX11_playsFrom_83 rfl 5 rfl ?_
        refine WS.iconst (v := 1) hx dX11_playsFrom_84 (by decide) ?_
        refine WS.iload hx dX11_playsFrom_85 0 rfl ?_
        refine WS.ishl hx dX11_playsFrom_87 ?_
        refine WS.ior hx dX11_playsFrom_88 ?_
        refine WS.callVi (st := [.int (κ.1 17 ((ms0 (wdM κ n lw)).1 i))]) [.int (nI (k + 1)), .int (nI N), .int (g ||| (1 <<< ((nI i) &&& 31)))] hx (hB (clr cl i) _ (hG.s hn (by omega))) okX11_playsFrom lm11_301 rfl rfl rfl rfl (Nat.le_of_ble_eq_true rfl) dX11_playsFrom_89 (fun v7 σ8 h9 => ?_)
        obtain ⟨rfl, rfl⟩ := h9
        show WS layM V 7 X σ 92 [(5, .int (nI i)), (4, .int (bxE (bitP cl) (gF κ n t cl) i)), (0, rf V 0), (1, .int (nI k)), (2, .int (nI N)), (3, .int g)] [.int (mpV κ n (k + 1) t (clr cl i)), .int (κ.1 17 ((ms0 (wdM κ n lw)).1 i))]
        refine WS.as rfl rfl (congrArg (fun z => Value.int z :: _) (show mpV κ n (k + 1) t (clr cl i) = -bgF κ n t (clr cl i) from by unfold mpV; rw [if_neg (by omega)])) ?_
        skip
        refine WS.iadd hx dX11_playsFrom_92 ?_
        refine WS.as rfl rfl (congrArg (fun z => Value.int z :: _) (show (κ.1 17 ((ms0 (wdM κ n lw)).1 i)) + (-bgF κ n t (clr cl i)) = gF κ n t cl i from sub_neg' _ _)) ?_
        skip
        refine WS.istore (lo' := [(6, .int (gF κ n t cl i)), (5, .int (nI i)), (4, .int (bxE (bitP cl) (gF κ n t cl) i)), (0, rf V 0), (1, .int (nI k)), (2, .int (nI N)), (3, .int g)]) hx dX11_playsFrom_93 (by decide) rfl ?_
        refine WS.iload_n hx dX11_playsFrom_95 rfl 4 rfl ?_
        refine WS.iconst (v := 2) hx dX11_playsFrom_96 (by decide) ?_
        refine WS.irem hx dX11_playsFrom_97 (by decide) ?_
        refine WS.as rfl rfl (congrArg (fun z => Value.int z :: _) (show (nI k) - (nI k) / 2 * 2 = 0 from by rw [show (2 : Int32) = nI 2 from rfl, pk_rem (by omega) (by decide) (by decide), hp]; rfl)) ?_
        skip
        refine WS.if_ne (tgt := 118) hx dX11_playsFrom_98 (by decide) (fun h => absurd (by decide) h) (fun _ => ?_)
        refine WS.iload hx dX11_playsFrom_101 0 rfl ?_
        refine WS.iload hx dX11_playsFrom_103 2 rfl ?_
        refine WS.icmp_le (tgt := 113) hx dX11_playsFrom_105 (by decide) (fun c105 => ?_) (fun c105 => ?_)
        · skip
          show WS layM V 7 X σ 113 [(6, .int (gF κ n t cl i)), (5, .int (nI i)), (4, .int (bxE (bitP cl) (gF κ n t cl) i)), (0, rf V 0), (1, .int (nI k)), (2, .int (nI N)), (3, .int g)] []
          refine WS.iload hx dX11_playsFrom_113 2 rfl ?_
          refine WS.as rfl rfl (congrArg (fun z => Value.int z :: _) (show bxE (bitP cl) (gF κ n t cl) i = bxE (bitP cl) (gF κ n t cl) (i + 1) from (bxE_t hp9 c105).symm)) ?_
          skip
          refine WS.goto (tgt := 132) hx dX11_playsFrom_115 (by decide) ?_
          refine WS.istore (lo' := [(4, .int (bxE (bitP cl) (gF κ n t cl) (i + 1))), (6, .int (gF κ n t cl i)), (5, .int (nI i)), (0, rf V 0), (1, .int (nI k)), (2, .int (nI N)), (3, .int g)]) hx dX11_playsFrom_132 (by decide) rfl ?_
          refine WS.iinc (v := nI (i + 1)) (lo' := [(5, .int (nI (i + 1))), (4, .int (bxE (bitP cl) (gF κ n t cl) (i + 1))), (6, .int (gF κ n t cl i)), (0, rf V 0), (1, .int (nI k)), (2, .int (nI N)), (3, .int g)]) hx dX11_playsFrom_134 2 rfl (nI_1 i) (by decide) rfl ?_
          refine WS.goto (tgt := 38) hx dX11_playsFrom_137 (by decide) ?_
          exact WS.los [0, 1, 3, 4, 5, 6] rfl (ih _ (by (try simp only [l_int, tL_0, tL_1, tL_2, tL_4, tL_5, tL_6, tL_7, tL_9, tL_10, tL_12, tL_15, tL_30, tL_40, tL_60, tL_99, tL_255, tL_1023, tL_m1, lc_lt, lc_gt, lc_ge, lc_le, lc_eq, l6_le, l6_lt, l6_eq, tI_m133, tI_m226, i_le, i_lt, i_eq, tI_0, tI_1, tI_2] at c44); (try simp only [l_int, tL_0, tL_1, tL_2, tL_4, tL_5, tL_6, tL_7, tL_9, tL_10, tL_12, tL_15, tL_30, tL_40, tL_60, tL_99, tL_255, tL_1023, tL_m1, lc_lt, lc_gt, lc_ge, lc_le, lc_eq, l6_le, l6_lt, l6_eq, tI_m133, tI_m226, i_le, i_lt, i_eq, tI_0, tI_1, tI_2] at hb50); (try simp only [l_int, tL_0, tL_1, tL_2, tL_4, tL_5, tL_6, tL_7, tL_9, tL_10, tL_12, tL_15, tL_30, tL_40, tL_60, tL_99, tL_255, tL_1023, tL_m1, lc_lt, lc_gt, lc_ge, lc_le, lc_eq, l6_le, l6_lt, l6_eq, tI_m133, tI_m226, i_le, i_lt, i_eq, tI_0, tI_1, tI_2] at c105); (try simp only [l_int, tL_0, tL_1, tL_2, tL_4, tL_5, tL_6, tL_7, tL_9, tL_10, tL_12, tL_15, tL_30, tL_40, tL_60, tL_99, tL_255, tL_1023, tL_m1, lc_lt, lc_gt, lc_ge, lc_le, lc_eq, l6_le, l6_lt, l6_eq, tI_m133, tI_m226, i_le, i_lt, i_eq, tI_0, tI_1, tI_2]); omega) (i + 1) rfl (by (try simp only [l_int, tL_0, tL_1, tL_2, tL_4, tL_5, tL_6, tL_7, tL_9, tL_10, tL_12, tL_15, tL_30, tL_40, tL_60, tL_99, tL_255, tL_1023, tL_m1, lc_lt, lc_gt, lc_ge, lc_le, lc_eq, l6_le, l6_lt, l6_eq, tI_m133, tI_m226, i_le, i_lt, i_eq, tI_0, tI_1, tI_2] at c44); (try simp only [l_int, tL_0, tL_1, tL_2, tL_4, tL_5, tL_6, tL_7, tL_9, tL_10, tL_12, tL_15, tL_30, tL_40, tL_60, tL_99, tL_255, tL_1023, tL_m1, lc_lt, lc_gt, lc_ge, lc_le, lc_eq, l6_le, l6_lt, l6_eq, tI_m133, tI_m226, i_le, i_lt, i_eq, tI_0, tI_1, tI_2] at hb50); (try simp only [l_int, tL_0, tL_1, tL_2, tL_4, tL_5, tL_6, tL_7, tL_9, tL_10, tL_12, tL_15, tL_30, tL_40, tL_60, tL_99, tL_255, tL_1023, tL_m1, lc_lt, lc_gt, lc_ge, lc_le, lc_eq, l6_le, l6_lt, l6_eq, tI_m133, tI_m226, i_le, i_lt, i_eq, tI_0, tI_1, tI_2] at c105); (try simp only [l_int, tL_0, tL_1, tL_2, tL_4, tL_5, tL_6, tL_7, tL_9, tL_10, tL_12, tL_15, tL_30, tL_40, tL_60, tL_99, tL_255, tL_1023, tL_m1, lc_lt, lc_gt, lc_ge, lc_le, lc_eq, l6_le, l6_lt, l6_eq, tI_m133, tI_m226, i_le, i_lt, i_eq, tI_0, tI_1, tI_2]); omega))
        · skip
          show WS layM V 7 X σ 108 [(6, .int (gF κ n t cl i)), (5, .int (nI i)), (4, .int (bxE (bitP cl) (gF κ n t cl) i)), (0, rf V 0), (1, .int (nI k)), (2, .int (nI N)), (3, .int g)] []
          refine WS.iload hx dX11_playsFrom_108 0 rfl ?_
          refine WS.as rfl rfl (congrArg (fun z => Value.int z :: _) (show gF κ n t cl i = bxE (bitP cl) (gF κ n t cl) (i + 1) from (bxE_u hp9 c105).symm)) ?_
          skip
          refine WS.goto (tgt := 132) hx dX11_playsFrom_110 (by decide) ?_
          refine WS.istore (lo' := [(4, .int (bxE (bitP cl) (gF κ n t cl) (i + 1))), (6, .int (gF κ n t cl i)), (5, .int (nI i)), (0, rf V 0), (1, .int (nI k)), (2, .int (nI N)), (3, .int g)]) hx dX11_playsFrom_132 (by decide) rfl ?_
          refine WS.iinc (v := nI (i + 1)) (lo' := [(5, .int (nI (i + 1))), (4, .int (bxE (bitP cl) (gF κ n t cl) (i + 1))), (6, .int (gF κ n t cl i)), (0, rf V 0), (1, .int (nI k)), (2, .int (nI N)), (3, .int g)]) hx dX11_playsFrom_134 2 rfl (nI_1 i) (by decide) rfl ?_
          refine WS.goto (tgt := 38) hx dX11_playsFrom_137 (by decide) ?_
          exact WS.los [0, 1, 3, 4, 5, 6] rfl (ih _ (by (try simp only [l_int, tL_0, tL_1, tL_2, tL_4, tL_5, tL_6, tL_7, tL_9, tL_10, tL_12, tL_15, tL_30, tL_40, tL_60, tL_99, tL_255, tL_1023, tL_m1, lc_lt, lc_gt, lc_ge, lc_le, lc_eq, l6_le, l6_lt, l6_eq, tI_m133, tI_m226, i_le, i_lt, i_eq, tI_0, tI_1, tI_2] at c44); (try simp only [l_int, tL_0, tL_1, tL_2, tL_4, tL_5, tL_6, tL_7, tL_9, tL_10, tL_12, tL_15, tL_30, tL_40, tL_60, tL_99, tL_255, tL_1023, tL_m1, lc_lt, lc_gt, lc_ge, lc_le, lc_eq, l6_le, l6_lt, l6_eq, tI_m133, tI_m226, i_le, i_lt, i_eq, tI_0, tI_1, tI_2] at hb50); (try simp only [l_int, tL_0, tL_1, tL_2, tL_4, tL_5, tL_6, tL_7, tL_9, tL_10, tL_12, tL_15, tL_30, tL_40, tL_60, tL_99, tL_255, tL_1023, tL_m1, lc_lt, lc_gt, lc_ge, lc_le, lc_eq, l6_le, l6_lt, l6_eq, tI_m133, tI_m226, i_le, i_lt, i_eq, tI_0, tI_1, tI_2] at c105); (try simp only [l_int, tL_0, tL_1, tL_2, tL_4, tL_5, tL_6, tL_7, tL_9, tL_10, tL_12, tL_15, tL_30, tL_40, tL_60, tL_99, tL_255, tL_1023, tL_m1, lc_lt, lc_gt, lc_ge, lc_le, lc_eq, l6_le, l6_lt, l6_eq, tI_m133, tI_m226, i_le, i_lt, i_eq, tI_0, tI_1, tI_2]); omega) (i + 1) rfl (by (try simp only [l_int, tL_0, tL_1, tL_2, tL_4, tL_5, tL_6, tL_7, tL_9, tL_10, tL_12, tL_15, tL_30, tL_40, tL_60, tL_99, tL_255, tL_1023, tL_m1, lc_lt, lc_gt, lc_ge, lc_le, lc_eq, l6_le, l6_lt, l6_eq, tI_m133, tI_m226, i_le, i_lt, i_eq, tI_0, tI_1, tI_2] at c44); (try simp only [l_int, tL_0, tL_1, tL_2, tL_4, tL_5, tL_6, tL_7, tL_9, tL_10, tL_12, tL_15, tL_30, tL_40, tL_60, tL_99, tL_255, tL_1023, tL_m1, lc_lt, lc_gt, lc_ge, lc_le, lc_eq, l6_le, l6_lt, l6_eq, tI_m133, tI_m226, i_le, i_lt, i_eq, tI_0, tI_1, tI_2] at hb50); (try simp only [l_int, tL_0, tL_1, tL_2, tL_4, tL_5, tL_6, tL_7, tL_9, tL_10, tL_12, tL_15, tL_30, tL_40, tL_60, tL_99, tL_255, tL_1023, tL_m1, lc_lt, lc_gt, lc_ge, lc_le, lc_eq, l6_le, l6_lt, l6_eq, tI_m133, tI_m226, i_le, i_lt, i_eq, tI_0, tI_1, tI_2] at c105); (try simp only [l_int, tL_0, tL_1, tL_2, tL_4, tL_5, tL_6, tL_7, tL_9, tL_10, tL_12, tL_15, tL_30, tL_40, tL_60, tL_99, tL_255, tL_1023, tL_m1, lc_lt, lc_gt, lc_ge, lc_le, lc_eq, l6_le, l6_lt, l6_eq, tI_m133, tI_m226, i_le, i_lt, i_eq, tI_0, tI_1, tI_2]); omega))
set_option maxHeartbeats 1000000 in
theorem c_X11_playsFrome (V : Vt) (d : Nat) (σ : Sg) (κ : Sg) (n : Nat) (lw : Lw) (hM : MR κ σ n) (hT : MT σ n (ms0 (wdM κ n lw))) (k t N : Nat) (hk : k + (t + 1) = N) (hN : N ≤ 4) (hB : ∀ (cl g : Int32), CG n cl g → CT layM V mX11_playsFrom (d + 1) [rf V 0, .int (nI (k + 1)), .int (nI N), .int g] σ (Ro (mpV κ n (k + 1) t cl) σ)) (cl g : Int32) (hG : CG n cl g) (hp : k % 2 = 0) : CT layM V mX11_playsFrom (d + 2) [rf V 0, .int (nI k), .int (nI N), .int g] σ (Ro (mpV κ n k (t + 1) cl) σ) := by
  refine CT.of (own := RX11) rfl (by decide) (Nat.le_of_ble_eq_true rfl) (fun X (hx : Ok V RX11 cX11_playsFrom 7 (d + 2) X) (he : En layM V (some .int) (Ro (mpV κ n k (t + 1) cl) σ) X) => ?_)
  change WS layM V 7 X σ 0 [(0, rf V 0), (1, .int (nI k)), (2, .int (nI N)), (3, .int g)] []
  have hn := hM.n
  have hkI : (nI k).toInt = (k : Int) := nI_c (by omega)
  have hNI : (nI N).toInt = (N : Int) := nI_c (by omega)
  refine WS.iload_n hx dX11_playsFrom_0 rfl 1 rfl ?_
  refine WS.iload_n hx dX11_playsFrom_1 rfl 2 rfl ?_
  refine WS.icmp_eq (tgt := 16) hx dX11_playsFrom_2 (by decide) (fun c2 => by exfalso; (try simp only [l_int, tL_0, tL_1, tL_2, tL_4, tL_5, tL_6, tL_7, tL_9, tL_10, tL_12, tL_15, tL_30, tL_40, tL_60, tL_99, tL_255, tL_1023, tL_m1, lc_lt, lc_gt, lc_ge, lc_le, lc_eq, l6_le, l6_lt, l6_eq, tI_m133, tI_m226, i_le, i_lt, i_eq, tI_0, tI_1, tI_2] at c2); (try simp only [l_int, tL_0, tL_1, tL_2, tL_4, tL_5, tL_6, tL_7, tL_9, tL_10, tL_12, tL_15, tL_30, tL_40, tL_60, tL_99, tL_255, tL_1023, tL_m1, lc_lt, lc_gt, lc_ge, lc_le, lc_eq, l6_le, l6_lt, l6_eq, tI_m133, tI_m226, i_le, i_lt, i_eq, tI_0, tI_1, tI_2]); omega) (fun c2 => ?_)
  refine WS.iload_n hx dX11_playsFrom_5 rfl 3 rfl ?_
  refine WS.callSi (st := []) [.int g] hx (c_X11_bitsOf V (d + 1) σ g) okX11_bitsOf lm11_248 rfl rfl (Nat.le_of_ble_eq_true rfl) dX11_playsFrom_6 (fun v1 σ2 h3 => ?_)
  obtain ⟨rfl, rfl⟩ := h3
  show WS layM V 7 X σ 9 [(0, rf V 0), (1, .int (nI k)), (2, .int (nI N)), (3, .int g)] [.int (btM g 16)]
  refine WS.aload_n hx dX11_playsFrom_9 rfl 0 rfl ?_
  refine WS.getI hx okX11 lf11_97 rfl rfl dX11_playsFrom_10 ?_
  refine WS.as rfl rfl (congrArg (fun z => Value.int z :: _) (show σ.1 0 6 = nI n from hM.s)) ?_
  skip
  refine WS.icmp_ne (tgt := 18) hx dX11_playsFrom_13 (by decide) (fun c13 => ?_) (fun c13 => ?_)
  · skip
    show WS layM V 7 X σ 18 [(0, rf V 0), (1, .int (nI k)), (2, .int (nI N)), (3, .int g)] []
    have hcl : ¬ cl = 0 := fun h => c13 ((hG.c hn).mpr h)
    refine WS.iload_n hx dX11_playsFrom_18 rfl 1 rfl ?_
    refine WS.iconst (v := 2) hx dX11_playsFrom_19 (by decide) ?_
    refine WS.irem hx dX11_playsFrom_20 (by decide) ?_
    refine WS.as rfl rfl (congrArg (fun z => Value.int z :: _) (show (nI k) - (nI k) / 2 * 2 = 0 from by rw [show (2 : Int32) = nI 2 from rfl, pk_rem (by omega) (by decide) (by decide), hp]; rfl)) ?_
    skip
    refine WS.if_ne (tgt := 30) hx dX11_playsFrom_21 (by decide) (fun h => absurd (by decide) h) (fun _ => ?_)
    refine WS.ldc_w (v := (-1000000)) hx lc11_299 dX11_playsFrom_24 ?_
    refine WS.goto (tgt := 33) hx dX11_playsFrom_27 (by decide) ?_
    refine WS.istore (lo' := [(4, .int (-1000000)), (0, rf V 0), (1, .int (nI k)), (2, .int (nI N)), (3, .int g)]) hx dX11_playsFrom_33 (by decide) rfl ?_
    refine WS.iconst (v := 0) hx dX11_playsFrom_35 (by decide) ?_
    refine WS.istore (lo' := [(5, .int 0), (4, .int (-1000000)), (0, rf V 0), (1, .int (nI k)), (2, .int (nI N)), (3, .int g)]) hx dX11_playsFrom_36 (by decide) rfl ?_
    exact WS.los [0, 1, 2, 3, 4, 5] rfl (le_X11_playsFrom V d σ κ n lw hM hT k t N hk hN hB cl g hG hcl hp _ (by rw [mpV_n hM.q (by omega) hG hcl, if_pos hp]) X hx he 0 (Nat.zero_le _))
  · skip
    show WS layM V 7 X σ 16 [(0, rf V 0), (1, .int (nI k)), (2, .int (nI N)), (3, .int g)] []
    refine WS.iconst (v := 0) hx dX11_playsFrom_16 (by decide) ?_
    exact WS.iret hx he dX11_playsFrom_17 (Ro.i (mpV_z ((hG.c hn).mp c13)))
set_option maxHeartbeats 1000000 in
theorem lo_X11_playsFrom (V : Vt) (d : Nat) (σ : Sg) (κ : Sg) (n : Nat) (lw : Lw) (hM : MR κ σ n) (hT : MT σ n (ms0 (wdM κ n lw))) (k t N : Nat) (hk : k + (t + 1) = N) (hN : N ≤ 4) (hB : ∀ (cl g : Int32), CG n cl g → CT layM V mX11_playsFrom (d + 1) [rf V 0, .int (nI (k + 1)), .int (nI N), .int g] σ (Ro (mpV κ n (k + 1) t cl) σ)) (cl g : Int32) (hG : CG n cl g) (hcl : ¬ cl = 0) (hp : k % 2 = 1) (r : Int32) (hr : r = -bxE (bitP cl) (gF κ n t cl) n) (X : Xt) (hx : Ok V RX11 cX11_playsFrom 7 (d + 2) X) (he : En layM V (some .int) (Ro r σ) X) : ∀ (i : Nat), i ≤ n → WS layM V 7 X σ 38 [(5, .int (nI i)), (4, .int (-bxE (bitP cl) (gF κ n t cl) i)), (0, rf V 0), (1, .int (nI k)), (2, .int (nI N)), (3, .int g)] [] := by
  have hn := hM.n
  have hnI : (nI n).toInt = (n : Int) := nI_c (by omega)
  intro i
  induction hm : n - i using Nat.strongRecOn generalizing i with
  | _ m9 ih =>
    intro hi
    have hiI : (nI i).toInt = (i : Int) := nI_c (by omega)
    refine WS.iload hx dX11_playsFrom_38 0 rfl ?_
    refine WS.aload_n hx dX11_playsFrom_40 rfl 2 rfl ?_
    refine WS.getI hx okX11 lf11_97 rfl rfl dX11_playsFrom_41 ?_
    refine WS.as rfl rfl (congrArg (fun z => Value.int z :: _) (show σ.1 0 6 = nI n from hM.s)) ?_
    skip
    refine WS.icmp_ge (tgt := 140) hx dX11_playsFrom_44 (by decide) (fun c44 => ?_) (fun c44 => ?_)
    · skip
      show WS layM V 7 X σ 140 [(5, .int (nI i)), (4, .int (-bxE (bitP cl) (gF κ n t cl) i)), (0, rf V 0), (1, .int (nI k)), (2, .int (nI N)), (3, .int g)] []
      refine WS.iload hx dX11_playsFrom_140 1 rfl ?_
      exact WS.iret hx he dX11_playsFrom_142 (Ro.i (by rw [hr, show i = n by (try simp only [l_int, tL_0, tL_1, tL_2, tL_4, tL_5, tL_6, tL_7, tL_9, tL_10, tL_12, tL_15, tL_30, tL_40, tL_60, tL_99, tL_255, tL_1023, tL_m1, lc_lt, lc_gt, lc_ge, lc_le, lc_eq, l6_le, l6_lt, l6_eq, tI_m133, tI_m226, i_le, i_lt, i_eq, tI_0, tI_1, tI_2] at c44); (try simp only [l_int, tL_0, tL_1, tL_2, tL_4, tL_5, tL_6, tL_7, tL_9, tL_10, tL_12, tL_15, tL_30, tL_40, tL_60, tL_99, tL_255, tL_1023, tL_m1, lc_lt, lc_gt, lc_ge, lc_le, lc_eq, l6_le, l6_lt, l6_eq, tI_m133, tI_m226, i_le, i_lt, i_eq, tI_0, tI_1, tI_2]); omega]))
    · skip
      show WS layM V 7 X σ 47 [(5, .int (nI i)), (4, .int (-bxE (bitP cl) (gF κ n t cl) i)), (0, rf V 0), (1, .int (nI k)), (2, .int (nI N)), (3, .int g)] []
      refine WS.iload_n hx dX11_playsFrom_47 rfl 5 rfl ?_
      refine WS.iload hx dX11_playsFrom_48 0 rfl ?_
      refine WS.callSi (st := []) [.int g, .int (nI i)] hx (c_X11_isIn V (d + 1) σ g (nI i)) okX11_isIn lm11_261 rfl rfl (Nat.le_of_ble_eq_true rfl) dX11_playsFrom_50 (fun v1 σ2 h3 => ?_)
      rcases h3 with ⟨rfl, rfl, hb50⟩ | ⟨rfl, rfl, hb50⟩
      · skip
        show WS layM V 7 X σ 53 [(5, .int (nI i)), (4, .int (-bxE (bitP cl) (gF κ n t cl) i)), (0, rf V 0), (1, .int (nI k)), (2, .int (nI N)), (3, .int g)] [.int 1]
        have hi9 : i < n := by (try simp only [l_int, tL_0, tL_1, tL_2, tL_4, tL_5, tL_6, tL_7, tL_9, tL_10, tL_12, tL_15, tL_30, tL_40, tL_60, tL_99, tL_255, tL_1023, tL_m1, lc_lt, lc_gt, lc_ge, lc_le, lc_eq, l6_le, l6_lt, l6_eq, tI_m133, tI_m226, i_le, i_lt, i_eq, tI_0, tI_1, tI_2] at c44); (try simp only [l_int, tL_0, tL_1, tL_2, tL_4, tL_5, tL_6, tL_7, tL_9, tL_10, tL_12, tL_15, tL_30, tL_40, tL_60, tL_99, tL_255, tL_1023, tL_m1, lc_lt, lc_gt, lc_ge, lc_le, lc_eq, l6_le, l6_lt, l6_eq, tI_m133, tI_m226, i_le, i_lt, i_eq, tI_0, tI_1, tI_2]); omega
        have hp9 : ¬ bitP cl i = true := by rw [hG.1 i hi9, bP_t hb50]; decide
        refine WS.if_ne (tgt := 134) hx dX11_playsFrom_53 (by decide) (fun _ => ?_) (fun h => absurd h (by decide))
        refine WS.iinc (v := nI (i + 1)) (lo' := [(5, .int (nI (i + 1))), (4, .int (-bxE (bitP cl) (gF κ n t cl) i)), (0, rf V 0), (1, .int (nI k)), (2, .int (nI N)), (3, .int g)]) hx dX11_playsFrom_134 0 rfl (nI_1 i) (by decide) rfl ?_
        refine WS.goto (tgt := 38) hx dX11_playsFrom_137 (by decide) ?_
        have h9 := ih _ (by (try simp only [l_int, tL_0, tL_1, tL_2, tL_4, tL_5, tL_6, tL_7, tL_9, tL_10, tL_12, tL_15, tL_30, tL_40, tL_60, tL_99, tL_255, tL_1023, tL_m1, lc_lt, lc_gt, lc_ge, lc_le, lc_eq, l6_le, l6_lt, l6_eq, tI_m133, tI_m226, i_le, i_lt, i_eq, tI_0, tI_1, tI_2] at c44); (try simp only [l_int, tL_0, tL_1, tL_2, tL_4, tL_5, tL_6, tL_7, tL_9, tL_10, tL_12, tL_15, tL_30, tL_40, tL_60, tL_99, tL_255, tL_1023, tL_m1, lc_lt, lc_gt, lc_ge, lc_le, lc_eq, l6_le, l6_lt, l6_eq, tI_m133, tI_m226, i_le, i_lt, i_eq, tI_0, tI_1, tI_2] at hb50); (try simp only [l_int, tL_0, tL_1, tL_2, tL_4, tL_5, tL_6, tL_7, tL_9, tL_10, tL_12, tL_15, tL_30, tL_40, tL_60, tL_99, tL_255, tL_1023, tL_m1, lc_lt, lc_gt, lc_ge, lc_le, lc_eq, l6_le, l6_lt, l6_eq, tI_m133, tI_m226, i_le, i_lt, i_eq, tI_0, tI_1, tI_2]); omega) (i + 1) rfl (by (try simp only [l_int, tL_0, tL_1, tL_2, tL_4, tL_5, tL_6, tL_7, tL_9, tL_10, tL_12, tL_15, tL_30, tL_40, tL_60, tL_99, tL_255, tL_1023, tL_m1, lc_lt, lc_gt, lc_ge, lc_le, lc_eq, l6_le, l6_lt, l6_eq, tI_m133, tI_m226, i_le, i_lt, i_eq, tI_0, tI_1, tI_2] at c44); (try simp only [l_int, tL_0, tL_1, tL_2, tL_4, tL_5, tL_6, tL_7, tL_9, tL_10, tL_12, tL_15, tL_30, tL_40, tL_60, tL_99, tL_255, tL_1023, tL_m1, lc_lt, lc_gt, lc_ge, lc_le, lc_eq, l6_le, l6_lt, l6_eq, tI_m133, tI_m226, i_le, i_lt, i_eq, tI_0, tI_1, tI_2] at hb50); (try simp only [l_int, tL_0, tL_1, tL_2, tL_4, tL_5, tL_6, tL_7, tL_9, tL_10, tL_12, tL_15, tL_30, tL_40, tL_60, tL_99, tL_255, tL_1023, tL_m1, lc_lt, lc_gt, lc_ge, lc_le, lc_eq, l6_le, l6_lt, l6_eq, tI_m133, tI_m226, i_le, i_lt, i_eq, tI_0, tI_1, tI_2]); omega)
        rw [bxE_f hp9] at h9
        exact WS.los [0, 1, 2, 3, 4, 5] rfl h9
      · skip
        show WS layM V 7 X σ 53 [(5, .int (nI i)), (4, .int (-bxE (bitP cl) (gF κ n t cl) i)), (0, rf V 0), (1, .int (nI k)), (2, .int (nI N)), (3, .int g)] [.int 0]
        have hi9 : i < n := by (try simp only [l_int, tL_0, tL_1, tL_2, tL_4, tL_5, tL_6, tL_7, tL_9, tL_10, tL_12, tL_15, tL_30, tL_40, tL_60, tL_99, tL_255, tL_1023, tL_m1, lc_lt, lc_gt, lc_ge, lc_le, lc_eq, l6_le, l6_lt, l6_eq, tI_m133, tI_m226, i_le, i_lt, i_eq, tI_0, tI_1, tI_2] at c44); (try simp only [l_int, tL_0, tL_1, tL_2, tL_4, tL_5, tL_6, tL_7, tL_9, tL_10, tL_12, tL_15, tL_30, tL_40, tL_60, tL_99, tL_255, tL_1023, tL_m1, lc_lt, lc_gt, lc_ge, lc_le, lc_eq, l6_le, l6_lt, l6_eq, tI_m133, tI_m226, i_le, i_lt, i_eq, tI_0, tI_1, tI_2]); omega
        have hp9 : bitP cl i = true := by rw [hG.1 i hi9, bP_f hb50]; rfl
        have r1 := gF_r hM.q (by omega) hG hi9 (t := t)
        have r2 := bxE_r (p := bitP cl) (f := gF κ n t cl) i (fun b hb _ => gF_r hM.q (by omega) hG (by omega))
        refine WS.if_ne (tgt := 134) hx dX11_playsFrom_53 (by decide) (fun h => absurd (by decide) h) (fun _ => ?_)
        refine WS.iload_n hx dX11_playsFrom_56 rfl 3 rfl ?_
        refine WS.iconst (v := 2) hx dX11_playsFrom_57 (by decide) ?_
        refine WS.irem hx dX11_playsFrom_58 (by decide) ?_
        refine WS.as rfl rfl (congrArg (fun z => Value.int z :: _) (show (nI k) - (nI k) / 2 * 2 = 1 from by rw [show (2 : Int32) = nI 2 from rfl, pk_rem (by omega) (by decide) (by decide), hp]; rfl)) ?_
        skip
        refine WS.if_ne (tgt := 71) hx dX11_playsFrom_59 (by decide) (fun _ => ?_) (fun h => absurd h (by decide))
        refine WS.aload_n hx dX11_playsFrom_71 rfl 2 rfl ?_
        refine WS.iload hx dX11_playsFrom_72 0 rfl ?_
        refine WS.callVi (st := []) [.int (nI i)] hx (c_X11_wordOf V (d + 1) σ κ n hM (ms0 (wdM κ n lw)) hT i (by (try simp only [l_int, tL_0, tL_1, tL_2, tL_4, tL_5, tL_6, tL_7, tL_9, tL_10, tL_12, tL_15, tL_30, tL_40, tL_60, tL_99, tL_255, tL_1023, tL_m1, lc_lt, lc_gt, lc_ge, lc_le, lc_eq, l6_le, l6_lt, l6_eq, tI_m133, tI_m226, i_le, i_lt, i_eq, tI_0, tI_1, tI_2] at c44); (try simp only [l_int, tL_0, tL_1, tL_2, tL_4, tL_5, tL_6, tL_7, tL_9, tL_10, tL_12, tL_15, tL_30, tL_40, tL_60, tL_99, tL_255, tL_1023, tL_m1, lc_lt, lc_gt, lc_ge, lc_le, lc_eq, l6_le, l6_lt, l6_eq, tI_m133, tI_m226, i_le, i_lt, i_eq, tI_0, tI_1, tI_2] at hb50); (try simp only [l_int, tL_0, tL_1, tL_2, tL_4, tL_5, tL_6, tL_7, tL_9, tL_10, tL_12, tL_15, tL_30, tL_40, tL_60, tL_99, tL_255, tL_1023, tL_m1, lc_lt, lc_gt, lc_ge, lc_le, lc_eq, l6_le, l6_lt, l6_eq, tI_m133, tI_m226, i_le, i_lt, i_eq, tI_0, tI_1, tI_2]); omega)) okX11_wordOf lm11_219 rfl rfl rfl rfl (Nat.le_of_ble_eq_true rfl) dX11_playsFrom_74 (fun v4 σ5 h6 => ?_)
        obtain ⟨rfl, rfl⟩ := h6
        show WS layM V 7 X σ 77 [(5, .int (nI i)), (4, .int (-bxE (bitP cl) (gF κ n t cl) i)), (0, rf V 0), (1, .int (nI k)), (2, .int (nI N)), (3, .int g)] [.int (κ.1 17 ((ms0 (wdM κ n lw)).1 i))]
        refine WS.ineg hx dX11_playsFrom_77 ?_
        refine WS.aload_n hx dX11_playsFrom_78 rfl 2 rfl ?_
        refine WS.iload_n hx dX11_playsFrom_79 rfl 3 rfl ?_
        refine WS.iconst (v := 1) hx dX11_playsFrom_80 (by decide) ?_
        refine WS.iadd hx dX11_playsFrom_81 ?_
        refine WS.as rfl rfl (congrArg (fun z => Value.int z :: _) (show (nI k) + 1 = nI (k + 1) from nI_1 k)) ?_
        skip
        refine WS.iload_n hx dX11_playsFrom_82 rfl 4 rfl ?_
        refine WS.iload_n hx dX11_playsFrom_83 rfl 5 rfl ?_
        refine WS.iconst (v := 1) hx dX11_playsFrom_84 (by decide) ?_
        refine WS.iload hx dX11_playsFrom_85 0 rfl ?_
        refine WS.ishl hx dX11_playsFrom_87 ?_
        refine WS.ior hx dX11_playsFrom_88 ?_
        refine WS.callVi (st := [.int (-(κ.1 17 ((ms0 (wdM κ n lw)).1 i)))]) [.int (nI (k + 1)), .int (nI N), .int (g ||| (1 <<< ((nI i) &&& 31)))] hx (hB (clr cl i) _ (hG.s hn (by omega))) okX11_playsFrom lm11_301 rfl rfl rfl rfl (Nat.le_of_ble_eq_true rfl) dX11_playsFrom_89 (fun v7 σ8 h9 => ?_)
        obtain ⟨rfl, rfl⟩ := h9
        show WS layM V 7 X σ 92 [(5, .int (nI i)), (4, .int (-bxE (bitP cl) (gF κ n t cl) i)), (0, rf V 0), (1, .int (nI k)), (2, .int (nI N)), (3, .int g)] [.int (mpV κ n (k + 1) t (clr cl i)), .int (-(κ.1 17 ((ms0 (wdM κ n lw)).1 i)))]
        refine WS.as rfl rfl (congrArg (fun z => Value.int z :: _) (show mpV κ n (k + 1) t (clr cl i) = bgF κ n t (clr cl i) from by unfold mpV; rw [if_pos (by omega)])) ?_
        skip
        refine WS.iadd hx dX11_playsFrom_92 ?_
        refine WS.as rfl rfl (congrArg (fun z => Value.int z :: _) (show (-(κ.1 17 ((ms0 (wdM κ n lw)).1 i))) + (bgF κ n t (clr cl i)) = -gF κ n t cl i from neg_add' _ _)) ?_
        skip
        refine WS.istore (lo' := [(6, .int (-gF κ n t cl i)), (5, .int (nI i)), (4, .int (-bxE (bitP cl) (gF κ n t cl) i)), (0, rf V 0), (1, .int (nI k)), (2, .int (nI N)), (3, .int g)]) hx dX11_playsFrom_93 (by decide) rfl ?_
        refine WS.iload_n hx dX11_playsFrom_95 rfl 4 rfl ?_
        refine WS.iconst (v := 2) hx dX11_playsFrom_96 (by decide) ?_
        refine WS.irem hx dX11_playsFrom_97 (by decide) ?_
        refine WS.as rfl rfl (congrArg (fun z => Value.int z :: _) (show (nI k) - (nI k) / 2 * 2 = 1 from by rw [show (2 : Int32) = nI 2 from rfl, pk_rem (by omega) (by decide) (by decide), hp]; rfl)) ?_
        skip
        refine WS.if_ne (tgt := 118) hx dX11_playsFrom_98 (by decide) (fun _ => ?_) (fun h => absurd h (by decide))
        refine WS.iload hx dX11_playsFrom_118 0 rfl ?_
        refine WS.iload hx dX11_playsFrom_120 2 rfl ?_
        refine WS.icmp_ge (tgt := 130) hx dX11_playsFrom_122 (by decide) (fun c122 => ?_) (fun c122 => ?_)
        · skip
          show WS layM V 7 X σ 130 [(6, .int (-gF κ n t cl i)), (5, .int (nI i)), (4, .int (-bxE (bitP cl) (gF κ n t cl) i)), (0, rf V 0), (1, .int (nI k)), (2, .int (nI N)), (3, .int g)] []
          refine WS.iload hx dX11_playsFrom_130 2 rfl ?_
          refine WS.as rfl rfl (congrArg (fun z => Value.int z :: _) (show -bxE (bitP cl) (gF κ n t cl) i = -bxE (bitP cl) (gF κ n t cl) (i + 1) from by rw [bxE_t hp9 ((neg_le' (by omega) (by omega)).mp c122)])) ?_
          skip
          refine WS.istore (lo' := [(4, .int (-bxE (bitP cl) (gF κ n t cl) (i + 1))), (6, .int (-gF κ n t cl i)), (5, .int (nI i)), (0, rf V 0), (1, .int (nI k)), (2, .int (nI N)), (3, .int g)]) hx dX11_playsFrom_132 (by decide) rfl ?_
          refine WS.iinc (v := nI (i + 1)) (lo' := [(5, .int (nI (i + 1))), (4, .int (-bxE (bitP cl) (gF κ n t cl) (i + 1))), (6, .int (-gF κ n t cl i)), (0, rf V 0), (1, .int (nI k)), (2, .int (nI N)), (3, .int g)]) hx dX11_playsFrom_134 2 rfl (nI_1 i) (by decide) rfl ?_
          refine WS.goto (tgt := 38) hx dX11_playsFrom_137 (by decide) ?_
          exact WS.los [0, 1, 3, 4, 5, 6] rfl (ih _ (by (try simp only [l_int, tL_0, tL_1, tL_2, tL_4, tL_5, tL_6, tL_7, tL_9, tL_10, tL_12, tL_15, tL_30, tL_40, tL_60, tL_99, tL_255, tL_1023, tL_m1, lc_lt, lc_gt, lc_ge, lc_le, lc_eq, l6_le, l6_lt, l6_eq, tI_m133, tI_m226, i_le, i_lt, i_eq, tI_0, tI_1, tI_2] at c44); (try simp only [l_int, tL_0, tL_1, tL_2, tL_4, tL_5, tL_6, tL_7, tL_9, tL_10, tL_12, tL_15, tL_30, tL_40, tL_60, tL_99, tL_255, tL_1023, tL_m1, lc_lt, lc_gt, lc_ge, lc_le, lc_eq, l6_le, l6_lt, l6_eq, tI_m133, tI_m226, i_le, i_lt, i_eq, tI_0, tI_1, tI_2] at hb50); (try simp only [l_int, tL_0, tL_1, tL_2, tL_4, tL_5, tL_6, tL_7, tL_9, tL_10, tL_12, tL_15, tL_30, tL_40, tL_60, tL_99, tL_255, tL_1023, tL_m1, lc_lt, lc_gt, lc_ge, lc_le, lc_eq, l6_le, l6_lt, l6_eq, tI_m133, tI_m226, i_le, i_lt, i_eq, tI_0, tI_1, tI_2] at c122); (try simp only [l_int, tL_0, tL_1, tL_2, tL_4, tL_5, tL_6, tL_7, tL_9, tL_10, tL_12, tL_15, tL_30, tL_40, tL_60, tL_99, tL_255, tL_1023, tL_m1, lc_lt, lc_gt, lc_ge, lc_le, lc_eq, l6_le, l6_lt, l6_eq, tI_m133, tI_m226, i_le, i_lt, i_eq, tI_0, tI_1, tI_2]); omega) (i + 1) rfl (by (try simp only [l_int, tL_0, tL_1, tL_2, tL_4, tL_5, tL_6, tL_7, tL_9, tL_10, tL_12, tL_15, tL_30, tL_40, tL_60, tL_99, tL_255, tL_1023, tL_m1, lc_lt, lc_gt, lc_ge, lc_le, lc_eq, l6_le, l6_lt, l6_eq, tI_m133, tI_m226, i_le, i_lt, i_eq, tI_0, tI_1, tI_2] at c44); (try simp only [l_int, tL_0, tL_1, tL_2, tL_4, tL_5, tL_6, tL_7, tL_9, tL_10, tL_12, tL_15, tL_30, tL_40, tL_60, tL_99, tL_255, tL_1023, tL_m1, lc_lt, lc_gt, lc_ge, lc_le, lc_eq, l6_le, l6_lt, l6_eq, tI_m133, tI_m226, i_le, i_lt, i_eq, tI_0, tI_1, tI_2] at hb50); (try simp only [l_int, tL_0, tL_1, tL_2, tL_4, tL_5, tL_6, tL_7, tL_9, tL_10, tL_12, tL_15, tL_30, tL_40, tL_60, tL_99, tL_255, tL_1023, tL_m1, lc_lt, lc_gt, lc_ge, lc_le, lc_eq, l6_le, l6_lt, l6_eq, tI_m133, tI_m226, i_le, i_lt, i_eq, tI_0, tI_1, tI_2] at c122); (try simp only [l_int, tL_0, tL_1, tL_2, tL_4, tL_5, tL_6, tL_7, tL_9, tL_10, tL_12, tL_15, tL_30, tL_40, tL_60, tL_99, tL_255, tL_1023, tL_m1, lc_lt, lc_gt, lc_ge, lc_le, lc_eq, l6_le, l6_lt, l6_eq, tI_m133, tI_m226, i_le, i_lt, i_eq, tI_0, tI_1, tI_2]); omega))
        · skip
          show WS layM V 7 X σ 125 [(6, .int (-gF κ n t cl i)), (5, .int (nI i)), (4, .int (-bxE (bitP cl) (gF κ n t cl) i)), (0, rf V 0), (1, .int (nI k)), (2, .int (nI N)), (3, .int g)] []
          refine WS.iload hx dX11_playsFrom_125 0 rfl ?_
          refine WS.as rfl rfl (congrArg (fun z => Value.int z :: _) (show -gF κ n t cl i = -bxE (bitP cl) (gF κ n t cl) (i + 1) from by rw [bxE_u hp9 (fun h => c122 ((neg_le' (by omega) (by omega)).mpr h))])) ?_
          skip
          refine WS.goto (tgt := 132) hx dX11_playsFrom_127 (by decide) ?_
          refine WS.istore (lo' := [(4, .int (-bxE (bitP cl) (gF κ n t cl) (i + 1))), (6, .int (-gF κ n t cl i)), (5, .int (nI i)), (0, rf V 0), (1, .int (nI k)), (2, .int (nI N)), (3, .int g)]) hx dX11_playsFrom_132 (by decide) rfl ?_
          refine WS.iinc (v := nI (i + 1)) (lo' := [(5, .int (nI (i + 1))), (4, .int (-bxE (bitP cl) (gF κ n t cl) (i + 1))), (6, .int (-gF κ n t cl i)), (0, rf V 0), (1, .int (nI k)), (2, .int (nI N)), (3, .int g)]) hx dX11_playsFrom_134 2 rfl (nI_1 i) (by decide) rfl ?_
          refine WS.goto (tgt := 38) hx dX11_playsFrom_137 (by decide) ?_
          exact WS.los [0, 1, 3, 4, 5, 6] rfl (ih _ (by (try simp only [l_int, tL_0, tL_1, tL_2, tL_4, tL_5, tL_6, tL_7, tL_9, tL_10, tL_12, tL_15, tL_30, tL_40, tL_60, tL_99, tL_255, tL_1023, tL_m1, lc_lt, lc_gt, lc_ge, lc_le, lc_eq, l6_le, l6_lt, l6_eq, tI_m133, tI_m226, i_le, i_lt, i_eq, tI_0, tI_1, tI_2] at c44); (try simp only [l_int, tL_0, tL_1, tL_2, tL_4, tL_5, tL_6, tL_7, tL_9, tL_10, tL_12, tL_15, tL_30, tL_40, tL_60, tL_99, tL_255, tL_1023, tL_m1, lc_lt, lc_gt, lc_ge, lc_le, lc_eq, l6_le, l6_lt, l6_eq, tI_m133, tI_m226, i_le, i_lt, i_eq, tI_0, tI_1, tI_2] at hb50); (try simp only [l_int, tL_0, tL_1, tL_2, tL_4, tL_5, tL_6, tL_7, tL_9, tL_10, tL_12, tL_15, tL_30, tL_40, tL_60, tL_99, tL_255, tL_1023, tL_m1, lc_lt, lc_gt, lc_ge, lc_le, lc_eq, l6_le, l6_lt, l6_eq, tI_m133, tI_m226, i_le, i_lt, i_eq, tI_0, tI_1, tI_2] at c122); (try simp only [l_int, tL_0, tL_1, tL_2, tL_4, tL_5, tL_6, tL_7, tL_9, tL_10, tL_12, tL_15, tL_30, tL_40, tL_60, tL_99, tL_255, tL_1023, tL_m1, lc_lt, lc_gt, lc_ge, lc_le, lc_eq, l6_le, l6_lt, l6_eq, tI_m133, tI_m226, i_le, i_lt, i_eq, tI_0, tI_1, tI_2]); omega) (i + 1) rfl (by (try simp only [l_int, tL_0, tL_1, tL_2, tL_4, tL_5, tL_6, tL_7, tL_9, tL_10, tL_12, tL_15, tL_30, tL_40, tL_60, tL_99, tL_255, tL_1023, tL_m1, lc_lt, lc_gt, lc_ge, lc_le, lc_eq, l6_le, l6_lt, l6_eq, tI_m133, tI_m226, i_le, i_lt, i_eq, tI_0, tI_1, tI_2] at c44); (try simp only [l_int, tL_0, tL_1, tL_2, tL_4, tL_5, tL_6, tL_7, tL_9, tL_10, tL_12, tL_15, tL_30, tL_40, tL_60, tL_99, tL_255, tL_1023, tL_m1, lc_lt, lc_gt, lc_ge, lc_le, lc_eq, l6_le, l6_lt, l6_eq, tI_m133, tI_m226, i_le, i_lt, i_eq, tI_0, tI_1, tI_2] at hb50); (try simp only [l_int, tL_0, tL_1, tL_2, tL_4, tL_5, tL_6, tL_7, tL_9, tL_10, tL_12, tL_15, tL_30, tL_40, tL_60, tL_99, tL_255, tL_1023, tL_m1, lc_lt, lc_gt, lc_ge, lc_le, lc_eq, l6_le, l6_lt, l6_eq, tI_m133, tI_m226, i_le, i_lt, i_eq, tI_0, tI_1, tI_2] at c122); (try simp only [l_int, tL_0, tL_1, tL_2, tL_4, tL_5, tL_6, tL_7, tL_9, tL_10, tL_12, tL_15, tL_30, tL_40, tL_60, tL_99, tL_255, tL_1023, tL_m1, lc_lt, lc_gt, lc_ge, lc_le, lc_eq, l6_le, l6_lt, l6_eq, tI_m133, tI_m226, i_le, i_lt, i_eq, tI_0, tI_1, tI_2]); omega))
set_option maxHeartbeats 1000000 in
theorem c_X11_playsFromo (V : Vt) (d : Nat) (σ : Sg) (κ : Sg) (n : Nat) (lw : Lw) (hM : MR κ σ n) (hT : MT σ n (ms0 (wdM κ n lw))) (k t N : Nat) (hk : k + (t + 1) = N) (hN : N ≤ 4) (hB : ∀ (cl g : Int32), CG n cl g → CT layM V mX11_playsFrom (d + 1) [rf V 0, .int (nI (k + 1)), .int (nI N), .int g] σ (Ro (mpV κ n (k + 1) t cl) σ)) (cl g : Int32) (hG : CG n cl g) (hp : k % 2 = 1) : CT layM V mX11_playsFrom (d + 2) [rf V 0, .int (nI k), .int (nI N), .int g] σ (Ro (mpV κ n k (t + 1) cl) σ) := by
  refine CT.of (own := RX11) rfl (by decide) (Nat.le_of_ble_eq_true rfl) (fun X (hx : Ok V RX11 cX11_playsFrom 7 (d + 2) X) (he : En layM V (some .int) (Ro (mpV κ n k (t + 1) cl) σ) X) => ?_)
  change WS layM V 7 X σ 0 [(0, rf V 0), (1, .int (nI k)), (2, .int (nI N)), (3, .int g)] []
  have hn := hM.n
  have hkI : (nI k).toInt = (k : Int) := nI_c (by omega)
  have hNI : (nI N).toInt = (N : Int) := nI_c (by omega)
  refine WS.iload_n hx dX11_playsFrom_0 rfl 1 rfl ?_
  refine WS.iload_n hx dX11_playsFrom_1 rfl 2 rfl ?_
  refine WS.icmp_eq (tgt := 16) hx dX11_playsFrom_2 (by decide) (fun c2 => by exfalso; (try simp only [l_int, tL_0, tL_1, tL_2, tL_4, tL_5, tL_6, tL_7, tL_9, tL_10, tL_12, tL_15, tL_30, tL_40, tL_60, tL_99, tL_255, tL_1023, tL_m1, lc_lt, lc_gt, lc_ge, lc_le, lc_eq, l6_le, l6_lt, l6_eq, tI_m133, tI_m226, i_le, i_lt, i_eq, tI_0, tI_1, tI_2] at c2); (try simp only [l_int, tL_0, tL_1, tL_2, tL_4, tL_5, tL_6, tL_7, tL_9, tL_10, tL_12, tL_15, tL_30, tL_40, tL_60, tL_99, tL_255, tL_1023, tL_m1, lc_lt, lc_gt, lc_ge, lc_le, lc_eq, l6_le, l6_lt, l6_eq, tI_m133, tI_m226, i_le, i_lt, i_eq, tI_0, tI_1, tI_2]); omega) (fun c2 => ?_)
  refine WS.iload_n hx dX11_playsFrom_5 rfl 3 rfl ?_
  refine WS.callSi (st := []) [.int g] hx (c_X11_bitsOf V (d + 1) σ g) okX11_bitsOf lm11_248 rfl rfl (Nat.le_of_ble_eq_true rfl) dX11_playsFrom_6 (fun v1 σ2 h3 => ?_)
  obtain ⟨rfl, rfl⟩ := h3
  show WS layM V 7 X σ 9 [(0, rf V 0), (1, .int (nI k)), (2, .int (nI N)), (3, .int g)] [.int (btM g 16)]
  refine WS.aload_n hx dX11_playsFrom_9 rfl 0 rfl ?_
  refine WS.getI hx okX11 lf11_97 rfl rfl dX11_playsFrom_10 ?_
  refine WS.as rfl rfl (congrArg (fun z => Value.int z :: _) (show σ.1 0 6 = nI n from hM.s)) ?_
  skip
  refine WS.icmp_ne (tgt := 18) hx dX11_playsFrom_13 (by decide) (fun c13 => ?_) (fun c13 => ?_)
  · skip
    show WS layM V 7 X σ 18 [(0, rf V 0), (1, .int (nI k)), (2, .int (nI N)), (3, .int g)] []
    have hcl : ¬ cl = 0 := fun h => c13 ((hG.c hn).mpr h)
    refine WS.iload_n hx dX11_playsFrom_18 rfl 1 rfl ?_
    refine WS.iconst (v := 2) hx dX11_playsFrom_19 (by decide) ?_
    refine WS.irem hx dX11_playsFrom_20 (by decide) ?_
    refine WS.as rfl rfl (congrArg (fun z => Value.int z :: _) (show (nI k) - (nI k) / 2 * 2 = 1 from by rw [show (2 : Int32) = nI 2 from rfl, pk_rem (by omega) (by decide) (by decide), hp]; rfl)) ?_
    skip
    refine WS.if_ne (tgt := 30) hx dX11_playsFrom_21 (by decide) (fun _ => ?_) (fun h => absurd h (by decide))
    refine WS.ldc_w (v := 1000000) hx lc11_300 dX11_playsFrom_30 ?_
    refine WS.as rfl rfl (congrArg (fun z => Value.int z :: _) (show 1000000 = -bxE (bitP cl) (gF κ n t cl) 0 from by show (1000000 : Int32) = -(-1000000); decide)) ?_
    skip
    refine WS.istore (lo' := [(4, .int (-bxE (bitP cl) (gF κ n t cl) 0)), (0, rf V 0), (1, .int (nI k)), (2, .int (nI N)), (3, .int g)]) hx dX11_playsFrom_33 (by decide) rfl ?_
    refine WS.iconst (v := 0) hx dX11_playsFrom_35 (by decide) ?_
    refine WS.istore (lo' := [(5, .int 0), (4, .int (-bxE (bitP cl) (gF κ n t cl) 0)), (0, rf V 0), (1, .int (nI k)), (2, .int (nI N)), (3, .int g)]) hx dX11_playsFrom_36 (by decide) rfl ?_
    exact WS.los [0, 1, 2, 3, 4, 5] rfl (lo_X11_playsFrom V d σ κ n lw hM hT k t N hk hN hB cl g hG hcl hp _ (by rw [mpV_n hM.q (by omega) hG hcl, if_neg (by omega)]) X hx he 0 (Nat.zero_le _))
  · skip
    show WS layM V 7 X σ 16 [(0, rf V 0), (1, .int (nI k)), (2, .int (nI N)), (3, .int g)] []
    refine WS.iconst (v := 0) hx dX11_playsFrom_16 (by decide) ?_
    exact WS.iret hx he dX11_playsFrom_17 (Ro.i (mpV_z ((hG.c hn).mp c13)))
theorem c_X11_playsFrom (V : Vt) (σ : Sg) (κ : Sg) (n : Nat) (lw : Lw) (hM : MR κ σ n) (hT : MT σ n (ms0 (wdM κ n lw))) (N : Nat) (hN : N ≤ 4) : ∀ (t d k : Nat) (cl g : Int32), k + t = N → CG n cl g → CT layM V mX11_playsFrom (d + t + 1) [rf V 0, .int (nI k), .int (nI N), .int g] σ (Ro (mpV κ n k t cl) σ)
  | 0, d, k, cl, g, hk, hG => by
    have e : k = N := hk
    subst e
    exact c_X11_playsFrom0 V (d + 0) σ κ n lw hM hT k cl g
  | t + 1, d, k, cl, g, hk, hG => by
    have hB : ∀ (cl g : Int32), CG n cl g → CT layM V mX11_playsFrom (d + t + 1) [rf V 0, .int (nI (k + 1)), .int (nI N), .int g] σ (Ro (mpV κ n (k + 1) t cl) σ) := fun cl g hG => c_X11_playsFrom V σ κ n lw hM hT N hN t d (k + 1) cl g (by omega) hG
    rw [show d + (t + 1) + 1 = d + t + 2 by omega]
    by_cases hp : k % 2 = 0
    · exact c_X11_playsFrome V (d + t) σ κ n lw hM hT k t N hk hN hB cl g hG hp
    · exact c_X11_playsFromo V (d + t) σ κ n lw hM hT k t N hk hN hB cl g hG (by omega)

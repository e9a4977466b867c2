theorem bP_t {x : Int32} {b : Nat} (h : (x >>> (nI b &&& 31)) &&& 1 = 1) : bitP x b = true := decide_eq_true h
theorem bP_f {x : Int32} {b : Nat} (h : ¬ (x >>> (nI b &&& 31)) &&& 1 = 1) : bitP x b = false := decide_eq_false h
def okU (κ : Sg) (c : Nat) : Nat → Bool
  | 0 => true
  | k + 1 => okU κ c k && !(bitP (nI c) k && decide (κ.1 14 k = 1))
theorem okU_iff {κ : Sg} {c : Nat} : ∀ n, (okU κ c n = true ↔ ∀ b, b < n → bitP (nI c) b = true → ¬ κ.1 14 b = 1)
  | 0 => ⟨fun _ b hb => absurd hb (Nat.not_lt_zero b), fun _ => rfl⟩
  | n + 1 => by
    show (okU κ c n && !(bitP (nI c) n && decide (κ.1 14 n = 1))) = true ↔ _
    rw [Bool.and_eq_true, okU_iff n]
    constructor
    · rintro ⟨h1, h2⟩ b hb h3 h4
      by_cases e : b = n
      · subst e; rw [h3, decide_eq_true h4] at h2; exact absurd h2 (by decide)
      · exact h1 b (by omega) h3 h4
    · intro h
      refine ⟨fun b hb => h b (by omega), ?_⟩
      cases h1 : bitP (nI c) n with
      | false => rfl
      | true => rw [decide_eq_false (h n (by omega) h1)]; rfl
theorem ok_cl {κ : Sg} {n c : Nat} (hn : n ≤ 10) (hc : c < 2 ^ n) : okU κ c n = true ↔ nI c &&& ((orW (fun b => decide (¬ κ.1 14 b = 1)) nI n) ^^^ (-1)) = 0 := by
  have h2n : 2 ^ n ≤ 2 ^ 10 := Nat.pow_le_pow_right (by decide) hn
  have h10 : 2 ^ 10 = 1024 := rfl
  rw [okU_iff]
  have hW := fun i (hi : i < 32) => b_orW (p := fun b => decide (¬ κ.1 14 b = 1)) (a := fun k => k % 32) (fun k => Nat.mod_lt _ (by decide)) hi n
  have e : orW (fun b => decide (¬ κ.1 14 b = 1)) nI n = orW (fun b => decide (¬ κ.1 14 b = 1)) (fun k => nI (k % 32)) n := orW_cg n (fun k hk => ⟨rfl, fun _ => by rw [Nat.mod_eq_of_lt (by omega)]⟩)
  constructor
  · intro h
    apply b_ext
    intro i hi
    rw [b_0, b_and, b_xor, b_m1 i hi, e]
    cases h1 : bt (nI c) i with
    | false => rfl
    | true =>
      have hin : i < n := by
        by_cases g : i < n
        · exact g
        · rw [b_nI hi, Nat.testBit_lt_two_pow (Nat.lt_of_lt_of_le hc (Nat.pow_le_pow_right (by decide) (by omega)))] at h1
          exact absurd h1 (by decide)
      have h2 := h i hin (by rw [bitP_b hi]; exact h1)
      rw [(hW i hi).mpr ⟨i, hin, decide_eq_true h2, Nat.mod_eq_of_lt hi⟩]
      rfl
  · intro h b hb h1
    have h2 := congrArg (fun z => bt z b) h
    (try dsimp only at h2)
    rw [b_0, b_and, b_xor, b_m1 b (by omega), ← bitP_b (by omega), h1, e] at h2
    cases h3 : bt (orW (fun b => decide (¬ κ.1 14 b = 1)) (fun k => nI (k % 32)) n) b with
    | false => rw [h3] at h2; exact absurd h2 (by decide)
    | true =>
      obtain ⟨k, hk, g1, g2⟩ := (hW b (by omega)).mp h3
      rw [Nat.mod_eq_of_lt (by omega)] at g2
      subst g2
      exact of_decide_eq_true g1
theorem bI_0 {b : Bool} : bI b = 0 ↔ b = false := by cases b <;> decide
theorem fwF_r {κ : Sg} {n : Nat} {x : Int32} : ∀ c, fwF κ n x c = -2 ∨ ∃ j, j < c ∧ fwF κ n x c = nI j
  | 0 => Or.inl rfl
  | c + 1 => by
    by_cases h : fwC κ n x (fwF κ n x c) c
    · exact Or.inr ⟨c, by omega, fwF_t h⟩
    · rw [fwF_f h]
      rcases fwF_r c with g | ⟨j, h1, h2⟩
      · exact Or.inl g
      · exact Or.inr ⟨j, by omega, h2⟩
noncomputable def mbF (κ : Sg) (n : Nat) (x : Int32) (c : Nat) : Int32 := if fwF κ n x c = -2 then -1 else fwF κ n x c
theorem mbF_c {κ : Sg} {n : Nat} {x : Int32} {c : Nat} (hc : c ≤ 1024) : (fwF κ n x c = -2 ∧ mbF κ n x c = -1) ∨ (¬ fwF κ n x c = -2 ∧ mbF κ n x c = fwF κ n x c ∧ ∃ j, j < c ∧ fwF κ n x c = nI j) := by
  rcases fwF_r (κ := κ) (n := n) (x := x) c with h | ⟨j, h1, h2⟩
  · exact Or.inl ⟨h, if_pos h⟩
  · have h3 : ¬ fwF κ n x c = -2 := by rw [h2, i_eq, nI_c (by omega)]; show ¬ (j : Int) = -2; omega
    exact Or.inr ⟨h3, if_neg h3, j, h1, h2⟩
theorem mbF_t {κ : Sg} {n : Nat} {x : Int32} {c : Nat} (hc : c < 1024) (h : fwC κ n x (fwF κ n x c) c) : mbF κ n x (c + 1) = nI c := by
  unfold mbF
  rw [fwF_t h, if_neg (by rw [i_eq, nI_c (by omega)]; show ¬ (c : Int) = -2; omega)]
theorem mbF_f {κ : Sg} {n : Nat} {x : Int32} {c : Nat} (h : ¬ fwC κ n x (fwF κ n x c) c) : mbF κ n x (c + 1) = mbF κ n x c := by
  unfold mbF
  rw [fwF_f h]
theorem zb_i {κ : Sg} {n : Nat} {x : Int32} {c : Nat} (hc : c < 1024) : (mbF κ n x c < 0 ∨ btM (nI c) 16 < btM (mbF κ n x c) 16) ↔ (fwF κ n x c = -2 ∨ bcF (nI c) < bcF (fwF κ n x c)) := by
  rcases mbF_c (κ := κ) (n := n) (x := x) (c := c) (by omega) with ⟨h1, h2⟩ | ⟨h1, h2, j, h3, h4⟩
  · exact ⟨fun _ => Or.inl h1, fun _ => Or.inl (by rw [h2]; decide)⟩
  · rw [h2, h4, bc_bt (by omega), bc_bt (by omega)]
    refine ⟨fun h => ?_, fun h => ?_⟩
    · rcases h with h | h
      · exact absurd h (nI_pos (by omega))
      · exact Or.inr h
    · rcases h with h | h
      · exact absurd h (by rw [← h4]; exact h1)
      · exact Or.inr h
set_option maxHeartbeats 1000000 in
theorem li_X11_fewest (V : Vt) (d : Nat) (τ κ : Sg) (n : Nat) (hM : MR κ τ n) (lw : Lw) (hT : MT τ n (ms0 (wdM κ n lw))) (c : Nat) (z : Bool) (mb x q : Int32) (X : Xt) (hx : Ok V RX11 cX11_fewest 8 (d + 1) X) (hC : WS layM V 8 X τ 147 [(7, .int (nI n)), (6, .int (bI (z && okU κ c n))), (5, .int (orW (bitP (nI c)) (wn κ) n)), (4, .int (nI c)), (3, .int mb), (0, rf V 0), (1, .int x), (2, .int q)] []) : ∀ (i : Nat), i ≤ n → WS layM V 8 X τ 73 [(7, .int (nI i)), (6, .int (bI (z && okU κ c i))), (5, .int (orW (bitP (nI c)) (wn κ) i)), (4, .int (nI c)), (3, .int mb), (0, rf V 0), (1, .int x), (2, .int q)] [] := by
  have hn := hM.n
  intro i
  induction hm : n - i using Nat.strongRecOn generalizing i with
  | _ m9 ih =>
    intro hi
    have hiI : (nI i).toInt = (i : Int) := nI_c (by omega)
    have hnI : (nI n).toInt = (n : Int) := nI_c (by omega)
    refine WS.iload hx dX11_fewest_73 0 rfl ?_
    refine WS.aload_n hx dX11_fewest_75 rfl 5 rfl ?_
    refine WS.getI hx okX11 lf11_97 rfl rfl dX11_fewest_76 ?_
    refine WS.as rfl rfl (congrArg (fun z => Value.int z :: _) (show τ.1 0 6 = nI n from hM.s)) ?_
    skip
    refine WS.icmp_ge (tgt := 147) hx dX11_fewest_79 (by decide) (fun c79 => ?_) (fun c79 => ?_)
    · skip
      show WS layM V 8 X τ 147 [(7, .int (nI i)), (6, .int (bI (z && okU κ c i))), (5, .int (orW (bitP (nI c)) (wn κ) i)), (4, .int (nI c)), (3, .int mb), (0, rf V 0), (1, .int x), (2, .int q)] []
      have hin : i = n := by (try simp only [l_int, tL_0, tL_1, tL_2, tL_4, tL_5, tL_6, tL_7, tL_9, tL_10, tL_12, tL_15, tL_30, tL_40, tL_60, tL_99, tL_255, tL_1023, tL_m1, lc_lt, lc_gt, lc_ge, lc_le, lc_eq, l6_le, l6_lt, l6_eq, tI_m133, tI_m226, i_le, i_lt, i_eq, tI_m2, tI_m1, tI_0, tI_1] at c79); (try simp only [l_int, tL_0, tL_1, tL_2, tL_4, tL_5, tL_6, tL_7, tL_9, tL_10, tL_12, tL_15, tL_30, tL_40, tL_60, tL_99, tL_255, tL_1023, tL_m1, lc_lt, lc_gt, lc_ge, lc_le, lc_eq, l6_le, l6_lt, l6_eq, tI_m133, tI_m226, i_le, i_lt, i_eq, tI_m2, tI_m1, tI_0, tI_1]); omega
      subst hin
      exact WS.los [0, 1, 2, 3, 4, 5, 6, 7] rfl hC
    · skip
      show WS layM V 8 X τ 82 [(7, .int (nI i)), (6, .int (bI (z && okU κ c i))), (5, .int (orW (bitP (nI c)) (wn κ) i)), (4, .int (nI c)), (3, .int mb), (0, rf V 0), (1, .int x), (2, .int q)] []
      refine WS.iload hx dX11_fewest_82 1 rfl ?_
      refine WS.if_eq (tgt := 111) hx dX11_fewest_84 (by decide) (fun c84 => ?_) (fun c84 => ?_)
      · skip
        show WS layM V 8 X τ 111 [(7, .int (nI i)), (6, .int (bI (z && okU κ c i))), (5, .int (orW (bitP (nI c)) (wn κ) i)), (4, .int (nI c)), (3, .int mb), (0, rf V 0), (1, .int x), (2, .int q)] []
        refine WS.iconst (v := 0) hx dX11_fewest_111 (by decide) ?_
        refine WS.as rfl rfl (congrArg (fun z => Value.int z :: _) (show 0 = bI (z && okU κ c (i + 1)) from by
    show _ = bI (z && (okU κ c i && !(bitP (nI c) i && decide (κ.1 14 i = 1))))
    first | (have h9 := bI_0.mp c84; cases z <;> cases h8 : okU κ c i <;> first | rfl | (rw [h8] at h9; exact absurd h9 (by decide))) | (rw [bP_t hb91, show decide (κ.1 14 i = 1) = true from by cases h9 : decide (κ.1 14 i = 1) with | true => rfl | false => rw [h9] at c104; exact absurd rfl c104]; cases z <;> cases okU κ c i <;> rfl))) ?_
        skip
        refine WS.istore (lo' := [(6, .int (bI (z && okU κ c (i + 1)))), (7, .int (nI i)), (5, .int (orW (bitP (nI c)) (wn κ) i)), (4, .int (nI c)), (3, .int mb), (0, rf V 0), (1, .int x), (2, .int q)]) hx dX11_fewest_112 (by decide) rfl ?_
        refine WS.iload hx dX11_fewest_114 2 rfl ?_
        refine WS.iload hx dX11_fewest_116 3 rfl ?_
        refine WS.iload hx dX11_fewest_118 1 rfl ?_
        refine WS.callSi (st := [.int (orW (bitP (nI c)) (wn κ) i)]) [.int (nI c), .int (nI i)] hx (c_X11_isIn V d τ (nI c) (nI i)) okX11_isIn lm11_261 rfl rfl (Nat.le_of_ble_eq_true rfl) dX11_fewest_120 (fun v1 σ2 h3 => ?_)
        rcases h3 with ⟨rfl, rfl, hb120⟩ | ⟨rfl, rfl, hb120⟩
        · skip
          show WS layM V 8 X τ 123 [(6, .int (bI (z && okU κ c (i + 1)))), (7, .int (nI i)), (5, .int (orW (bitP (nI c)) (wn κ) i)), (4, .int (nI c)), (3, .int mb), (0, rf V 0), (1, .int x), (2, .int q)] [.int 1, .int (orW (bitP (nI c)) (wn κ) i)]
          refine WS.if_eq (tgt := 137) hx dX11_fewest_123 (by decide) (fun h => absurd h (by decide)) (fun _ => ?_)
          refine WS.iconst (v := 1) hx dX11_fewest_126 (by decide) ?_
          refine WS.aload_n hx dX11_fewest_127 rfl 5 rfl ?_
          refine WS.iload hx dX11_fewest_128 1 rfl ?_
          refine WS.callVi (st := [.int 1, .int (orW (bitP (nI c)) (wn κ) i)]) [.int (nI i)] hx (c_X11_wordOf V d τ κ n hM (ms0 (wdM κ n lw)) hT i (by (try simp only [l_int, tL_0, tL_1, tL_2, tL_4, tL_5, tL_6, tL_7, tL_9, tL_10, tL_12, tL_15, tL_30, tL_40, tL_60, tL_99, tL_255, tL_1023, tL_m1, lc_lt, lc_gt, lc_ge, lc_le, lc_eq, l6_le, l6_lt, l6_eq, tI_m133, tI_m226, i_le, i_lt, i_eq, tI_m2, tI_m1, tI_0, tI_1] at c79); (try simp only [l_int, tL_0, tL_1, tL_2, tL_4, tL_5, tL_6, tL_7, tL_9, tL_10, tL_12, tL_15, tL_30, tL_40, tL_60, tL_99, tL_255, tL_1023, tL_m1, lc_lt, lc_gt, lc_ge, lc_le, lc_eq, l6_le, l6_lt, l6_eq, tI_m133, tI_m226, i_le, i_lt, i_eq, tI_m2, tI_m1, tI_0, tI_1] at c84); (try simp only [l_int, tL_0, tL_1, tL_2, tL_4, tL_5, tL_6, tL_7, tL_9, tL_10, tL_12, tL_15, tL_30, tL_40, tL_60, tL_99, tL_255, tL_1023, tL_m1, lc_lt, lc_gt, lc_ge, lc_le, lc_eq, l6_le, l6_lt, l6_eq, tI_m133, tI_m226, i_le, i_lt, i_eq, tI_m2, tI_m1, tI_0, tI_1] at hb120); (try simp only [l_int, tL_0, tL_1, tL_2, tL_4, tL_5, tL_6, tL_7, tL_9, tL_10, tL_12, tL_15, tL_30, tL_40, tL_60, tL_99, tL_255, tL_1023, tL_m1, lc_lt, lc_gt, lc_ge, lc_le, lc_eq, l6_le, l6_lt, l6_eq, tI_m133, tI_m226, i_le, i_lt, i_eq, tI_m2, tI_m1, tI_0, tI_1]); omega)) okX11_wordOf lm11_219 rfl rfl rfl rfl (Nat.le_of_ble_eq_true rfl) dX11_fewest_130 (fun v4 σ5 h6 => ?_)
          obtain ⟨rfl, rfl⟩ := h6
          show WS layM V 8 X τ 133 [(6, .int (bI (z && okU κ c (i + 1)))), (7, .int (nI i)), (5, .int (orW (bitP (nI c)) (wn κ) i)), (4, .int (nI c)), (3, .int mb), (0, rf V 0), (1, .int x), (2, .int q)] [.int (κ.1 17 ((ms0 (wdM κ n lw)).1 i)), .int 1, .int (orW (bitP (nI c)) (wn κ) i)]
          refine WS.ishl hx dX11_fewest_133 ?_
          refine WS.goto (tgt := 138) hx dX11_fewest_134 (by decide) ?_
          refine WS.ior hx dX11_fewest_138 ?_
          refine WS.as rfl rfl (congrArg (fun z => Value.int z :: _) (show (orW (bitP (nI c)) (wn κ) i) ||| (1 <<< ((κ.1 17 ((ms0 (wdM κ n lw)).1 i)) &&& 31)) = orW (bitP (nI c)) (wn κ) (i + 1) from by
    show _ = (if bitP (nI c) i = true then orW (bitP (nI c)) (wn κ) i ||| ((1 : Int32) <<< (wn κ i &&& 31)) else orW (bitP (nI c)) (wn κ) i)
    first | (rw [bP_t hb120, if_pos rfl]; rfl) | (rw [bP_f hb120, if_neg (by decide)]; exact Int32.or_zero))) ?_
          skip
          refine WS.istore (lo' := [(5, .int (orW (bitP (nI c)) (wn κ) (i + 1))), (6, .int (bI (z && okU κ c (i + 1)))), (7, .int (nI i)), (4, .int (nI c)), (3, .int mb), (0, rf V 0), (1, .int x), (2, .int q)]) hx dX11_fewest_139 (by decide) rfl ?_
          refine WS.iinc (v := nI (i + 1)) (lo' := [(7, .int (nI (i + 1))), (5, .int (orW (bitP (nI c)) (wn κ) (i + 1))), (6, .int (bI (z && okU κ c (i + 1)))), (4, .int (nI c)), (3, .int mb), (0, rf V 0), (1, .int x), (2, .int q)]) hx dX11_fewest_141 2 rfl (nI_1 i) (by decide) rfl ?_
          refine WS.goto (tgt := 73) hx dX11_fewest_144 (by decide) ?_
          exact WS.los [0, 2, 1, 3, 4, 5, 6, 7] rfl (ih _ (by (try simp only [l_int, tL_0, tL_1, tL_2, tL_4, tL_5, tL_6, tL_7, tL_9, tL_10, tL_12, tL_15, tL_30, tL_40, tL_60, tL_99, tL_255, tL_1023, tL_m1, lc_lt, lc_gt, lc_ge, lc_le, lc_eq, l6_le, l6_lt, l6_eq, tI_m133, tI_m226, i_le, i_lt, i_eq, tI_m2, tI_m1, tI_0, tI_1] at c79); (try simp only [l_int, tL_0, tL_1, tL_2, tL_4, tL_5, tL_6, tL_7, tL_9, tL_10, tL_12, tL_15, tL_30, tL_40, tL_60, tL_99, tL_255, tL_1023, tL_m1, lc_lt, lc_gt, lc_ge, lc_le, lc_eq, l6_le, l6_lt, l6_eq, tI_m133, tI_m226, i_le, i_lt, i_eq, tI_m2, tI_m1, tI_0, tI_1] at c84); (try simp only [l_int, tL_0, tL_1, tL_2, tL_4, tL_5, tL_6, tL_7, tL_9, tL_10, tL_12, tL_15, tL_30, tL_40, tL_60, tL_99, tL_255, tL_1023, tL_m1, lc_lt, lc_gt, lc_ge, lc_le, lc_eq, l6_le, l6_lt, l6_eq, tI_m133, tI_m226, i_le, i_lt, i_eq, tI_m2, tI_m1, tI_0, tI_1] at hb120); (try simp only [l_int, tL_0, tL_1, tL_2, tL_4, tL_5, tL_6, tL_7, tL_9, tL_10, tL_12, tL_15, tL_30, tL_40, tL_60, tL_99, tL_255, tL_1023, tL_m1, lc_lt, lc_gt, lc_ge, lc_le, lc_eq, l6_le, l6_lt, l6_eq, tI_m133, tI_m226, i_le, i_lt, i_eq, tI_m2, tI_m1, tI_0, tI_1]); omega) (i + 1) rfl (by (try simp only [l_int, tL_0, tL_1, tL_2, tL_4, tL_5, tL_6, tL_7, tL_9, tL_10, tL_12, tL_15, tL_30, tL_40, tL_60, tL_99, tL_255, tL_1023, tL_m1, lc_lt, lc_gt, lc_ge, lc_le, lc_eq, l6_le, l6_lt, l6_eq, tI_m133, tI_m226, i_le, i_lt, i_eq, tI_m2, tI_m1, tI_0, tI_1] at c79); (try simp only [l_int, tL_0, tL_1, tL_2, tL_4, tL_5, tL_6, tL_7, tL_9, tL_10, tL_12, tL_15, tL_30, tL_40, tL_60, tL_99, tL_255, tL_1023, tL_m1, lc_lt, lc_gt, lc_ge, lc_le, lc_eq, l6_le, l6_lt, l6_eq, tI_m133, tI_m226, i_le, i_lt, i_eq, tI_m2, tI_m1, tI_0, tI_1] at c84); (try simp only [l_int, tL_0, tL_1, tL_2, tL_4, tL_5, tL_6, tL_7, tL_9, tL_10, tL_12, tL_15, tL_30, tL_40, tL_60, tL_99, tL_255, tL_1023, tL_m1, lc_lt, lc_gt, lc_ge, lc_le, lc_eq, l6_le, l6_lt, l6_eq, tI_m133, tI_m226, i_le, i_lt, i_eq, tI_m2, tI_m1, tI_0, tI_1] at hb120); (try simp only [l_int, tL_0, tL_1, tL_2, tL_4, tL_5, tL_6, tL_7, tL_9, tL_10, tL_12, tL_15, tL_30, tL_40, tL_60, tL_99, tL_255, tL_1023, tL_m1, lc_lt, lc_gt, lc_ge, lc_le, lc_eq, l6_le, l6_lt, l6_eq, tI_m133, tI_m226, i_le, i_lt, i_eq, tI_m2, tI_m1, tI_0, tI_1]); omega))
        · skip
          show WS layM V 8 X τ 123 [(6, .int (bI (z && okU κ c (i + 1)))), (7, .int (nI i)), (5, .int (orW (bitP (nI c)) (wn κ) i)), (4, .int (nI c)), (3, .int mb), (0, rf V 0), (1, .int x), (2, .int q)] [.int 0, .int (orW (bitP (nI c)) (wn κ) i)]
          refine WS.if_eq (tgt := 137) hx dX11_fewest_123 (by decide) (fun _ => ?_) (fun h => absurd (by decide) h)
          refine WS.iconst (v := 0) hx dX11_fewest_137 (by decide) ?_
          refine WS.ior hx dX11_fewest_138 ?_
          refine WS.as rfl rfl (congrArg (fun z => Value.int z :: _) (show (orW (bitP (nI c)) (wn κ) i) ||| 0 = orW (bitP (nI c)) (wn κ) (i + 1) from by
    show _ = (if bitP (nI c) i = true then orW (bitP (nI c)) (wn κ) i ||| ((1 : Int32) <<< (wn κ i &&& 31)) else orW (bitP (nI c)) (wn κ) i)
    first | (rw [bP_t hb120, if_pos rfl]; rfl) | (rw [bP_f hb120, if_neg (by decide)]; exact Int32.or_zero))) ?_
          skip
          refine WS.istore (lo' := [(5, .int (orW (bitP (nI c)) (wn κ) (i + 1))), (6, .int (bI (z && okU κ c (i + 1)))), (7, .int (nI i)), (4, .int (nI c)), (3, .int mb), (0, rf V 0), (1, .int x), (2, .int q)]) hx dX11_fewest_139 (by decide) rfl ?_
          refine WS.iinc (v := nI (i + 1)) (lo' := [(7, .int (nI (i + 1))), (5, .int (orW (bitP (nI c)) (wn κ) (i + 1))), (6, .int (bI (z && okU κ c (i + 1)))), (4, .int (nI c)), (3, .int mb), (0, rf V 0), (1, .int x), (2, .int q)]) hx dX11_fewest_141 2 rfl (nI_1 i) (by decide) rfl ?_
          refine WS.goto (tgt := 73) hx dX11_fewest_144 (by decide) ?_
          exact WS.los [0, 2, 1, 3, 4, 5, 6, 7] rfl (ih _ (by (try simp only [l_int, tL_0, tL_1, tL_2, tL_4, tL_5, tL_6, tL_7, tL_9, tL_10, tL_12, tL_15, tL_30, tL_40, tL_60, tL_99, tL_255, tL_1023, tL_m1, lc_lt, lc_gt, lc_ge, lc_le, lc_eq, l6_le, l6_lt, l6_eq, tI_m133, tI_m226, i_le, i_lt, i_eq, tI_m2, tI_m1, tI_0, tI_1] at c79); (try simp only [l_int, tL_0, tL_1, tL_2, tL_4, tL_5, tL_6, tL_7, tL_9, tL_10, tL_12, tL_15, tL_30, tL_40, tL_60, tL_99, tL_255, tL_1023, tL_m1, lc_lt, lc_gt, lc_ge, lc_le, lc_eq, l6_le, l6_lt, l6_eq, tI_m133, tI_m226, i_le, i_lt, i_eq, tI_m2, tI_m1, tI_0, tI_1] at c84); (try simp only [l_int, tL_0, tL_1, tL_2, tL_4, tL_5, tL_6, tL_7, tL_9, tL_10, tL_12, tL_15, tL_30, tL_40, tL_60, tL_99, tL_255, tL_1023, tL_m1, lc_lt, lc_gt, lc_ge, lc_le, lc_eq, l6_le, l6_lt, l6_eq, tI_m133, tI_m226, i_le, i_lt, i_eq, tI_m2, tI_m1, tI_0, tI_1] at hb120); (try simp only [l_int, tL_0, tL_1, tL_2, tL_4, tL_5, tL_6, tL_7, tL_9, tL_10, tL_12, tL_15, tL_30, tL_40, tL_60, tL_99, tL_255, tL_1023, tL_m1, lc_lt, lc_gt, lc_ge, lc_le, lc_eq, l6_le, l6_lt, l6_eq, tI_m133, tI_m226, i_le, i_lt, i_eq, tI_m2, tI_m1, tI_0, tI_1]); omega) (i + 1) rfl (by (try simp only [l_int, tL_0, tL_1, tL_2, tL_4, tL_5, tL_6, tL_7, tL_9, tL_10, tL_12, tL_15, tL_30, tL_40, tL_60, tL_99, tL_255, tL_1023, tL_m1, lc_lt, lc_gt, lc_ge, lc_le, lc_eq, l6_le, l6_lt, l6_eq, tI_m133, tI_m226, i_le, i_lt, i_eq, tI_m2, tI_m1, tI_0, tI_1] at c79); (try simp only [l_int, tL_0, tL_1, tL_2, tL_4, tL_5, tL_6, tL_7, tL_9, tL_10, tL_12, tL_15, tL_30, tL_40, tL_60, tL_99, tL_255, tL_1023, tL_m1, lc_lt, lc_gt, lc_ge, lc_le, lc_eq, l6_le, l6_lt, l6_eq, tI_m133, tI_m226, i_le, i_lt, i_eq, tI_m2, tI_m1, tI_0, tI_1] at c84); (try simp only [l_int, tL_0, tL_1, tL_2, tL_4, tL_5, tL_6, tL_7, tL_9, tL_10, tL_12, tL_15, tL_30, tL_40, tL_60, tL_99, tL_255, tL_1023, tL_m1, lc_lt, lc_gt, lc_ge, lc_le, lc_eq, l6_le, l6_lt, l6_eq, tI_m133, tI_m226, i_le, i_lt, i_eq, tI_m2, tI_m1, tI_0, tI_1] at hb120); (try simp only [l_int, tL_0, tL_1, tL_2, tL_4, tL_5, tL_6, tL_7, tL_9, tL_10, tL_12, tL_15, tL_30, tL_40, tL_60, tL_99, tL_255, tL_1023, tL_m1, lc_lt, lc_gt, lc_ge, lc_le, lc_eq, l6_le, l6_lt, l6_eq, tI_m133, tI_m226, i_le, i_lt, i_eq, tI_m2, tI_m1, tI_0, tI_1]); omega))
      · skip
        show WS layM V 8 X τ 87 [(7, .int (nI i)), (6, .int (bI (z && okU κ c i))), (5, .int (orW (bitP (nI c)) (wn κ) i)), (4, .int (nI c)), (3, .int mb), (0, rf V 0), (1, .int x), (2, .int q)] []
        refine WS.iload hx dX11_fewest_87 3 rfl ?_
        refine WS.iload hx dX11_fewest_89 0 rfl ?_
        refine WS.callSi (st := []) [.int (nI c), .int (nI i)] hx (c_X11_isIn V d τ (nI c) (nI i)) okX11_isIn lm11_261 rfl rfl (Nat.le_of_ble_eq_true rfl) dX11_fewest_91 (fun v7 σ8 h9 => ?_)
        rcases h9 with ⟨rfl, rfl, hb91⟩ | ⟨rfl, rfl, hb91⟩
        · skip
          show WS layM V 8 X τ 94 [(7, .int (nI i)), (6, .int (bI (z && okU κ c i))), (5, .int (orW (bitP (nI c)) (wn κ) i)), (4, .int (nI c)), (3, .int mb), (0, rf V 0), (1, .int x), (2, .int q)] [.int 1]
          refine WS.if_eq (tgt := 107) hx dX11_fewest_94 (by decide) (fun h => absurd h (by decide)) (fun _ => ?_)
          refine WS.aload_n hx dX11_fewest_97 rfl 5 rfl ?_
          refine WS.getR hx okX11 lf11_52 rfl rfl dX11_fewest_98 ?_
          refine WS.iload hx dX11_fewest_101 0 rfl ?_
          refine WS.zald hx rfl (vp_in_nI (by (try simp only [l_int, tL_0, tL_1, tL_2, tL_4, tL_5, tL_6, tL_7, tL_9, tL_10, tL_12, tL_15, tL_30, tL_40, tL_60, tL_99, tL_255, tL_1023, tL_m1, lc_lt, lc_gt, lc_ge, lc_le, lc_eq, l6_le, l6_lt, l6_eq, tI_m133, tI_m226, i_le, i_lt, i_eq, tI_m2, tI_m1, tI_0, tI_1] at c79); (try simp only [l_int, tL_0, tL_1, tL_2, tL_4, tL_5, tL_6, tL_7, tL_9, tL_10, tL_12, tL_15, tL_30, tL_40, tL_60, tL_99, tL_255, tL_1023, tL_m1, lc_lt, lc_gt, lc_ge, lc_le, lc_eq, l6_le, l6_lt, l6_eq, tI_m133, tI_m226, i_le, i_lt, i_eq, tI_m2, tI_m1, tI_0, tI_1] at c84); (try simp only [l_int, tL_0, tL_1, tL_2, tL_4, tL_5, tL_6, tL_7, tL_9, tL_10, tL_12, tL_15, tL_30, tL_40, tL_60, tL_99, tL_255, tL_1023, tL_m1, lc_lt, lc_gt, lc_ge, lc_le, lc_eq, l6_le, l6_lt, l6_eq, tI_m133, tI_m226, i_le, i_lt, i_eq, tI_m2, tI_m1, tI_0, tI_1] at hb91); (try simp only [l_int, tL_0, tL_1, tL_2, tL_4, tL_5, tL_6, tL_7, tL_9, tL_10, tL_12, tL_15, tL_30, tL_40, tL_60, tL_99, tL_255, tL_1023, tL_m1, lc_lt, lc_gt, lc_ge, lc_le, lc_eq, l6_le, l6_lt, l6_eq, tI_m133, tI_m226, i_le, i_lt, i_eq, tI_m2, tI_m1, tI_0, tI_1]); omega) (by decide)) dX11_fewest_103 ?_
          refine WS.as rfl rfl (congrArg (fun z => Value.int z :: _) (show τ.1 15 (nn (nI i)) = bI (decide (κ.1 14 i = 1)) from by rw [nn_nI (by omega)]; exact (hT.1 i (by (try simp only [l_int, tL_0, tL_1, tL_2, tL_4, tL_5, tL_6, tL_7, tL_9, tL_10, tL_12, tL_15, tL_30, tL_40, tL_60, tL_99, tL_255, tL_1023, tL_m1, lc_lt, lc_gt, lc_ge, lc_le, lc_eq, l6_le, l6_lt, l6_eq, tI_m133, tI_m226, i_le, i_lt, i_eq, tI_m2, tI_m1, tI_0, tI_1] at c79); (try simp only [l_int, tL_0, tL_1, tL_2, tL_4, tL_5, tL_6, tL_7, tL_9, tL_10, tL_12, tL_15, tL_30, tL_40, tL_60, tL_99, tL_255, tL_1023, tL_m1, lc_lt, lc_gt, lc_ge, lc_le, lc_eq, l6_le, l6_lt, l6_eq, tI_m133, tI_m226, i_le, i_lt, i_eq, tI_m2, tI_m1, tI_0, tI_1] at c84); (try simp only [l_int, tL_0, tL_1, tL_2, tL_4, tL_5, tL_6, tL_7, tL_9, tL_10, tL_12, tL_15, tL_30, tL_40, tL_60, tL_99, tL_255, tL_1023, tL_m1, lc_lt, lc_gt, lc_ge, lc_le, lc_eq, l6_le, l6_lt, l6_eq, tI_m133, tI_m226, i_le, i_lt, i_eq, tI_m2, tI_m1, tI_0, tI_1] at hb91); (try simp only [l_int, tL_0, tL_1, tL_2, tL_4, tL_5, tL_6, tL_7, tL_9, tL_10, tL_12, tL_15, tL_30, tL_40, tL_60, tL_99, tL_255, tL_1023, tL_m1, lc_lt, lc_gt, lc_ge, lc_le, lc_eq, l6_le, l6_lt, l6_eq, tI_m133, tI_m226, i_le, i_lt, i_eq, tI_m2, tI_m1, tI_0, tI_1]); omega)).2.2)) ?_
          skip
          refine WS.if_ne (tgt := 111) hx dX11_fewest_104 (by decide) (fun c104 => ?_) (fun c104 => ?_)
          · skip
            show WS layM V 8 X τ 111 [(7, .int (nI i)), (6, .int (bI (z && okU κ c i))), (5, .int (orW (bitP (nI c)) (wn κ) i)), (4, .int (nI c)), (3, .int mb), (0, rf V 0), (1, .int x), (2, .int q)] []
            refine WS.iconst (v := 0) hx dX11_fewest_111 (by decide) ?_
            refine WS.as rfl rfl (congrArg (fun z => Value.int z :: _) (show 0 = bI (z && okU κ c (i + 1)) from by
    show _ = bI (z && (okU κ c i && !(bitP (nI c) i && decide (κ.1 14 i = 1))))
    first | (have h9 := bI_0.mp c84; cases z <;> cases h8 : okU κ c i <;> first | rfl | (rw [h8] at h9; exact absurd h9 (by decide))) | (rw [bP_t hb91, show decide (κ.1 14 i = 1) = true from by cases h9 : decide (κ.1 14 i = 1) with | true => rfl | false => rw [h9] at c104; exact absurd rfl c104]; cases z <;> cases okU κ c i <;> rfl))) ?_
            skip
            refine WS.istore (lo' := [(6, .int (bI (z && okU κ c (i + 1)))), (7, .int (nI i)), (5, .int (orW (bitP (nI c)) (wn κ) i)), (4, .int (nI c)), (3, .int mb), (0, rf V 0), (1, .int x), (2, .int q)]) hx dX11_fewest_112 (by decide) rfl ?_
            refine WS.iload hx dX11_fewest_114 2 rfl ?_
            refine WS.iload hx dX11_fewest_116 3 rfl ?_
            refine WS.iload hx dX11_fewest_118 1 rfl ?_
            refine WS.callSi (st := [.int (orW (bitP (nI c)) (wn κ) i)]) [.int (nI c), .int (nI i)] hx (c_X11_isIn V d τ (nI c) (nI i)) okX11_isIn lm11_261 rfl rfl (Nat.le_of_ble_eq_true rfl) dX11_fewest_120 (fun v10 σ11 h12 => ?_)
            rcases h12 with ⟨rfl, rfl, hb120⟩ | ⟨rfl, rfl, hb120⟩
            · skip
              show WS layM V 8 X τ 123 [(6, .int (bI (z && okU κ c (i + 1)))), (7, .int (nI i)), (5, .int (orW (bitP (nI c)) (wn κ) i)), (4, .int (nI c)), (3, .int mb), (0, rf V 0), (1, .int x), (2, .int q)] [.int 1, .int (orW (bitP (nI c)) (wn κ) i)]
              refine WS.if_eq (tgt := 137) hx dX11_fewest_123 (by decide) (fun h => absurd h (by decide)) (fun _ => ?_)
              refine WS.iconst (v := 1) hx dX11_fewest_126 (by decide) ?_
              refine WS.aload_n hx dX11_fewest_127 rfl 5 rfl ?_
              refine WS.iload hx dX11_fewest_128 1 rfl ?_
              refine WS.callVi (st := [.int 1, .int (orW (bitP (nI c)) (wn κ) i)]) [.int (nI i)] hx (c_X11_wordOf V d τ κ n hM (ms0 (wdM κ n lw)) hT i (by (try simp only [l_int, tL_0, tL_1, tL_2, tL_4, tL_5, tL_6, tL_7, tL_9, tL_10, tL_12, tL_15, tL_30, tL_40, tL_60, tL_99, tL_255, tL_1023, tL_m1, lc_lt, lc_gt, lc_ge, lc_le, lc_eq, l6_le, l6_lt, l6_eq, tI_m133, tI_m226, i_le, i_lt, i_eq, tI_m2, tI_m1, tI_0, tI_1] at c79); (try simp only [l_int, tL_0, tL_1, tL_2, tL_4, tL_5, tL_6, tL_7, tL_9, tL_10, tL_12, tL_15, tL_30, tL_40, tL_60, tL_99, tL_255, tL_1023, tL_m1, lc_lt, lc_gt, lc_ge, lc_le, lc_eq, l6_le, l6_lt, l6_eq, tI_m133, tI_m226, i_le, i_lt, i_eq, tI_m2, tI_m1, tI_0, tI_1] at c84); (try simp only [l_int, tL_0, tL_1, tL_2, tL_4, tL_5, tL_6, tL_7, tL_9, tL_10, tL_12, tL_15, tL_30, tL_40, tL_60, tL_99, tL_255, tL_1023, tL_m1, lc_lt, lc_gt, lc_ge, lc_le, lc_eq, l6_le, l6_lt, l6_eq, tI_m133, tI_m226, i_le, i_lt, i_eq, tI_m2, tI_m1, tI_0, tI_1] at hb91); (try simp only [l_int, tL_0, tL_1, tL_2, tL_4, tL_5, tL_6, tL_7, tL_9, tL_10, tL_12, tL_15, tL_30, tL_40, tL_60, tL_99, tL_255, tL_1023, tL_m1, lc_lt, lc_gt, lc_ge, lc_le, lc_eq, l6_le, l6_lt, l6_eq, tI_m133, tI_m226, i_le, i_lt, i_eq, tI_m2, tI_m1, tI_0, tI_1] at c104); (try simp only [l_int, tL_0, tL_1, tL_2, tL_4, tL_5, tL_6, tL_7, tL_9, tL_10, tL_12, tL_15, tL_30, tL_40, tL_60, tL_99, tL_255, tL_1023, tL_m1, lc_lt, lc_gt, lc_ge, lc_le, lc_eq, l6_le, l6_lt, l6_eq, tI_m133, tI_m226, i_le, i_lt, i_eq, tI_m2, tI_m1, tI_0, tI_1] at hb120); (try simp only [l_int, tL_0, tL_1, tL_2, tL_4, tL_5, tL_6, tL_7, tL_9, tL_10, tL_12, tL_15, tL_30, tL_40, tL_60, tL_99, tL_255, tL_1023, tL_m1, lc_lt, lc_gt, lc_ge, lc_le, lc_eq, l6_le, l6_lt, l6_eq, tI_m133, tI_m226, i_le, i_lt, i_eq, tI_m2, tI_m1, tI_0, tI_1]); omega)) okX11_wordOf lm11_219 rfl rfl rfl rfl (Nat.le_of_ble_eq_true rfl) dX11_fewest_130 (fun v13 σ14 h15 => ?_)
              obtain ⟨rfl, rfl⟩ := h15
              show WS layM V 8 X τ 133 [(6, .int (bI (z && okU κ c (i + 1)))), (7, .int (nI i)), (5, .int (orW (bitP (nI c)) (wn κ) i)), (4, .int (nI c)), (3, .int mb), (0, rf V 0), (1, .int x), (2, .int q)] [.int (κ.1 17 ((ms0 (wdM κ n lw)).1 i)), .int 1, .int (orW (bitP (nI c)) (wn κ) i)]
              refine WS.ishl hx dX11_fewest_133 ?_
              refine WS.goto (tgt := 138) hx dX11_fewest_134 (by decide) ?_
              refine WS.ior hx dX11_fewest_138 ?_
              refine WS.as rfl rfl (congrArg (fun z => Value.int z :: _) (show (orW (bitP (nI c)) (wn κ) i) ||| (1 <<< ((κ.1 17 ((ms0 (wdM κ n lw)).1 i)) &&& 31)) = orW (bitP (nI c)) (wn κ) (i + 1) from by
    show _ = (if bitP (nI c) i = true then orW (bitP (nI c)) (wn κ) i ||| ((1 : Int32) <<< (wn κ i &&& 31)) else orW (bitP (nI c)) (wn κ) i)
    first | (rw [bP_t hb120, if_pos rfl]; rfl) | (rw [bP_f hb120, if_neg (by decide)]; exact Int32.or_zero))) ?_
              skip
              refine WS.istore (lo' := [(5, .int (orW (bitP (nI c)) (wn κ) (i + 1))), (6, .int (bI (z && okU κ c (i + 1)))), (7, .int (nI i)), (4, .int (nI c)), (3, .int mb), (0, rf V 0), (1, .int x), (2, .int q)]) hx dX11_fewest_139 (by decide) rfl ?_
              refine WS.iinc (v := nI (i + 1)) (lo' := [(7, .int (nI (i + 1))), (5, .int (orW (bitP (nI c)) (wn κ) (i + 1))), (6, .int (bI (z && okU κ c (i + 1)))), (4, .int (nI c)), (3, .int mb), (0, rf V 0), (1, .int x), (2, .int q)]) hx dX11_fewest_141 2 rfl (nI_1 i) (by decide) rfl ?_
              refine WS.goto (tgt := 73) hx dX11_fewest_144 (by decide) ?_
              exact WS.los [0, 2, 1, 3, 4, 5, 6, 7] rfl (ih _ (by (try simp only [l_int, tL_0, tL_1, tL_2, tL_4, tL_5, tL_6, tL_7, tL_9, tL_10, tL_12, tL_15, tL_30, tL_40, tL_60, tL_99, tL_255, tL_1023, tL_m1, lc_lt, lc_gt, lc_ge, lc_le, lc_eq, l6_le, l6_lt, l6_eq, tI_m133, tI_m226, i_le, i_lt, i_eq, tI_m2, tI_m1, tI_0, tI_1] at c79); (try simp only [l_int, tL_0, tL_1, tL_2, tL_4, tL_5, tL_6, tL_7, tL_9, tL_10, tL_12, tL_15, tL_30, tL_40, tL_60, tL_99, tL_255, tL_1023, tL_m1, lc_lt, lc_gt, lc_ge, lc_le, lc_eq, l6_le, l6_lt, l6_eq, tI_m133, tI_m226, i_le, i_lt, i_eq, tI_m2, tI_m1, tI_0, tI_1] at c84); (try simp only [l_int, tL_0, tL_1, tL_2, tL_4, tL_5, tL_6, tL_7, tL_9, tL_10, tL_12, tL_15, tL_30, tL_40, tL_60, tL_99, tL_255, tL_1023, tL_m1, lc_lt, lc_gt, lc_ge, lc_le, lc_eq, l6_le, l6_lt, l6_eq, tI_m133, tI_m226, i_le, i_lt, i_eq, tI_m2, tI_m1, tI_0, tI_1] at hb91); (try simp only [l_int, tL_0, tL_1, tL_2, tL_4, tL_5, tL_6, tL_7, tL_9, tL_10, tL_12, tL_15, tL_30, tL_40, tL_60, tL_99, tL_255, tL_1023, tL_m1, lc_lt, lc_gt, lc_ge, lc_le, lc_eq, l6_le, l6_lt, l6_eq, tI_m133, tI_m226, i_le, i_lt, i_eq, tI_m2, tI_m1, tI_0, tI_1] at c104); (try simp only [l_int, tL_0, tL_1, tL_2, tL_4, tL_5, tL_6, tL_7, tL_9, tL_10, tL_12, tL_15, tL_30, tL_40, tL_60, tL_99, tL_255, tL_1023, tL_m1, lc_lt, lc_gt, lc_ge, lc_le, lc_eq, l6_le, l6_lt, l6_eq, tI_m133, tI_m226, i_le, i_lt, i_eq, tI_m2, tI_m1, tI_0, tI_1] at hb120); (try simp only [l_int, tL_0, tL_1, tL_2, tL_4, tL_5, tL_6, tL_7, tL_9, tL_10, tL_12, tL_15, tL_30, tL_40, tL_60, tL_99, tL_255, tL_1023, tL_m1, lc_lt, lc_gt, lc_ge, lc_le, lc_eq, l6_le, l6_lt, l6_eq, tI_m133, tI_m226, i_le, i_lt, i_eq, tI_m2, tI_m1, tI_0, tI_1]); omega) (i + 1) rfl (by (try simp only [l_int, tL_0, tL_1, tL_2, tL_4, tL_5, tL_6, tL_7, tL_9, tL_10, tL_12, tL_15, tL_30, tL_40, tL_60, tL_99, tL_255, tL_1023, tL_m1, lc_lt, lc_gt, lc_ge, lc_le, lc_eq, l6_le, l6_lt, l6_eq, tI_m133, tI_m226, i_le, i_lt, i_eq, tI_m2, tI_m1, tI_0, tI_1] at c79); (try simp only [l_int, tL_0, tL_1, tL_2, tL_4, tL_5, tL_6, tL_7, tL_9, tL_10, tL_12, tL_15, tL_30, tL_40, tL_60, tL_99, tL_255, tL_1023, tL_m1, lc_lt, lc_gt, lc_ge, lc_le, lc_eq, l6_le, l6_lt, l6_eq, tI_m133, tI_m226, i_le, i_lt, i_eq, tI_m2, tI_m1, tI_0, tI_1] at c84); (try simp only [l_int, tL_0, tL_1, tL_2, tL_4, tL_5, tL_6, tL_7, tL_9, tL_10, tL_12, tL_15, tL_30, tL_40, tL_60, tL_99, tL_255, tL_1023, tL_m1, lc_lt, lc_gt, lc_ge, lc_le, lc_eq, l6_le, l6_lt, l6_eq, tI_m133, tI_m226, i_le, i_lt, i_eq, tI_m2, tI_m1, tI_0, tI_1] at hb91); (try simp only [l_int, tL_0, tL_1, tL_2, tL_4, tL_5, tL_6, tL_7, tL_9, tL_10, tL_12, tL_15, tL_30, tL_40, tL_60, tL_99, tL_255, tL_1023, tL_m1, lc_lt, lc_gt, lc_ge, lc_le, lc_eq, l6_le, l6_lt, l6_eq, tI_m133, tI_m226, i_le, i_lt, i_eq, tI_m2, tI_m1, tI_0, tI_1] at c104); (try simp only [l_int, tL_0, tL_1, tL_2, tL_4, tL_5, tL_6, tL_7, tL_9, tL_10, tL_12, tL_15, tL_30, tL_40, tL_60, tL_99, tL_255, tL_1023, tL_m1, lc_lt, lc_gt, lc_ge, lc_le, lc_eq, l6_le, l6_lt, l6_eq, tI_m133, tI_m226, i_le, i_lt, i_eq, tI_m2, tI_m1, tI_0, tI_1] at hb120); (try simp only [l_int, tL_0, tL_1, tL_2, tL_4, tL_5, tL_6, tL_7, tL_9, tL_10, tL_12, tL_15, tL_30, tL_40, tL_60, tL_99, tL_255, tL_1023, tL_m1, lc_lt, lc_gt, lc_ge, lc_le, lc_eq, l6_le, l6_lt, l6_eq, tI_m133, tI_m226, i_le, i_lt, i_eq, tI_m2, tI_m1, tI_0, tI_1]); omega))
            · skip
              show WS layM V 8 X τ 123 [(6, .int (bI (z && okU κ c (i + 1)))), (7, .int (nI i)), (5, .int (orW (bitP (nI c)) (wn κ) i)), (4, .int (nI c)), (3, .int mb), (0, rf V 0), (1, .int x), (2, .int q)] [.int 0, .int (orW (bitP (nI c)) (wn κ) i)]
              refine WS.if_eq (tgt := 137) hx dX11_fewest_123 (by decide) (fun _ => ?_) (fun h => absurd (by decide) h)
              refine WS.iconst (v := 0) hx dX11_fewest_137 (by decide) ?_
              refine WS.ior hx dX11_fewest_138 ?_
              refine WS.as rfl rfl (congrArg (fun z => Value.int z :: _) (show (orW (bitP (nI c)) (wn κ) i) ||| 0 = orW (bitP (nI c)) (wn κ) (i + 1) from by
    show _ = (if bitP (nI c) i = true then orW (bitP (nI c)) (wn κ) i ||| ((1 : Int32) <<< (wn κ i &&& 31)) else orW (bitP (nI c)) (wn κ) i)
    first | (rw [bP_t hb120, if_pos rfl]; rfl) | (rw [bP_f hb120, if_neg (by decide)]; exact Int32.or_zero))) ?_
              skip
              refine WS.istore (lo' := [(5, .int (orW (bitP (nI c)) (wn κ) (i + 1))), (6, .int (bI (z && okU κ c (i + 1)))), (7, .int (nI i)), (4, .int (nI c)), (3, .int mb), (0, rf V 0), (1, .int x), (2, .int q)]) hx dX11_fewest_139 (by decide) rfl ?_
              refine WS.iinc (v := nI (i + 1)) (lo' := [(7, .int (nI (i + 1))), (5, .int (orW (bitP (nI c)) (wn κ) (i + 1))), (6, .int (bI (z && okU κ c (i + 1)))), (4, .int (nI c)), (3, .int mb), (0, rf V 0), (1, .int x), (2, .int q)]) hx dX11_fewest_141 2 rfl (nI_1 i) (by decide) rfl ?_
              refine WS.goto (tgt := 73) hx dX11_fewest_144 (by decide) ?_
              exact WS.los [0, 2, 1, 3, 4, 5, 6, 7] rfl (ih _ (by (try simp only [l_int, tL_0, tL_1, tL_2, tL_4, tL_5, tL_6, tL_7, tL_9, tL_10, tL_12, tL_15, tL_30, tL_40, tL_60, tL_99, tL_255, tL_1023, tL_m1, lc_lt, lc_gt, lc_ge, lc_le, lc_eq, l6_le, l6_lt, l6_eq, tI_m133, tI_m226, i_le, i_lt, i_eq, tI_m2, tI_m1, tI_0, tI_1] at c79); (try simp only [l_int, tL_0, tL_1, tL_2, tL_4, tL_5, tL_6, tL_7, tL_9, tL_10, tL_12, tL_15, tL_30, tL_40, tL_60, tL_99, tL_255, tL_1023, tL_m1, lc_lt, lc_gt, lc_ge, lc_le, lc_eq, l6_le, l6_lt, l6_eq, tI_m133, tI_m226, i_le, i_lt, i_eq, tI_m2, tI_m1, tI_0, tI_1] at c84); (try simp only [l_int, tL_0, tL_1, tL_2, tL_4, tL_5, tL_6, tL_7, tL_9, tL_10, tL_12, tL_15, tL_30, tL_40, tL_60, tL_99, tL_255, tL_1023, tL_m1, lc_lt, lc_gt, lc_ge, lc_le, lc_eq, l6_le, l6_lt, l6_eq, tI_m133, tI_m226, i_le, i_lt, i_eq, tI_m2, tI_m1, tI_0, tI_1] at hb91); (try simp only [l_int, tL_0, tL_1, tL_2, tL_4, tL_5, tL_6, tL_7, tL_9, tL_10, tL_12, tL_15, tL_30, tL_40, tL_60, tL_99, tL_255, tL_1023, tL_m1, lc_lt, lc_gt, lc_ge, lc_le, lc_eq, l6_le, l6_lt, l6_eq, tI_m133, tI_m226, i_le, i_lt, i_eq, tI_m2, tI_m1, tI_0, tI_1] at c104); (try simp only [l_int, tL_0, tL_1, tL_2, tL_4, tL_5, tL_6, tL_7, tL_9, tL_10, tL_12, tL_15, tL_30, tL_40, tL_60, tL_99, tL_255, tL_1023, tL_m1, lc_lt, lc_gt, lc_ge, lc_le, lc_eq, l6_le, l6_lt, l6_eq, tI_m133, tI_m226, i_le, i_lt, i_eq, tI_m2, tI_m1, tI_0, tI_1] at hb120); (try simp only [l_int, tL_0, tL_1, tL_2, tL_4, tL_5, tL_6, tL_7, tL_9, tL_10, tL_12, tL_15, tL_30, tL_40, tL_60, tL_99, tL_255, tL_1023, tL_m1, lc_lt, lc_gt, lc_ge, lc_le, lc_eq, l6_le, l6_lt, l6_eq, tI_m133, tI_m226, i_le, i_lt, i_eq, tI_m2, tI_m1, tI_0, tI_1]); omega) (i + 1) rfl (by (try simp only [l_int, tL_0, tL_1, tL_2, tL_4, tL_5, tL_6, tL_7, tL_9, tL_10, tL_12, tL_15, tL_30, tL_40, tL_60, tL_99, tL_255, tL_1023, tL_m1, lc_lt, lc_gt, lc_ge, lc_le, lc_eq, l6_le, l6_lt, l6_eq, tI_m133, tI_m226, i_le, i_lt, i_eq, tI_m2, tI_m1, tI_0, tI_1] at c79); (try simp only [l_int, tL_0, tL_1, tL_2, tL_4, tL_5, tL_6, tL_7, tL_9, tL_10, tL_12, tL_15, tL_30, tL_40, tL_60, tL_99, tL_255, tL_1023, tL_m1, lc_lt, lc_gt, lc_ge, lc_le, lc_eq, l6_le, l6_lt, l6_eq, tI_m133, tI_m226, i_le, i_lt, i_eq, tI_m2, tI_m1, tI_0, tI_1] at c84); (try simp only [l_int, tL_0, tL_1, tL_2, tL_4, tL_5, tL_6, tL_7, tL_9, tL_10, tL_12, tL_15, tL_30, tL_40, tL_60, tL_99, tL_255, tL_1023, tL_m1, lc_lt, lc_gt, lc_ge, lc_le, lc_eq, l6_le, l6_lt, l6_eq, tI_m133, tI_m226, i_le, i_lt, i_eq, tI_m2, tI_m1, tI_0, tI_1] at hb91); (try simp only [l_int, tL_0, tL_1, tL_2, tL_4, tL_5, tL_6, tL_7, tL_9, tL_10, tL_12, tL_15, tL_30, tL_40, tL_60, tL_99, tL_255, tL_1023, tL_m1, lc_lt, lc_gt, lc_ge, lc_le, lc_eq, l6_le, l6_lt, l6_eq, tI_m133, tI_m226, i_le, i_lt, i_eq, tI_m2, tI_m1, tI_0, tI_1] at c104); (try simp only [l_int, tL_0, tL_1, tL_2, tL_4, tL_5, tL_6, tL_7, tL_9, tL_10, tL_12, tL_15, tL_30, tL_40, tL_60, tL_99, tL_255, tL_1023, tL_m1, lc_lt, lc_gt, lc_ge, lc_le, lc_eq, l6_le, l6_lt, l6_eq, tI_m133, tI_m226, i_le, i_lt, i_eq, tI_m2, tI_m1, tI_0, tI_1] at hb120); (try simp only [l_int, tL_0, tL_1, tL_2, tL_4, tL_5, tL_6, tL_7, tL_9, tL_10, tL_12, tL_15, tL_30, tL_40, tL_60, tL_99, tL_255, tL_1023, tL_m1, lc_lt, lc_gt, lc_ge, lc_le, lc_eq, l6_le, l6_lt, l6_eq, tI_m133, tI_m226, i_le, i_lt, i_eq, tI_m2, tI_m1, tI_0, tI_1]); omega))
          · skip
            show WS layM V 8 X τ 107 [(7, .int (nI i)), (6, .int (bI (z && okU κ c i))), (5, .int (orW (bitP (nI c)) (wn κ) i)), (4, .int (nI c)), (3, .int mb), (0, rf V 0), (1, .int x), (2, .int q)] []
            refine WS.iconst (v := 1) hx dX11_fewest_107 (by decide) ?_
            refine WS.as rfl rfl (congrArg (fun z => Value.int z :: _) (show 1 = bI (z && okU κ c (i + 1)) from by
    show _ = bI (z && (okU κ c i && !(bitP (nI c) i && decide (κ.1 14 i = 1))))
    first | (rw [bP_f hb91]; cases z <;> cases h9 : okU κ c i <;> first | rfl | (rw [h9] at c84; exact absurd rfl c84)) | (rw [bI_0.mp c104, Bool.and_false]; cases z <;> cases h9 : okU κ c i <;> first | rfl | (rw [h9] at c84; exact absurd rfl c84)))) ?_
            skip
            refine WS.goto (tgt := 112) hx dX11_fewest_108 (by decide) ?_
            refine WS.istore (lo' := [(6, .int (bI (z && okU κ c (i + 1)))), (7, .int (nI i)), (5, .int (orW (bitP (nI c)) (wn κ) i)), (4, .int (nI c)), (3, .int mb), (0, rf V 0), (1, .int x), (2, .int q)]) hx dX11_fewest_112 (by decide) rfl ?_
            refine WS.iload hx dX11_fewest_114 2 rfl ?_
            refine WS.iload hx dX11_fewest_116 3 rfl ?_
            refine WS.iload hx dX11_fewest_118 1 rfl ?_
            refine WS.callSi (st := [.int (orW (bitP (nI c)) (wn κ) i)]) [.int (nI c), .int (nI i)] hx (c_X11_isIn V d τ (nI c) (nI i)) okX11_isIn lm11_261 rfl rfl (Nat.le_of_ble_eq_true rfl) dX11_fewest_120 (fun v16 σ17 h18 => ?_)
            rcases h18 with ⟨rfl, rfl, hb120⟩ | ⟨rfl, rfl, hb120⟩
            · skip
              show WS layM V 8 X τ 123 [(6, .int (bI (z && okU κ c (i + 1)))), (7, .int (nI i)), (5, .int (orW (bitP (nI c)) (wn κ) i)), (4, .int (nI c)), (3, .int mb), (0, rf V 0), (1, .int x), (2, .int q)] [.int 1, .int (orW (bitP (nI c)) (wn κ) i)]
              refine WS.if_eq (tgt := 137) hx dX11_fewest_123 (by decide) (fun h => absurd h (by decide)) (fun _ => ?_)
              refine WS.iconst (v := 1) hx dX11_fewest_126 (by decide) ?_
              refine WS.aload_n hx dX11_fewest_127 rfl 5 rfl ?_
              refine WS.iload hx dX11_fewest_128 1 rfl ?_
              refine WS.callVi (st := [.int 1, .int (orW (bitP (nI c)) (wn κ) i)]) [.int (nI i)] hx (c_X11_wordOf V d τ κ n hM (ms0 (wdM κ n lw)) hT i (by (try simp only [l_int, tL_0, tL_1, tL_2, tL_4, tL_5, tL_6, tL_7, tL_9, tL_10, tL_12, tL_15, tL_30, tL_40, tL_60, tL_99, tL_255, tL_1023, tL_m1, lc_lt, lc_gt, lc_ge, lc_le, lc_eq, l6_le, l6_lt, l6_eq, tI_m133, tI_m226, i_le, i_lt, i_eq, tI_m2, tI_m1, tI_0, tI_1] at c79); (try simp only [l_int, tL_0, tL_1, tL_2, tL_4, tL_5, tL_6, tL_7, tL_9, tL_10, tL_12, tL_15, tL_30, tL_40, tL_60, tL_99, tL_255, tL_1023, tL_m1, lc_lt, lc_gt, lc_ge, lc_le, lc_eq, l6_le, l6_lt, l6_eq, tI_m133, tI_m226, i_le, i_lt, i_eq, tI_m2, tI_m1, tI_0, tI_1] at c84); (try simp only [l_int, tL_0, tL_1, tL_2, tL_4, tL_5, tL_6, tL_7, tL_9, tL_10, tL_12, tL_15, tL_30, tL_40, tL_60, tL_99, tL_255, tL_1023, tL_m1, lc_lt, lc_gt, lc_ge, lc_le, lc_eq, l6_le, l6_lt, l6_eq, tI_m133, tI_m226, i_le, i_lt, i_eq, tI_m2, tI_m1, tI_0, tI_1] at hb91); (try simp only [l_int, tL_0, tL_1, tL_2, tL_4, tL_5, tL_6, tL_7, tL_9, tL_10, tL_12, tL_15, tL_30, tL_40, tL_60, tL_99, tL_255, tL_1023, tL_m1, lc_lt, lc_gt, lc_ge, lc_le, lc_eq, l6_le, l6_lt, l6_eq, tI_m133, tI_m226, i_le, i_lt, i_eq, tI_m2, tI_m1, tI_0, tI_1] at c104); (try simp only [l_int, tL_0, tL_1, tL_2, tL_4, tL_5, tL_6, tL_7, tL_9, tL_10, tL_12, tL_15, tL_30, tL_40, tL_60, tL_99, tL_255, tL_1023, tL_m1, lc_lt, lc_gt, lc_ge, lc_le, lc_eq, l6_le, l6_lt, l6_eq, tI_m133, tI_m226, i_le, i_lt, i_eq, tI_m2, tI_m1, tI_0, tI_1] at hb120); (try simp only [l_int, tL_0, tL_1, tL_2, tL_4, tL_5, tL_6, tL_7, tL_9, tL_10, tL_12, tL_15, tL_30, tL_40, tL_60, tL_99, tL_255, tL_1023, tL_m1, lc_lt, lc_gt, lc_ge, lc_le, lc_eq, l6_le, l6_lt, l6_eq, tI_m133, tI_m226, i_le, i_lt, i_eq, tI_m2, tI_m1, tI_0, tI_1]); omega)) okX11_wordOf lm11_219 rfl rfl rfl rfl (Nat.le_of_ble_eq_true rfl) dX11_fewest_130 (fun v19 σ20 h21 => ?_)
              obtain ⟨rfl, rfl⟩ := h21
              show WS layM V 8 X τ 133 [(6, .int (bI (z && okU κ c (i + 1)))), (7, .int (nI i)), (5, .int (orW (bitP (nI c)) (wn κ) i)), (4, .int (nI c)), (3, .int mb), (0, rf V 0), (1, .int x), (2, .int q)] [.int (κ.1 17 ((ms0 (wdM κ n lw)).1 i)), .int 1, .int (orW (bitP (nI c)) (wn κ) i)]
              refine WS.ishl hx dX11_fewest_133 ?_
              refine WS.goto (tgt := 138) hx dX11_fewest_134 (by decide) ?_
              refine WS.ior hx dX11_fewest_138 ?_
              refine WS.as rfl rfl (congrArg (fun z => Value.int z :: _) (show (orW (bitP (nI c)) (wn κ) i) ||| (1 <<< ((κ.1 17 ((ms0 (wdM κ n lw)).1 i)) &&& 31)) = orW (bitP (nI c)) (wn κ) (i + 1) from by
    show _ = (if bitP (nI c) i = true then orW (bitP (nI c)) (wn κ) i ||| ((1 : Int32) <<< (wn κ i &&& 31)) else orW (bitP (nI c)) (wn κ) i)
    first | (rw [bP_t hb120, if_pos rfl]; rfl) | (rw [bP_f hb120, if_neg (by decide)]; exact Int32.or_zero))) ?_
              skip
              refine WS.istore (lo' := [(5, .int (orW (bitP (nI c)) (wn κ) (i + 1))), (6, .int (bI (z && okU κ c (i + 1)))), (7, .int (nI i)), (4, .int (nI c)), (3, .int mb), (0, rf V 0), (1, .int x), (2, .int q)]) hx dX11_fewest_139 (by decide) rfl ?_
              refine WS.iinc (v := nI (i + 1)) (lo' := [(7, .int (nI (i + 1))), (5, .int (orW (bitP (nI c)) (wn κ) (i + 1))), (6, .int (bI (z && okU κ c (i + 1)))), (4, .int (nI c)), (3, .int mb), (0, rf V 0), (1, .int x), (2, .int q)]) hx dX11_fewest_141 2 rfl (nI_1 i) (by decide) rfl ?_
              refine WS.goto (tgt := 73) hx dX11_fewest_144 (by decide) ?_
              exact WS.los [0, 2, 1, 3, 4, 5, 6, 7] rfl (ih _ (by (try simp only [l_int, tL_0, tL_1, tL_2, tL_4, tL_5, tL_6, tL_7, tL_9, tL_10, tL_12, tL_15, tL_30, tL_40, tL_60, tL_99, tL_255, tL_1023, tL_m1, lc_lt, lc_gt, lc_ge, lc_le, lc_eq, l6_le, l6_lt, l6_eq, tI_m133, tI_m226, i_le, i_lt, i_eq, tI_m2, tI_m1, tI_0, tI_1] at c79); (try simp only [l_int, tL_0, tL_1, tL_2, tL_4, tL_5, tL_6, tL_7, tL_9, tL_10, tL_12, tL_15, tL_30, tL_40, tL_60, tL_99, tL_255, tL_1023, tL_m1, lc_lt, lc_gt, lc_ge, lc_le, lc_eq, l6_le, l6_lt, l6_eq, tI_m133, tI_m226, i_le, i_lt, i_eq, tI_m2, tI_m1, tI_0, tI_1] at c84); (try simp only [l_int, tL_0, tL_1, tL_2, tL_4, tL_5, tL_6, tL_7, tL_9, tL_10, tL_12, tL_15, tL_30, tL_40, tL_60, tL_99, tL_255, tL_1023, tL_m1, lc_lt, lc_gt, lc_ge, lc_le, lc_eq, l6_le, l6_lt, l6_eq, tI_m133, tI_m226, i_le, i_lt, i_eq, tI_m2, tI_m1, tI_0, tI_1] at hb91); (try simp only [l_int, tL_0, tL_1, tL_2, tL_4, tL_5, tL_6, tL_7, tL_9, tL_10, tL_12, tL_15, tL_30, tL_40, tL_60, tL_99, tL_255, tL_1023, tL_m1, lc_lt, lc_gt, lc_ge, lc_le, lc_eq, l6_le, l6_lt, l6_eq, tI_m133, tI_m226, i_le, i_lt, i_eq, tI_m2, tI_m1, tI_0, tI_1] at c104); (try simp only [l_int, tL_0, tL_1, tL_2, tL_4, tL_5, tL_6, tL_7, tL_9, tL_10, tL_12, tL_15, tL_30, tL_40, tL_60, tL_99, tL_255, tL_1023, tL_m1, lc_lt, lc_gt, lc_ge, lc_le, lc_eq, l6_le, l6_lt, l6_eq, tI_m133, tI_m226, i_le, i_lt, i_eq, tI_m2, tI_m1, tI_0, tI_1] at hb120); (try simp only [l_int, tL_0, tL_1, tL_2, tL_4, tL_5, tL_6, tL_7, tL_9, tL_10, tL_12, tL_15, tL_30, tL_40, tL_60, tL_99, tL_255, tL_1023, tL_m1, lc_lt, lc_gt, lc_ge, lc_le, lc_eq, l6_le, l6_lt, l6_eq, tI_m133, tI_m226, i_le, i_lt, i_eq, tI_m2, tI_m1, tI_0, tI_1]); omega) (i + 1) rfl (by (try simp only [l_int, tL_0, tL_1, tL_2, tL_4, tL_5, tL_6, tL_7, tL_9, tL_10, tL_12, tL_15, tL_30, tL_40, tL_60, tL_99, tL_255, tL_1023, tL_m1, lc_lt, lc_gt, lc_ge, lc_le, lc_eq, l6_le, l6_lt, l6_eq, tI_m133, tI_m226, i_le, i_lt, i_eq, tI_m2, tI_m1, tI_0, tI_1] at c79); (try simp only [l_int, tL_0, tL_1, tL_2, tL_4, tL_5, tL_6, tL_7, tL_9, tL_10, tL_12, tL_15, tL_30, tL_40, tL_60, tL_99, tL_255, tL_1023, tL_m1, lc_lt, lc_gt, lc_ge, lc_le, lc_eq, l6_le, l6_lt, l6_eq, tI_m133, tI_m226, i_le, i_lt, i_eq, tI_m2, tI_m1, tI_0, tI_1] at c84); (try simp only [l_int, tL_0, tL_1, tL_2, tL_4, tL_5, tL_6, tL_7, tL_9, tL_10, tL_12, tL_15, tL_30, tL_40, tL_60, tL_99, tL_255, tL_1023, tL_m1, lc_lt, lc_gt, lc_ge, lc_le, lc_eq, l6_le, l6_lt, l6_eq, tI_m133, tI_m226, i_le, i_lt, i_eq, tI_m2, tI_m1, tI_0, tI_1] at hb91); (try simp only [l_int, tL_0, tL_1, tL_2, tL_4, tL_5, tL_6, tL_7, tL_9, tL_10, tL_12, tL_15, tL_30, tL_40, tL_60, tL_99, tL_255, tL_1023, tL_m1, lc_lt, lc_gt, lc_ge, lc_le, lc_eq, l6_le, l6_lt, l6_eq, tI_m133, tI_m226, i_le, i_lt, i_eq, tI_m2, tI_m1, tI_0, tI_1] at c104); (try simp only [l_int, tL_0, tL_1, tL_2, tL_4, tL_5, tL_6, tL_7, tL_9, tL_10, tL_12, tL_15, tL_30, tL_40, tL_60, tL_99, tL_255, tL_1023, tL_m1, lc_lt, lc_gt, lc_ge, lc_le, lc_eq, l6_le, l6_lt, l6_eq, tI_m133, tI_m226, i_le, i_lt, i_eq, tI_m2, tI_m1, tI_0, tI_1] at hb120); (try simp only [l_int, tL_0, tL_1, tL_2, tL_4, tL_5, tL_6, tL_7, tL_9, tL_10, tL_12, tL_15, tL_30, tL_40, tL_60, tL_99, tL_255, tL_1023, tL_m1, lc_lt, lc_gt, lc_ge, lc_le, lc_eq, l6_le, l6_lt, l6_eq, tI_m133, tI_m226, i_le, i_lt, i_eq, tI_m2, tI_m1, tI_0, tI_1]); omega))
            · skip
              show WS layM V 8 X τ 123 [(6, .int (bI (z && okU κ c (i + 1)))), (7, .int (nI i)), (5, .int (orW (bitP (nI c)) (wn κ) i)), (4, .int (nI c)), (3, .int mb), (0, rf V 0), (1, .int x), (2, .int q)] [.int 0, .int (orW (bitP (nI c)) (wn κ) i)]
              refine WS.if_eq (tgt := 137) hx dX11_fewest_123 (by decide) (fun _ => ?_) (fun h => absurd (by decide) h)
              refine WS.iconst (v := 0) hx dX11_fewest_137 (by decide) ?_
              refine WS.ior hx dX11_fewest_138 ?_
              refine WS.as rfl rfl (congrArg (fun z => Value.int z :: _) (show (orW (bitP (nI c)) (wn κ) i) ||| 0 = orW (bitP (nI c)) (wn κ) (i + 1) from by
    show _ = (if bitP (nI c) i = true then orW (bitP (nI c)) (wn κ) i ||| ((1 : Int32) <<< (wn κ i &&& 31)) else orW (bitP (nI c)) (wn κ) i)
    first | (rw [bP_t hb120, if_pos rfl]; rfl) | (rw [bP_f hb120, if_neg (by decide)]; exact Int32.or_zero))) ?_
              skip
              refine WS.istore (lo' := [(5, .int (orW (bitP (nI c)) (wn κ) (i + 1))), (6, .int (bI (z && okU κ c (i + 1)))), (7, .int (nI i)), (4, .int (nI c)), (3, .int mb), (0, rf V 0), (1, .int x), (2, .int q)]) hx dX11_fewest_139 (by decide) rfl ?_
              refine WS.iinc (v := nI (i + 1)) (lo' := [(7, .int (nI (i + 1))), (5, .int (orW (bitP (nI c)) (wn κ) (i + 1))), (6, .int (bI (z && okU κ c (i + 1)))), (4, .int (nI c)), (3, .int mb), (0, rf V 0), (1, .int x), (2, .int q)]) hx dX11_fewest_141 2 rfl (nI_1 i) (by decide) rfl ?_
              refine WS.goto (tgt := 73) hx dX11_fewest_144 (by decide) ?_
              exact WS.los [0, 2, 1, 3, 4, 5, 6, 7] rfl (ih _ (by (try simp only [l_int, tL_0, tL_1, tL_2, tL_4, tL_5, tL_6, tL_7, tL_9, tL_10, tL_12, tL_15, tL_30, tL_40, tL_60, tL_99, tL_255, tL_1023, tL_m1, lc_lt, lc_gt, lc_ge, lc_le, lc_eq, l6_le, l6_lt, l6_eq, tI_m133, tI_m226, i_le, i_lt, i_eq, tI_m2, tI_m1, tI_0, tI_1] at c79); (try simp only [l_int, tL_0, tL_1, tL_2, tL_4, tL_5, tL_6, tL_7, tL_9, tL_10, tL_12, tL_15, tL_30, tL_40, tL_60, tL_99, tL_255, tL_1023, tL_m1, lc_lt, lc_gt, lc_ge, lc_le, lc_eq, l6_le, l6_lt, l6_eq, tI_m133, tI_m226, i_le, i_lt, i_eq, tI_m2, tI_m1, tI_0, tI_1] at c84); (try simp only [l_int, tL_0, tL_1, tL_2, tL_4, tL_5, tL_6, tL_7, tL_9, tL_10, tL_12, tL_15, tL_30, tL_40, tL_60, tL_99, tL_255, tL_1023, tL_m1, lc_lt, lc_gt, lc_ge, lc_le, lc_eq, l6_le, l6_lt, l6_eq, tI_m133, tI_m226, i_le, i_lt, i_eq, tI_m2, tI_m1, tI_0, tI_1] at hb91); (try simp only [l_int, tL_0, tL_1, tL_2, tL_4, tL_5, tL_6, tL_7, tL_9, tL_10, tL_12, tL_15, tL_30, tL_40, tL_60, tL_99, tL_255, tL_1023, tL_m1, lc_lt, lc_gt, lc_ge, lc_le, lc_eq, l6_le, l6_lt, l6_eq, tI_m133, tI_m226, i_le, i_lt, i_eq, tI_m2, tI_m1, tI_0, tI_1] at c104); (try simp only [l_int, tL_0, tL_1, tL_2, tL_4, tL_5, tL_6, tL_7, tL_9, tL_10, tL_12, tL_15, tL_30, tL_40, tL_60, tL_99, tL_255, tL_1023, tL_m1, lc_lt, lc_gt, lc_ge, lc_le, lc_eq, l6_le, l6_lt, l6_eq, tI_m133, tI_m226, i_le, i_lt, i_eq, tI_m2, tI_m1, tI_0, tI_1] at hb120); (try simp only [l_int, tL_0, tL_1, tL_2, tL_4, tL_5, tL_6, tL_7, tL_9, tL_10, tL_12, tL_15, tL_30, tL_40, tL_60, tL_99, tL_255, tL_1023, tL_m1, lc_lt, lc_gt, lc_ge, lc_le, lc_eq, l6_le, l6_lt, l6_eq, tI_m133, tI_m226, i_le, i_lt, i_eq, tI_m2, tI_m1, tI_0, tI_1]); omega) (i + 1) rfl (by (try simp only [l_int, tL_0, tL_1, tL_2, tL_4, tL_5, tL_6, tL_7, tL_9, tL_10, tL_12, tL_15, tL_30, tL_40, tL_60, tL_99, tL_255, tL_1023, tL_m1, lc_lt, lc_gt, lc_ge, lc_le, lc_eq, l6_le, l6_lt, l6_eq, tI_m133, tI_m226, i_le, i_lt, i_eq, tI_m2, tI_m1, tI_0, tI_1] at c79); (try simp only [l_int, tL_0, tL_1, tL_2, tL_4, tL_5, tL_6, tL_7, tL_9, tL_10, tL_12, tL_15, tL_30, tL_40, tL_60, tL_99, tL_255, tL_1023, tL_m1, lc_lt, lc_gt, lc_ge, lc_le, lc_eq, l6_le, l6_lt, l6_eq, tI_m133, tI_m226, i_le, i_lt, i_eq, tI_m2, tI_m1, tI_0, tI_1] at c84); (try simp only [l_int, tL_0, tL_1, tL_2, tL_4, tL_5, tL_6, tL_7, tL_9, tL_10, tL_12, tL_15, tL_30, tL_40, tL_60, tL_99, tL_255, tL_1023, tL_m1, lc_lt, lc_gt, lc_ge, lc_le, lc_eq, l6_le, l6_lt, l6_eq, tI_m133, tI_m226, i_le, i_lt, i_eq, tI_m2, tI_m1, tI_0, tI_1] at hb91); (try simp only [l_int, tL_0, tL_1, tL_2, tL_4, tL_5, tL_6, tL_7, tL_9, tL_10, tL_12, tL_15, tL_30, tL_40, tL_60, tL_99, tL_255, tL_1023, tL_m1, lc_lt, lc_gt, lc_ge, lc_le, lc_eq, l6_le, l6_lt, l6_eq, tI_m133, tI_m226, i_le, i_lt, i_eq, tI_m2, tI_m1, tI_0, tI_1] at c104); (try simp only [l_int, tL_0, tL_1, tL_2, tL_4, tL_5, tL_6, tL_7, tL_9, tL_10, tL_12, tL_15, tL_30, tL_40, tL_60, tL_99, tL_255, tL_1023, tL_m1, lc_lt, lc_gt, lc_ge, lc_le, lc_eq, l6_le, l6_lt, l6_eq, tI_m133, tI_m226, i_le, i_lt, i_eq, tI_m2, tI_m1, tI_0, tI_1] at hb120); (try simp only [l_int, tL_0, tL_1, tL_2, tL_4, tL_5, tL_6, tL_7, tL_9, tL_10, tL_12, tL_15, tL_30, tL_40, tL_60, tL_99, tL_255, tL_1023, tL_m1, lc_lt, lc_gt, lc_ge, lc_le, lc_eq, l6_le, l6_lt, l6_eq, tI_m133, tI_m226, i_le, i_lt, i_eq, tI_m2, tI_m1, tI_0, tI_1]); omega))
        · skip
          show WS layM V 8 X τ 94 [(7, .int (nI i)), (6, .int (bI (z && okU κ c i))), (5, .int (orW (bitP (nI c)) (wn κ) i)), (4, .int (nI c)), (3, .int mb), (0, rf V 0), (1, .int x), (2, .int q)] [.int 0]
          refine WS.if_eq (tgt := 107) hx dX11_fewest_94 (by decide) (fun _ => ?_) (fun h => absurd (by decide) h)
          refine WS.iconst (v := 1) hx dX11_fewest_107 (by decide) ?_
          refine WS.as rfl rfl (congrArg (fun z => Value.int z :: _) (show 1 = bI (z && okU κ c (i + 1)) from by
    show _ = bI (z && (okU κ c i && !(bitP (nI c) i && decide (κ.1 14 i = 1))))
    first | (rw [bP_f hb91]; cases z <;> cases h9 : okU κ c i <;> first | rfl | (rw [h9] at c84; exact absurd rfl c84)) | (rw [bI_0.mp c104, Bool.and_false]; cases z <;> cases h9 : okU κ c i <;> first | rfl | (rw [h9] at c84; exact absurd rfl c84)))) ?_
          skip
          refine WS.goto (tgt := 112) hx dX11_fewest_108 (by decide) ?_
          refine WS.istore (lo' := [(6, .int (bI (z && okU κ c (i + 1)))), (7, .int (nI i)), (5, .int (orW (bitP (nI c)) (wn κ) i)), (4, .int (nI c)), (3, .int mb), (0, rf V 0), (1, .int x), (2, .int q)]) hx dX11_fewest_112 (by decide) rfl ?_
          refine WS.iload hx dX11_fewest_114 2 rfl ?_
          refine WS.iload hx dX11_fewest_116 3 rfl ?_
          refine WS.iload hx dX11_fewest_118 1 rfl ?_
          refine WS.callSi (st := [.int (orW (bitP (nI c)) (wn κ) i)]) [.int (nI c), .int (nI i)] hx (c_X11_isIn V d τ (nI c) (nI i)) okX11_isIn lm11_261 rfl rfl (Nat.le_of_ble_eq_true rfl) dX11_fewest_120 (fun v22 σ23 h24 => ?_)
          rcases h24 with ⟨rfl, rfl, hb120⟩ | ⟨rfl, rfl, hb120⟩
          · skip
            show WS layM V 8 X τ 123 [(6, .int (bI (z && okU κ c (i + 1)))), (7, .int (nI i)), (5, .int (orW (bitP (nI c)) (wn κ) i)), (4, .int (nI c)), (3, .int mb), (0, rf V 0), (1, .int x), (2, .int q)] [.int 1, .int (orW (bitP (nI c)) (wn κ) i)]
            refine WS.if_eq (tgt := 137) hx dX11_fewest_123 (by decide) (fun h => absurd h (by decide)) (fun _ => ?_)
            refine WS.iconst (v := 1) hx dX11_fewest_126 (by decide) ?_
            refine WS.aload_n hx dX11_fewest_127 rfl 5 rfl ?_
            refine WS.iload hx dX11_fewest_128 1 rfl ?_
            refine WS.callVi (st := [.int 1, .int (orW (bitP (nI c)) (wn κ) i)]) [.int (nI i)] hx (c_X11_wordOf V d τ κ n hM (ms0 (wdM κ n lw)) hT i (by (try simp only [l_int, tL_0, tL_1, tL_2, tL_4, tL_5, tL_6, tL_7, tL_9, tL_10, tL_12, tL_15, tL_30, tL_40, tL_60, tL_99, tL_255, tL_1023, tL_m1, lc_lt, lc_gt, lc_ge, lc_le, lc_eq, l6_le, l6_lt, l6_eq, tI_m133, tI_m226, i_le, i_lt, i_eq, tI_m2, tI_m1, tI_0, tI_1] at c79); (try simp only [l_int, tL_0, tL_1, tL_2, tL_4, tL_5, tL_6, tL_7, tL_9, tL_10, tL_12, tL_15, tL_30, tL_40, tL_60, tL_99, tL_255, tL_1023, tL_m1, lc_lt, lc_gt, lc_ge, lc_le, lc_eq, l6_le, l6_lt, l6_eq, tI_m133, tI_m226, i_le, i_lt, i_eq, tI_m2, tI_m1, tI_0, tI_1] at c84); (try simp only [l_int, tL_0, tL_1, tL_2, tL_4, tL_5, tL_6, tL_7, tL_9, tL_10, tL_12, tL_15, tL_30, tL_40, tL_60, tL_99, tL_255, tL_1023, tL_m1, lc_lt, lc_gt, lc_ge, lc_le, lc_eq, l6_le, l6_lt, l6_eq, tI_m133, tI_m226, i_le, i_lt, i_eq, tI_m2, tI_m1, tI_0, tI_1] at hb91); (try simp only [l_int, tL_0, tL_1, tL_2, tL_4, tL_5, tL_6, tL_7, tL_9, tL_10, tL_12, tL_15, tL_30, tL_40, tL_60, tL_99, tL_255, tL_1023, tL_m1, lc_lt, lc_gt, lc_ge, lc_le, lc_eq, l6_le, l6_lt, l6_eq, tI_m133, tI_m226, i_le, i_lt, i_eq, tI_m2, tI_m1, tI_0, tI_1] at hb120); (try simp only [l_int, tL_0, tL_1, tL_2, tL_4, tL_5, tL_6, tL_7, tL_9, tL_10, tL_12, tL_15, tL_30, tL_40, tL_60, tL_99, tL_255, tL_1023, tL_m1, lc_lt, lc_gt, lc_ge, lc_le, lc_eq, l6_le, l6_lt, l6_eq, tI_m133, tI_m226, i_le, i_lt, i_eq, tI_m2, tI_m1, tI_0, tI_1]); omega)) okX11_wordOf lm11_219 rfl rfl rfl rfl (Nat.le_of_ble_eq_true rfl) dX11_fewest_130 (fun v25 σ26 h27 => ?_)
            obtain ⟨rfl, rfl⟩ := h27
            show WS layM V 8 X τ 133 [(6, .int (bI (z && okU κ c (i + 1)))), (7, .int (nI i)), (5, .int (orW (bitP (nI c)) (wn κ) i)), (4, .int (nI c)), (3, .int mb), (0, rf V 0), (1, .int x), (2, .int q)] [.int (κ.1 17 ((ms0 (wdM κ n lw)).1 i)), .int 1, .int (orW (bitP (nI c)) (wn κ) i)]
            refine WS.ishl hx dX11_fewest_133 ?_
            refine WS.goto (tgt := 138) hx dX11_fewest_134 (by decide) ?_
            refine WS.ior hx dX11_fewest_138 ?_
            refine WS.as rfl rfl (congrArg (fun z => Value.int z :: _) (show (orW (bitP (nI c)) (wn κ) i) ||| (1 <<< ((κ.1 17 ((ms0 (wdM κ n lw)).1 i)) &&& 31)) = orW (bitP (nI c)) (wn κ) (i + 1) from by
    show _ = (if bitP (nI c) i = true then orW (bitP (nI c)) (wn κ) i ||| ((1 : Int32) <<< (wn κ i &&& 31)) else orW (bitP (nI c)) (wn κ) i)
    first | (rw [bP_t hb120, if_pos rfl]; rfl) | (rw [bP_f hb120, if_neg (by decide)]; exact Int32.or_zero))) ?_
            skip
            refine WS.istore (lo' := [(5, .int (orW (bitP (nI c)) (wn κ) (i + 1))), (6, .int (bI (z && okU κ c (i + 1)))), (7, .int (nI i)), (4, .int (nI c)), (3, .int mb), (0, rf V 0), (1, .int x), (2, .int q)]) hx dX11_fewest_139 (by decide) rfl ?_
            refine WS.iinc (v := nI (i + 1)) (lo' := [(7, .int (nI (i + 1))), (5, .int (orW (bitP (nI c)) (wn κ) (i + 1))), (6, .int (bI (z && okU κ c (i + 1)))), (4, .int (nI c)), (3, .int mb), (0, rf V 0), (1, .int x), (2, .int q)]) hx dX11_fewest_141 2 rfl (nI_1 i) (by decide) rfl ?_
            refine WS.goto (tgt := 73) hx dX11_fewest_144 (by decide) ?_
            exact WS.los [0, 2, 1, 3, 4, 5, 6, 7] rfl (ih _ (by (try simp only [l_int, tL_0, tL_1, tL_2, tL_4, tL_5, tL_6, tL_7, tL_9, tL_10, tL_12, tL_15, tL_30, tL_40, tL_60, tL_99, tL_255, tL_1023, tL_m1, lc_lt, lc_gt, lc_ge, lc_le, lc_eq, l6_le, l6_lt, l6_eq, tI_m133, tI_m226, i_le, i_lt, i_eq, tI_m2, tI_m1, tI_0, tI_1] at c79); (try simp only [l_int, tL_0, tL_1, tL_2, tL_4, tL_5, tL_6, tL_7, tL_9, tL_10, tL_12, tL_15, tL_30, tL_40, tL_60, tL_99, tL_255, tL_1023, tL_m1, lc_lt, lc_gt, lc_ge, lc_le, lc_eq, l6_le, l6_lt, l6_eq, tI_m133, tI_m226, i_le, i_lt, i_eq, tI_m2, tI_m1, tI_0, tI_1] at c84); (try simp only [l_int, tL_0, tL_1, tL_2, tL_4, tL_5, tL_6, tL_7, tL_9, tL_10, tL_12, tL_15, tL_30, tL_40, tL_60, tL_99, tL_255, tL_1023, tL_m1, lc_lt, lc_gt, lc_ge, lc_le, lc_eq, l6_le, l6_lt, l6_eq, tI_m133, tI_m226, i_le, i_lt, i_eq, tI_m2, tI_m1, tI_0, tI_1] at hb91); (try simp only [l_int, tL_0, tL_1, tL_2, tL_4, tL_5, tL_6, tL_7, tL_9, tL_10, tL_12, tL_15, tL_30, tL_40, tL_60, tL_99, tL_255, tL_1023, tL_m1, lc_lt, lc_gt, lc_ge, lc_le, lc_eq, l6_le, l6_lt, l6_eq, tI_m133, tI_m226, i_le, i_lt, i_eq, tI_m2, tI_m1, tI_0, tI_1] at hb120); (try simp only [l_int, tL_0, tL_1, tL_2, tL_4, tL_5, tL_6, tL_7, tL_9, tL_10, tL_12, tL_15, tL_30, tL_40, tL_60, tL_99, tL_255, tL_1023, tL_m1, lc_lt, lc_gt, lc_ge, lc_le, lc_eq, l6_le, l6_lt, l6_eq, tI_m133, tI_m226, i_le, i_lt, i_eq, tI_m2, tI_m1, tI_0, tI_1]); omega) (i + 1) rfl (by (try simp only [l_int, tL_0, tL_1, tL_2, tL_4, tL_5, tL_6, tL_7, tL_9, tL_10, tL_12, tL_15, tL_30, tL_40, tL_60, tL_99, tL_255, tL_1023, tL_m1, lc_lt, lc_gt, lc_ge, lc_le, lc_eq, l6_le, l6_lt, l6_eq, tI_m133, tI_m226, i_le, i_lt, i_eq, tI_m2, tI_m1, tI_0, tI_1] at c79); (try simp only [l_int, tL_0, tL_1, tL_2, tL_4, tL_5, tL_6, tL_7, tL_9, tL_10, tL_12, tL_15, tL_30, tL_40, tL_60, tL_99, tL_255, tL_1023, tL_m1, lc_lt, lc_gt, lc_ge, lc_le, lc_eq, l6_le, l6_lt, l6_eq, tI_m133, tI_m226, i_le, i_lt, i_eq, tI_m2, tI_m1, tI_0, tI_1] at c84); (try simp only [l_int, tL_0, tL_1, tL_2, tL_4, tL_5, tL_6, tL_7, tL_9, tL_10, tL_12, tL_15, tL_30, tL_40, tL_60, tL_99, tL_255, tL_1023, tL_m1, lc_lt, lc_gt, lc_ge, lc_le, lc_eq, l6_le, l6_lt, l6_eq, tI_m133, tI_m226, i_le, i_lt, i_eq, tI_m2, tI_m1, tI_0, tI_1] at hb91); (try simp only [l_int, tL_0, tL_1, tL_2, tL_4, tL_5, tL_6, tL_7, tL_9, tL_10, tL_12, tL_15, tL_30, tL_40, tL_60, tL_99, tL_255, tL_1023, tL_m1, lc_lt, lc_gt, lc_ge, lc_le, lc_eq, l6_le, l6_lt, l6_eq, tI_m133, tI_m226, i_le, i_lt, i_eq, tI_m2, tI_m1, tI_0, tI_1] at hb120); (try simp only [l_int, tL_0, tL_1, tL_2, tL_4, tL_5, tL_6, tL_7, tL_9, tL_10, tL_12, tL_15, tL_30, tL_40, tL_60, tL_99, tL_255, tL_1023, tL_m1, lc_lt, lc_gt, lc_ge, lc_le, lc_eq, l6_le, l6_lt, l6_eq, tI_m133, tI_m226, i_le, i_lt, i_eq, tI_m2, tI_m1, tI_0, tI_1]); omega))
          · skip
            show WS layM V 8 X τ 123 [(6, .int (bI (z && okU κ c (i + 1)))), (7, .int (nI i)), (5, .int (orW (bitP (nI c)) (wn κ) i)), (4, .int (nI c)), (3, .int mb), (0, rf V 0), (1, .int x), (2, .int q)] [.int 0, .int (orW (bitP (nI c)) (wn κ) i)]
            refine WS.if_eq (tgt := 137) hx dX11_fewest_123 (by decide) (fun _ => ?_) (fun h => absurd (by decide) h)
            refine WS.iconst (v := 0) hx dX11_fewest_137 (by decide) ?_
            refine WS.ior hx dX11_fewest_138 ?_
            refine WS.as rfl rfl (congrArg (fun z => Value.int z :: _) (show (orW (bitP (nI c)) (wn κ) i) ||| 0 = orW (bitP (nI c)) (wn κ) (i + 1) from by
    show _ = (if bitP (nI c) i = true then orW (bitP (nI c)) (wn κ) i ||| ((1 : Int32) <<< (wn κ i &&& 31)) else orW (bitP (nI c)) (wn κ) i)
    first | (rw [bP_t hb120, if_pos rfl]; rfl) | (rw [bP_f hb120, if_neg (by decide)]; exact Int32.or_zero))) ?_
            skip
            refine WS.istore (lo' := [(5, .int (orW (bitP (nI c)) (wn κ) (i + 1))), (6, .int (bI (z && okU κ c (i + 1)))), (7, .int (nI i)), (4, .int (nI c)), (3, .int mb), (0, rf V 0), (1, .int x), (2, .int q)]) hx dX11_fewest_139 (by decide) rfl ?_
            refine WS.iinc (v := nI (i + 1)) (lo' := [(7, .int (nI (i + 1))), (5, .int (orW (bitP (nI c)) (wn κ) (i + 1))), (6, .int (bI (z && okU κ c (i + 1)))), (4, .int (nI c)), (3, .int mb), (0, rf V 0), (1, .int x), (2, .int q)]) hx dX11_fewest_141 2 rfl (nI_1 i) (by decide) rfl ?_
            refine WS.goto (tgt := 73) hx dX11_fewest_144 (by decide) ?_
            exact WS.los [0, 2, 1, 3, 4, 5, 6, 7] rfl (ih _ (by (try simp only [l_int, tL_0, tL_1, tL_2, tL_4, tL_5, tL_6, tL_7, tL_9, tL_10, tL_12, tL_15, tL_30, tL_40, tL_60, tL_99, tL_255, tL_1023, tL_m1, lc_lt, lc_gt, lc_ge, lc_le, lc_eq, l6_le, l6_lt, l6_eq, tI_m133, tI_m226, i_le, i_lt, i_eq, tI_m2, tI_m1, tI_0, tI_1] at c79); (try simp only [l_int, tL_0, tL_1, tL_2, tL_4, tL_5, tL_6, tL_7, tL_9, tL_10, tL_12, tL_15, tL_30, tL_40, tL_60, tL_99, tL_255, tL_1023, tL_m1, lc_lt, lc_gt, lc_ge, lc_le, lc_eq, l6_le, l6_lt, l6_eq, tI_m133, tI_m226, i_le, i_lt, i_eq, tI_m2, tI_m1, tI_0, tI_1] at c84); (try simp only [l_int, tL_0, tL_1, tL_2, tL_4, tL_5, tL_6, tL_7, tL_9, tL_10, tL_12, tL_15, tL_30, tL_40, tL_60, tL_99, tL_255, tL_1023, tL_m1, lc_lt, lc_gt, lc_ge, lc_le, lc_eq, l6_le, l6_lt, l6_eq, tI_m133, tI_m226, i_le, i_lt, i_eq, tI_m2, tI_m1, tI_0, tI_1] at hb91); (try simp only [l_int, tL_0, tL_1, tL_2, tL_4, tL_5, tL_6, tL_7, tL_9, tL_10, tL_12, tL_15, tL_30, tL_40, tL_60, tL_99, tL_255, tL_1023, tL_m1, lc_lt, lc_gt, lc_ge, lc_le, lc_eq, l6_le, l6_lt, l6_eq, tI_m133, tI_m226, i_le, i_lt, i_eq, tI_m2, tI_m1, tI_0, tI_1] at hb120); (try simp only [l_int, tL_0, tL_1, tL_2, tL_4, tL_5, tL_6, tL_7, tL_9, tL_10, tL_12, tL_15, tL_30, tL_40, tL_60, tL_99, tL_255, tL_1023, tL_m1, lc_lt, lc_gt, lc_ge, lc_le, lc_eq, l6_le, l6_lt, l6_eq, tI_m133, tI_m226, i_le, i_lt, i_eq, tI_m2, tI_m1, tI_0, tI_1]); omega) (i + 1) rfl (by (try simp only [l_int, tL_0, tL_1, tL_2, tL_4, tL_5, tL_6, tL_7, tL_9, tL_10, tL_12, tL_15, tL_30, tL_40, tL_60, tL_99, tL_255, tL_1023, tL_m1, lc_lt, lc_gt, lc_ge, lc_le, lc_eq, l6_le, l6_lt, l6_eq, tI_m133, tI_m226, i_le, i_lt, i_eq, tI_m2, tI_m1, tI_0, tI_1] at c79); (try simp only [l_int, tL_0, tL_1, tL_2, tL_4, tL_5, tL_6, tL_7, tL_9, tL_10, tL_12, tL_15, tL_30, tL_40, tL_60, tL_99, tL_255, tL_1023, tL_m1, lc_lt, lc_gt, lc_ge, lc_le, lc_eq, l6_le, l6_lt, l6_eq, tI_m133, tI_m226, i_le, i_lt, i_eq, tI_m2, tI_m1, tI_0, tI_1] at c84); (try simp only [l_int, tL_0, tL_1, tL_2, tL_4, tL_5, tL_6, tL_7, tL_9, tL_10, tL_12, tL_15, tL_30, tL_40, tL_60, tL_99, tL_255, tL_1023, tL_m1, lc_lt, lc_gt, lc_ge, lc_le, lc_eq, l6_le, l6_lt, l6_eq, tI_m133, tI_m226, i_le, i_lt, i_eq, tI_m2, tI_m1, tI_0, tI_1] at hb91); (try simp only [l_int, tL_0, tL_1, tL_2, tL_4, tL_5, tL_6, tL_7, tL_9, tL_10, tL_12, tL_15, tL_30, tL_40, tL_60, tL_99, tL_255, tL_1023, tL_m1, lc_lt, lc_gt, lc_ge, lc_le, lc_eq, l6_le, l6_lt, l6_eq, tI_m133, tI_m226, i_le, i_lt, i_eq, tI_m2, tI_m1, tI_0, tI_1] at hb120); (try simp only [l_int, tL_0, tL_1, tL_2, tL_4, tL_5, tL_6, tL_7, tL_9, tL_10, tL_12, tL_15, tL_30, tL_40, tL_60, tL_99, tL_255, tL_1023, tL_m1, lc_lt, lc_gt, lc_ge, lc_le, lc_eq, l6_le, l6_lt, l6_eq, tI_m133, tI_m226, i_le, i_lt, i_eq, tI_m2, tI_m1, tI_0, tI_1]); omega))
set_option maxHeartbeats 1000000 in
theorem lt_X11_fewest (V : Vt) (d : Nat) (τ κ : Sg) (n : Nat) (hM : MR κ τ n) (c : Nat) (hc : c < 2 ^ n) (x q : Int32) (X : Xt) (hx : Ok V RX11 cX11_fewest 8 (d + 1) X) (hC : WS layM V 8 X τ 33 [(4, .int (nI (c + 1))), (3, .int (mbF κ n x (c + 1))), (0, rf V 0), (1, .int x), (2, .int q)] []) (z : Bool) (hz : z = true ↔ (fwF κ n x c = -2 ∨ bcF (nI c) < bcF (fwF κ n x c))) : WS layM V 8 X τ 147 [(7, .int (nI n)), (6, .int (bI (z && okU κ c n))), (5, .int (orW (bitP (nI c)) (wn κ) n)), (4, .int (nI c)), (3, .int (mbF κ n x c)), (0, rf V 0), (1, .int x), (2, .int q)] [] := by
  have hn := hM.n
  have h2n : 2 ^ n ≤ 2 ^ 10 := Nat.pow_le_pow_right (by decide) hn
  have h2c : 2 ^ 10 = 1024 := rfl
  refine WS.iload hx dX11_fewest_147 1 rfl ?_
  refine WS.if_eq (tgt := 166) hx dX11_fewest_149 (by decide) (fun c149 => ?_) (fun c149 => ?_)
  · skip
    show WS layM V 8 X τ 166 [(7, .int (nI n)), (6, .int (bI (z && okU κ c n))), (5, .int (orW (bitP (nI c)) (wn κ) n)), (4, .int (nI c)), (3, .int (mbF κ n x c)), (0, rf V 0), (1, .int x), (2, .int q)] []
    refine WS.iload_n hx dX11_fewest_166 rfl 4 rfl ?_
    refine WS.as rfl rfl (congrArg (fun z => Value.int z :: _) (show mbF κ n x c = mbF κ n x (c + 1) from by
    refine (mbF_f (fun h => ?_)).symm
    first | exact c158 h.2.2 | (have h6 := bI_0.mp c149; rw [hz.mpr h.1, (ok_cl hM.n hc).mpr h.2.1] at h6; exact absurd h6 (by decide)))) ?_
    skip
    refine WS.istore_n (lo' := [(3, .int (mbF κ n x (c + 1))), (7, .int (nI n)), (6, .int (bI (z && okU κ c n))), (5, .int (orW (bitP (nI c)) (wn κ) n)), (4, .int (nI c)), (0, rf V 0), (1, .int x), (2, .int q)]) hx dX11_fewest_167 rfl (by decide) rfl ?_
    refine WS.iinc (v := nI (c + 1)) (lo' := [(4, .int (nI (c + 1))), (3, .int (mbF κ n x (c + 1))), (7, .int (nI n)), (6, .int (bI (z && okU κ c n))), (5, .int (orW (bitP (nI c)) (wn κ) n)), (0, rf V 0), (1, .int x), (2, .int q)]) hx dX11_fewest_168 4 rfl (nI_1 c) (by decide) rfl ?_
    refine WS.goto (tgt := 33) hx dX11_fewest_171 (by decide) ?_
    exact WS.los [0, 1, 5, 6, 7] rfl hC
  · skip
    show WS layM V 8 X τ 152 [(7, .int (nI n)), (6, .int (bI (z && okU κ c n))), (5, .int (orW (bitP (nI c)) (wn κ) n)), (4, .int (nI c)), (3, .int (mbF κ n x c)), (0, rf V 0), (1, .int x), (2, .int q)] []
    refine WS.iload_n hx dX11_fewest_152 rfl 6 rfl ?_
    refine WS.iload hx dX11_fewest_153 2 rfl ?_
    refine WS.iconst (v := (-1)) hx dX11_fewest_155 (by decide) ?_
    refine WS.ixor hx dX11_fewest_156 ?_
    refine WS.iand hx dX11_fewest_157 ?_
    refine WS.if_ne (tgt := 166) hx dX11_fewest_158 (by decide) (fun c158 => ?_) (fun c158 => ?_)
    · skip
      show WS layM V 8 X τ 166 [(7, .int (nI n)), (6, .int (bI (z && okU κ c n))), (5, .int (orW (bitP (nI c)) (wn κ) n)), (4, .int (nI c)), (3, .int (mbF κ n x c)), (0, rf V 0), (1, .int x), (2, .int q)] []
      refine WS.iload_n hx dX11_fewest_166 rfl 4 rfl ?_
      refine WS.as rfl rfl (congrArg (fun z => Value.int z :: _) (show mbF κ n x c = mbF κ n x (c + 1) from by
    refine (mbF_f (fun h => ?_)).symm
    first | exact c158 h.2.2 | (have h6 := bI_0.mp c149; rw [hz.mpr h.1, (ok_cl hM.n hc).mpr h.2.1] at h6; exact absurd h6 (by decide)))) ?_
      skip
      refine WS.istore_n (lo' := [(3, .int (mbF κ n x (c + 1))), (7, .int (nI n)), (6, .int (bI (z && okU κ c n))), (5, .int (orW (bitP (nI c)) (wn κ) n)), (4, .int (nI c)), (0, rf V 0), (1, .int x), (2, .int q)]) hx dX11_fewest_167 rfl (by decide) rfl ?_
      refine WS.iinc (v := nI (c + 1)) (lo' := [(4, .int (nI (c + 1))), (3, .int (mbF κ n x (c + 1))), (7, .int (nI n)), (6, .int (bI (z && okU κ c n))), (5, .int (orW (bitP (nI c)) (wn κ) n)), (0, rf V 0), (1, .int x), (2, .int q)]) hx dX11_fewest_168 4 rfl (nI_1 c) (by decide) rfl ?_
      refine WS.goto (tgt := 33) hx dX11_fewest_171 (by decide) ?_
      exact WS.los [0, 1, 5, 6, 7] rfl hC
    · skip
      show WS layM V 8 X τ 161 [(7, .int (nI n)), (6, .int (bI (z && okU κ c n))), (5, .int (orW (bitP (nI c)) (wn κ) n)), (4, .int (nI c)), (3, .int (mbF κ n x c)), (0, rf V 0), (1, .int x), (2, .int q)] []
      refine WS.iload hx dX11_fewest_161 3 rfl ?_
      refine WS.as rfl rfl (congrArg (fun z => Value.int z :: _) (show nI c = mbF κ n x (c + 1) from by
    have h6 : (z && okU κ c n) = true := by cases h9 : (z && okU κ c n) with | true => rfl | false => rw [h9] at c149; exact absurd rfl c149
    rw [Bool.and_eq_true] at h6
    exact (mbF_t (by omega) ⟨hz.mp h6.1, (ok_cl hM.n hc).mp h6.2, c158⟩).symm)) ?_
      skip
      refine WS.goto (tgt := 167) hx dX11_fewest_163 (by decide) ?_
      refine WS.istore_n (lo' := [(3, .int (mbF κ n x (c + 1))), (7, .int (nI n)), (6, .int (bI (z && okU κ c n))), (5, .int (orW (bitP (nI c)) (wn κ) n)), (4, .int (nI c)), (0, rf V 0), (1, .int x), (2, .int q)]) hx dX11_fewest_167 rfl (by decide) rfl ?_
      refine WS.iinc (v := nI (c + 1)) (lo' := [(4, .int (nI (c + 1))), (3, .int (mbF κ n x (c + 1))), (7, .int (nI n)), (6, .int (bI (z && okU κ c n))), (5, .int (orW (bitP (nI c)) (wn κ) n)), (0, rf V 0), (1, .int x), (2, .int q)]) hx dX11_fewest_168 4 rfl (nI_1 c) (by decide) rfl ?_
      refine WS.goto (tgt := 33) hx dX11_fewest_171 (by decide) ?_
      exact WS.los [0, 1, 5, 6, 7] rfl hC
set_option maxHeartbeats 1000000 in
theorem lp_X11_fewest (V : Vt) (d : Nat) (σ κ : Sg) (n : Nat) (hM : MR κ σ n) (lw : Lw) (x q : Int32) (P : Int32 → Sg → Prop) (X : Xt) (hx : Ok V RX11 cX11_fewest 8 (d + 1) X) (he : En layM V (some .int) (Ri P) X) (hP : ∀ σ', ME σ σ' → ∀ v, v = (if (fwF κ n x (2 ^ n)).toInt < 0 then (-2 : Int32) else if q.toInt = 0 then bcF (fwF κ n x (2 ^ n)) else fwF κ n x (2 ^ n)) → P v σ') : ∀ (c : Nat) (τ : Sg), c ≤ 2 ^ n → ME σ τ → MT τ n (ms0 (wdM κ n lw)) → WS layM V 8 X τ 33 [(4, .int (nI c)), (3, .int (mbF κ n x c)), (0, rf V 0), (1, .int x), (2, .int q)] [] := by
  have hn := hM.n
  intro c
  induction hm : 2 ^ n - c using Nat.strongRecOn generalizing c with
  | _ m9 ih =>
    intro τ hcn hE hT
    have hM9 := hM.me hE
    have h2n : 2 ^ n ≤ 2 ^ 10 := Nat.pow_le_pow_right (by decide) hn
    have h2c : 2 ^ 10 = 1024 := rfl
    have h2I : (nI (2 ^ n)).toInt = ((2 ^ n : Nat) : Int) := nI_c (by omega)
    have hcI : (nI c).toInt = (c : Int) := nI_c (by omega)
    refine WS.iload hx dX11_fewest_33 0 rfl ?_
    refine WS.iconst (v := 1) hx dX11_fewest_35 (by decide) ?_
    refine WS.aload_n hx dX11_fewest_36 rfl 2 rfl ?_
    refine WS.getI hx okX11 lf11_97 rfl rfl dX11_fewest_37 ?_
    refine WS.as rfl rfl (congrArg (fun z => Value.int z :: _) (show τ.1 0 6 = nI n from hM9.s)) ?_
    skip
    refine WS.ishl hx dX11_fewest_40 ?_
    refine WS.as rfl rfl (congrArg (fun z => Value.int z :: _) (show 1 <<< ((nI n) &&& 31) = nI (2 ^ n) from one_sh (by omega))) ?_
    skip
    refine WS.icmp_ge (tgt := 174) hx dX11_fewest_41 (by decide) (fun c41 => ?_) (fun c41 => ?_)
    · skip
      show WS layM V 8 X τ 174 [(4, .int (nI c)), (3, .int (mbF κ n x c)), (0, rf V 0), (1, .int x), (2, .int q)] []
      refine WS.iload_n hx dX11_fewest_174 rfl 1 rfl ?_
      refine WS.if_ge (tgt := 183) hx dX11_fewest_175 (by decide) (fun c175 => ?_) (fun c175 => ?_)
      · skip
        show WS layM V 8 X τ 183 [(4, .int (nI c)), (3, .int (mbF κ n x c)), (0, rf V 0), (1, .int x), (2, .int q)] []
        refine WS.iload_n hx dX11_fewest_183 rfl 4 rfl ?_
        refine WS.if_ne (tgt := 194) hx dX11_fewest_184 (by decide) (fun c184 => ?_) (fun c184 => ?_)
        · skip
          show WS layM V 8 X τ 194 [(4, .int (nI c)), (3, .int (mbF κ n x c)), (0, rf V 0), (1, .int x), (2, .int q)] []
          refine WS.iload_n hx dX11_fewest_194 rfl 1 rfl ?_
          exact WS.iret hx he dX11_fewest_195 ⟨_, rfl, hP τ hE _ (by
                             have hcn : c = 2 ^ n := by (try simp only [l_int, tL_0, tL_1, tL_2, tL_4, tL_5, tL_6, tL_7, tL_9, tL_10, tL_12, tL_15, tL_30, tL_40, tL_60, tL_99, tL_255, tL_1023, tL_m1, lc_lt, lc_gt, lc_ge, lc_le, lc_eq, l6_le, l6_lt, l6_eq, tI_m133, tI_m226, i_le, i_lt, i_eq, tI_m2, tI_m1, tI_0, tI_1] at c41); (try simp only [l_int, tL_0, tL_1, tL_2, tL_4, tL_5, tL_6, tL_7, tL_9, tL_10, tL_12, tL_15, tL_30, tL_40, tL_60, tL_99, tL_255, tL_1023, tL_m1, lc_lt, lc_gt, lc_ge, lc_le, lc_eq, l6_le, l6_lt, l6_eq, tI_m133, tI_m226, i_le, i_lt, i_eq, tI_m2, tI_m1, tI_0, tI_1] at c175); (try simp only [l_int, tL_0, tL_1, tL_2, tL_4, tL_5, tL_6, tL_7, tL_9, tL_10, tL_12, tL_15, tL_30, tL_40, tL_60, tL_99, tL_255, tL_1023, tL_m1, lc_lt, lc_gt, lc_ge, lc_le, lc_eq, l6_le, l6_lt, l6_eq, tI_m133, tI_m226, i_le, i_lt, i_eq, tI_m2, tI_m1, tI_0, tI_1] at c184); (try simp only [l_int, tL_0, tL_1, tL_2, tL_4, tL_5, tL_6, tL_7, tL_9, tL_10, tL_12, tL_15, tL_30, tL_40, tL_60, tL_99, tL_255, tL_1023, tL_m1, lc_lt, lc_gt, lc_ge, lc_le, lc_eq, l6_le, l6_lt, l6_eq, tI_m133, tI_m226, i_le, i_lt, i_eq, tI_m2, tI_m1, tI_0, tI_1]); omega
                             rw [← hcn]
                             rcases mbF_c (κ := κ) (n := n) (x := x) (c := c) (by omega) with ⟨h1, h2⟩ | ⟨h1, h2, j, h3, h4⟩
                             · rw [h2] at c175; exact absurd c175 (by decide)
                             · rw [h2, h4, if_neg (by rw [nI_c (by omega)]; omega), if_neg (show ¬ q.toInt = 0 from fun h => c184 (i_eq.mpr h))])⟩
        · skip
          show WS layM V 8 X τ 187 [(4, .int (nI c)), (3, .int (mbF κ n x c)), (0, rf V 0), (1, .int x), (2, .int q)] []
          refine WS.iload_n hx dX11_fewest_187 rfl 1 rfl ?_
          refine WS.callSi (st := []) [.int (mbF κ n x c)] hx (c_X11_bitsOf V d τ (mbF κ n x c)) okX11_bitsOf lm11_248 rfl rfl (Nat.le_of_ble_eq_true rfl) dX11_fewest_188 (fun v1 σ2 h3 => ?_)
          obtain ⟨rfl, rfl⟩ := h3
          show WS layM V 8 X τ 191 [(4, .int (nI c)), (3, .int (mbF κ n x c)), (0, rf V 0), (1, .int x), (2, .int q)] [.int (btM (mbF κ n x c) 16)]
          refine WS.goto (tgt := 195) hx dX11_fewest_191 (by decide) ?_
          exact WS.iret hx he dX11_fewest_195 ⟨_, rfl, hP τ hE _ (by
                             have hcn : c = 2 ^ n := by (try simp only [l_int, tL_0, tL_1, tL_2, tL_4, tL_5, tL_6, tL_7, tL_9, tL_10, tL_12, tL_15, tL_30, tL_40, tL_60, tL_99, tL_255, tL_1023, tL_m1, lc_lt, lc_gt, lc_ge, lc_le, lc_eq, l6_le, l6_lt, l6_eq, tI_m133, tI_m226, i_le, i_lt, i_eq, tI_m2, tI_m1, tI_0, tI_1] at c41); (try simp only [l_int, tL_0, tL_1, tL_2, tL_4, tL_5, tL_6, tL_7, tL_9, tL_10, tL_12, tL_15, tL_30, tL_40, tL_60, tL_99, tL_255, tL_1023, tL_m1, lc_lt, lc_gt, lc_ge, lc_le, lc_eq, l6_le, l6_lt, l6_eq, tI_m133, tI_m226, i_le, i_lt, i_eq, tI_m2, tI_m1, tI_0, tI_1] at c175); (try simp only [l_int, tL_0, tL_1, tL_2, tL_4, tL_5, tL_6, tL_7, tL_9, tL_10, tL_12, tL_15, tL_30, tL_40, tL_60, tL_99, tL_255, tL_1023, tL_m1, lc_lt, lc_gt, lc_ge, lc_le, lc_eq, l6_le, l6_lt, l6_eq, tI_m133, tI_m226, i_le, i_lt, i_eq, tI_m2, tI_m1, tI_0, tI_1] at c184); (try simp only [l_int, tL_0, tL_1, tL_2, tL_4, tL_5, tL_6, tL_7, tL_9, tL_10, tL_12, tL_15, tL_30, tL_40, tL_60, tL_99, tL_255, tL_1023, tL_m1, lc_lt, lc_gt, lc_ge, lc_le, lc_eq, l6_le, l6_lt, l6_eq, tI_m133, tI_m226, i_le, i_lt, i_eq, tI_m2, tI_m1, tI_0, tI_1]); omega
                             rw [← hcn]
                             rcases mbF_c (κ := κ) (n := n) (x := x) (c := c) (by omega) with ⟨h1, h2⟩ | ⟨h1, h2, j, h3, h4⟩
                             · rw [h2] at c175; exact absurd c175 (by decide)
                             · rw [h2, h4, if_neg (by rw [nI_c (by omega)]; omega), if_pos (by rw [c184]; rfl), bc_bt (by omega)])⟩
      · skip
        show WS layM V 8 X τ 178 [(4, .int (nI c)), (3, .int (mbF κ n x c)), (0, rf V 0), (1, .int x), (2, .int q)] []
        refine WS.bipush (v := (-2)) hx dX11_fewest_178 (by decide) ?_
        refine WS.goto (tgt := 195) hx dX11_fewest_180 (by decide) ?_
        exact WS.iret hx he dX11_fewest_195 ⟨_, rfl, hP τ hE _ (by
                             have hcn : c = 2 ^ n := by (try simp only [l_int, tL_0, tL_1, tL_2, tL_4, tL_5, tL_6, tL_7, tL_9, tL_10, tL_12, tL_15, tL_30, tL_40, tL_60, tL_99, tL_255, tL_1023, tL_m1, lc_lt, lc_gt, lc_ge, lc_le, lc_eq, l6_le, l6_lt, l6_eq, tI_m133, tI_m226, i_le, i_lt, i_eq, tI_m2, tI_m1, tI_0, tI_1] at c41); (try simp only [l_int, tL_0, tL_1, tL_2, tL_4, tL_5, tL_6, tL_7, tL_9, tL_10, tL_12, tL_15, tL_30, tL_40, tL_60, tL_99, tL_255, tL_1023, tL_m1, lc_lt, lc_gt, lc_ge, lc_le, lc_eq, l6_le, l6_lt, l6_eq, tI_m133, tI_m226, i_le, i_lt, i_eq, tI_m2, tI_m1, tI_0, tI_1] at c175); (try simp only [l_int, tL_0, tL_1, tL_2, tL_4, tL_5, tL_6, tL_7, tL_9, tL_10, tL_12, tL_15, tL_30, tL_40, tL_60, tL_99, tL_255, tL_1023, tL_m1, lc_lt, lc_gt, lc_ge, lc_le, lc_eq, l6_le, l6_lt, l6_eq, tI_m133, tI_m226, i_le, i_lt, i_eq, tI_m2, tI_m1, tI_0, tI_1]); omega
                             rw [← hcn]
                             rcases mbF_c (κ := κ) (n := n) (x := x) (c := c) (by omega) with ⟨h1, h2⟩ | ⟨h1, h2, j, h3, h4⟩
                             · rw [h1, if_pos (by decide)]
                             · rw [h2, h4] at c175; exact absurd (show 0 ≤ nI j from by rw [i_le, tI_0, nI_c (by omega)]; omega) c175)⟩
    · skip
      show WS layM V 8 X τ 44 [(4, .int (nI c)), (3, .int (mbF κ n x c)), (0, rf V 0), (1, .int x), (2, .int q)] []
      have hc9 : c < 2 ^ n := by (try simp only [l_int, tL_0, tL_1, tL_2, tL_4, tL_5, tL_6, tL_7, tL_9, tL_10, tL_12, tL_15, tL_30, tL_40, tL_60, tL_99, tL_255, tL_1023, tL_m1, lc_lt, lc_gt, lc_ge, lc_le, lc_eq, l6_le, l6_lt, l6_eq, tI_m133, tI_m226, i_le, i_lt, i_eq, tI_m2, tI_m1, tI_0, tI_1] at c41); (try simp only [l_int, tL_0, tL_1, tL_2, tL_4, tL_5, tL_6, tL_7, tL_9, tL_10, tL_12, tL_15, tL_30, tL_40, tL_60, tL_99, tL_255, tL_1023, tL_m1, lc_lt, lc_gt, lc_ge, lc_le, lc_eq, l6_le, l6_lt, l6_eq, tI_m133, tI_m226, i_le, i_lt, i_eq, tI_m2, tI_m1, tI_0, tI_1]); omega
      have zb := zb_i (κ := κ) (n := n) (x := x) (c := c) (by omega)
      have ho := lt_X11_fewest V d τ κ n hM9 c hc9 x q X hx (ih _ (by omega) (c + 1) rfl τ (by omega) hE hT)
      refine WS.iconst (v := 0) hx dX11_fewest_44 (by decide) ?_
      refine WS.istore (lo' := [(5, .int 0), (4, .int (nI c)), (3, .int (mbF κ n x c)), (0, rf V 0), (1, .int x), (2, .int q)]) hx dX11_fewest_45 (by decide) rfl ?_
      refine WS.iload_n hx dX11_fewest_47 rfl 2 rfl ?_
      refine WS.if_lt (tgt := 63) hx dX11_fewest_48 (by decide) (fun c48 => ?_) (fun c48 => ?_)
      · skip
        show WS layM V 8 X τ 63 [(5, .int 0), (4, .int (nI c)), (3, .int (mbF κ n x c)), (0, rf V 0), (1, .int x), (2, .int q)] []
        refine WS.iconst (v := 1) hx dX11_fewest_63 (by decide) ?_
        refine WS.goto (tgt := 68) hx dX11_fewest_64 (by decide) ?_
        refine WS.istore (lo' := [(6, .int 1), (5, .int 0), (4, .int (nI c)), (3, .int (mbF κ n x c)), (0, rf V 0), (1, .int x), (2, .int q)]) hx dX11_fewest_68 (by decide) rfl ?_
        refine WS.iconst (v := 0) hx dX11_fewest_70 (by decide) ?_
        refine WS.istore (lo' := [(7, .int 0), (6, .int 1), (5, .int 0), (4, .int (nI c)), (3, .int (mbF κ n x c)), (0, rf V 0), (1, .int x), (2, .int q)]) hx dX11_fewest_71 (by decide) rfl ?_
        refine WS.los [0, 1, 2, 3, 4, 5, 6, 7] rfl (li_X11_fewest V d τ κ n hM9 lw hT c true _ x q X hx ?_ 0 (Nat.zero_le _))
        have hz : true = true ↔ (fwF κ n x c = -2 ∨ bcF (nI c) < bcF (fwF κ n x c)) := ⟨fun _ => zb.mp (Or.inl c48), fun _ => rfl⟩
        exact ho true hz
      · skip
        show WS layM V 8 X τ 51 [(5, .int 0), (4, .int (nI c)), (3, .int (mbF κ n x c)), (0, rf V 0), (1, .int x), (2, .int q)] []
        refine WS.iload hx dX11_fewest_51 1 rfl ?_
        refine WS.callSi (st := []) [.int (nI c)] hx (c_X11_bitsOf V d τ (nI c)) okX11_bitsOf lm11_248 rfl rfl (Nat.le_of_ble_eq_true rfl) dX11_fewest_53 (fun v4 σ5 h6 => ?_)
        obtain ⟨rfl, rfl⟩ := h6
        show WS layM V 8 X τ 56 [(5, .int 0), (4, .int (nI c)), (3, .int (mbF κ n x c)), (0, rf V 0), (1, .int x), (2, .int q)] [.int (btM (nI c) 16)]
        refine WS.iload_n hx dX11_fewest_56 rfl 2 rfl ?_
        refine WS.callSi (st := [.int (btM (nI c) 16)]) [.int (mbF κ n x c)] hx (c_X11_bitsOf V d τ (mbF κ n x c)) okX11_bitsOf lm11_248 rfl rfl (Nat.le_of_ble_eq_true rfl) dX11_fewest_57 (fun v7 σ8 h9 => ?_)
        obtain ⟨rfl, rfl⟩ := h9
        show WS layM V 8 X τ 60 [(5, .int 0), (4, .int (nI c)), (3, .int (mbF κ n x c)), (0, rf V 0), (1, .int x), (2, .int q)] [.int (btM (mbF κ n x c) 16), .int (btM (nI c) 16)]
        refine WS.icmp_ge (tgt := 67) hx dX11_fewest_60 (by decide) (fun c60 => ?_) (fun c60 => ?_)
        · skip
          show WS layM V 8 X τ 67 [(5, .int 0), (4, .int (nI c)), (3, .int (mbF κ n x c)), (0, rf V 0), (1, .int x), (2, .int q)] []
          refine WS.iconst (v := 0) hx dX11_fewest_67 (by decide) ?_
          refine WS.istore (lo' := [(6, .int 0), (5, .int 0), (4, .int (nI c)), (3, .int (mbF κ n x c)), (0, rf V 0), (1, .int x), (2, .int q)]) hx dX11_fewest_68 (by decide) rfl ?_
          refine WS.iconst (v := 0) hx dX11_fewest_70 (by decide) ?_
          refine WS.istore (lo' := [(7, .int 0), (6, .int 0), (5, .int 0), (4, .int (nI c)), (3, .int (mbF κ n x c)), (0, rf V 0), (1, .int x), (2, .int q)]) hx dX11_fewest_71 (by decide) rfl ?_
          refine WS.los [0, 1, 2, 3, 4, 5, 6, 7] rfl (li_X11_fewest V d τ κ n hM9 lw hT c false _ x q X hx ?_ 0 (Nat.zero_le _))
          have hz : false = true ↔ (fwF κ n x c = -2 ∨ bcF (nI c) < bcF (fwF κ n x c)) := ⟨fun h => absurd h (by decide), fun h => by rcases zb.mpr h with g | g; exact absurd g c48; rw [i_lt] at g; rw [i_le] at c60; omega⟩
          exact ho false hz
        · skip
          show WS layM V 8 X τ 63 [(5, .int 0), (4, .int (nI c)), (3, .int (mbF κ n x c)), (0, rf V 0), (1, .int x), (2, .int q)] []
          refine WS.iconst (v := 1) hx dX11_fewest_63 (by decide) ?_
          refine WS.goto (tgt := 68) hx dX11_fewest_64 (by decide) ?_
          refine WS.istore (lo' := [(6, .int 1), (5, .int 0), (4, .int (nI c)), (3, .int (mbF κ n x c)), (0, rf V 0), (1, .int x), (2, .int q)]) hx dX11_fewest_68 (by decide) rfl ?_
          refine WS.iconst (v := 0) hx dX11_fewest_70 (by decide) ?_
          refine WS.istore (lo' := [(7, .int 0), (6, .int 1), (5, .int 0), (4, .int (nI c)), (3, .int (mbF κ n x c)), (0, rf V 0), (1, .int x), (2, .int q)]) hx dX11_fewest_71 (by decide) rfl ?_
          refine WS.los [0, 1, 2, 3, 4, 5, 6, 7] rfl (li_X11_fewest V d τ κ n hM9 lw hT c true _ x q X hx ?_ 0 (Nat.zero_le _))
          have hz : true = true ↔ (fwF κ n x c = -2 ∨ bcF (nI c) < bcF (fwF κ n x c)) := ⟨fun _ => zb.mp (Or.inr (by rw [i_lt]; rw [i_le] at c60; omega)), fun _ => rfl⟩
          exact ho true hz
set_option maxHeartbeats 1000000 in
theorem c_X11_fewest (V : Vt) (d : Nat) (σ : Sg) (κ : Sg) (n : Nat) (hM : MR κ σ n) (lw : Lw) (x q : Int32) : CT layM V mX11_fewest (d + 1) [rf V 0, .int x, .int q] σ (Ri fun v σ' => if ¬ (0 ≤ x.toInt ∧ x.toInt ≤ 1023 ∧ 0 ≤ q.toInt ∧ q.toInt ≤ 1) then v = -1 ∧ ME σ σ' else (if (fwF κ n x (2 ^ n)).toInt < 0 then v = -2 ∧ ME σ σ' else (if q.toInt = 0 then v = bcF (fwF κ n x (2 ^ n)) ∧ ME σ σ' else (v = fwF κ n x (2 ^ n) ∧ ME σ σ')))) := by
  refine CT.of (own := RX11) rfl (by decide) (Nat.le_of_ble_eq_true rfl) (fun X (hx : Ok V RX11 cX11_fewest 8 (d + 1) X) (he : En layM V (some .int) (Ri fun v σ' => if ¬ (0 ≤ x.toInt ∧ x.toInt ≤ 1023 ∧ 0 ≤ q.toInt ∧ q.toInt ≤ 1) then v = -1 ∧ ME σ σ' else (if (fwF κ n x (2 ^ n)).toInt < 0 then v = -2 ∧ ME σ σ' else (if q.toInt = 0 then v = bcF (fwF κ n x (2 ^ n)) ∧ ME σ σ' else (v = fwF κ n x (2 ^ n) ∧ ME σ σ')))) X) => ?_)
  change WS layM V 8 X σ 0 [(0, rf V 0), (1, .int x), (2, .int q)] []
  have hn := hM.n
  have hs := hM.s
  refine WS.iload_n hx dX11_fewest_0 rfl 1 rfl ?_
  refine WS.i2l hx dX11_fewest_1 ?_
  refine WS.lconst (v := 0) hx dX11_fewest_2 rfl ?_
  refine WS.ldc2 (v := 1023) hx lc11_259 dX11_fewest_3 ?_
  refine WS.callSi (st := []) [.long (Int32.toInt64 x), .long 0, .long 1023] hx (c_X11_within V d σ (Int32.toInt64 x) 0 1023) okX11_within lm11_100 rfl rfl (Nat.le_of_ble_eq_true rfl) dX11_fewest_6 (fun v1 σ2 h3 => ?_)
  rcases h3 with ⟨rfl, rfl, hb6⟩ | ⟨rfl, rfl, hb6⟩
  · skip
    show WS layM V 8 X σ 9 [(0, rf V 0), (1, .int x), (2, .int q)] [.int 1]
    refine WS.if_eq (tgt := 22) hx dX11_fewest_9 (by decide) (fun h => absurd h (by decide)) (fun _ => ?_)
    refine WS.iload_n hx dX11_fewest_12 rfl 2 rfl ?_
    refine WS.i2l hx dX11_fewest_13 ?_
    refine WS.lconst (v := 0) hx dX11_fewest_14 rfl ?_
    refine WS.lconst (v := 1) hx dX11_fewest_15 rfl ?_
    refine WS.callSi (st := []) [.long (Int32.toInt64 q), .long 0, .long 1] hx (c_X11_within V d σ (Int32.toInt64 q) 0 1) okX11_within lm11_100 rfl rfl (Nat.le_of_ble_eq_true rfl) dX11_fewest_16 (fun v4 σ5 h6 => ?_)
    rcases h6 with ⟨rfl, rfl, hb16⟩ | ⟨rfl, rfl, hb16⟩
    · skip
      show WS layM V 8 X σ 19 [(0, rf V 0), (1, .int x), (2, .int q)] [.int 1]
      refine WS.if_ne (tgt := 24) hx dX11_fewest_19 (by decide) (fun _ => ?_) (fun h => absurd h (by decide))
      refine WS.aload_n hx dX11_fewest_24 rfl 0 rfl ?_
      refine WS.callVv (st := []) [] hx (c_X11_begins V d σ κ n lw hM) okX11_begins lm11_231 rfl rfl rfl rfl (Nat.le_of_ble_eq_true rfl) dX11_fewest_25 (fun σ8 h9 => ?_)
      obtain ⟨me25, mt25⟩ := h9
      show WS layM V 8 X σ8 28 [(0, rf V 0), (1, .int x), (2, .int q)] []
      refine WS.iconst (v := (-1)) hx dX11_fewest_28 (by decide) ?_
      refine WS.istore_n (lo' := [(3, .int (-1)), (0, rf V 0), (1, .int x), (2, .int q)]) hx dX11_fewest_29 rfl (by decide) rfl ?_
      refine WS.iconst (v := 0) hx dX11_fewest_30 (by decide) ?_
      refine WS.istore (lo' := [(4, .int 0), (3, .int (-1)), (0, rf V 0), (1, .int x), (2, .int q)]) hx dX11_fewest_31 (by decide) rfl ?_
      refine WS.los [0, 1, 2, 3, 4] rfl (lp_X11_fewest V d σ κ n hM lw x q _ X hx he (fun τ h9 v hv => ?_) 0 _ (Nat.zero_le _) me25 mt25)
      (try dsimp only)
      rw [if_neg (by (try simp only [l_int, tL_0, tL_1, tL_2, tL_4, tL_5, tL_6, tL_7, tL_9, tL_10, tL_12, tL_15, tL_30, tL_40, tL_60, tL_99, tL_255, tL_1023, tL_m1, lc_lt, lc_gt, lc_ge, lc_le, lc_eq, l6_le, l6_lt, l6_eq, tI_m133, tI_m226, i_le, i_lt, i_eq, tI_m2, tI_m1, tI_0, tI_1] at hb6); (try simp only [l_int, tL_0, tL_1, tL_2, tL_4, tL_5, tL_6, tL_7, tL_9, tL_10, tL_12, tL_15, tL_30, tL_40, tL_60, tL_99, tL_255, tL_1023, tL_m1, lc_lt, lc_gt, lc_ge, lc_le, lc_eq, l6_le, l6_lt, l6_eq, tI_m133, tI_m226, i_le, i_lt, i_eq, tI_m2, tI_m1, tI_0, tI_1] at hb16); omega), hv]
      (repeat' split) <;> exact ⟨rfl, h9⟩
    · skip
      show WS layM V 8 X σ 19 [(0, rf V 0), (1, .int x), (2, .int q)] [.int 0]
      refine WS.if_ne (tgt := 24) hx dX11_fewest_19 (by decide) (fun h => absurd (by decide) h) (fun _ => ?_)
      refine WS.iconst (v := (-1)) hx dX11_fewest_22 (by decide) ?_
      exact WS.iret hx he dX11_fewest_23 ⟨_, rfl, by (try dsimp only); rw [if_pos (fun h => by (try simp only [l_int, tL_0, tL_1, tL_2, tL_4, tL_5, tL_6, tL_7, tL_9, tL_10, tL_12, tL_15, tL_30, tL_40, tL_60, tL_99, tL_255, tL_1023, tL_m1, lc_lt, lc_gt, lc_ge, lc_le, lc_eq, l6_le, l6_lt, l6_eq, tI_m133, tI_m226, i_le, i_lt, i_eq, tI_m2, tI_m1, tI_0, tI_1] at hb6); (try simp only [l_int, tL_0, tL_1, tL_2, tL_4, tL_5, tL_6, tL_7, tL_9, tL_10, tL_12, tL_15, tL_30, tL_40, tL_60, tL_99, tL_255, tL_1023, tL_m1, lc_lt, lc_gt, lc_ge, lc_le, lc_eq, l6_le, l6_lt, l6_eq, tI_m133, tI_m226, i_le, i_lt, i_eq, tI_m2, tI_m1, tI_0, tI_1] at hb16); (try simp only [l_int, tL_0, tL_1, tL_2, tL_4, tL_5, tL_6, tL_7, tL_9, tL_10, tL_12, tL_15, tL_30, tL_40, tL_60, tL_99, tL_255, tL_1023, tL_m1, lc_lt, lc_gt, lc_ge, lc_le, lc_eq, l6_le, l6_lt, l6_eq, tI_m133, tI_m226, i_le, i_lt, i_eq, tI_m2, tI_m1, tI_0, tI_1]); omega)]; exact ⟨rfl, ME.rf⟩⟩
  · skip
    show WS layM V 8 X σ 9 [(0, rf V 0), (1, .int x), (2, .int q)] [.int 0]
    refine WS.if_eq (tgt := 22) hx dX11_fewest_9 (by decide) (fun _ => ?_) (fun h => absurd (by decide) h)
    refine WS.iconst (v := (-1)) hx dX11_fewest_22 (by decide) ?_
    exact WS.iret hx he dX11_fewest_23 ⟨_, rfl, by (try dsimp only); rw [if_pos (fun h => by (try simp only [l_int, tL_0, tL_1, tL_2, tL_4, tL_5, tL_6, tL_7, tL_9, tL_10, tL_12, tL_15, tL_30, tL_40, tL_60, tL_99, tL_255, tL_1023, tL_m1, lc_lt, lc_gt, lc_ge, lc_le, lc_eq, l6_le, l6_lt, l6_eq, tI_m133, tI_m226, i_le, i_lt, i_eq, tI_m2, tI_m1, tI_0, tI_1] at hb6); (try simp only [l_int, tL_0, tL_1, tL_2, tL_4, tL_5, tL_6, tL_7, tL_9, tL_10, tL_12, tL_15, tL_30, tL_40, tL_60, tL_99, tL_255, tL_1023, tL_m1, lc_lt, lc_gt, lc_ge, lc_le, lc_eq, l6_le, l6_lt, l6_eq, tI_m133, tI_m226, i_le, i_lt, i_eq, tI_m2, tI_m1, tI_0, tI_1]); omega)]; exact ⟨rfl, ME.rf⟩⟩

theorem lM_c {k : Nat} (h : k < 2 ^ 31) : (lN k).toInt = (k : Int) := by
  rw [← nI_l h, l_int, nI_c (by omega)]
theorem lM_eq {a b : Nat} (ha : a < 2 ^ 31) (hb : b < 2 ^ 31) : lN a = lN b ↔ a = b := by
  rw [l6_eq, lM_c ha, lM_c hb]; omega
theorem lM_add (a b : Nat) : lN a + lN b = lN (a + b) := (Int64.ofNat_add a b).symm
theorem lM_mul (a b : Nat) : lN a * lN b = lN (a * b) := (Int64.ofNat_mul a b).symm
theorem lM_sub {a b : Nat} (h : b ≤ a) : lN a - lN b = lN (a - b) := by
  have h1 := lM_add (a - b) b
  rw [show a - b + b = a by omega] at h1
  rw [← h1, Int64.add_sub_cancel]
theorem lM_div {a b : Nat} (ha : a < 2 ^ 31) (h0 : 0 < b) (hb : b < 2 ^ 31) : lN a / lN b = lN (a / b) := by
  rw [l6_eq, lM_c (Nat.lt_of_le_of_lt (Nat.div_le_self _ _) ha), Int64.toInt_div_of_ne_right (lN a) (lN b) (fun e => by rw [l6_eq, lM_c hb, tL_m1] at e; omega), lM_c ha, lM_c hb, Int.tdiv_eq_ediv_of_nonneg (by omega)]
  rfl
theorem lM_rem {a b : Nat} (ha : a < 2 ^ 31) (h0 : 0 < b) (hb : b < 2 ^ 31) : lN a - lN a / lN b * lN b = lN (a % b) := by
  rw [lM_div ha h0 hb, lM_mul, lM_sub (Nat.div_mul_le_self a b)]
  congr 1
  have := Nat.div_add_mod a b
  rw [Nat.mul_comm] at this
  omega
theorem gcd_st (x y : Nat) : Nat.gcd y (x % y) = Nat.gcd x y := by
  rw [Nat.gcd_comm x y, Nat.gcd_rec y x, Nat.gcd_comm]
theorem cdL_d {A B : Nat} : ∀ m, cdL A B m ∣ A ∧ cdL A B m ∣ B ∧ ∀ e, 1 ≤ e → e ≤ m + 1 → e ∣ A → e ∣ B → e ≤ cdL A B m
  | 0 => ⟨Nat.one_dvd _, Nat.one_dvd _, fun e _ h _ _ => h⟩
  | k + 1 => by
    unfold cdL
    by_cases h : A % (k + 2) = 0 ∧ B % (k + 2) = 0
    · rw [if_pos h]
      exact ⟨Nat.dvd_of_mod_eq_zero h.1, Nat.dvd_of_mod_eq_zero h.2, fun e _ h _ _ => h⟩
    · rw [if_neg h]
      obtain ⟨h1, h2, h3⟩ := cdL_d (A := A) (B := B) k
      refine ⟨h1, h2, fun e g1 g2 g3 g4 => ?_⟩
      by_cases e9 : e = k + 2
      · subst e9; exact absurd ⟨Nat.mod_eq_zero_of_dvd g3, Nat.mod_eq_zero_of_dvd g4⟩ h
      · exact h3 e g1 (by omega) g3 g4
theorem cdL_g {A B : Nat} (hA : 0 < A) (hB : 0 < B) : cdL A B (min A B - 1) = Nat.gcd A B := by
  obtain ⟨h1, h2, h3⟩ := cdL_d (A := A) (B := B) (min A B - 1)
  have g0 := Nat.gcd_pos_of_pos_left B hA
  have g1 := Nat.le_of_dvd hA (Nat.gcd_dvd_left A B)
  have g2 := Nat.le_of_dvd hB (Nat.gcd_dvd_right A B)
  have a1 := h3 (Nat.gcd A B) g0 (by omega) (Nat.gcd_dvd_left A B) (Nat.gcd_dvd_right A B)
  have a2 := Nat.le_of_dvd g0 (Nat.dvd_gcd h1 h2)
  omega
def pV (A B : Nat) (q : Int32) : Int64 := if A = 0 then q.toInt64 else lN ((if q.toInt = 0 then A else B) / Nat.gcd A B)
theorem chV_pV {A B : Nat} {q : Int32} (hA : A < 2 ^ 31) (hB : B < 2 ^ 31) (h : 0 < A → 0 < B) : chV A B q = pV A B q := by
  unfold chV pV
  by_cases e : A = 0
  · rw [if_pos e, if_pos e]
  · rw [if_neg e, if_neg e, cdL_g (by omega) (h (by omega)), nI_l]
    refine Nat.lt_of_le_of_lt (Nat.div_le_self _ _) ?_
    split <;> omega
set_option maxHeartbeats 1000000 in
theorem lp_X11_partOf (V : Vt) (d : Nat) (σ : Sg) (A B : Nat) (hA : A < 2 ^ 31) (hB : B < 2 ^ 31) (hA0 : ¬ A = 0) (q : Int32) (X : Xt) (hx : Ok V RX11 cX11_partOf 11 d X) (he : En layM V (some .long) (Rol (pV A B q) σ) X) : ∀ (y x : Nat), x < 2 ^ 31 → y < 2 ^ 31 → (0 < x ∨ 0 < y) → Nat.gcd x y = Nat.gcd A B → WS layM V 11 X σ 16 [(7, .long (lN y)), (5, .long (lN x)), (0, .long (lN A)), (2, .long (lN B)), (4, .int q)] [] := by
  intro y
  induction y using Nat.strongRecOn with
  | _ y ih =>
    intro x hx9 hy9 hp hg
    refine WS.lload hx dX11_partOf_16 0 rfl ?_
    refine WS.lconst (v := 0) hx dX11_partOf_18 rfl ?_
    refine WS.lcmp hx dX11_partOf_19 ?_
    refine WS.if_eq (tgt := 41) hx dX11_partOf_20 (by decide) (fun c20 => ?_) (fun c20 => ?_)
    · skip
      show WS layM V 11 X σ 41 [(7, .long (lN y)), (5, .long (lN x)), (0, .long (lN A)), (2, .long (lN B)), (4, .int q)] []
      refine WS.iload hx dX11_partOf_41 4 rfl ?_
      refine WS.if_ne (tgt := 53) hx dX11_partOf_43 (by decide) (fun c43 => ?_) (fun c43 => ?_)
      · skip
        show WS layM V 11 X σ 53 [(7, .long (lN y)), (5, .long (lN x)), (0, .long (lN A)), (2, .long (lN B)), (4, .int q)] []
        refine WS.lload_n hx dX11_partOf_53 rfl 3 rfl ?_
        refine WS.lload hx dX11_partOf_54 1 rfl ?_
        refine WS.ldiv hx dX11_partOf_56 (fun h => by
      have hy : y = 0 := (lM_eq (by omega) (by decide)).mp (l_e.mp c20)
      have hx0 : x = 0 := (lM_eq (by omega) (by decide)).mp h
      omega) ?_
        exact WS.lret hx he dX11_partOf_57 ⟨_, rfl, by
      have hy : y = 0 := (lM_eq (by omega) (by decide)).mp (l_e.mp c20)
      subst hy
      rw [Nat.gcd_zero_right] at hg
      show pV A B q = _
      unfold pV
      rw [if_neg hA0, if_neg (show ¬ q.toInt = 0 from fun h => c43 (i_eq.mpr h)), ← hg]
      refine (lM_div (by omega) (by omega) (by omega)).symm, rfl⟩
      · skip
        show WS layM V 11 X σ 46 [(7, .long (lN y)), (5, .long (lN x)), (0, .long (lN A)), (2, .long (lN B)), (4, .int q)] []
        refine WS.lload_n hx dX11_partOf_46 rfl 2 rfl ?_
        refine WS.lload hx dX11_partOf_47 1 rfl ?_
        refine WS.ldiv hx dX11_partOf_49 (fun h => by
      have hy : y = 0 := (lM_eq (by omega) (by decide)).mp (l_e.mp c20)
      have hx0 : x = 0 := (lM_eq (by omega) (by decide)).mp h
      omega) ?_
        refine WS.goto (tgt := 57) hx dX11_partOf_50 (by decide) ?_
        exact WS.lret hx he dX11_partOf_57 ⟨_, rfl, by
      have hy : y = 0 := (lM_eq (by omega) (by decide)).mp (l_e.mp c20)
      subst hy
      rw [Nat.gcd_zero_right] at hg
      show pV A B q = _
      unfold pV
      rw [if_neg hA0, if_pos (by rw [c43]; rfl), ← hg]
      refine (lM_div (by omega) (by omega) (by omega)).symm, rfl⟩
    · skip
      show WS layM V 11 X σ 23 [(7, .long (lN y)), (5, .long (lN x)), (0, .long (lN A)), (2, .long (lN B)), (4, .int q)] []
      have hy0 : 0 < y := Nat.pos_of_ne_zero (fun h => c20 (l_e.mpr (by rw [h]; rfl)))
      refine WS.lload hx dX11_partOf_23 1 rfl ?_
      refine WS.lload hx dX11_partOf_25 0 rfl ?_
      refine WS.lrem hx dX11_partOf_27 (fun h => by
      have h9 : (lN y) = 0 := h
      exact c20 (l_e.mpr h9)) ?_
      refine WS.as rfl rfl (congrArg (fun z => Value.long z :: _) (show (lN x) - (lN x) / (lN y) * (lN y) = lN (x % y) from lM_rem hx9 hy0 hy9)) ?_
      skip
      refine WS.lstore (lo' := [(9, .long (lN (x % y))), (7, .long (lN y)), (5, .long (lN x)), (0, .long (lN A)), (2, .long (lN B)), (4, .int q)]) hx dX11_partOf_28 (by decide) rfl ?_
      refine WS.lload hx dX11_partOf_30 1 rfl ?_
      refine WS.lstore (lo' := [(5, .long (lN y)), (9, .long (lN (x % y))), (7, .long (lN y)), (0, .long (lN A)), (2, .long (lN B)), (4, .int q)]) hx dX11_partOf_32 (by decide) rfl ?_
      refine WS.lload hx dX11_partOf_34 1 rfl ?_
      refine WS.lstore (lo' := [(7, .long (lN (x % y))), (5, .long (lN y)), (9, .long (lN (x % y))), (0, .long (lN A)), (2, .long (lN B)), (4, .int q)]) hx dX11_partOf_36 (by decide) rfl ?_
      refine WS.goto (tgt := 16) hx dX11_partOf_38 (by decide) ?_
      exact WS.los [0, 1, 3, 4, 5] rfl (ih (x % y) (Nat.mod_lt _ hy0) y hy9 (Nat.lt_trans (Nat.mod_lt _ hy0) hy9) (Or.inl hy0) (by rw [gcd_st]; exact hg))
set_option maxHeartbeats 1000000 in
theorem c_X11_partOf (V : Vt) (d : Nat) (σ : Sg) (A B : Nat) (hA : A < 2 ^ 31) (hB : B < 2 ^ 31) (q : Int32) : CT layM V mX11_partOf (d) [.long (lN A), .long (lN B), .int q] σ (Rol (pV A B q) σ) := by
  refine CT.of (own := RX11) rfl (by decide) (Nat.le_of_ble_eq_true rfl) (fun X (hx : Ok V RX11 cX11_partOf 11 (d) X) (he : En layM V (some .long) (Rol (pV A B q) σ) X) => ?_)
  change WS layM V 11 X σ 0 [(0, .long (lN A)), (2, .long (lN B)), (4, .int q)] []
  refine WS.lload_n hx dX11_partOf_0 rfl 0 rfl ?_
  refine WS.lconst (v := 0) hx dX11_partOf_1 rfl ?_
  refine WS.lcmp hx dX11_partOf_2 ?_
  refine WS.if_ne (tgt := 10) hx dX11_partOf_3 (by decide) (fun c3 => ?_) (fun c3 => ?_)
  · skip
    show WS layM V 11 X σ 10 [(0, .long (lN A)), (2, .long (lN B)), (4, .int q)] []
    have hA0 : ¬ A = 0 := fun h => c3 (l_e.mpr (by rw [h]; rfl))
    refine WS.lload_n hx dX11_partOf_10 rfl 0 rfl ?_
    refine WS.lstore (lo' := [(5, .long (lN A)), (0, .long (lN A)), (2, .long (lN B)), (4, .int q)]) hx dX11_partOf_11 (by decide) rfl ?_
    refine WS.lload_n hx dX11_partOf_13 rfl 2 rfl ?_
    refine WS.lstore (lo' := [(7, .long (lN B)), (5, .long (lN A)), (0, .long (lN A)), (2, .long (lN B)), (4, .int q)]) hx dX11_partOf_14 (by decide) rfl ?_
    exact WS.los [0, 1, 2, 3, 4] rfl (lp_X11_partOf V d σ A B hA hB hA0 q X hx he B A hA hB (Or.inl (Nat.pos_of_ne_zero hA0)) rfl)
  · skip
    show WS layM V 11 X σ 6 [(0, .long (lN A)), (2, .long (lN B)), (4, .int q)] []
    refine WS.iload hx dX11_partOf_6 2 rfl ?_
    refine WS.i2l hx dX11_partOf_8 ?_
    exact WS.lret hx he dX11_partOf_9 ⟨_, rfl, by show pV A B q = _; unfold pV; rw [if_pos ((lM_eq hA (by decide)).mp (l_e.mp c3))], rfl⟩
def prI (κ : Sg) (k j : Nat) : Nat := cntB (fun o => decide ((¬ κ.1 14 k = 1) ∧ (¬ κ.1 14 o = 1) ∧ wn κ k = wn κ o)) j
def prC (κ : Sg) : Nat → Nat
  | 0 => 0
  | k + 1 => prC κ k + prI κ k k
theorem cntB_s (p : Nat → Bool) (k : Nat) : cntB p (k + 1) = cntB p k + (if p k = true then 1 else 0) := rfl
theorem cntB_f {p : Nat → Bool} : ∀ n, (∀ k, k < n → p k = false) → cntB p n = 0
  | 0, _ => rfl
  | n + 1, h => by rw [cntB_s, cntB_f n (fun k hk => h k (by omega)), h n (by omega)]; rfl
theorem cntB_cg {p q : Nat → Bool} : ∀ n, (∀ k, k < n → p k = q k) → cntB p n = cntB q n
  | 0, _ => rfl
  | n + 1, h => by rw [cntB_s, cntB_s, cntB_cg n (fun k hk => h k (by omega)), h n (by omega)]
theorem smN_cg {f g : Nat → Nat} : ∀ n, (∀ k, k < n → f k = g k) → smN f n = smN g n
  | 0, _ => rfl
  | n + 1, h => by show smN f n + f n = smN g n + g n; rw [smN_cg n (fun k hk => h k (by omega)), h n (by omega)]
theorem smN_1 {f g : Nat → Nat} {j x : Nat} : ∀ n, j < n → (∀ k, k < n → ¬ k = j → f k = g k) → f j = g j + x → smN f n = smN g n + x
  | 0, h, _, _ => absurd h (Nat.not_lt_zero j)
  | n + 1, h, h1, h2 => by
    show smN f n + f n = smN g n + g n + x
    by_cases e : j = n
    · subst e
      rw [smN_cg j (fun k hk => h1 k (by omega) (by omega)), h2]; omega
    · rw [smN_1 n (by omega) (fun k hk => h1 k (by omega)) h2, h1 n (by omega) (fun e2 => e e2.symm)]; omega
theorem pr2 (s : Nat) : (s + 1) * (s + 1 - 1) / 2 = s * (s - 1) / 2 + s := by
  cases s with
  | zero => rfl
  | succ s =>
    rw [show s + 1 + 1 - 1 = s + 1 by omega, show s + 1 - 1 = s by omega, show (s + 1 + 1) * (s + 1) = (s + 1) * s + (s + 1) * 2 from by rw [← Nat.mul_add, Nat.mul_comm], Nat.add_mul_div_right _ _ (by decide)]
/-- like pairs, word by word and pair by pair -/
theorem smN_0 {f : Nat → Nat} : ∀ N, (∀ k, f k = 0) → smN f N = 0
  | 0, _ => rfl
  | N + 1, h => by show smN f N + f N = 0; rw [smN_0 N h, h N]
def lpG (κ : Sg) (n N : Nat) : Nat := smN (fun w => cntB (fun b => decide (¬ κ.1 14 b = 1 ∧ wn κ b = nI w)) n * (cntB (fun b => decide (¬ κ.1 14 b = 1 ∧ wn κ b = nI w)) n - 1) / 2) N
theorem lp_pr {κ : Sg} {N : Nat} (hN : N < 2 ^ 31) : ∀ n, (∀ b, b < n → ∃ v, v < N ∧ wn κ b = nI v) → lpG κ n N = prC κ n
  | 0, _ => smN_0 N (fun k => by show 0 * (0 - 1) / 2 = 0; decide)
  | n + 1, h => by
    obtain ⟨v, hv, e⟩ := h n (by omega)
    have ih := lp_pr hN n (fun b hb => h b (by omega))
    show lpG κ (n + 1) N = prC κ n + prI κ n n
    rw [← ih]
    unfold lpG prI
    by_cases ho : κ.1 14 n = 1
    · rw [cntB_f n (fun k hk => decide_eq_false (fun g => g.1 ho)), Nat.add_zero]
      refine smN_cg N (fun k hk => ?_)
      (try dsimp only)
      rw [cntB_s, decide_eq_false (fun g => g.1 ho)]
      rfl
    · refine smN_1 N hv (fun k hk hne => ?_) ?_
      · (try dsimp only)
        rw [cntB_s, decide_eq_false (fun g => hne (by rw [e] at g; exact ((nI_eq (by omega) (by omega)).mp g.2).symm))]
        rfl
      · (try dsimp only)
        rw [cntB_s, decide_eq_true (show ¬ κ.1 14 n = 1 ∧ wn κ n = nI v from ⟨ho, e⟩), if_pos rfl, pr2, cntB_cg n (fun k hk => (?_ : decide (¬ κ.1 14 k = 1 ∧ wn κ k = nI v) = decide ((¬ κ.1 14 n = 1) ∧ (¬ κ.1 14 k = 1) ∧ wn κ n = wn κ k)))]
        rw [← e]
        by_cases g : ¬ κ.1 14 k = 1 ∧ wn κ k = wn κ n
        · rw [decide_eq_true g, decide_eq_true ⟨ho, g.1, g.2.symm⟩]
        · rw [decide_eq_false g, decide_eq_false (fun g2 => g ⟨g2.2.1, g2.2.2.symm⟩)]
theorem cnt_cl {κ : Sg} : ∀ n, (∀ b, b < n → κ.1 14 b = 0 ∨ κ.1 14 b = 1) → cntB (fun b => decide (¬ κ.1 14 b = 1)) n = n - cnt (κ.1 14) n ∧ cnt (κ.1 14) n ≤ n
  | 0, _ => ⟨rfl, Nat.le_refl _⟩
  | n + 1, h => by
    obtain ⟨h1, h2⟩ := cnt_cl n (fun b hb => h b (by omega))
    have e : cnt (κ.1 14) (n + 1) = cnt (κ.1 14) n + nn (κ.1 14 n) := rfl
    rw [cntB_s, h1, e]
    rcases h n (by omega) with g | g
    · rw [g, if_pos (decide_eq_true (by decide)), show nn 0 = 0 from by decide]; omega
    · rw [g, if_neg (by decide), show nn 1 = 1 from by decide]; omega
theorem cntB_mono {p q : Nat → Bool} : ∀ n, (∀ k, k < n → p k = true → q k = true) → cntB p n ≤ cntB q n
  | 0, _ => Nat.le_refl _
  | n + 1, h => by
    have := cntB_mono n (fun k hk => h k (by omega))
    rw [cntB_s, cntB_s]
    by_cases g : p n = true
    · rw [if_pos g, if_pos (h n (by omega) g)]; omega
    · rw [if_neg g]; omega
theorem prC_le {κ : Sg} : ∀ n, prC κ n ≤ cntB (fun b => decide (¬ κ.1 14 b = 1)) n * (cntB (fun b => decide (¬ κ.1 14 b = 1)) n - 1) / 2
  | 0 => Nat.zero_le _
  | n + 1 => by
    have ih := prC_le (κ := κ) n
    show prC κ n + prI κ n n ≤ _
    rw [cntB_s]
    by_cases ho : κ.1 14 n = 1
    · rw [if_neg (fun h => (show ¬ κ.1 14 n = 1 from of_decide_eq_true h) ho), Nat.add_zero]
      have : prI κ n n = 0 := cntB_f n (fun k hk => decide_eq_false (fun g => g.1 ho))
      omega
    · rw [if_pos (decide_eq_true ho), pr2]
      have : prI κ n n ≤ cntB (fun b => decide (¬ κ.1 14 b = 1)) n := cntB_mono n (fun k hk h => decide_eq_true (of_decide_eq_true h).2.1)
      omega
theorem syC_le {κ : Sg} {x : Int32} (n : Nat) : syC κ n x ≤ cntB (fun b => decide (¬ κ.1 14 b = 1)) n := cntB_mono n (fun k hk h => decide_eq_true (of_decide_eq_true h).1)
theorem prI_s {κ : Sg} {k j : Nat} : prI κ k (j + 1) = prI κ k j + (if (¬ κ.1 14 k = 1) ∧ (¬ κ.1 14 j = 1) ∧ wn κ k = wn κ j then 1 else 0) := by
  unfold prI
  rw [cntB_s]
  congr 1
  by_cases h : (¬ κ.1 14 k = 1) ∧ (¬ κ.1 14 j = 1) ∧ wn κ k = wn κ j
  · rw [if_pos h, if_pos (decide_eq_true h)]
  · rw [if_neg h, if_neg (fun g => h (of_decide_eq_true g))]
theorem syC_s {κ : Sg} {k : Nat} {x : Int32} : syC κ (k + 1) x = syC κ k x + (if ¬ κ.1 14 k = 1 ∧ wn κ k = x then 1 else 0) := by
  unfold syC
  rw [cntB_s]
  congr 1
  by_cases h : ¬ κ.1 14 k = 1 ∧ wn κ k = x
  · rw [if_pos h, if_pos (decide_eq_true h)]
  · rw [if_neg h, if_neg (fun g => h (of_decide_eq_true g))]
theorem bI_d {p : Prop} [Decidable p] : (bI (decide p) = 0 ↔ ¬ p) := by
  by_cases h : p
  · rw [decide_eq_true h]; exact ⟨fun g => absurd g (by decide), fun g => absurd h g⟩
  · rw [decide_eq_false h]; exact ⟨fun _ => h, fun _ => rfl⟩
set_option maxHeartbeats 1000000 in
theorem li_X11_chance (V : Vt) (d : Nat) (τ κ : Sg) (n : Nat) (hM : MR κ τ n) (lw : Lw) (hT : MT τ n (ms0 (wdM κ n lw))) (i : Nat) (hin : i < n) (A : Nat) (x q : Int32) (X : Xt) (hx : Ok V RX11 cX11_chance 9 (d + 1) X) (hC : WS layM V 9 X τ 40 [(7, .int (nI (i + 1))), (5, .long (lN (prC κ (i + 1)))), (3, .long (lN A)), (0, rf V 0), (1, .int x), (2, .int q)] []) : ∀ (j : Nat), j ≤ i → WS layM V 9 X τ 80 [(8, .int (nI j)), (7, .int (nI i)), (5, .long (lN (prC κ i + prI κ i j))), (3, .long (lN A)), (0, rf V 0), (1, .int x), (2, .int q)] [] := by
  have hn := hM.n
  intro j
  induction hm : i - j using Nat.strongRecOn generalizing j with
  | _ m9 ih =>
    intro hj
    have hiI : (nI i).toInt = (i : Int) := nI_c (by omega)
    have hjI : (nI j).toInt = (j : Int) := nI_c (by omega)
    refine WS.iload hx dX11_chance_80 0 rfl ?_
    refine WS.iload hx dX11_chance_82 1 rfl ?_
    refine WS.icmp_ge (tgt := 138) hx dX11_chance_84 (by decide) (fun c84 => ?_) (fun c84 => ?_)
    · skip
      show WS layM V 9 X τ 138 [(8, .int (nI j)), (7, .int (nI i)), (5, .long (lN (prC κ i + prI κ i j))), (3, .long (lN A)), (0, rf V 0), (1, .int x), (2, .int q)] []
      refine WS.iinc (v := nI (i + 1)) (lo' := [(7, .int (nI (i + 1))), (8, .int (nI j)), (5, .long (lN (prC κ i + prI κ i j))), (3, .long (lN A)), (0, rf V 0), (1, .int x), (2, .int q)]) hx dX11_chance_138 1 rfl (nI_1 i) (by decide) rfl ?_
      refine WS.goto (tgt := 40) hx dX11_chance_141 (by decide) ?_
      have hji : j = i := by (try simp only [l_int, tL_0, tL_1, tL_2, tL_4, tL_5, tL_6, tL_7, tL_9, tL_10, tL_12, tL_15, tL_30, tL_40, tL_60, tL_99, tL_255, tL_1023, tL_m1, lc_lt, lc_gt, lc_ge, lc_le, lc_eq, l6_le, l6_lt, l6_eq, tI_m133, tI_m226, i_le, i_lt, i_eq, tI_0, tI_1] at c84); (try simp only [l_int, tL_0, tL_1, tL_2, tL_4, tL_5, tL_6, tL_7, tL_9, tL_10, tL_12, tL_15, tL_30, tL_40, tL_60, tL_99, tL_255, tL_1023, tL_m1, lc_lt, lc_gt, lc_ge, lc_le, lc_eq, l6_le, l6_lt, l6_eq, tI_m133, tI_m226, i_le, i_lt, i_eq, tI_0, tI_1]); omega
      subst hji
      exact WS.los [0, 2, 3, 4, 5, 6] rfl hC
    · skip
      show WS layM V 9 X τ 87 [(8, .int (nI j)), (7, .int (nI i)), (5, .long (lN (prC κ i + prI κ i j))), (3, .long (lN A)), (0, rf V 0), (1, .int x), (2, .int q)] []
      refine WS.lload hx dX11_chance_87 2 rfl ?_
      refine WS.aload_n hx dX11_chance_89 rfl 4 rfl ?_
      refine WS.getR hx okX11 lf11_52 rfl rfl dX11_chance_90 ?_
      refine WS.iload hx dX11_chance_93 1 rfl ?_
      refine WS.zald hx rfl (vp_in_nI (by (try simp only [l_int, tL_0, tL_1, tL_2, tL_4, tL_5, tL_6, tL_7, tL_9, tL_10, tL_12, tL_15, tL_30, tL_40, tL_60, tL_99, tL_255, tL_1023, tL_m1, lc_lt, lc_gt, lc_ge, lc_le, lc_eq, l6_le, l6_lt, l6_eq, tI_m133, tI_m226, i_le, i_lt, i_eq, tI_0, tI_1] at c84); (try simp only [l_int, tL_0, tL_1, tL_2, tL_4, tL_5, tL_6, tL_7, tL_9, tL_10, tL_12, tL_15, tL_30, tL_40, tL_60, tL_99, tL_255, tL_1023, tL_m1, lc_lt, lc_gt, lc_ge, lc_le, lc_eq, l6_le, l6_lt, l6_eq, tI_m133, tI_m226, i_le, i_lt, i_eq, tI_0, tI_1]); omega) (by decide)) dX11_chance_95 ?_
      refine WS.as rfl rfl (congrArg (fun z => Value.int z :: _) (show τ.1 15 (nn (nI i)) = bI (decide (κ.1 14 i = 1)) from by rw [nn_nI (by omega)]; exact (hT.1 i (by (try simp only [l_int, tL_0, tL_1, tL_2, tL_4, tL_5, tL_6, tL_7, tL_9, tL_10, tL_12, tL_15, tL_30, tL_40, tL_60, tL_99, tL_255, tL_1023, tL_m1, lc_lt, lc_gt, lc_ge, lc_le, lc_eq, l6_le, l6_lt, l6_eq, tI_m133, tI_m226, i_le, i_lt, i_eq, tI_0, tI_1] at c84); (try simp only [l_int, tL_0, tL_1, tL_2, tL_4, tL_5, tL_6, tL_7, tL_9, tL_10, tL_12, tL_15, tL_30, tL_40, tL_60, tL_99, tL_255, tL_1023, tL_m1, lc_lt, lc_gt, lc_ge, lc_le, lc_eq, l6_le, l6_lt, l6_eq, tI_m133, tI_m226, i_le, i_lt, i_eq, tI_0, tI_1]); omega)).2.2)) ?_
      skip
      refine WS.if_ne (tgt := 128) hx dX11_chance_96 (by decide) (fun c96 => ?_) (fun c96 => ?_)
      · skip
        show WS layM V 9 X τ 128 [(8, .int (nI j)), (7, .int (nI i)), (5, .long (lN (prC κ i + prI κ i j))), (3, .long (lN A)), (0, rf V 0), (1, .int x), (2, .int q)] [.long (lN (prC κ i + prI κ i j))]
        refine WS.lconst (v := 0) hx dX11_chance_128 rfl ?_
        refine WS.ladd hx dX11_chance_129 ?_
        refine WS.as rfl rfl (congrArg (fun z => Value.long z :: _) (show (lN (prC κ i + prI κ i j)) + 0 = lN (prC κ i + prI κ i (j + 1)) from by
    rw [prI_s]
    first | (rw [if_pos ⟨bI_d.mp c96, bI_d.mp c106, c121⟩]; exact lM_add _ 1) | (rw [if_neg (fun h => c96 (bI_d.mpr h.1))]; exact lM_add _ 0) | (rw [if_neg (fun h => c106 (bI_d.mpr h.2.1))]; exact lM_add _ 0) | (rw [if_neg (fun h => c121 h.2.2)]; exact lM_add _ 0))) ?_
        skip
        refine WS.lstore (lo' := [(5, .long (lN (prC κ i + prI κ i (j + 1)))), (8, .int (nI j)), (7, .int (nI i)), (3, .long (lN A)), (0, rf V 0), (1, .int x), (2, .int q)]) hx dX11_chance_130 (by decide) rfl ?_
        refine WS.iinc (v := nI (j + 1)) (lo' := [(8, .int (nI (j + 1))), (5, .long (lN (prC κ i + prI κ i (j + 1)))), (7, .int (nI i)), (3, .long (lN A)), (0, rf V 0), (1, .int x), (2, .int q)]) hx dX11_chance_132 1 rfl (nI_1 j) (by decide) rfl ?_
        refine WS.goto (tgt := 80) hx dX11_chance_135 (by decide) ?_
        exact WS.los [0, 2, 1, 3, 4, 5, 6] rfl (ih _ (by (try simp only [l_int, tL_0, tL_1, tL_2, tL_4, tL_5, tL_6, tL_7, tL_9, tL_10, tL_12, tL_15, tL_30, tL_40, tL_60, tL_99, tL_255, tL_1023, tL_m1, lc_lt, lc_gt, lc_ge, lc_le, lc_eq, l6_le, l6_lt, l6_eq, tI_m133, tI_m226, i_le, i_lt, i_eq, tI_0, tI_1] at c84); (try simp only [l_int, tL_0, tL_1, tL_2, tL_4, tL_5, tL_6, tL_7, tL_9, tL_10, tL_12, tL_15, tL_30, tL_40, tL_60, tL_99, tL_255, tL_1023, tL_m1, lc_lt, lc_gt, lc_ge, lc_le, lc_eq, l6_le, l6_lt, l6_eq, tI_m133, tI_m226, i_le, i_lt, i_eq, tI_0, tI_1] at c96); (try simp only [l_int, tL_0, tL_1, tL_2, tL_4, tL_5, tL_6, tL_7, tL_9, tL_10, tL_12, tL_15, tL_30, tL_40, tL_60, tL_99, tL_255, tL_1023, tL_m1, lc_lt, lc_gt, lc_ge, lc_le, lc_eq, l6_le, l6_lt, l6_eq, tI_m133, tI_m226, i_le, i_lt, i_eq, tI_0, tI_1]); omega) (j + 1) rfl (by (try simp only [l_int, tL_0, tL_1, tL_2, tL_4, tL_5, tL_6, tL_7, tL_9, tL_10, tL_12, tL_15, tL_30, tL_40, tL_60, tL_99, tL_255, tL_1023, tL_m1, lc_lt, lc_gt, lc_ge, lc_le, lc_eq, l6_le, l6_lt, l6_eq, tI_m133, tI_m226, i_le, i_lt, i_eq, tI_0, tI_1] at c84); (try simp only [l_int, tL_0, tL_1, tL_2, tL_4, tL_5, tL_6, tL_7, tL_9, tL_10, tL_12, tL_15, tL_30, tL_40, tL_60, tL_99, tL_255, tL_1023, tL_m1, lc_lt, lc_gt, lc_ge, lc_le, lc_eq, l6_le, l6_lt, l6_eq, tI_m133, tI_m226, i_le, i_lt, i_eq, tI_0, tI_1] at c96); (try simp only [l_int, tL_0, tL_1, tL_2, tL_4, tL_5, tL_6, tL_7, tL_9, tL_10, tL_12, tL_15, tL_30, tL_40, tL_60, tL_99, tL_255, tL_1023, tL_m1, lc_lt, lc_gt, lc_ge, lc_le, lc_eq, l6_le, l6_lt, l6_eq, tI_m133, tI_m226, i_le, i_lt, i_eq, tI_0, tI_1]); omega))
      · skip
        show WS layM V 9 X τ 99 [(8, .int (nI j)), (7, .int (nI i)), (5, .long (lN (prC κ i + prI κ i j))), (3, .long (lN A)), (0, rf V 0), (1, .int x), (2, .int q)] [.long (lN (prC κ i + prI κ i j))]
        refine WS.aload_n hx dX11_chance_99 rfl 4 rfl ?_
        refine WS.getR hx okX11 lf11_52 rfl rfl dX11_chance_100 ?_
        refine WS.iload hx dX11_chance_103 0 rfl ?_
        refine WS.zald hx rfl (vp_in_nI (by (try simp only [l_int, tL_0, tL_1, tL_2, tL_4, tL_5, tL_6, tL_7, tL_9, tL_10, tL_12, tL_15, tL_30, tL_40, tL_60, tL_99, tL_255, tL_1023, tL_m1, lc_lt, lc_gt, lc_ge, lc_le, lc_eq, l6_le, l6_lt, l6_eq, tI_m133, tI_m226, i_le, i_lt, i_eq, tI_0, tI_1] at c84); (try simp only [l_int, tL_0, tL_1, tL_2, tL_4, tL_5, tL_6, tL_7, tL_9, tL_10, tL_12, tL_15, tL_30, tL_40, tL_60, tL_99, tL_255, tL_1023, tL_m1, lc_lt, lc_gt, lc_ge, lc_le, lc_eq, l6_le, l6_lt, l6_eq, tI_m133, tI_m226, i_le, i_lt, i_eq, tI_0, tI_1] at c96); (try simp only [l_int, tL_0, tL_1, tL_2, tL_4, tL_5, tL_6, tL_7, tL_9, tL_10, tL_12, tL_15, tL_30, tL_40, tL_60, tL_99, tL_255, tL_1023, tL_m1, lc_lt, lc_gt, lc_ge, lc_le, lc_eq, l6_le, l6_lt, l6_eq, tI_m133, tI_m226, i_le, i_lt, i_eq, tI_0, tI_1]); omega) (by decide)) dX11_chance_105 ?_
        refine WS.as rfl rfl (congrArg (fun z => Value.int z :: _) (show τ.1 15 (nn (nI j)) = bI (decide (κ.1 14 j = 1)) from by rw [nn_nI (by omega)]; exact (hT.1 j (by (try simp only [l_int, tL_0, tL_1, tL_2, tL_4, tL_5, tL_6, tL_7, tL_9, tL_10, tL_12, tL_15, tL_30, tL_40, tL_60, tL_99, tL_255, tL_1023, tL_m1, lc_lt, lc_gt, lc_ge, lc_le, lc_eq, l6_le, l6_lt, l6_eq, tI_m133, tI_m226, i_le, i_lt, i_eq, tI_0, tI_1] at c84); (try simp only [l_int, tL_0, tL_1, tL_2, tL_4, tL_5, tL_6, tL_7, tL_9, tL_10, tL_12, tL_15, tL_30, tL_40, tL_60, tL_99, tL_255, tL_1023, tL_m1, lc_lt, lc_gt, lc_ge, lc_le, lc_eq, l6_le, l6_lt, l6_eq, tI_m133, tI_m226, i_le, i_lt, i_eq, tI_0, tI_1] at c96); (try simp only [l_int, tL_0, tL_1, tL_2, tL_4, tL_5, tL_6, tL_7, tL_9, tL_10, tL_12, tL_15, tL_30, tL_40, tL_60, tL_99, tL_255, tL_1023, tL_m1, lc_lt, lc_gt, lc_ge, lc_le, lc_eq, l6_le, l6_lt, l6_eq, tI_m133, tI_m226, i_le, i_lt, i_eq, tI_0, tI_1]); omega)).2.2)) ?_
        skip
        refine WS.if_ne (tgt := 128) hx dX11_chance_106 (by decide) (fun c106 => ?_) (fun c106 => ?_)
        · skip
          show WS layM V 9 X τ 128 [(8, .int (nI j)), (7, .int (nI i)), (5, .long (lN (prC κ i + prI κ i j))), (3, .long (lN A)), (0, rf V 0), (1, .int x), (2, .int q)] [.long (lN (prC κ i + prI κ i j))]
          refine WS.lconst (v := 0) hx dX11_chance_128 rfl ?_
          refine WS.ladd hx dX11_chance_129 ?_
          refine WS.as rfl rfl (congrArg (fun z => Value.long z :: _) (show (lN (prC κ i + prI κ i j)) + 0 = lN (prC κ i + prI κ i (j + 1)) from by
    rw [prI_s]
    first | (rw [if_pos ⟨bI_d.mp c96, bI_d.mp c106, c121⟩]; exact lM_add _ 1) | (rw [if_neg (fun h => c96 (bI_d.mpr h.1))]; exact lM_add _ 0) | (rw [if_neg (fun h => c106 (bI_d.mpr h.2.1))]; exact lM_add _ 0) | (rw [if_neg (fun h => c121 h.2.2)]; exact lM_add _ 0))) ?_
          skip
          refine WS.lstore (lo' := [(5, .long (lN (prC κ i + prI κ i (j + 1)))), (8, .int (nI j)), (7, .int (nI i)), (3, .long (lN A)), (0, rf V 0), (1, .int x), (2, .int q)]) hx dX11_chance_130 (by decide) rfl ?_
          refine WS.iinc (v := nI (j + 1)) (lo' := [(8, .int (nI (j + 1))), (5, .long (lN (prC κ i + prI κ i (j + 1)))), (7, .int (nI i)), (3, .long (lN A)), (0, rf V 0), (1, .int x), (2, .int q)]) hx dX11_chance_132 1 rfl (nI_1 j) (by decide) rfl ?_
          refine WS.goto (tgt := 80) hx dX11_chance_135 (by decide) ?_
          exact WS.los [0, 2, 1, 3, 4, 5, 6] rfl (ih _ (by (try simp only [l_int, tL_0, tL_1, tL_2, tL_4, tL_5, tL_6, tL_7, tL_9, tL_10, tL_12, tL_15, tL_30, tL_40, tL_60, tL_99, tL_255, tL_1023, tL_m1, lc_lt, lc_gt, lc_ge, lc_le, lc_eq, l6_le, l6_lt, l6_eq, tI_m133, tI_m226, i_le, i_lt, i_eq, tI_0, tI_1] at c84); (try simp only [l_int, tL_0, tL_1, tL_2, tL_4, tL_5, tL_6, tL_7, tL_9, tL_10, tL_12, tL_15, tL_30, tL_40, tL_60, tL_99, tL_255, tL_1023, tL_m1, lc_lt, lc_gt, lc_ge, lc_le, lc_eq, l6_le, l6_lt, l6_eq, tI_m133, tI_m226, i_le, i_lt, i_eq, tI_0, tI_1] at c96); (try simp only [l_int, tL_0, tL_1, tL_2, tL_4, tL_5, tL_6, tL_7, tL_9, tL_10, tL_12, tL_15, tL_30, tL_40, tL_60, tL_99, tL_255, tL_1023, tL_m1, lc_lt, lc_gt, lc_ge, lc_le, lc_eq, l6_le, l6_lt, l6_eq, tI_m133, tI_m226, i_le, i_lt, i_eq, tI_0, tI_1] at c106); (try simp only [l_int, tL_0, tL_1, tL_2, tL_4, tL_5, tL_6, tL_7, tL_9, tL_10, tL_12, tL_15, tL_30, tL_40, tL_60, tL_99, tL_255, tL_1023, tL_m1, lc_lt, lc_gt, lc_ge, lc_le, lc_eq, l6_le, l6_lt, l6_eq, tI_m133, tI_m226, i_le, i_lt, i_eq, tI_0, tI_1]); omega) (j + 1) rfl (by (try simp only [l_int, tL_0, tL_1, tL_2, tL_4, tL_5, tL_6, tL_7, tL_9, tL_10, tL_12, tL_15, tL_30, tL_40, tL_60, tL_99, tL_255, tL_1023, tL_m1, lc_lt, lc_gt, lc_ge, lc_le, lc_eq, l6_le, l6_lt, l6_eq, tI_m133, tI_m226, i_le, i_lt, i_eq, tI_0, tI_1] at c84); (try simp only [l_int, tL_0, tL_1, tL_2, tL_4, tL_5, tL_6, tL_7, tL_9, tL_10, tL_12, tL_15, tL_30, tL_40, tL_60, tL_99, tL_255, tL_1023, tL_m1, lc_lt, lc_gt, lc_ge, lc_le, lc_eq, l6_le, l6_lt, l6_eq, tI_m133, tI_m226, i_le, i_lt, i_eq, tI_0, tI_1] at c96); (try simp only [l_int, tL_0, tL_1, tL_2, tL_4, tL_5, tL_6, tL_7, tL_9, tL_10, tL_12, tL_15, tL_30, tL_40, tL_60, tL_99, tL_255, tL_1023, tL_m1, lc_lt, lc_gt, lc_ge, lc_le, lc_eq, l6_le, l6_lt, l6_eq, tI_m133, tI_m226, i_le, i_lt, i_eq, tI_0, tI_1] at c106); (try simp only [l_int, tL_0, tL_1, tL_2, tL_4, tL_5, tL_6, tL_7, tL_9, tL_10, tL_12, tL_15, tL_30, tL_40, tL_60, tL_99, tL_255, tL_1023, tL_m1, lc_lt, lc_gt, lc_ge, lc_le, lc_eq, l6_le, l6_lt, l6_eq, tI_m133, tI_m226, i_le, i_lt, i_eq, tI_0, tI_1]); omega))
        · skip
          show WS layM V 9 X τ 109 [(8, .int (nI j)), (7, .int (nI i)), (5, .long (lN (prC κ i + prI κ i j))), (3, .long (lN A)), (0, rf V 0), (1, .int x), (2, .int q)] [.long (lN (prC κ i + prI κ i j))]
          refine WS.aload_n hx dX11_chance_109 rfl 4 rfl ?_
          refine WS.iload hx dX11_chance_110 1 rfl ?_
          refine WS.callVi (st := [.long (lN (prC κ i + prI κ i j))]) [.int (nI i)] hx (c_X11_wordOf V d τ κ n hM (ms0 (wdM κ n lw)) hT i (by (try simp only [l_int, tL_0, tL_1, tL_2, tL_4, tL_5, tL_6, tL_7, tL_9, tL_10, tL_12, tL_15, tL_30, tL_40, tL_60, tL_99, tL_255, tL_1023, tL_m1, lc_lt, lc_gt, lc_ge, lc_le, lc_eq, l6_le, l6_lt, l6_eq, tI_m133, tI_m226, i_le, i_lt, i_eq, tI_0, tI_1] at c84); (try simp only [l_int, tL_0, tL_1, tL_2, tL_4, tL_5, tL_6, tL_7, tL_9, tL_10, tL_12, tL_15, tL_30, tL_40, tL_60, tL_99, tL_255, tL_1023, tL_m1, lc_lt, lc_gt, lc_ge, lc_le, lc_eq, l6_le, l6_lt, l6_eq, tI_m133, tI_m226, i_le, i_lt, i_eq, tI_0, tI_1] at c96); (try simp only [l_int, tL_0, tL_1, tL_2, tL_4, tL_5, tL_6, tL_7, tL_9, tL_10, tL_12, tL_15, tL_30, tL_40, tL_60, tL_99, tL_255, tL_1023, tL_m1, lc_lt, lc_gt, lc_ge, lc_le, lc_eq, l6_le, l6_lt, l6_eq, tI_m133, tI_m226, i_le, i_lt, i_eq, tI_0, tI_1] at c106); (try simp only [l_int, tL_0, tL_1, tL_2, tL_4, tL_5, tL_6, tL_7, tL_9, tL_10, tL_12, tL_15, tL_30, tL_40, tL_60, tL_99, tL_255, tL_1023, tL_m1, lc_lt, lc_gt, lc_ge, lc_le, lc_eq, l6_le, l6_lt, l6_eq, tI_m133, tI_m226, i_le, i_lt, i_eq, tI_0, tI_1]); omega)) okX11_wordOf lm11_219 rfl rfl rfl rfl (Nat.le_of_ble_eq_true rfl) dX11_chance_112 (fun v1 σ2 h3 => ?_)
          obtain ⟨rfl, rfl⟩ := h3
          show WS layM V 9 X τ 115 [(8, .int (nI j)), (7, .int (nI i)), (5, .long (lN (prC κ i + prI κ i j))), (3, .long (lN A)), (0, rf V 0), (1, .int x), (2, .int q)] [.int (κ.1 17 ((ms0 (wdM κ n lw)).1 i)), .long (lN (prC κ i + prI κ i j))]
          refine WS.aload_n hx dX11_chance_115 rfl 4 rfl ?_
          refine WS.iload hx dX11_chance_116 0 rfl ?_
          refine WS.callVi (st := [.int (κ.1 17 ((ms0 (wdM κ n lw)).1 i)), .long (lN (prC κ i + prI κ i j))]) [.int (nI j)] hx (c_X11_wordOf V d τ κ n hM (ms0 (wdM κ n lw)) hT j (by (try simp only [l_int, tL_0, tL_1, tL_2, tL_4, tL_5, tL_6, tL_7, tL_9, tL_10, tL_12, tL_15, tL_30, tL_40, tL_60, tL_99, tL_255, tL_1023, tL_m1, lc_lt, lc_gt, lc_ge, lc_le, lc_eq, l6_le, l6_lt, l6_eq, tI_m133, tI_m226, i_le, i_lt, i_eq, tI_0, tI_1] at c84); (try simp only [l_int, tL_0, tL_1, tL_2, tL_4, tL_5, tL_6, tL_7, tL_9, tL_10, tL_12, tL_15, tL_30, tL_40, tL_60, tL_99, tL_255, tL_1023, tL_m1, lc_lt, lc_gt, lc_ge, lc_le, lc_eq, l6_le, l6_lt, l6_eq, tI_m133, tI_m226, i_le, i_lt, i_eq, tI_0, tI_1] at c96); (try simp only [l_int, tL_0, tL_1, tL_2, tL_4, tL_5, tL_6, tL_7, tL_9, tL_10, tL_12, tL_15, tL_30, tL_40, tL_60, tL_99, tL_255, tL_1023, tL_m1, lc_lt, lc_gt, lc_ge, lc_le, lc_eq, l6_le, l6_lt, l6_eq, tI_m133, tI_m226, i_le, i_lt, i_eq, tI_0, tI_1] at c106); (try simp only [l_int, tL_0, tL_1, tL_2, tL_4, tL_5, tL_6, tL_7, tL_9, tL_10, tL_12, tL_15, tL_30, tL_40, tL_60, tL_99, tL_255, tL_1023, tL_m1, lc_lt, lc_gt, lc_ge, lc_le, lc_eq, l6_le, l6_lt, l6_eq, tI_m133, tI_m226, i_le, i_lt, i_eq, tI_0, tI_1]); omega)) okX11_wordOf lm11_219 rfl rfl rfl rfl (Nat.le_of_ble_eq_true rfl) dX11_chance_118 (fun v4 σ5 h6 => ?_)
          obtain ⟨rfl, rfl⟩ := h6
          show WS layM V 9 X τ 121 [(8, .int (nI j)), (7, .int (nI i)), (5, .long (lN (prC κ i + prI κ i j))), (3, .long (lN A)), (0, rf V 0), (1, .int x), (2, .int q)] [.int (κ.1 17 ((ms0 (wdM κ n lw)).1 j)), .int (κ.1 17 ((ms0 (wdM κ n lw)).1 i)), .long (lN (prC κ i + prI κ i j))]
          refine WS.icmp_ne (tgt := 128) hx dX11_chance_121 (by decide) (fun c121 => ?_) (fun c121 => ?_)
          · skip
            show WS layM V 9 X τ 128 [(8, .int (nI j)), (7, .int (nI i)), (5, .long (lN (prC κ i + prI κ i j))), (3, .long (lN A)), (0, rf V 0), (1, .int x), (2, .int q)] [.long (lN (prC κ i + prI κ i j))]
            refine WS.lconst (v := 0) hx dX11_chance_128 rfl ?_
            refine WS.ladd hx dX11_chance_129 ?_
            refine WS.as rfl rfl (congrArg (fun z => Value.long z :: _) (show (lN (prC κ i + prI κ i j)) + 0 = lN (prC κ i + prI κ i (j + 1)) from by
    rw [prI_s]
    first | (rw [if_pos ⟨bI_d.mp c96, bI_d.mp c106, c121⟩]; exact lM_add _ 1) | (rw [if_neg (fun h => c96 (bI_d.mpr h.1))]; exact lM_add _ 0) | (rw [if_neg (fun h => c106 (bI_d.mpr h.2.1))]; exact lM_add _ 0) | (rw [if_neg (fun h => c121 h.2.2)]; exact lM_add _ 0))) ?_
            skip
            refine WS.lstore (lo' := [(5, .long (lN (prC κ i + prI κ i (j + 1)))), (8, .int (nI j)), (7, .int (nI i)), (3, .long (lN A)), (0, rf V 0), (1, .int x), (2, .int q)]) hx dX11_chance_130 (by decide) rfl ?_
            refine WS.iinc (v := nI (j + 1)) (lo' := [(8, .int (nI (j + 1))), (5, .long (lN (prC κ i + prI κ i (j + 1)))), (7, .int (nI i)), (3, .long (lN A)), (0, rf V 0), (1, .int x), (2, .int q)]) hx dX11_chance_132 1 rfl (nI_1 j) (by decide) rfl ?_
            refine WS.goto (tgt := 80) hx dX11_chance_135 (by decide) ?_
            exact WS.los [0, 2, 1, 3, 4, 5, 6] rfl (ih _ (by (try simp only [l_int, tL_0, tL_1, tL_2, tL_4, tL_5, tL_6, tL_7, tL_9, tL_10, tL_12, tL_15, tL_30, tL_40, tL_60, tL_99, tL_255, tL_1023, tL_m1, lc_lt, lc_gt, lc_ge, lc_le, lc_eq, l6_le, l6_lt, l6_eq, tI_m133, tI_m226, i_le, i_lt, i_eq, tI_0, tI_1] at c84); (try simp only [l_int, tL_0, tL_1, tL_2, tL_4, tL_5, tL_6, tL_7, tL_9, tL_10, tL_12, tL_15, tL_30, tL_40, tL_60, tL_99, tL_255, tL_1023, tL_m1, lc_lt, lc_gt, lc_ge, lc_le, lc_eq, l6_le, l6_lt, l6_eq, tI_m133, tI_m226, i_le, i_lt, i_eq, tI_0, tI_1] at c96); (try simp only [l_int, tL_0, tL_1, tL_2, tL_4, tL_5, tL_6, tL_7, tL_9, tL_10, tL_12, tL_15, tL_30, tL_40, tL_60, tL_99, tL_255, tL_1023, tL_m1, lc_lt, lc_gt, lc_ge, lc_le, lc_eq, l6_le, l6_lt, l6_eq, tI_m133, tI_m226, i_le, i_lt, i_eq, tI_0, tI_1] at c106); (try simp only [l_int, tL_0, tL_1, tL_2, tL_4, tL_5, tL_6, tL_7, tL_9, tL_10, tL_12, tL_15, tL_30, tL_40, tL_60, tL_99, tL_255, tL_1023, tL_m1, lc_lt, lc_gt, lc_ge, lc_le, lc_eq, l6_le, l6_lt, l6_eq, tI_m133, tI_m226, i_le, i_lt, i_eq, tI_0, tI_1] at c121); (try simp only [l_int, tL_0, tL_1, tL_2, tL_4, tL_5, tL_6, tL_7, tL_9, tL_10, tL_12, tL_15, tL_30, tL_40, tL_60, tL_99, tL_255, tL_1023, tL_m1, lc_lt, lc_gt, lc_ge, lc_le, lc_eq, l6_le, l6_lt, l6_eq, tI_m133, tI_m226, i_le, i_lt, i_eq, tI_0, tI_1]); omega) (j + 1) rfl (by (try simp only [l_int, tL_0, tL_1, tL_2, tL_4, tL_5, tL_6, tL_7, tL_9, tL_10, tL_12, tL_15, tL_30, tL_40, tL_60, tL_99, tL_255, tL_1023, tL_m1, lc_lt, lc_gt, lc_ge, lc_le, lc_eq, l6_le, l6_lt, l6_eq, tI_m133, tI_m226, i_le, i_lt, i_eq, tI_0, tI_1] at c84); (try simp only [l_int, tL_0, tL_1, tL_2, tL_4, tL_5, tL_6, tL_7, tL_9, tL_10, tL_12, tL_15, tL_30, tL_40, tL_60, tL_99, tL_255, tL_1023, tL_m1, lc_lt, lc_gt, lc_ge, lc_le, lc_eq, l6_le, l6_lt, l6_eq, tI_m133, tI_m226, i_le, i_lt, i_eq, tI_0, tI_1] at c96); (try simp only [l_int, tL_0, tL_1, tL_2, tL_4, tL_5, tL_6, tL_7, tL_9, tL_10, tL_12, tL_15, tL_30, tL_40, tL_60, tL_99, tL_255, tL_1023, tL_m1, lc_lt, lc_gt, lc_ge, lc_le, lc_eq, l6_le, l6_lt, l6_eq, tI_m133, tI_m226, i_le, i_lt, i_eq, tI_0, tI_1] at c106); (try simp only [l_int, tL_0, tL_1, tL_2, tL_4, tL_5, tL_6, tL_7, tL_9, tL_10, tL_12, tL_15, tL_30, tL_40, tL_60, tL_99, tL_255, tL_1023, tL_m1, lc_lt, lc_gt, lc_ge, lc_le, lc_eq, l6_le, l6_lt, l6_eq, tI_m133, tI_m226, i_le, i_lt, i_eq, tI_0, tI_1] at c121); (try simp only [l_int, tL_0, tL_1, tL_2, tL_4, tL_5, tL_6, tL_7, tL_9, tL_10, tL_12, tL_15, tL_30, tL_40, tL_60, tL_99, tL_255, tL_1023, tL_m1, lc_lt, lc_gt, lc_ge, lc_le, lc_eq, l6_le, l6_lt, l6_eq, tI_m133, tI_m226, i_le, i_lt, i_eq, tI_0, tI_1]); omega))
          · skip
            show WS layM V 9 X τ 124 [(8, .int (nI j)), (7, .int (nI i)), (5, .long (lN (prC κ i + prI κ i j))), (3, .long (lN A)), (0, rf V 0), (1, .int x), (2, .int q)] [.long (lN (prC κ i + prI κ i j))]
            refine WS.lconst (v := 1) hx dX11_chance_124 rfl ?_
            refine WS.goto (tgt := 129) hx dX11_chance_125 (by decide) ?_
            refine WS.ladd hx dX11_chance_129 ?_
            refine WS.as rfl rfl (congrArg (fun z => Value.long z :: _) (show (lN (prC κ i + prI κ i j)) + 1 = lN (prC κ i + prI κ i (j + 1)) from by
    rw [prI_s]
    first | (rw [if_pos ⟨bI_d.mp c96, bI_d.mp c106, c121⟩]; exact lM_add _ 1) | (rw [if_neg (fun h => c96 (bI_d.mpr h.1))]; exact lM_add _ 0) | (rw [if_neg (fun h => c106 (bI_d.mpr h.2.1))]; exact lM_add _ 0) | (rw [if_neg (fun h => c121 h.2.2)]; exact lM_add _ 0))) ?_
            skip
            refine WS.lstore (lo' := [(5, .long (lN (prC κ i + prI κ i (j + 1)))), (8, .int (nI j)), (7, .int (nI i)), (3, .long (lN A)), (0, rf V 0), (1, .int x), (2, .int q)]) hx dX11_chance_130 (by decide) rfl ?_
            refine WS.iinc (v := nI (j + 1)) (lo' := [(8, .int (nI (j + 1))), (5, .long (lN (prC κ i + prI κ i (j + 1)))), (7, .int (nI i)), (3, .long (lN A)), (0, rf V 0), (1, .int x), (2, .int q)]) hx dX11_chance_132 1 rfl (nI_1 j) (by decide) rfl ?_
            refine WS.goto (tgt := 80) hx dX11_chance_135 (by decide) ?_
            exact WS.los [0, 2, 1, 3, 4, 5, 6] rfl (ih _ (by (try simp only [l_int, tL_0, tL_1, tL_2, tL_4, tL_5, tL_6, tL_7, tL_9, tL_10, tL_12, tL_15, tL_30, tL_40, tL_60, tL_99, tL_255, tL_1023, tL_m1, lc_lt, lc_gt, lc_ge, lc_le, lc_eq, l6_le, l6_lt, l6_eq, tI_m133, tI_m226, i_le, i_lt, i_eq, tI_0, tI_1] at c84); (try simp only [l_int, tL_0, tL_1, tL_2, tL_4, tL_5, tL_6, tL_7, tL_9, tL_10, tL_12, tL_15, tL_30, tL_40, tL_60, tL_99, tL_255, tL_1023, tL_m1, lc_lt, lc_gt, lc_ge, lc_le, lc_eq, l6_le, l6_lt, l6_eq, tI_m133, tI_m226, i_le, i_lt, i_eq, tI_0, tI_1] at c96); (try simp only [l_int, tL_0, tL_1, tL_2, tL_4, tL_5, tL_6, tL_7, tL_9, tL_10, tL_12, tL_15, tL_30, tL_40, tL_60, tL_99, tL_255, tL_1023, tL_m1, lc_lt, lc_gt, lc_ge, lc_le, lc_eq, l6_le, l6_lt, l6_eq, tI_m133, tI_m226, i_le, i_lt, i_eq, tI_0, tI_1] at c106); (try simp only [l_int, tL_0, tL_1, tL_2, tL_4, tL_5, tL_6, tL_7, tL_9, tL_10, tL_12, tL_15, tL_30, tL_40, tL_60, tL_99, tL_255, tL_1023, tL_m1, lc_lt, lc_gt, lc_ge, lc_le, lc_eq, l6_le, l6_lt, l6_eq, tI_m133, tI_m226, i_le, i_lt, i_eq, tI_0, tI_1] at c121); (try simp only [l_int, tL_0, tL_1, tL_2, tL_4, tL_5, tL_6, tL_7, tL_9, tL_10, tL_12, tL_15, tL_30, tL_40, tL_60, tL_99, tL_255, tL_1023, tL_m1, lc_lt, lc_gt, lc_ge, lc_le, lc_eq, l6_le, l6_lt, l6_eq, tI_m133, tI_m226, i_le, i_lt, i_eq, tI_0, tI_1]); omega) (j + 1) rfl (by (try simp only [l_int, tL_0, tL_1, tL_2, tL_4, tL_5, tL_6, tL_7, tL_9, tL_10, tL_12, tL_15, tL_30, tL_40, tL_60, tL_99, tL_255, tL_1023, tL_m1, lc_lt, lc_gt, lc_ge, lc_le, lc_eq, l6_le, l6_lt, l6_eq, tI_m133, tI_m226, i_le, i_lt, i_eq, tI_0, tI_1] at c84); (try simp only [l_int, tL_0, tL_1, tL_2, tL_4, tL_5, tL_6, tL_7, tL_9, tL_10, tL_12, tL_15, tL_30, tL_40, tL_60, tL_99, tL_255, tL_1023, tL_m1, lc_lt, lc_gt, lc_ge, lc_le, lc_eq, l6_le, l6_lt, l6_eq, tI_m133, tI_m226, i_le, i_lt, i_eq, tI_0, tI_1] at c96); (try simp only [l_int, tL_0, tL_1, tL_2, tL_4, tL_5, tL_6, tL_7, tL_9, tL_10, tL_12, tL_15, tL_30, tL_40, tL_60, tL_99, tL_255, tL_1023, tL_m1, lc_lt, lc_gt, lc_ge, lc_le, lc_eq, l6_le, l6_lt, l6_eq, tI_m133, tI_m226, i_le, i_lt, i_eq, tI_0, tI_1] at c106); (try simp only [l_int, tL_0, tL_1, tL_2, tL_4, tL_5, tL_6, tL_7, tL_9, tL_10, tL_12, tL_15, tL_30, tL_40, tL_60, tL_99, tL_255, tL_1023, tL_m1, lc_lt, lc_gt, lc_ge, lc_le, lc_eq, l6_le, l6_lt, l6_eq, tI_m133, tI_m226, i_le, i_lt, i_eq, tI_0, tI_1] at c121); (try simp only [l_int, tL_0, tL_1, tL_2, tL_4, tL_5, tL_6, tL_7, tL_9, tL_10, tL_12, tL_15, tL_30, tL_40, tL_60, tL_99, tL_255, tL_1023, tL_m1, lc_lt, lc_gt, lc_ge, lc_le, lc_eq, l6_le, l6_lt, l6_eq, tI_m133, tI_m226, i_le, i_lt, i_eq, tI_0, tI_1]); omega))
set_option maxHeartbeats 1000000 in
theorem lp_X11_chance (V : Vt) (d : Nat) (τ κ : Sg) (n : Nat) (hM : MR κ τ n) (lw : Lw) (hT : MT τ n (ms0 (wdM κ n lw))) (hcl : cnt (κ.1 14) n ≤ n) (x q : Int32) (X : Xt) (hx : Ok V RX11 cX11_chance 9 (d + 1) X) (hC : WS layM V 9 X τ 151 [(7, .long (lN (n - cnt (κ.1 14) n))), (5, .long (lN (prC κ n))), (3, .long (lN (syC κ n x))), (0, rf V 0), (1, .int x), (2, .int q)] []) : ∀ (i : Nat), i ≤ n → WS layM V 9 X τ 40 [(7, .int (nI i)), (5, .long (lN (prC κ i))), (3, .long (lN (syC κ i x))), (0, rf V 0), (1, .int x), (2, .int q)] [] := by
  have hn := hM.n
  intro i
  induction hm : n - i using Nat.strongRecOn generalizing i with
  | _ m9 ih =>
    intro hi
    have hiI : (nI i).toInt = (i : Int) := nI_c (by omega)
    have hnI : (nI n).toInt = (n : Int) := nI_c (by omega)
    refine WS.iload hx dX11_chance_40 0 rfl ?_
    refine WS.aload_n hx dX11_chance_42 rfl 3 rfl ?_
    refine WS.getI hx okX11 lf11_97 rfl rfl dX11_chance_43 ?_
    refine WS.as rfl rfl (congrArg (fun z => Value.int z :: _) (show τ.1 0 6 = nI n from hM.s)) ?_
    skip
    refine WS.icmp_ge (tgt := 144) hx dX11_chance_46 (by decide) (fun c46 => ?_) (fun c46 => ?_)
    · skip
      show WS layM V 9 X τ 144 [(7, .int (nI i)), (5, .long (lN (prC κ i))), (3, .long (lN (syC κ i x))), (0, rf V 0), (1, .int x), (2, .int q)] []
      refine WS.aload_n hx dX11_chance_144 rfl 3 rfl ?_
      refine WS.callVi (st := []) [] hx (c_X11_closedMany V d τ n hM.s hn (cnt (κ.1 14) n) hT.2.2.2.1 hcl) okX11_closedMany lm11_274 rfl rfl rfl rfl (Nat.le_of_ble_eq_true rfl) dX11_chance_145 (fun v1 σ2 h3 => ?_)
      obtain ⟨rfl, rfl⟩ := h3
      show WS layM V 9 X τ 148 [(7, .int (nI i)), (5, .long (lN (prC κ i))), (3, .long (lN (syC κ i x))), (0, rf V 0), (1, .int x), (2, .int q)] [.int (nI (n - cnt (κ.1 14) n))]
      refine WS.i2l hx dX11_chance_148 ?_
      refine WS.as rfl rfl (congrArg (fun z => Value.long z :: _) (show Int32.toInt64 (nI (n - cnt (κ.1 14) n)) = lN (n - cnt (κ.1 14) n) from nI_l (by omega))) ?_
      skip
      refine WS.lstore (lo' := [(7, .long (lN (n - cnt (κ.1 14) n))), (5, .long (lN (prC κ i))), (3, .long (lN (syC κ i x))), (0, rf V 0), (1, .int x), (2, .int q)]) hx dX11_chance_149 (by decide) rfl ?_
      have hin : i = n := by (try simp only [l_int, tL_0, tL_1, tL_2, tL_4, tL_5, tL_6, tL_7, tL_9, tL_10, tL_12, tL_15, tL_30, tL_40, tL_60, tL_99, tL_255, tL_1023, tL_m1, lc_lt, lc_gt, lc_ge, lc_le, lc_eq, l6_le, l6_lt, l6_eq, tI_m133, tI_m226, i_le, i_lt, i_eq, tI_0, tI_1] at c46); (try simp only [l_int, tL_0, tL_1, tL_2, tL_4, tL_5, tL_6, tL_7, tL_9, tL_10, tL_12, tL_15, tL_30, tL_40, tL_60, tL_99, tL_255, tL_1023, tL_m1, lc_lt, lc_gt, lc_ge, lc_le, lc_eq, l6_le, l6_lt, l6_eq, tI_m133, tI_m226, i_le, i_lt, i_eq, tI_0, tI_1]); omega
      subst hin
      exact WS.los [0, 1, 2, 3, 4, 5] rfl hC
    · skip
      show WS layM V 9 X τ 49 [(7, .int (nI i)), (5, .long (lN (prC κ i))), (3, .long (lN (syC κ i x))), (0, rf V 0), (1, .int x), (2, .int q)] []
      refine WS.lload_n hx dX11_chance_49 rfl 2 rfl ?_
      refine WS.aload_n hx dX11_chance_50 rfl 3 rfl ?_
      refine WS.getR hx okX11 lf11_52 rfl rfl dX11_chance_51 ?_
      refine WS.iload hx dX11_chance_54 0 rfl ?_
      refine WS.zald hx rfl (vp_in_nI (by (try simp only [l_int, tL_0, tL_1, tL_2, tL_4, tL_5, tL_6, tL_7, tL_9, tL_10, tL_12, tL_15, tL_30, tL_40, tL_60, tL_99, tL_255, tL_1023, tL_m1, lc_lt, lc_gt, lc_ge, lc_le, lc_eq, l6_le, l6_lt, l6_eq, tI_m133, tI_m226, i_le, i_lt, i_eq, tI_0, tI_1] at c46); (try simp only [l_int, tL_0, tL_1, tL_2, tL_4, tL_5, tL_6, tL_7, tL_9, tL_10, tL_12, tL_15, tL_30, tL_40, tL_60, tL_99, tL_255, tL_1023, tL_m1, lc_lt, lc_gt, lc_ge, lc_le, lc_eq, l6_le, l6_lt, l6_eq, tI_m133, tI_m226, i_le, i_lt, i_eq, tI_0, tI_1]); omega) (by decide)) dX11_chance_56 ?_
      refine WS.as rfl rfl (congrArg (fun z => Value.int z :: _) (show τ.1 15 (nn (nI i)) = bI (decide (κ.1 14 i = 1)) from by rw [nn_nI (by omega)]; exact (hT.1 i (by (try simp only [l_int, tL_0, tL_1, tL_2, tL_4, tL_5, tL_6, tL_7, tL_9, tL_10, tL_12, tL_15, tL_30, tL_40, tL_60, tL_99, tL_255, tL_1023, tL_m1, lc_lt, lc_gt, lc_ge, lc_le, lc_eq, l6_le, l6_lt, l6_eq, tI_m133, tI_m226, i_le, i_lt, i_eq, tI_0, tI_1] at c46); (try simp only [l_int, tL_0, tL_1, tL_2, tL_4, tL_5, tL_6, tL_7, tL_9, tL_10, tL_12, tL_15, tL_30, tL_40, tL_60, tL_99, tL_255, tL_1023, tL_m1, lc_lt, lc_gt, lc_ge, lc_le, lc_eq, l6_le, l6_lt, l6_eq, tI_m133, tI_m226, i_le, i_lt, i_eq, tI_0, tI_1]); omega)).2.2)) ?_
      skip
      refine WS.if_ne (tgt := 74) hx dX11_chance_57 (by decide) (fun c57 => ?_) (fun c57 => ?_)
      · skip
        show WS layM V 9 X τ 74 [(7, .int (nI i)), (5, .long (lN (prC κ i))), (3, .long (lN (syC κ i x))), (0, rf V 0), (1, .int x), (2, .int q)] [.long (lN (syC κ i x))]
        refine WS.lconst (v := 0) hx dX11_chance_74 rfl ?_
        refine WS.ladd hx dX11_chance_75 ?_
        refine WS.as rfl rfl (congrArg (fun z => Value.long z :: _) (show (lN (syC κ i x)) + 0 = lN (syC κ (i + 1) x) from by
    rw [syC_s]
    first | (rw [if_pos ⟨bI_d.mp c57, c67⟩]; exact lM_add _ 1) | (rw [if_neg (fun h => c57 (bI_d.mpr h.1))]; exact lM_add _ 0) | (rw [if_neg (fun h => c67 h.2)]; exact lM_add _ 0))) ?_
        skip
        refine WS.lstore_n (lo' := [(3, .long (lN (syC κ (i + 1) x))), (7, .int (nI i)), (5, .long (lN (prC κ i))), (0, rf V 0), (1, .int x), (2, .int q)]) hx dX11_chance_76 rfl (by decide) rfl ?_
        refine WS.iconst (v := 0) hx dX11_chance_77 (by decide) ?_
        refine WS.istore (lo' := [(8, .int 0), (3, .long (lN (syC κ (i + 1) x))), (7, .int (nI i)), (5, .long (lN (prC κ i))), (0, rf V 0), (1, .int x), (2, .int q)]) hx dX11_chance_78 (by decide) rfl ?_
        refine WS.los [0, 2, 3, 1, 4, 5, 6] rfl (li_X11_chance V d τ κ n hM lw hT i (by (try simp only [l_int, tL_0, tL_1, tL_2, tL_4, tL_5, tL_6, tL_7, tL_9, tL_10, tL_12, tL_15, tL_30, tL_40, tL_60, tL_99, tL_255, tL_1023, tL_m1, lc_lt, lc_gt, lc_ge, lc_le, lc_eq, l6_le, l6_lt, l6_eq, tI_m133, tI_m226, i_le, i_lt, i_eq, tI_0, tI_1] at c46); (try simp only [l_int, tL_0, tL_1, tL_2, tL_4, tL_5, tL_6, tL_7, tL_9, tL_10, tL_12, tL_15, tL_30, tL_40, tL_60, tL_99, tL_255, tL_1023, tL_m1, lc_lt, lc_gt, lc_ge, lc_le, lc_eq, l6_le, l6_lt, l6_eq, tI_m133, tI_m226, i_le, i_lt, i_eq, tI_0, tI_1] at c57); (try simp only [l_int, tL_0, tL_1, tL_2, tL_4, tL_5, tL_6, tL_7, tL_9, tL_10, tL_12, tL_15, tL_30, tL_40, tL_60, tL_99, tL_255, tL_1023, tL_m1, lc_lt, lc_gt, lc_ge, lc_le, lc_eq, l6_le, l6_lt, l6_eq, tI_m133, tI_m226, i_le, i_lt, i_eq, tI_0, tI_1]); omega) (syC κ (i + 1) x) x q X hx ?_ 0 (Nat.zero_le _))
        exact ih _ (by (try simp only [l_int, tL_0, tL_1, tL_2, tL_4, tL_5, tL_6, tL_7, tL_9, tL_10, tL_12, tL_15, tL_30, tL_40, tL_60, tL_99, tL_255, tL_1023, tL_m1, lc_lt, lc_gt, lc_ge, lc_le, lc_eq, l6_le, l6_lt, l6_eq, tI_m133, tI_m226, i_le, i_lt, i_eq, tI_0, tI_1] at c46); (try simp only [l_int, tL_0, tL_1, tL_2, tL_4, tL_5, tL_6, tL_7, tL_9, tL_10, tL_12, tL_15, tL_30, tL_40, tL_60, tL_99, tL_255, tL_1023, tL_m1, lc_lt, lc_gt, lc_ge, lc_le, lc_eq, l6_le, l6_lt, l6_eq, tI_m133, tI_m226, i_le, i_lt, i_eq, tI_0, tI_1] at c57); (try simp only [l_int, tL_0, tL_1, tL_2, tL_4, tL_5, tL_6, tL_7, tL_9, tL_10, tL_12, tL_15, tL_30, tL_40, tL_60, tL_99, tL_255, tL_1023, tL_m1, lc_lt, lc_gt, lc_ge, lc_le, lc_eq, l6_le, l6_lt, l6_eq, tI_m133, tI_m226, i_le, i_lt, i_eq, tI_0, tI_1]); omega) (i + 1) rfl (by (try simp only [l_int, tL_0, tL_1, tL_2, tL_4, tL_5, tL_6, tL_7, tL_9, tL_10, tL_12, tL_15, tL_30, tL_40, tL_60, tL_99, tL_255, tL_1023, tL_m1, lc_lt, lc_gt, lc_ge, lc_le, lc_eq, l6_le, l6_lt, l6_eq, tI_m133, tI_m226, i_le, i_lt, i_eq, tI_0, tI_1] at c46); (try simp only [l_int, tL_0, tL_1, tL_2, tL_4, tL_5, tL_6, tL_7, tL_9, tL_10, tL_12, tL_15, tL_30, tL_40, tL_60, tL_99, tL_255, tL_1023, tL_m1, lc_lt, lc_gt, lc_ge, lc_le, lc_eq, l6_le, l6_lt, l6_eq, tI_m133, tI_m226, i_le, i_lt, i_eq, tI_0, tI_1] at c57); (try simp only [l_int, tL_0, tL_1, tL_2, tL_4, tL_5, tL_6, tL_7, tL_9, tL_10, tL_12, tL_15, tL_30, tL_40, tL_60, tL_99, tL_255, tL_1023, tL_m1, lc_lt, lc_gt, lc_ge, lc_le, lc_eq, l6_le, l6_lt, l6_eq, tI_m133, tI_m226, i_le, i_lt, i_eq, tI_0, tI_1]); omega)
      · skip
        show WS layM V 9 X τ 60 [(7, .int (nI i)), (5, .long (lN (prC κ i))), (3, .long (lN (syC κ i x))), (0, rf V 0), (1, .int x), (2, .int q)] [.long (lN (syC κ i x))]
        refine WS.aload_n hx dX11_chance_60 rfl 3 rfl ?_
        refine WS.iload hx dX11_chance_61 0 rfl ?_
        refine WS.callVi (st := [.long (lN (syC κ i x))]) [.int (nI i)] hx (c_X11_wordOf V d τ κ n hM (ms0 (wdM κ n lw)) hT i (by (try simp only [l_int, tL_0, tL_1, tL_2, tL_4, tL_5, tL_6, tL_7, tL_9, tL_10, tL_12, tL_15, tL_30, tL_40, tL_60, tL_99, tL_255, tL_1023, tL_m1, lc_lt, lc_gt, lc_ge, lc_le, lc_eq, l6_le, l6_lt, l6_eq, tI_m133, tI_m226, i_le, i_lt, i_eq, tI_0, tI_1] at c46); (try simp only [l_int, tL_0, tL_1, tL_2, tL_4, tL_5, tL_6, tL_7, tL_9, tL_10, tL_12, tL_15, tL_30, tL_40, tL_60, tL_99, tL_255, tL_1023, tL_m1, lc_lt, lc_gt, lc_ge, lc_le, lc_eq, l6_le, l6_lt, l6_eq, tI_m133, tI_m226, i_le, i_lt, i_eq, tI_0, tI_1] at c57); (try simp only [l_int, tL_0, tL_1, tL_2, tL_4, tL_5, tL_6, tL_7, tL_9, tL_10, tL_12, tL_15, tL_30, tL_40, tL_60, tL_99, tL_255, tL_1023, tL_m1, lc_lt, lc_gt, lc_ge, lc_le, lc_eq, l6_le, l6_lt, l6_eq, tI_m133, tI_m226, i_le, i_lt, i_eq, tI_0, tI_1]); omega)) okX11_wordOf lm11_219 rfl rfl rfl rfl (Nat.le_of_ble_eq_true rfl) dX11_chance_63 (fun v4 σ5 h6 => ?_)
        obtain ⟨rfl, rfl⟩ := h6
        show WS layM V 9 X τ 66 [(7, .int (nI i)), (5, .long (lN (prC κ i))), (3, .long (lN (syC κ i x))), (0, rf V 0), (1, .int x), (2, .int q)] [.int (κ.1 17 ((ms0 (wdM κ n lw)).1 i)), .long (lN (syC κ i x))]
        refine WS.iload_n hx dX11_chance_66 rfl 4 rfl ?_
        refine WS.icmp_ne (tgt := 74) hx dX11_chance_67 (by decide) (fun c67 => ?_) (fun c67 => ?_)
        · skip
          show WS layM V 9 X τ 74 [(7, .int (nI i)), (5, .long (lN (prC κ i))), (3, .long (lN (syC κ i x))), (0, rf V 0), (1, .int x), (2, .int q)] [.long (lN (syC κ i x))]
          refine WS.lconst (v := 0) hx dX11_chance_74 rfl ?_
          refine WS.ladd hx dX11_chance_75 ?_
          refine WS.as rfl rfl (congrArg (fun z => Value.long z :: _) (show (lN (syC κ i x)) + 0 = lN (syC κ (i + 1) x) from by
    rw [syC_s]
    first | (rw [if_pos ⟨bI_d.mp c57, c67⟩]; exact lM_add _ 1) | (rw [if_neg (fun h => c57 (bI_d.mpr h.1))]; exact lM_add _ 0) | (rw [if_neg (fun h => c67 h.2)]; exact lM_add _ 0))) ?_
          skip
          refine WS.lstore_n (lo' := [(3, .long (lN (syC κ (i + 1) x))), (7, .int (nI i)), (5, .long (lN (prC κ i))), (0, rf V 0), (1, .int x), (2, .int q)]) hx dX11_chance_76 rfl (by decide) rfl ?_
          refine WS.iconst (v := 0) hx dX11_chance_77 (by decide) ?_
          refine WS.istore (lo' := [(8, .int 0), (3, .long (lN (syC κ (i + 1) x))), (7, .int (nI i)), (5, .long (lN (prC κ i))), (0, rf V 0), (1, .int x), (2, .int q)]) hx dX11_chance_78 (by decide) rfl ?_
          refine WS.los [0, 2, 3, 1, 4, 5, 6] rfl (li_X11_chance V d τ κ n hM lw hT i (by (try simp only [l_int, tL_0, tL_1, tL_2, tL_4, tL_5, tL_6, tL_7, tL_9, tL_10, tL_12, tL_15, tL_30, tL_40, tL_60, tL_99, tL_255, tL_1023, tL_m1, lc_lt, lc_gt, lc_ge, lc_le, lc_eq, l6_le, l6_lt, l6_eq, tI_m133, tI_m226, i_le, i_lt, i_eq, tI_0, tI_1] at c46); (try simp only [l_int, tL_0, tL_1, tL_2, tL_4, tL_5, tL_6, tL_7, tL_9, tL_10, tL_12, tL_15, tL_30, tL_40, tL_60, tL_99, tL_255, tL_1023, tL_m1, lc_lt, lc_gt, lc_ge, lc_le, lc_eq, l6_le, l6_lt, l6_eq, tI_m133, tI_m226, i_le, i_lt, i_eq, tI_0, tI_1] at c57); (try simp only [l_int, tL_0, tL_1, tL_2, tL_4, tL_5, tL_6, tL_7, tL_9, tL_10, tL_12, tL_15, tL_30, tL_40, tL_60, tL_99, tL_255, tL_1023, tL_m1, lc_lt, lc_gt, lc_ge, lc_le, lc_eq, l6_le, l6_lt, l6_eq, tI_m133, tI_m226, i_le, i_lt, i_eq, tI_0, tI_1] at c67); (try simp only [l_int, tL_0, tL_1, tL_2, tL_4, tL_5, tL_6, tL_7, tL_9, tL_10, tL_12, tL_15, tL_30, tL_40, tL_60, tL_99, tL_255, tL_1023, tL_m1, lc_lt, lc_gt, lc_ge, lc_le, lc_eq, l6_le, l6_lt, l6_eq, tI_m133, tI_m226, i_le, i_lt, i_eq, tI_0, tI_1]); omega) (syC κ (i + 1) x) x q X hx ?_ 0 (Nat.zero_le _))
          exact ih _ (by (try simp only [l_int, tL_0, tL_1, tL_2, tL_4, tL_5, tL_6, tL_7, tL_9, tL_10, tL_12, tL_15, tL_30, tL_40, tL_60, tL_99, tL_255, tL_1023, tL_m1, lc_lt, lc_gt, lc_ge, lc_le, lc_eq, l6_le, l6_lt, l6_eq, tI_m133, tI_m226, i_le, i_lt, i_eq, tI_0, tI_1] at c46); (try simp only [l_int, tL_0, tL_1, tL_2, tL_4, tL_5, tL_6, tL_7, tL_9, tL_10, tL_12, tL_15, tL_30, tL_40, tL_60, tL_99, tL_255, tL_1023, tL_m1, lc_lt, lc_gt, lc_ge, lc_le, lc_eq, l6_le, l6_lt, l6_eq, tI_m133, tI_m226, i_le, i_lt, i_eq, tI_0, tI_1] at c57); (try simp only [l_int, tL_0, tL_1, tL_2, tL_4, tL_5, tL_6, tL_7, tL_9, tL_10, tL_12, tL_15, tL_30, tL_40, tL_60, tL_99, tL_255, tL_1023, tL_m1, lc_lt, lc_gt, lc_ge, lc_le, lc_eq, l6_le, l6_lt, l6_eq, tI_m133, tI_m226, i_le, i_lt, i_eq, tI_0, tI_1] at c67); (try simp only [l_int, tL_0, tL_1, tL_2, tL_4, tL_5, tL_6, tL_7, tL_9, tL_10, tL_12, tL_15, tL_30, tL_40, tL_60, tL_99, tL_255, tL_1023, tL_m1, lc_lt, lc_gt, lc_ge, lc_le, lc_eq, l6_le, l6_lt, l6_eq, tI_m133, tI_m226, i_le, i_lt, i_eq, tI_0, tI_1]); omega) (i + 1) rfl (by (try simp only [l_int, tL_0, tL_1, tL_2, tL_4, tL_5, tL_6, tL_7, tL_9, tL_10, tL_12, tL_15, tL_30, tL_40, tL_60, tL_99, tL_255, tL_1023, tL_m1, lc_lt, lc_gt, lc_ge, lc_le, lc_eq, l6_le, l6_lt, l6_eq, tI_m133, tI_m226, i_le, i_lt, i_eq, tI_0, tI_1] at c46); (try simp only [l_int, tL_0, tL_1, tL_2, tL_4, tL_5, tL_6, tL_7, tL_9, tL_10, tL_12, tL_15, tL_30, tL_40, tL_60, tL_99, tL_255, tL_1023, tL_m1, lc_lt, lc_gt, lc_ge, lc_le, lc_eq, l6_le, l6_lt, l6_eq, tI_m133, tI_m226, i_le, i_lt, i_eq, tI_0, tI_1] at c57); (try simp only [l_int, tL_0, tL_1, tL_2, tL_4, tL_5, tL_6, tL_7, tL_9, tL_10, tL_12, tL_15, tL_30, tL_40, tL_60, tL_99, tL_255, tL_1023, tL_m1, lc_lt, lc_gt, lc_ge, lc_le, lc_eq, l6_le, l6_lt, l6_eq, tI_m133, tI_m226, i_le, i_lt, i_eq, tI_0, tI_1] at c67); (try simp only [l_int, tL_0, tL_1, tL_2, tL_4, tL_5, tL_6, tL_7, tL_9, tL_10, tL_12, tL_15, tL_30, tL_40, tL_60, tL_99, tL_255, tL_1023, tL_m1, lc_lt, lc_gt, lc_ge, lc_le, lc_eq, l6_le, l6_lt, l6_eq, tI_m133, tI_m226, i_le, i_lt, i_eq, tI_0, tI_1]); omega)
        · skip
          show WS layM V 9 X τ 70 [(7, .int (nI i)), (5, .long (lN (prC κ i))), (3, .long (lN (syC κ i x))), (0, rf V 0), (1, .int x), (2, .int q)] [.long (lN (syC κ i x))]
          refine WS.lconst (v := 1) hx dX11_chance_70 rfl ?_
          refine WS.goto (tgt := 75) hx dX11_chance_71 (by decide) ?_
          refine WS.ladd hx dX11_chance_75 ?_
          refine WS.as rfl rfl (congrArg (fun z => Value.long z :: _) (show (lN (syC κ i x)) + 1 = lN (syC κ (i + 1) x) from by
    rw [syC_s]
    first | (rw [if_pos ⟨bI_d.mp c57, c67⟩]; exact lM_add _ 1) | (rw [if_neg (fun h => c57 (bI_d.mpr h.1))]; exact lM_add _ 0) | (rw [if_neg (fun h => c67 h.2)]; exact lM_add _ 0))) ?_
          skip
          refine WS.lstore_n (lo' := [(3, .long (lN (syC κ (i + 1) x))), (7, .int (nI i)), (5, .long (lN (prC κ i))), (0, rf V 0), (1, .int x), (2, .int q)]) hx dX11_chance_76 rfl (by decide) rfl ?_
          refine WS.iconst (v := 0) hx dX11_chance_77 (by decide) ?_
          refine WS.istore (lo' := [(8, .int 0), (3, .long (lN (syC κ (i + 1) x))), (7, .int (nI i)), (5, .long (lN (prC κ i))), (0, rf V 0), (1, .int x), (2, .int q)]) hx dX11_chance_78 (by decide) rfl ?_
          refine WS.los [0, 2, 3, 1, 4, 5, 6] rfl (li_X11_chance V d τ κ n hM lw hT i (by (try simp only [l_int, tL_0, tL_1, tL_2, tL_4, tL_5, tL_6, tL_7, tL_9, tL_10, tL_12, tL_15, tL_30, tL_40, tL_60, tL_99, tL_255, tL_1023, tL_m1, lc_lt, lc_gt, lc_ge, lc_le, lc_eq, l6_le, l6_lt, l6_eq, tI_m133, tI_m226, i_le, i_lt, i_eq, tI_0, tI_1] at c46); (try simp only [l_int, tL_0, tL_1, tL_2, tL_4, tL_5, tL_6, tL_7, tL_9, tL_10, tL_12, tL_15, tL_30, tL_40, tL_60, tL_99, tL_255, tL_1023, tL_m1, lc_lt, lc_gt, lc_ge, lc_le, lc_eq, l6_le, l6_lt, l6_eq, tI_m133, tI_m226, i_le, i_lt, i_eq, tI_0, tI_1] at c57); (try simp only [l_int, tL_0, tL_1, tL_2, tL_4, tL_5, tL_6, tL_7, tL_9, tL_10, tL_12, tL_15, tL_30, tL_40, tL_60, tL_99, tL_255, tL_1023, tL_m1, lc_lt, lc_gt, lc_ge, lc_le, lc_eq, l6_le, l6_lt, l6_eq, tI_m133, tI_m226, i_le, i_lt, i_eq, tI_0, tI_1] at c67); (try simp only [l_int, tL_0, tL_1, tL_2, tL_4, tL_5, tL_6, tL_7, tL_9, tL_10, tL_12, tL_15, tL_30, tL_40, tL_60, tL_99, tL_255, tL_1023, tL_m1, lc_lt, lc_gt, lc_ge, lc_le, lc_eq, l6_le, l6_lt, l6_eq, tI_m133, tI_m226, i_le, i_lt, i_eq, tI_0, tI_1]); omega) (syC κ (i + 1) x) x q X hx ?_ 0 (Nat.zero_le _))
          exact ih _ (by (try simp only [l_int, tL_0, tL_1, tL_2, tL_4, tL_5, tL_6, tL_7, tL_9, tL_10, tL_12, tL_15, tL_30, tL_40, tL_60, tL_99, tL_255, tL_1023, tL_m1, lc_lt, lc_gt, lc_ge, lc_le, lc_eq, l6_le, l6_lt, l6_eq, tI_m133, tI_m226, i_le, i_lt, i_eq, tI_0, tI_1] at c46); (try simp only [l_int, tL_0, tL_1, tL_2, tL_4, tL_5, tL_6, tL_7, tL_9, tL_10, tL_12, tL_15, tL_30, tL_40, tL_60, tL_99, tL_255, tL_1023, tL_m1, lc_lt, lc_gt, lc_ge, lc_le, lc_eq, l6_le, l6_lt, l6_eq, tI_m133, tI_m226, i_le, i_lt, i_eq, tI_0, tI_1] at c57); (try simp only [l_int, tL_0, tL_1, tL_2, tL_4, tL_5, tL_6, tL_7, tL_9, tL_10, tL_12, tL_15, tL_30, tL_40, tL_60, tL_99, tL_255, tL_1023, tL_m1, lc_lt, lc_gt, lc_ge, lc_le, lc_eq, l6_le, l6_lt, l6_eq, tI_m133, tI_m226, i_le, i_lt, i_eq, tI_0, tI_1] at c67); (try simp only [l_int, tL_0, tL_1, tL_2, tL_4, tL_5, tL_6, tL_7, tL_9, tL_10, tL_12, tL_15, tL_30, tL_40, tL_60, tL_99, tL_255, tL_1023, tL_m1, lc_lt, lc_gt, lc_ge, lc_le, lc_eq, l6_le, l6_lt, l6_eq, tI_m133, tI_m226, i_le, i_lt, i_eq, tI_0, tI_1]); omega) (i + 1) rfl (by (try simp only [l_int, tL_0, tL_1, tL_2, tL_4, tL_5, tL_6, tL_7, tL_9, tL_10, tL_12, tL_15, tL_30, tL_40, tL_60, tL_99, tL_255, tL_1023, tL_m1, lc_lt, lc_gt, lc_ge, lc_le, lc_eq, l6_le, l6_lt, l6_eq, tI_m133, tI_m226, i_le, i_lt, i_eq, tI_0, tI_1] at c46); (try simp only [l_int, tL_0, tL_1, tL_2, tL_4, tL_5, tL_6, tL_7, tL_9, tL_10, tL_12, tL_15, tL_30, tL_40, tL_60, tL_99, tL_255, tL_1023, tL_m1, lc_lt, lc_gt, lc_ge, lc_le, lc_eq, l6_le, l6_lt, l6_eq, tI_m133, tI_m226, i_le, i_lt, i_eq, tI_0, tI_1] at c57); (try simp only [l_int, tL_0, tL_1, tL_2, tL_4, tL_5, tL_6, tL_7, tL_9, tL_10, tL_12, tL_15, tL_30, tL_40, tL_60, tL_99, tL_255, tL_1023, tL_m1, lc_lt, lc_gt, lc_ge, lc_le, lc_eq, l6_le, l6_lt, l6_eq, tI_m133, tI_m226, i_le, i_lt, i_eq, tI_0, tI_1] at c67); (try simp only [l_int, tL_0, tL_1, tL_2, tL_4, tL_5, tL_6, tL_7, tL_9, tL_10, tL_12, tL_15, tL_30, tL_40, tL_60, tL_99, tL_255, tL_1023, tL_m1, lc_lt, lc_gt, lc_ge, lc_le, lc_eq, l6_le, l6_lt, l6_eq, tI_m133, tI_m226, i_le, i_lt, i_eq, tI_0, tI_1]); omega)
theorem pr_l {c : Nat} (h : c ≤ 1000) : lN c * (lN c - 1) / 2 = lN (c * (c - 1) / 2) := by
  cases c with
  | zero => decide
  | succ c =>
    have h9 : (c + 1) * (c + 1 - 1) ≤ 1000 * 1000 := Nat.mul_le_mul h (by omega)
    rw [show (1 : Int64) = lN 1 from rfl, lM_sub (by omega), lM_mul, show (2 : Int64) = lN 2 from rfl, lM_div (by omega) (by decide) (by decide)]
theorem o_01 {κ : Sg} {n b : Nat} (hQ : QI κ n) (hb : b < n) : κ.1 14 b = 0 ∨ κ.1 14 b = 1 := by
  have h9 := hQ.2.2.2.2.2.1 b (by have := hQ.1; omega)
  unfold rg at h9
  by_cases h : (κ.1 14 b).toInt = 0
  · exact Or.inl (by rw [i_eq, h]; rfl)
  · refine Or.inr ?_
    rw [i_eq, tI_1]
    omega
theorem w_10 {κ : Sg} {n b : Nat} (hQ : QI κ n) (hb : b < n) : ∃ v, v < 10 ∧ wn κ b = nI v := ⟨nn (wn κ b), by have := (wn_r hQ hb).le; omega, (wn_r hQ hb).i⟩
theorem ch_s {κ : Sg} {n : Nat} {x q : Int32} (hQ : QI κ n) : chV (syC κ n x) (n - cnt (κ.1 14) n) q = pV (syC κ n x) (n - cnt (κ.1 14) n) q ∧ syC κ n x < 2 ^ 31 := by
  have h1 := (cnt_cl n (fun b hb => o_01 hQ hb)).1
  have h2 := syC_le (κ := κ) (x := x) n
  have hn := hQ.1
  exact ⟨chV_pV (by omega) (by omega) (by omega), by omega⟩
theorem ch_p {κ : Sg} {n : Nat} {q : Int32} (hQ : QI κ n) : chV (lpC κ n) ((n - cnt (κ.1 14) n) * ((n - cnt (κ.1 14) n) - 1) / 2) q = pV (prC κ n) ((n - cnt (κ.1 14) n) * ((n - cnt (κ.1 14) n) - 1) / 2) q ∧ prC κ n < 2 ^ 31 ∧ (n - cnt (κ.1 14) n) * ((n - cnt (κ.1 14) n) - 1) / 2 < 2 ^ 31 := by
  have h1 := (cnt_cl n (fun b hb => o_01 hQ hb)).1
  have h2 := prC_le (κ := κ) n
  have hn := hQ.1
  rw [h1] at h2
  have h3 : (n - cnt (κ.1 14) n) * ((n - cnt (κ.1 14) n) - 1) ≤ 10 * 10 := Nat.mul_le_mul (by omega) (by omega)
  generalize (n - cnt (κ.1 14) n) * ((n - cnt (κ.1 14) n) - 1) = z at *
  refine ⟨?_, by omega, by omega⟩
  rw [show lpC κ n = lpG κ n 10 from rfl, lp_pr (by decide) n (fun b hb => w_10 hQ hb)]
  exact chV_pV (by omega) (by omega) (by omega)
set_option maxHeartbeats 1000000 in
theorem lt_X11_chance (V : Vt) (d : Nat) (τ κ : Sg) (n : Nat) (hM : MR κ τ n) (x q : Int32) (P : Int64 → Sg → Prop) (X : Xt) (hx : Ok V RX11 cX11_chance 9 (d + 1) X) (he : En layM V (some .long) (Rl P) X) (hP : (0 ≤ x → P (pV (syC κ n x) (n - cnt (κ.1 14) n) q) τ) ∧ (¬ 0 ≤ x → P (pV (prC κ n) ((n - cnt (κ.1 14) n) * ((n - cnt (κ.1 14) n) - 1) / 2) q) τ)) : WS layM V 9 X τ 151 [(7, .long (lN (n - cnt (κ.1 14) n))), (5, .long (lN (prC κ n))), (3, .long (lN (syC κ n x))), (0, rf V 0), (1, .int x), (2, .int q)] [] := by
  have hn := hM.n
  refine WS.iload_n hx dX11_chance_151 rfl 4 rfl ?_
  refine WS.if_ge (tgt := 175) hx dX11_chance_152 (by decide) (fun c152 => ?_) (fun c152 => ?_)
  · skip
    show WS layM V 9 X τ 175 [(7, .long (lN (n - cnt (κ.1 14) n))), (5, .long (lN (prC κ n))), (3, .long (lN (syC κ n x))), (0, rf V 0), (1, .int x), (2, .int q)] []
    refine WS.lload_n hx dX11_chance_175 rfl 2 rfl ?_
    refine WS.lload hx dX11_chance_176 0 rfl ?_
    refine WS.iload_n hx dX11_chance_178 rfl 5 rfl ?_
    refine WS.callSl (st := []) [.long (lN (syC κ n x)), .long (lN (n - cnt (κ.1 14) n)), .int q] hx (c_X11_partOf V d τ (syC κ n x) (n - cnt (κ.1 14) n) (ch_s (q := q) hM.q).2 (by omega) q) okX11_partOf lm11_283 rfl rfl (Nat.le_of_ble_eq_true rfl) dX11_chance_179 (fun v1 σ2 h3 => ?_)
    obtain ⟨rfl, rfl⟩ := h3
    show WS layM V 9 X τ 182 [(7, .long (lN (n - cnt (κ.1 14) n))), (5, .long (lN (prC κ n))), (3, .long (lN (syC κ n x))), (0, rf V 0), (1, .int x), (2, .int q)] [.long (pV (syC κ n x) (n - cnt (κ.1 14) n) q)]
    exact WS.lret hx he dX11_chance_182 ⟨_, rfl, hP.1 c152⟩
  · skip
    show WS layM V 9 X τ 155 [(7, .long (lN (n - cnt (κ.1 14) n))), (5, .long (lN (prC κ n))), (3, .long (lN (syC κ n x))), (0, rf V 0), (1, .int x), (2, .int q)] []
    refine WS.lload hx dX11_chance_155 1 rfl ?_
    refine WS.lload hx dX11_chance_157 0 rfl ?_
    refine WS.lload hx dX11_chance_159 0 rfl ?_
    refine WS.lconst (v := 1) hx dX11_chance_161 rfl ?_
    refine WS.lsub hx dX11_chance_162 ?_
    refine WS.lmul hx dX11_chance_163 ?_
    refine WS.ldc2 (v := 2) hx lc11_254 dX11_chance_164 ?_
    refine WS.ldiv hx dX11_chance_167 (by decide) ?_
    refine WS.as rfl rfl (congrArg (fun z => Value.long z :: _) (show ((lN (n - cnt (κ.1 14) n)) * ((lN (n - cnt (κ.1 14) n)) - 1)) / 2 = lN ((n - cnt (κ.1 14) n) * ((n - cnt (κ.1 14) n) - 1) / 2) from pr_l (by omega))) ?_
    skip
    refine WS.iload_n hx dX11_chance_168 rfl 5 rfl ?_
    refine WS.callSl (st := []) [.long (lN (prC κ n)), .long (lN ((n - cnt (κ.1 14) n) * ((n - cnt (κ.1 14) n) - 1) / 2)), .int q] hx (c_X11_partOf V d τ (prC κ n) ((n - cnt (κ.1 14) n) * ((n - cnt (κ.1 14) n) - 1) / 2) (ch_p (q := q) hM.q).2.1 (ch_p (q := q) hM.q).2.2 q) okX11_partOf lm11_283 rfl rfl (Nat.le_of_ble_eq_true rfl) dX11_chance_169 (fun v4 σ5 h6 => ?_)
    obtain ⟨rfl, rfl⟩ := h6
    show WS layM V 9 X τ 172 [(7, .long (lN (n - cnt (κ.1 14) n))), (5, .long (lN (prC κ n))), (3, .long (lN (syC κ n x))), (0, rf V 0), (1, .int x), (2, .int q)] [.long (pV (prC κ n) ((n - cnt (κ.1 14) n) * ((n - cnt (κ.1 14) n) - 1) / 2) q)]
    refine WS.goto (tgt := 182) hx dX11_chance_172 (by decide) ?_
    exact WS.lret hx he dX11_chance_182 ⟨_, rfl, hP.2 c152⟩
set_option maxHeartbeats 1000000 in
theorem c_X11_chance (V : Vt) (d : Nat) (σ : Sg) (κ : Sg) (n : Nat) (hM : MR κ σ n) (lw : Lw) (x q : Int32) : CT layM V mX11_chance (d + 1) [rf V 0, .int x, .int q] σ (Rl fun v σ' => ME σ σ' ∧ (¬ (-1 ≤ x.toInt ∧ x.toInt ≤ 9 ∧ 0 ≤ q.toInt ∧ q.toInt ≤ 1) → v = -9223372036854775808) ∧ (¬ ¬ (-1 ≤ x.toInt ∧ x.toInt ≤ 9 ∧ 0 ≤ q.toInt ∧ q.toInt ≤ 1) → (x.toInt < 0 → v = chV (lpC κ n) ((n - cnt (κ.1 14) n) * ((n - cnt (κ.1 14) n) - 1) / 2) q) ∧ (¬ x.toInt < 0 → v = chV (syC κ n x) (n - cnt (κ.1 14) n) q))) := by
  refine CT.of (own := RX11) rfl (by decide) (Nat.le_of_ble_eq_true rfl) (fun X (hx : Ok V RX11 cX11_chance 9 (d + 1) X) (he : En layM V (some .long) (Rl fun v σ' => ME σ σ' ∧ (¬ (-1 ≤ x.toInt ∧ x.toInt ≤ 9 ∧ 0 ≤ q.toInt ∧ q.toInt ≤ 1) → v = -9223372036854775808) ∧ (¬ ¬ (-1 ≤ x.toInt ∧ x.toInt ≤ 9 ∧ 0 ≤ q.toInt ∧ q.toInt ≤ 1) → (x.toInt < 0 → v = chV (lpC κ n) ((n - cnt (κ.1 14) n) * ((n - cnt (κ.1 14) n) - 1) / 2) q) ∧ (¬ x.toInt < 0 → v = chV (syC κ n x) (n - cnt (κ.1 14) n) q))) X) => ?_)
  change WS layM V 9 X σ 0 [(0, rf V 0), (1, .int x), (2, .int q)] []
  have hn := hM.n
  have hs := hM.s
  refine WS.iload_n hx dX11_chance_0 rfl 1 rfl ?_
  refine WS.i2l hx dX11_chance_1 ?_
  refine WS.ldc2 (v := (-1)) hx lc11_277 dX11_chance_2 ?_
  refine WS.ldc2 (v := 9) hx lc11_106 dX11_chance_5 ?_
  refine WS.callSi (st := []) [.long (Int32.toInt64 x), .long (-1), .long 9] hx (c_X11_within V d σ (Int32.toInt64 x) (-1) 9) okX11_within lm11_100 rfl rfl (Nat.le_of_ble_eq_true rfl) dX11_chance_8 (fun v1 σ2 h3 => ?_)
  rcases h3 with ⟨rfl, rfl, hb8⟩ | ⟨rfl, rfl, hb8⟩
  · skip
    show WS layM V 9 X σ 11 [(0, rf V 0), (1, .int x), (2, .int q)] [.int 1]
    refine WS.if_eq (tgt := 24) hx dX11_chance_11 (by decide) (fun h => absurd h (by decide)) (fun _ => ?_)
    refine WS.iload_n hx dX11_chance_14 rfl 2 rfl ?_
    refine WS.i2l hx dX11_chance_15 ?_
    refine WS.lconst (v := 0) hx dX11_chance_16 rfl ?_
    refine WS.lconst (v := 1) hx dX11_chance_17 rfl ?_
    refine WS.callSi (st := []) [.long (Int32.toInt64 q), .long 0, .long 1] hx (c_X11_within V d σ (Int32.toInt64 q) 0 1) okX11_within lm11_100 rfl rfl (Nat.le_of_ble_eq_true rfl) dX11_chance_18 (fun v4 σ5 h6 => ?_)
    rcases h6 with ⟨rfl, rfl, hb18⟩ | ⟨rfl, rfl, hb18⟩
    · skip
      show WS layM V 9 X σ 21 [(0, rf V 0), (1, .int x), (2, .int q)] [.int 1]
      refine WS.if_ne (tgt := 28) hx dX11_chance_21 (by decide) (fun _ => ?_) (fun h => absurd h (by decide))
      refine WS.aload_n hx dX11_chance_28 rfl 0 rfl ?_
      refine WS.callVv (st := []) [] hx (c_X11_begins V d σ κ n lw hM) okX11_begins lm11_231 rfl rfl rfl rfl (Nat.le_of_ble_eq_true rfl) dX11_chance_29 (fun σ8 h9 => ?_)
      obtain ⟨me29, mt29⟩ := h9
      show WS layM V 9 X σ8 32 [(0, rf V 0), (1, .int x), (2, .int q)] []
      refine WS.lconst (v := 0) hx dX11_chance_32 rfl ?_
      refine WS.lstore_n (lo' := [(3, .long 0), (0, rf V 0), (1, .int x), (2, .int q)]) hx dX11_chance_33 rfl (by decide) rfl ?_
      refine WS.lconst (v := 0) hx dX11_chance_34 rfl ?_
      refine WS.lstore (lo' := [(5, .long 0), (3, .long 0), (0, rf V 0), (1, .int x), (2, .int q)]) hx dX11_chance_35 (by decide) rfl ?_
      refine WS.iconst (v := 0) hx dX11_chance_37 (by decide) ?_
      refine WS.istore (lo' := [(7, .int 0), (5, .long 0), (3, .long 0), (0, rf V 0), (1, .int x), (2, .int q)]) hx dX11_chance_38 (by decide) rfl ?_
      have hA : (-1 ≤ x.toInt ∧ x.toInt ≤ 9 ∧ 0 ≤ q.toInt ∧ q.toInt ≤ 1) := by (try simp only [l_int, tL_0, tL_1, tL_2, tL_4, tL_5, tL_6, tL_7, tL_9, tL_10, tL_12, tL_15, tL_30, tL_40, tL_60, tL_99, tL_255, tL_1023, tL_m1, lc_lt, lc_gt, lc_ge, lc_le, lc_eq, l6_le, l6_lt, l6_eq, tI_m133, tI_m226, i_le, i_lt, i_eq, tI_0, tI_1] at hb8); (try simp only [l_int, tL_0, tL_1, tL_2, tL_4, tL_5, tL_6, tL_7, tL_9, tL_10, tL_12, tL_15, tL_30, tL_40, tL_60, tL_99, tL_255, tL_1023, tL_m1, lc_lt, lc_gt, lc_ge, lc_le, lc_eq, l6_le, l6_lt, l6_eq, tI_m133, tI_m226, i_le, i_lt, i_eq, tI_0, tI_1] at hb18); omega
      refine WS.los [0, 1, 2, 3, 4, 5] rfl (lp_X11_chance V d _ κ n (hM.me me29) lw mt29 hM.q.o.2 x q X hx (lt_X11_chance V d _ κ n (hM.me me29) x q _ X hx he ⟨fun h9 => ?_, fun h9 => ?_⟩) 0 (Nat.zero_le _))
      · exact ⟨me29, fun h => absurd hA h, fun _ => ⟨fun h => by rw [i_le, tI_0] at h9; omega, fun _ => (ch_s hM.q).1.symm⟩⟩
      · exact ⟨me29, fun h => absurd hA h, fun _ => ⟨fun _ => (ch_p hM.q).1.symm, fun h => by rw [i_le, tI_0] at h9; omega⟩⟩
    · skip
      show WS layM V 9 X σ 21 [(0, rf V 0), (1, .int x), (2, .int q)] [.int 0]
      refine WS.if_ne (tgt := 28) hx dX11_chance_21 (by decide) (fun h => absurd (by decide) h) (fun _ => ?_)
      refine WS.ldc2 (v := (-9223372036854775808)) hx lc11_281 dX11_chance_24 ?_
      exact WS.lret hx he dX11_chance_27 ⟨_, rfl, ME.rf, fun _ => rfl, fun h => absurd (fun h => by (try simp only [l_int, tL_0, tL_1, tL_2, tL_4, tL_5, tL_6, tL_7, tL_9, tL_10, tL_12, tL_15, tL_30, tL_40, tL_60, tL_99, tL_255, tL_1023, tL_m1, lc_lt, lc_gt, lc_ge, lc_le, lc_eq, l6_le, l6_lt, l6_eq, tI_m133, tI_m226, i_le, i_lt, i_eq, tI_0, tI_1] at hb8); (try simp only [l_int, tL_0, tL_1, tL_2, tL_4, tL_5, tL_6, tL_7, tL_9, tL_10, tL_12, tL_15, tL_30, tL_40, tL_60, tL_99, tL_255, tL_1023, tL_m1, lc_lt, lc_gt, lc_ge, lc_le, lc_eq, l6_le, l6_lt, l6_eq, tI_m133, tI_m226, i_le, i_lt, i_eq, tI_0, tI_1] at hb18); (try simp only [l_int, tL_0, tL_1, tL_2, tL_4, tL_5, tL_6, tL_7, tL_9, tL_10, tL_12, tL_15, tL_30, tL_40, tL_60, tL_99, tL_255, tL_1023, tL_m1, lc_lt, lc_gt, lc_ge, lc_le, lc_eq, l6_le, l6_lt, l6_eq, tI_m133, tI_m226, i_le, i_lt, i_eq, tI_0, tI_1]); omega) h⟩
  · skip
    show WS layM V 9 X σ 11 [(0, rf V 0), (1, .int x), (2, .int q)] [.int 0]
    refine WS.if_eq (tgt := 24) hx dX11_chance_11 (by decide) (fun _ => ?_) (fun h => absurd (by decide) h)
    refine WS.ldc2 (v := (-9223372036854775808)) hx lc11_281 dX11_chance_24 ?_
    exact WS.lret hx he dX11_chance_27 ⟨_, rfl, ME.rf, fun _ => rfl, fun h => absurd (fun h => by (try simp only [l_int, tL_0, tL_1, tL_2, tL_4, tL_5, tL_6, tL_7, tL_9, tL_10, tL_12, tL_15, tL_30, tL_40, tL_60, tL_99, tL_255, tL_1023, tL_m1, lc_lt, lc_gt, lc_ge, lc_le, lc_eq, l6_le, l6_lt, l6_eq, tI_m133, tI_m226, i_le, i_lt, i_eq, tI_0, tI_1] at hb8); (try simp only [l_int, tL_0, tL_1, tL_2, tL_4, tL_5, tL_6, tL_7, tL_9, tL_10, tL_12, tL_15, tL_30, tL_40, tL_60, tL_99, tL_255, tL_1023, tL_m1, lc_lt, lc_gt, lc_ge, lc_le, lc_eq, l6_le, l6_lt, l6_eq, tI_m133, tI_m226, i_le, i_lt, i_eq, tI_0, tI_1]); omega) h⟩

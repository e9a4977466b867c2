/-! BOTH SIDES AS THEY ARE MADE: the tie holds -/
def kap0 (r19 r20 : Value) : Sg := (fun c => if c = 16 then ldF 16 else if c = 17 then wdF 16 else fun _ => 0, fun _ _ => 0, fun c j => if c = 2 then (if j = 0 then r19 else if j = 1 then r20 else .null) else .null)
def mu0 : Sg := (fun c => if c = 1 then maF 16 16 else if c = 23 then s6F 6 else fun _ => 0, fun _ _ => 0, fun _ _ => .null)
theorem rg_0 {m : Nat} : rg (0 : Int32) m := ⟨by decide, by rw [tI_0]; omega⟩
theorem rg_ld {j : Nat} (h : j < 16) : rg (ldF 16 j) 15 := by
  unfold ldF
  rw [if_pos h]
  exact rg_nI (by omega) (by decide)
theorem rg_wd {j : Nat} (h : j < 16) : rg (wdF 16 j) 9 := by
  unfold wdF
  rw [if_pos h]
  exact rg_nI (by omega) (by decide)
theorem ma_lo {k : Nat} (h : k < 50) : maF 16 16 k = 0 := by
  unfold maF
  rw [if_neg (by omega), if_neg (by omega)]
theorem ma_ld {j : Nat} (h : j < 16) : maF 16 16 (50 + j) = ldF 16 j := by
  unfold maF ldF
  rw [if_pos (by omega), if_pos h, show 50 + j - 50 = j by omega]
theorem ma_wd {j : Nat} (h : j < 16) : maF 16 16 (66 + j) = wdF 16 j := by
  unfold maF wdF
  rw [if_neg (by omega), if_pos (by omega), if_pos h, show 66 + j - 66 = j by omega]
theorem ma_hi {j : Nat} : maF 16 16 (82 + j) = 0 := by
  unfold maF
  rw [if_neg (by omega), if_neg (by omega)]
theorem s6_m {s : Nat} (h : s < 6) : s6F 6 s = -1 := by
  unfold s6F
  rw [if_pos h]
theorem rel0 (V : Vt) : REL V (kap0 (rf V 19) (rf V 20)) mu0 := by
  have none9 : ∀ {P : Prop} {j : Nat}, j < 0 → P := fun h => absurd h (Nat.not_lt_zero _)
  refine RELp.i (n := 0) (dn := 0) (u := 0) (z := 0) (tl := 0) (r := 0) (m := 0) (c := 19) (T := 0) (lw := []) (kp := false) (im := 0) ⟨⟨⟨by decide, rfl, fun j hj => rg_0, fun j hj => rg_0, fun j hj => rg_0, fun j hj => rg_0, fun j hj => rg_0, fun j hj => rg_ld hj, fun j hj => rg_wd hj, rg_0⟩, rfl, fun q j hq hj => ?_⟩, ⟨by decide, rfl, rfl, rfl, rfl, fun p hp => none9 hp⟩, ⟨by decide, rfl, rfl, fun j hj => none9 hj⟩, fun s hs => ?_, ⟨by decide, rfl, rfl, fun j hj => none9 hj⟩, ⟨⟨by decide, rfl, Or.inl ⟨rfl, rfl, rfl⟩, trivial, fun i hi => none9 hi, fun h => absurd rfl h⟩, ⟨by decide, by decide, rfl, fun j hj => none9 hj, trivial⟩, rfl⟩, fun j hj => rfl, ⟨by decide, rfl, rfl, fun j hj => none9 hj⟩, ⟨rfl, rfl, fun h => by cases h⟩⟩
  · show maF 16 16 (pN q j) = (kap0 (rf V 19) (rf V 20)).1 (11 + q) j
    have h8 : q = 0 ∨ q = 1 ∨ q = 2 ∨ q = 3 ∨ q = 4 ∨ q = 5 ∨ q = 6 ∨ q = 7 := by omega
    rcases h8 with rfl | rfl | rfl | rfl | rfl | rfl | rfl | rfl
    · have hj : j < 10 := hj
      exact ma_lo (show 10 * 0 + j < 50 by omega)
    · have hj : j < 10 := hj
      exact ma_lo (show 10 * 1 + j < 50 by omega)
    · have hj : j < 10 := hj
      exact ma_lo (show 10 * 2 + j < 50 by omega)
    · have hj : j < 10 := hj
      exact ma_lo (show 10 * 3 + j < 50 by omega)
    · have hj : j < 10 := hj
      exact ma_lo (show 10 * 4 + j < 50 by omega)
    · exact ma_ld hj
    · exact ma_wd hj
    · exact ma_hi
  · have h6 : s = 0 ∨ s = 1 ∨ s = 2 ∨ s = 3 ∨ s = 4 ∨ s = 5 := by omega
    refine ⟨?_, Or.inl ⟨?_, s6_m hs⟩⟩
    · rcases h6 with rfl | rfl | rfl | rfl | rfl | rfl <;> exact rg_0
    · rcases h6 with rfl | rfl | rfl | rfl | rfl | rfl <;> rfl
theorem rq10 (ad : Nat → Nat) (x0 x1 x2 x3 x4 x5 x6 x7 x8 x9 : Nat) (h0 : ad (42 + 0) = x0) (h1 : ad (42 + 1) = x1) (h2 : ad (42 + 2) = x2) (h3 : ad (42 + 3) = x3) (h4 : ad (42 + 4) = x4) (h5 : ad (42 + 5) = x5) (h6 : ad (42 + 6) = x6) (h7 : ad (42 + 7) = x7) (h8 : ad (42 + 8) = x8) (h9 : ad (42 + 9) = x9) : ((va_up (va_up (va_up (va_up (va_up (va_up (va_up (va_up (va_up (va_up (fun _ => none) 0 (some x0)) 1 (some x1)) 2 (some x2)) 3 (some x3)) 4 (some x4)) 5 (some x5)) 6 (some x6)) 7 (some x7)) 8 (some x8)) 9 (some x9)) : Nat → Option Nat) = fun j => if j < 10 then some (ad (42 + j)) else none := by
  subst h0 h1 h2 h3 h4 h5 h6 h7 h8 h9
  funext j
  by_cases hj : j < 10
  · rw [if_pos hj]
    have h9 : j = 0 ∨ j = 1 ∨ j = 2 ∨ j = 3 ∨ j = 4 ∨ j = 5 ∨ j = 6 ∨ j = 7 ∨ j = 8 ∨ j = 9 := by omega
    rcases h9 with rfl | rfl | rfl | rfl | rfl | rfl | rfl | rfl | rfl | rfl <;> rfl
  · rw [if_neg hj]
    unfold va_up
    rw [if_neg (by omega), if_neg (by omega), if_neg (by omega), if_neg (by omega), if_neg (by omega), if_neg (by omega), if_neg (by omega), if_neg (by omega), if_neg (by omega), if_neg (by omega)]
theorem rq6 (ad : Nat → Nat) (x0 x1 x2 x3 x4 x5 : Nat) (h0 : ad (52 + 0) = x0) (h1 : ad (52 + 1) = x1) (h2 : ad (52 + 2) = x2) (h3 : ad (52 + 3) = x3) (h4 : ad (52 + 4) = x4) (h5 : ad (52 + 5) = x5) : ((va_up (va_up (va_up (va_up (va_up (va_up (fun _ => none) 0 (some x0)) 1 (some x1)) 2 (some x2)) 3 (some x3)) 4 (some x4)) 5 (some x5)) : Nat → Option Nat) = fun j => if j < 6 then some (ad (52 + j)) else none := by
  subst h0 h1 h2 h3 h4 h5
  funext j
  by_cases hj : j < 6
  · rw [if_pos hj]
    have h9 : j = 0 ∨ j = 1 ∨ j = 2 ∨ j = 3 ∨ j = 4 ∨ j = 5 := by omega
    rcases h9 with rfl | rfl | rfl | rfl | rfl | rfl <;> rfl
  · rw [if_neg hj]
    unfold va_up
    rw [if_neg (by omega), if_neg (by omega), if_neg (by omega), if_neg (by omega), if_neg (by omega), if_neg (by omega)]
def lW (G : Gc) (q a1 a2 a3 a4 a5 a6 a7 a8 a9 a10 a11 a12 a13 a14 a15 a16 a17 a18 a19 a20 a21 a22 a23 a24 a25 a26 a27 a28 a29 a30 a31 a32 a33 a34 a35 a36 a37 a38 a39 a40 a41 a42 a43 a44 a45 a46 a47 a48 a49 a50 a51 a52 a53 a54 a55 a56 a57 a58 a59 a60 a61 a62 a63 p b1 b2 b3 b4 b5 b6 b7 b8 b9 b10 b11 b12 b13 b14 b15 b16 b17 b18 b19 b20 b21 b22 b23 b24 b25 b26 : Nat) (f g : Nat → Option Nat) : va_W := [(q, .inr (10, [.ref a1, .ref a10, .ref a16, .int 0, .ref a17, .ref a20, .ref a25, .ref a38, .ref a43, .ref a48, .ref a51])), (a1, .inr (7, [.ref a2, .ref a3, .ref a4, .ref a5, .ref a6, .ref a7, .ref a8, .ref a9, .int 0])), (a2, .inl (G.2 0, 10, .inl (fun _ => 0))), (a3, .inl (G.2 0, 10, .inl (fun _ => 0))), (a4, .inl (G.2 0, 10, .inl (fun _ => 0))), (a5, .inl (G.2 0, 10, .inl (fun _ => 0))), (a6, .inl (G.2 0, 10, .inl (fun _ => 0))), (a7, .inl (G.2 0, 16, .inl (ldF 16))), (a8, .inl (G.2 0, 16, .inl (wdF 16))), (a9, .inl (G.2 0, 1, .inl (fun _ => 0))), (a10, .inr (5, [.ref a11, .ref a12, .int 0, .int 0, .int 0, .int 0, .null, .int 0, .int 0, .ref a13, .ref a14, .ref a15])), (a11, .inl (G.2 0, 128, .inl (fun _ => 0))), (a12, .inl (G.2 0, 128, .inl (fun _ => 0))), (a13, .inl (G.2 0, 6, .inl (fun _ => 0))), (a14, .inl (G.2 0, 128, .inl (fun _ => 0))), (a15, .inl (G.2 0, 2048, .inl (fun _ => 0))), (a16, .inl (G.2 0, 120, .inl (fun _ => 0))), (a17, .inr (4, [.ref a1, .ref a18, .ref a19])), (a18, .inr (9, [.ref a1, .ref a10, .int 0, .int 0, .int 0, .int 0, .int 0, .int 0, .int 0, .int 0])), (a19, .inr (9, [.ref a1, .ref a10, .int 0, .int 0, .int 0, .int 0, .int 0, .int 0, .int 0, .int 0])), (a20, .inr (6, [.ref a1, .ref a24, .ref a21, .ref a22, .ref a23, .int 0, .int 0])), (a21, .inl (G.2 0, 40, .inl (fun _ => 0))), (a22, .inl (G.2 0, 4, .inl (fun _ => 0))), (a23, .inl (G.2 0, 4, .inl (fun _ => 0))), (a24, .inr (9, [.ref a1, .ref a10, .int 0, .int 0, .int 0, .int 0, .int 0, .int 0, .int 0, .int 0])), (a25, .inr (0, [.ref a1, .ref a26, .ref a27, .int 0, .int 0, .int 0, .int 0])), (a26, .inl (G.2 4, 10, .inr (.inr (.inr (.inr (f)))))), (a27, .inl (G.2 0, 10, .inl (fun _ => 0))), (a28, .inr (9, [.ref a1, .ref a10, .int 0, .int 0, .int 0, .int 0, .int 0, .int 0, .int 0, .int 0])), (a29, .inr (9, [.ref a1, .ref a10, .int 0, .int 0, .int 0, .int 0, .int 0, .int 0, .int 0, .int 0])), (a30, .inr (9, [.ref a1, .ref a10, .int 0, .int 0, .int 0, .int 0, .int 0, .int 0, .int 0, .int 0])), (a31, .inr (9, [.ref a1, .ref a10, .int 0, .int 0, .int 0, .int 0, .int 0, .int 0, .int 0, .int 0])), (a32, .inr (9, [.ref a1, .ref a10, .int 0, .int 0, .int 0, .int 0, .int 0, .int 0, .int 0, .int 0])), (a33, .inr (9, [.ref a1, .ref a10, .int 0, .int 0, .int 0, .int 0, .int 0, .int 0, .int 0, .int 0])), (a34, .inr (9, [.ref a1, .ref a10, .int 0, .int 0, .int 0, .int 0, .int 0, .int 0, .int 0, .int 0])), (a35, .inr (9, [.ref a1, .ref a10, .int 0, .int 0, .int 0, .int 0, .int 0, .int 0, .int 0, .int 0])), (a36, .inr (9, [.ref a1, .ref a10, .int 0, .int 0, .int 0, .int 0, .int 0, .int 0, .int 0, .int 0])), (a37, .inr (9, [.ref a1, .ref a10, .int 0, .int 0, .int 0, .int 0, .int 0, .int 0, .int 0, .int 0])), (a38, .inr (3, [.ref a1, .ref a42, .ref a39, .ref a40, .ref a41, .int 0, .int 0, .int 0])), (a39, .inl (G.2 0, 5, .inl (fun _ => 0))), (a40, .inl (G.2 0, 5, .inl (fun _ => 0))), (a41, .inl (G.2 0, 40, .inl (fun _ => 0))), (a42, .inr (9, [.ref a1, .ref a10, .int 0, .int 0, .int 0, .int 0, .int 0, .int 0, .int 0, .int 0])), (a43, .inr (2, [.ref a1, .ref a44, .ref a45, .ref a46, .ref a47, .int 0, .int 0])), (a44, .inl (G.2 0, 40, .inl (fun _ => 0))), (a45, .inl (G.2 0, 40, .inl (fun _ => 0))), (a46, .inl (G.2 0, 40, .inl (fun _ => 0))), (a47, .inl (G.2 0, 40, .inl (fun _ => 0))), (a48, .inr (1, [.ref a49, .ref a50, .int 0, .int 0, .int 0])), (a49, .inl (G.2 0, 50, .inl (fun _ => 0))), (a50, .inl (G.2 0, 24, .inl (fun _ => 0))), (a51, .inl (G.2 3, 6, .inr (.inr (.inr (.inr (g)))))), (a52, .inr (8, [.ref a53, .int 0, .int 0, .int 0, .int 0])), (a53, .inl (G.2 1, 60, .inr (.inl (fun _ => 0)))), (a54, .inr (8, [.ref a55, .int 0, .int 0, .int 0, .int 0])), (a55, .inl (G.2 1, 60, .inr (.inl (fun _ => 0)))), (a56, .inr (8, [.ref a57, .int 0, .int 0, .int 0, .int 0])), (a57, .inl (G.2 1, 60, .inr (.inl (fun _ => 0)))), (a58, .inr (8, [.ref a59, .int 0, .int 0, .int 0, .int 0])), (a59, .inl (G.2 1, 60, .inr (.inl (fun _ => 0)))), (a60, .inr (8, [.ref a61, .int 0, .int 0, .int 0, .int 0])), (a61, .inl (G.2 1, 60, .inr (.inl (fun _ => 0)))), (a62, .inr (8, [.ref a63, .int 0, .int 0, .int 0, .int 0])), (a63, .inl (G.2 1, 60, .inr (.inl (fun _ => 0)))), (p, .inr (11, [.ref b1, .ref b2, .ref b3, .ref b4, .int 0, .int 0, .int 0, .ref b5, .int 0, .ref b6, .int 0, .ref b7, .ref b8, .ref b9, .int 0, .ref b10, .ref b11, .int 0, .int 0, .int 0, .int 0, .ref b12, .ref b13, .ref b14, .ref b15, .int 0, .int 0, .ref b16, .ref b17, .int 0, .ref b18, .int 0, .int 0, .ref b19, .ref b20, .int 0, .ref b21, .ref b22, .int 0, .int 0, .int 0, .ref b23, .ref b24, .ref b25, .ref b26])), (b1, .inl (G.2 0, 83, .inl (maF 16 16))), (b2, .inl (G.2 0, 40, .inl (fun _ => 0))), (b3, .inl (G.2 0, 40, .inl (fun _ => 0))), (b4, .inl (G.2 0, 40, .inl (fun _ => 0))), (b5, .inl (G.2 0, 120, .inl (fun _ => 0))), (b6, .inl (G.2 0, 120, .inl (fun _ => 0))), (b7, .inl (G.2 0, 120, .inl (fun _ => 0))), (b8, .inl (G.2 0, 120, .inl (fun _ => 0))), (b9, .inl (G.2 0, 120, .inl (fun _ => 0))), (b10, .inl (G.2 0, 120, .inl (fun _ => 0))), (b11, .inl (G.2 0, 120, .inl (fun _ => 0))), (b12, .inl (G.2 0, 120, .inl (fun _ => 0))), (b13, .inl (G.2 0, 6, .inl (fun _ => 0))), (b14, .inl (G.2 0, 10, .inl (fun _ => 0))), (b15, .inl (G.2 2, 10, .inl (fun _ => 0))), (b16, .inl (G.2 0, 4, .inl (fun _ => 0))), (b17, .inl (G.2 0, 4, .inl (fun _ => 0))), (b18, .inl (G.2 0, 5, .inl (fun _ => 0))), (b19, .inl (G.2 0, 83, .inl (fun _ => 0))), (b20, .inl (G.2 0, 5, .inl (fun _ => 0))), (b21, .inl (G.2 0, 50, .inl (fun _ => 0))), (b22, .inl (G.2 0, 24, .inl (fun _ => 0))), (b23, .inl (G.2 0, 6, .inl (s6F 6))), (b24, .inl (G.2 0, 6, .inl (fun _ => 0))), (b25, .inl (G.2 1, 360, .inr (.inl (fun _ => 0)))), (b26, .inl (G.2 1, 60, .inr (.inl (fun _ => 0))))]
def adC (q a1 a2 a3 a4 a5 a6 a7 a8 a9 a10 a11 a12 a13 a14 a15 a16 a17 a18 a19 a20 a21 a22 a23 a24 a25 a26 a27 a28 a29 a30 a31 a32 a33 a34 a35 a36 a37 a38 a39 a40 a41 a42 a43 a44 a45 a46 a47 a48 a49 a50 a51 a52 a53 a54 a55 a56 a57 a58 a59 a60 a61 a62 a63 : Nat) : Nat → Nat := fun i => [q, a1, a10, a16, a17, a20, a25, a38, a43, a48, a51, a2, a3, a4, a5, a6, a7, a8, a9, a11, a12, a13, a14, a15, a21, a22, a23, a26, a27, a39, a40, a41, a44, a45, a46, a47, a49, a50, a18, a19, a24, a42, a28, a29, a30, a31, a32, a33, a34, a35, a36, a37, a52, a54, a56, a58, a60, a62, a53, a55, a57, a59, a61, a63].getD i 0
def adM (p b1 b2 b3 b4 b5 b6 b7 b8 b9 b10 b11 b12 b13 b14 b15 b16 b17 b18 b19 b20 b21 b22 b23 b24 b25 b26 : Nat) : Nat → Nat := fun i => [p, b1, b2, b3, b4, b5, b6, b7, b8, b9, b10, b11, b12, b13, b14, b15, b16, b17, b18, b19, b20, b21, b22, b23, b24, b25, b26].getD i 0
def isC : List Nat := [0, 1, 10, 16, 17, 20, 25, 38, 43, 48, 51, 2, 3, 4, 5, 6, 7, 8, 9, 11, 12, 13, 14, 15, 21, 22, 23, 26, 27, 39, 40, 41, 44, 45, 46, 47, 49, 50, 18, 19, 24, 42, 28, 29, 30, 31, 32, 33, 34, 35, 36, 37, 52, 54, 56, 58, 60, 62, 53, 55, 57, 59, 61, 63]
def isM : List Nat := [64, 65, 66, 67, 68, 69, 70, 71, 72, 73, 74, 75, 76, 77, 78, 79, 80, 81, 82, 83, 84, 85, 86, 87, 88, 89, 90]
theorem isC_nd : va_nd (isC ++ isM) = true := by decide +kernel
set_option maxHeartbeats 4000000 in
set_option maxRecDepth 10000 in
theorem lW_c (G : Gc) (z : Nat → Nat) (q a1 a2 a3 a4 a5 a6 a7 a8 a9 a10 a11 a12 a13 a14 a15 a16 a17 a18 a19 a20 a21 a22 a23 a24 a25 a26 a27 a28 a29 a30 a31 a32 a33 a34 a35 a36 a37 a38 a39 a40 a41 a42 a43 a44 a45 a46 a47 a48 a49 a50 a51 a52 a53 a54 a55 a56 a57 a58 a59 a60 a61 a62 a63 p b1 b2 b3 b4 b5 b6 b7 b8 b9 b10 b11 b12 b13 b14 b15 b16 b17 b18 b19 b20 b21 b22 b23 b24 b25 b26 : Nat) : isC.map (fun i => (lW G q a1 a2 a3 a4 a5 a6 a7 a8 a9 a10 a11 a12 a13 a14 a15 a16 a17 a18 a19 a20 a21 a22 a23 a24 a25 a26 a27 a28 a29 a30 a31 a32 a33 a34 a35 a36 a37 a38 a39 a40 a41 a42 a43 a44 a45 a46 a47 a48 a49 a50 a51 a52 a53 a54 a55 a56 a57 a58 a59 a60 a61 a62 a63 p b1 b2 b3 b4 b5 b6 b7 b8 b9 b10 b11 b12 b13 b14 b15 b16 b17 b18 b19 b20 b21 b22 b23 b24 b25 b26 (fun j => if j < 10 then some ((adC q a1 a2 a3 a4 a5 a6 a7 a8 a9 a10 a11 a12 a13 a14 a15 a16 a17 a18 a19 a20 a21 a22 a23 a24 a25 a26 a27 a28 a29 a30 a31 a32 a33 a34 a35 a36 a37 a38 a39 a40 a41 a42 a43 a44 a45 a46 a47 a48 a49 a50 a51 a52 a53 a54 a55 a56 a57 a58 a59 a60 a61 a62 a63) (42 + j)) else none) (fun j => if j < 6 then some ((adC q a1 a2 a3 a4 a5 a6 a7 a8 a9 a10 a11 a12 a13 a14 a15 a16 a17 a18 a19 a20 a21 a22 a23 a24 a25 a26 a27 a28 a29 a30 a31 a32 a33 a34 a35 a36 a37 a38 a39 a40 a41 a42 a43 a44 a45 a46 a47 a48 a49 a50 a51 a52 a53 a54 a55 a56 a57 a58 a59 a60 a61 a62 a63) (52 + j)) else none))[i]?) = (wl (G.1, G.2, (adC q a1 a2 a3 a4 a5 a6 a7 a8 a9 a10 a11 a12 a13 a14 a15 a16 a17 a18 a19 a20 a21 a22 a23 a24 a25 a26 a27 a28 a29 a30 a31 a32 a33 a34 a35 a36 a37 a38 a39 a40 a41 a42 a43 a44 a45 a46 a47 a48 a49 a50 a51 a52 a53 a54 a55 a56 a57 a58 a59 a60 a61 a62 a63), z) layC (kap0 (rf (G.1, G.2, (adC q a1 a2 a3 a4 a5 a6 a7 a8 a9 a10 a11 a12 a13 a14 a15 a16 a17 a18 a19 a20 a21 a22 a23 a24 a25 a26 a27 a28 a29 a30 a31 a32 a33 a34 a35 a36 a37 a38 a39 a40 a41 a42 a43 a44 a45 a46 a47 a48 a49 a50 a51 a52 a53 a54 a55 a56 a57 a58 a59 a60 a61 a62 a63), z) 19) (rf (G.1, G.2, (adC q a1 a2 a3 a4 a5 a6 a7 a8 a9 a10 a11 a12 a13 a14 a15 a16 a17 a18 a19 a20 a21 a22 a23 a24 a25 a26 a27 a28 a29 a30 a31 a32 a33 a34 a35 a36 a37 a38 a39 a40 a41 a42 a43 a44 a45 a46 a47 a48 a49 a50 a51 a52 a53 a54 a55 a56 a57 a58 a59 a60 a61 a62 a63), z) 20))).map some := rfl
set_option maxHeartbeats 4000000 in
set_option maxRecDepth 10000 in
theorem lW_m (G : Gc) (z : Nat → Nat) (q a1 a2 a3 a4 a5 a6 a7 a8 a9 a10 a11 a12 a13 a14 a15 a16 a17 a18 a19 a20 a21 a22 a23 a24 a25 a26 a27 a28 a29 a30 a31 a32 a33 a34 a35 a36 a37 a38 a39 a40 a41 a42 a43 a44 a45 a46 a47 a48 a49 a50 a51 a52 a53 a54 a55 a56 a57 a58 a59 a60 a61 a62 a63 p b1 b2 b3 b4 b5 b6 b7 b8 b9 b10 b11 b12 b13 b14 b15 b16 b17 b18 b19 b20 b21 b22 b23 b24 b25 b26 : Nat) (f g : Nat → Option Nat) : isM.map (fun i => (lW G q a1 a2 a3 a4 a5 a6 a7 a8 a9 a10 a11 a12 a13 a14 a15 a16 a17 a18 a19 a20 a21 a22 a23 a24 a25 a26 a27 a28 a29 a30 a31 a32 a33 a34 a35 a36 a37 a38 a39 a40 a41 a42 a43 a44 a45 a46 a47 a48 a49 a50 a51 a52 a53 a54 a55 a56 a57 a58 a59 a60 a61 a62 a63 p b1 b2 b3 b4 b5 b6 b7 b8 b9 b10 b11 b12 b13 b14 b15 b16 b17 b18 b19 b20 b21 b22 b23 b24 b25 b26 f g)[i]?) = (wl (VMo (G.1, G.2, (adC q a1 a2 a3 a4 a5 a6 a7 a8 a9 a10 a11 a12 a13 a14 a15 a16 a17 a18 a19 a20 a21 a22 a23 a24 a25 a26 a27 a28 a29 a30 a31 a32 a33 a34 a35 a36 a37 a38 a39 a40 a41 a42 a43 a44 a45 a46 a47 a48 a49 a50 a51 a52 a53 a54 a55 a56 a57 a58 a59 a60 a61 a62 a63), z) (adM p b1 b2 b3 b4 b5 b6 b7 b8 b9 b10 b11 b12 b13 b14 b15 b16 b17 b18 b19 b20 b21 b22 b23 b24 b25 b26)) layM mu0).map some := rfl

/-! bits -/
theorem i32N (a : Nat) : Int32.ofInt (a : Int) = Int32.ofBitVec (BitVec.ofNat 32 a) := by
  rw [Int32.ofInt_eq_ofNat]; rfl
theorem andN (a b : Nat) : Int32.ofInt a &&& Int32.ofInt b = Int32.ofInt ((a &&& b : Nat) : Int) := by
  rw [i32N, i32N, i32N, BitVec.ofNat_and]; rfl
theorem orN (a b : Nat) : Int32.ofInt a ||| Int32.ofInt b = Int32.ofInt ((a ||| b : Nat) : Int) := by
  rw [i32N, i32N, i32N, BitVec.ofNat_or]; rfl
theorem shlN : ∀ i : Nat, i < 6 → Int32.ofInt 1 <<< (Int32.ofInt (i : Int) &&& 31) = Int32.ofInt ((2 ^ i : Nat) : Int) := by decide
theorem shrN : ∀ a : Nat, a < 64 → ∀ i : Nat, i < 6 → Int32.ofInt (a : Int) >>> (Int32.ofInt (i : Int) &&& 31) = Int32.ofInt ((a / 2 ^ i : Nat) : Int) := by decide +kernel
theorem xorN : ∀ i : Nat, i < 6 → Int32.ofInt ((2 ^ i : Nat) : Int) ^^^ Int32.ofInt (-1) = Int32.ofInt (-1 - ((2 ^ i : Nat) : Int)) := by decide
theorem notN : ∀ a : Nat, a < 64 → ∀ i : Nat, i < 6 → Int32.ofInt (a : Int) &&& Int32.ofInt (-1 - ((2 ^ i : Nat) : Int)) = Int32.ofInt ((a &&& (63 ^^^ 2 ^ i) : Nat) : Int) := by decide +kernel
theorem notB : ∀ i : Nat, i < 6 → ∀ j : Nat, j < 6 → (63 ^^^ 2 ^ i).testBit j = decide (j ≠ i) := by decide
theorem hasN : ∀ a : Nat, a < 64 → ∀ i : Nat, i < 6 → (a / 2 ^ i &&& 1) = if a.testBit i = true then 1 else 0 := by decide +kernel
theorem two_test : ∀ i : Nat, i < 6 → ∀ j : Nat, j < 6 → (2 ^ i).testBit j = decide (j = i) := by decide
/-- v's bits are F -/
def Bt (n : Nat) (v : Int) (F : Nat → Bool) : Prop := ∃ w : Nat, v = (w : Int) ∧ w < 2 ^ n ∧ ∀ i, i < n → w.testBit i = F i
theorem p2 : ∀ n : Nat, n ≤ 6 → 2 ^ n ≤ 64 := by decide
theorem Bt.in {n : Nat} {v : Int} {F : Nat → Bool} (h : Bt n v F) (hn : n ≤ 6) : 0 ≤ v ∧ v < 64 := by
  obtain ⟨w, e, l, _⟩ := h; have := p2 n hn; omega
theorem Bt.c {n : Nat} {v : Int} {F G : Nat → Bool} (h : Bt n v F) (e : ∀ i, i < n → F i = G i) : Bt n v G := by
  obtain ⟨w, a, l, q⟩ := h; exact ⟨w, a, l, fun i hi => (q i hi).trans (e i hi)⟩
theorem Bt.and {n : Nat} {a b : Int} {F G : Nat → Bool} (h : Bt n a F) (g : Bt n b G) : ∃ r : Int, Int32.ofInt a &&& Int32.ofInt b = Int32.ofInt r ∧ Bt n r (fun i => F i && G i) := by
  obtain ⟨w, e, l, q⟩ := h; obtain ⟨x, f, m, p⟩ := g
  refine ⟨((w &&& x : Nat) : Int), by rw [e, f, andN], w &&& x, rfl, Nat.lt_of_le_of_lt Nat.and_le_left l, fun i hi => ?_⟩
  rw [Nat.testBit_and, q i hi, p i hi]
theorem Bt.or {n : Nat} {a b : Int} {F G : Nat → Bool} (h : Bt n a F) (g : Bt n b G) : ∃ r : Int, Int32.ofInt a ||| Int32.ofInt b = Int32.ofInt r ∧ Bt n r (fun i => F i || G i) := by
  obtain ⟨w, e, l, q⟩ := h; obtain ⟨x, f, m, p⟩ := g
  refine ⟨((w ||| x : Nat) : Int), by rw [e, f, orN], w ||| x, rfl, Nat.or_lt_two_pow l m, fun i hi => ?_⟩
  rw [Nat.testBit_or, q i hi, p i hi]
theorem Bt.shl {n : Nat} {i : Int} (hn : n ≤ 6) (hi : 0 ≤ i ∧ i < n) : ∃ r : Int, Int32.ofInt 1 <<< (Int32.ofInt i &&& 31) = Int32.ofInt r ∧ Bt n r (fun j => decide (j = i.toNat)) := by
  refine ⟨((2 ^ i.toNat : Nat) : Int), ?_, 2 ^ i.toNat, rfl, Nat.pow_lt_pow_right (by decide) (by omega), fun j hj => two_test _ (by omega) j (by omega)⟩
  have := shlN i.toNat (by omega)
  rwa [show ((i.toNat : Nat) : Int) = i by omega] at this
theorem Bt.has {n : Nat} {v i : Int} {F : Nat → Bool} (h : Bt n v F) (hn : n ≤ 6) (hi : 0 ≤ i ∧ i < n) : ∃ r : Int, Int32.ofInt v >>> (Int32.ofInt i &&& 31) = Int32.ofInt r ∧ Int32.ofInt r &&& Int32.ofInt 1 = Int32.ofInt (bi (F i.toNat)) := by
  obtain ⟨w, e, l, q⟩ := h
  have h64 := p2 n hn
  refine ⟨((w / 2 ^ i.toNat : Nat) : Int), ?_, ?_⟩
  · have := shrN w (by omega) i.toNat (by omega)
    rw [e]; rwa [show ((i.toNat : Nat) : Int) = i by omega] at this
  · have h1 := andN (w / 2 ^ i.toNat) 1
    rw [hasN w (by omega) i.toNat (by omega), q i.toNat (by omega)] at h1
    rw [show ((1 : Nat) : Int) = 1 from rfl] at h1
    rw [h1]
    cases F i.toNat <;> rfl
theorem Bt.clr {n : Nat} {v i : Int} {F : Nat → Bool} (h : Bt n v F) (hn : n ≤ 6) (hi : 0 ≤ i ∧ i < n) : ∃ s x r : Int, Int32.ofInt 1 <<< (Int32.ofInt i &&& 31) = Int32.ofInt s ∧ Int32.ofInt s ^^^ Int32.ofInt (-1) = Int32.ofInt x ∧ Int32.ofInt v &&& Int32.ofInt x = Int32.ofInt r ∧ Bt n r (fun j => F j && decide (j ≠ i.toNat)) := by
  obtain ⟨w, e, l, q⟩ := h
  have h64 := p2 n hn
  refine ⟨((2 ^ i.toNat : Nat) : Int), -1 - ((2 ^ i.toNat : Nat) : Int), ((w &&& (63 ^^^ 2 ^ i.toNat) : Nat) : Int), ?_, xorN _ (by omega), by rw [e]; exact notN w (by omega) _ (by omega), w &&& (63 ^^^ 2 ^ i.toNat), rfl, Nat.lt_of_le_of_lt Nat.and_le_left l, fun j hj => ?_⟩
  · have := shlN i.toNat (by omega)
    rwa [show ((i.toNat : Nat) : Int) = i by omega] at this
  · rw [Nat.testBit_and, q j hj, notB _ (by omega) j (by omega)]
theorem lt2 {n w : Nat} (h : ∀ i, i < n → w.testBit i = false) (l : w < 2 ^ n) : w = 0 := by
  apply Nat.eq_of_testBit_eq
  intro i
  rw [Nat.zero_testBit]
  by_cases c : i < n
  · exact h i c
  · exact Nat.testBit_lt_two_pow (Nat.lt_of_lt_of_le l (Nat.pow_le_pow_right (by decide) (by omega)))
theorem Bt.z {n : Nat} {v : Int} {F : Nat → Bool} (h : Bt n v F) : v = 0 ↔ ∀ i, i < n → F i = false := by
  obtain ⟨w, e, l, q⟩ := h
  constructor
  · intro z i hi
    rw [← q i hi, show w = 0 by omega, Nat.zero_testBit]
  · intro z
    have := lt2 (w := w) (fun i hi => (q i hi).trans (z i hi)) l
    omega
theorem Bt.e {n : Nat} {v u : Int} {F G : Nat → Bool} (h : Bt n v F) (g : Bt n u G) : v = u ↔ ∀ i, i < n → F i = G i := by
  obtain ⟨w, e, l, q⟩ := h; obtain ⟨x, f, m, p⟩ := g
  constructor
  · intro z i hi
    rw [← q i hi, ← p i hi, show w = x by omega]
  · intro z
    have : w = x := by
      apply Nat.eq_of_testBit_eq
      intro i
      by_cases c : i < n
      · rw [q i c, p i c, z i c]
      · rw [Nat.testBit_lt_two_pow (Nat.lt_of_lt_of_le l (Nat.pow_le_pow_right (by decide) (by omega))), Nat.testBit_lt_two_pow (Nat.lt_of_lt_of_le m (Nat.pow_le_pow_right (by decide) (by omega)))]
    rw [e, f, this]
theorem Bt.zero (n : Nat) : Bt n 0 (fun _ => false) := ⟨0, rfl, Nat.pow_pos (by decide), fun i _ => Nat.zero_testBit i⟩
theorem Bt.full5 : Bt 5 31 (fun _ => true) := ⟨31, rfl, by decide, by decide⟩
/-- (1 << n) - 1 -/
theorem Bt.low : ∀ k : Nat, k ≤ 4 → Bt 4 ((2 ^ k : Nat) - 1 : Int) (fun i => decide (i < k)) := by
  intro k hk
  refine ⟨2 ^ k - 1, ?_, ?_, ?_⟩
  · have : 0 < 2 ^ k := Nat.pow_pos (by decide)
    omega
  · have : 2 ^ k ≤ 2 ^ 4 := Nat.pow_le_pow_right (by decide) hk
    have : 0 < 2 ^ k := Nat.pow_pos (by decide)
    omega
  · revert k; decide
/-! sums over all releases -/
def ctG (M : Nat → Int → Int) (g : Int → Int) : Nat → Int
  | 0 => 0
  | n + 1 => ctG M g n + (if (n : Int) % 4 < M 2 ((n : Int) / 4) then g n else 0)
def suF (g : Int → Int) (b : Int) : Nat → Int
  | 0 => 0
  | n + 1 => suF g b n + g (b + n)
theorem ctG_4 {M : Nat → Int → Int} {g : Int → Int} {p : Nat} (h : 0 ≤ M 2 p ∧ M 2 p ≤ 4) : ctG M g (4 * (p + 1)) = ctG M g (4 * p) + suF g (4 * p) (M 2 p).toNat := by
  rw [show 4 * (p + 1) = 4 * p + 1 + 1 + 1 + 1 by omega]
  simp only [ctG]
  rw [show ((4 * p : Nat) : Int) / 4 = p by omega, show ((4 * p : Nat) : Int) % 4 = 0 by omega, show ((4 * p + 1 : Nat) : Int) / 4 = p by omega, show ((4 * p + 1 : Nat) : Int) % 4 = 1 by omega, show ((4 * p + 1 + 1 : Nat) : Int) / 4 = p by omega, show ((4 * p + 1 + 1 : Nat) : Int) % 4 = 2 by omega, show ((4 * p + 1 + 1 + 1 : Nat) : Int) / 4 = p by omega, show ((4 * p + 1 + 1 + 1 : Nat) : Int) % 4 = 3 by omega]
  rw [show ((4 * p : Nat) : Int) = 4 * (p : Int) by omega, show ((4 * p + 1 : Nat) : Int) = 4 * (p : Int) + 1 by omega, show ((4 * p + 1 + 1 : Nat) : Int) = 4 * (p : Int) + 2 by omega, show ((4 * p + 1 + 1 + 1 : Nat) : Int) = 4 * (p : Int) + 3 by omega]
  have : M 2 p = 0 ∨ M 2 p = 1 ∨ M 2 p = 2 ∨ M 2 p = 3 ∨ M 2 p = 4 := by omega
  rcases this with e | e | e | e | e <;> rw [e] <;> simp [suF] <;> omega
theorem ct2_G (M : Nat → Int → Int) : ∀ n, ct2 M n = ctG M (fun _ => 1) n
  | 0 => rfl
  | n + 1 => by simp only [ct2, ctG, ct2_G M n, ctT, bi, decide_eq_true_eq]
theorem ct3_G (M : Nat → Int → Int) : ∀ n, ct3 M n = ctG M (fun k => if M 3 k = 0 then 0 else 1) n
  | 0 => rfl
  | n + 1 => by
    simp only [ct3, ctG, ct3_G M n, ctT, bi]
    by_cases a : (n : Int) % 4 < M 2 ((n : Int) / 4) <;> by_cases b : M 3 n = 0 <;> simp [a, b]
theorem ct4_G {M : Nat → Int → Int} (h : naOK M) : ∀ n, n ≤ 24 → ct4 M n = ctG M (M 5) n
  | 0, _ => rfl
  | n + 1, hn => by
    simp only [ct4, ctG, ct4_G h n (by omega)]
    split
    · rfl
    · rename_i c; rw [(h n (by omega) (by omega) (by omega)).2.2]
/-! the beginning -/
def M0 : Nat → Int → Int := mu (mu (fun _ _ => 0) 0 (rz_u (fun _ => 0) 24 49)) 1 (rz_u (fun _ => 0) 1 1)
theorem Big_0 : Big M0 (fun _ d => d) := by
  have e2 : M0 2 = fun _ => 0 := rfl
  have e4 : M0 4 = fun _ => 0 := rfl
  have e5 : M0 5 = fun _ => 0 := rfl
  have e8 : M0 8 = fun _ => 0 := rfl
  have e0 : M0 0 = rz_u (fun _ => 0) 24 49 := rfl
  have e1 : M0 1 = rz_u (fun _ => 0) 1 1 := rfl
  refine ⟨?_, ⟨fun p r _ _ _ r1 => by rw [e2] at r1; dsimp only at r1; omega, by decide, fun k _ _ hk => by rw [e4] at hk; exact absurd rfl hk, fun k j _ _ _ j1 => by rw [e5] at j1; dsimp only at j1; omega, fun a _ a1 => by rw [e8] at a1; dsimp only at a1; omega⟩, fun hz => absurd rfl hz, fun k _ _ _ => ⟨rfl, rfl, rfl⟩, fun p _ _ => ⟨fun d _ d1 => by rw [e2] at d1; dsimp only at d1; omega, fun r _ r1 => by rw [e2] at r1; dsimp only at r1; omega, fun d _ _ => rfl⟩⟩
  unfold mWF
  refine ⟨fun t _ _ => ?_, fun j _ _ => ?_, fun _ _ _ => (show (0 : Int) ≤ 0 ∧ (0 : Int) ≤ 4 by decide), fun _ _ _ => (show (0 : Int) ≤ 0 ∧ (0 : Int) ≤ 3 by decide), fun _ _ _ => (show (0 : Int) ≤ 0 ∧ (0 : Int) ≤ 5 by decide), by decide, fun _ _ _ => (show (0 : Int) ≤ 0 ∧ (0 : Int) ≤ 5 by decide), fun _ _ _ => Or.inl rfl, fun _ _ _ => Or.inl rfl, fun _ _ _ => Or.inl rfl, Or.inl rfl, Or.inl rfl, fun _ _ _ => (show (-1 : Int) ≤ 0 ∧ (0 : Int) ≤ 3 by decide), fun _ _ _ => Or.inl rfl⟩
  · rw [e1]; by_cases e : t = 1
    · rw [e, rz_u_s]; omega
    · rw [rz_u_n e]; omega
  · rw [e0]; by_cases e : j = 24
    · rw [e, rz_u_s]; omega
    · rw [rz_u_n e]; omega

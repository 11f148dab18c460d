/-! settling: the digits -/
def oD (M : Nat → Int → Int) (p : Int) (i : Int) : Nat := if i = 4 then 4 else (flM M p i).toNat
theorem oM_D (M : Nat → Int → Int) (n : Int) (p : Nat) : oM M n p = oD M p (dgt n p) := rfl
theorem p5 (k : Nat) : (0 : Int) < 5 ^ k := Int.pow_pos (by decide)
theorem dgt_at {n i : Int} {k : Nat} (hk : k < 6) (hn : (5 : Int) ^ (6 - k) ∣ n) (hi : 0 ≤ i ∧ i < 5) : dgt (n + i * 5 ^ (5 - k)) k = i := by
  obtain ⟨c, hc⟩ := hn
  unfold dgt
  rw [show (5 - (k : Int)).toNat = 5 - k by omega, Int.add_mul_ediv_right _ _ (by have := p5 (5 - k); omega), hc, show 6 - k = (5 - k) + 1 by omega, Int.pow_succ, Int.mul_assoc, Int.mul_ediv_cancel_left _ (by have := p5 (5 - k); omega)]
  omega
theorem oM_at {M : Nat → Int → Int} {n i : Int} {k : Nat} (hk : k < 6) (hn : (5 : Int) ^ (6 - k) ∣ n) (hi : 0 ≤ i ∧ i < 5) : oM M (n + i * 5 ^ (5 - k)) k = oD M k i := by
  rw [oM_D, dgt_at hk hn hi]
theorem oM_pre {M : Nat → Int → Int} {n i : Int} {k p : Nat} (hk : k < 6) (hp : p < k) (hn : (5 : Int) ^ (6 - k) ∣ n) (hi : 0 ≤ i ∧ i < 5) : oM M (n + i * 5 ^ (5 - k)) p = oM M n p := by
  refine oM_c (k := k - 1) (by omega) (by omega) ?_
  obtain ⟨c, hc⟩ := hn
  have e : (5 - ((k - 1 : Nat) : Int)).toNat = 6 - k := by omega
  rw [e, hc]
  have p1 := p5 (6 - k); have p2 := p5 (5 - k)
  have e2 : (5 : Int) ^ (6 - k) = 5 ^ (5 - k) * 5 := by rw [show 6 - k = (5 - k) + 1 by omega, Int.pow_succ]
  rw [Int.mul_ediv_cancel_left _ (by omega), Int.add_comm, Int.add_mul_ediv_left _ _ (by omega)]
  have : i * 5 ^ (5 - k) / 5 ^ (6 - k) = 0 := by
    apply Int.ediv_eq_zero_of_lt
    · exact Int.mul_nonneg hi.1 (by omega)
    · rw [e2, Int.mul_comm]; exact Int.mul_lt_mul_of_pos_left hi.2 p2
  omega
theorem dv_next {n i : Int} {k : Nat} (hk : k < 6) (hn : (5 : Int) ^ (6 - k) ∣ n) : (5 : Int) ^ (6 - (k + 1)) ∣ n + i * 5 ^ (5 - k) := by
  obtain ⟨c, hc⟩ := hn
  refine ⟨5 * c + i, ?_⟩
  rw [hc, show 6 - (k + 1) = 5 - k by omega, show 6 - k = (5 - k) + 1 by omega, Int.pow_succ, Int.mul_add, Int.mul_assoc, Int.mul_comm i]
/-- what settling needs of the search's numbers -/
def stH (S : Nat → Int → Int → Int) (M : Nat → Int → Int) (k : Nat) (n : Int) : Prop := Bt 6 (S 7 0 0) (zM M).aq ∧ (∀ p x : Nat, p < 6 → x < 4 → Bt 6 (S 3 0 (p * 5 + x)) ((zM M).ld p x)) ∧ (∀ p x q : Nat, p < 6 → x < 5 → q < 6 → Bt 5 (S 2 (p * 5 + x) q) ((zM M).bs p x q)) ∧ (∀ p i : Nat, p < 6 → i < 5 → S 0 p i = (oD M p i : Int)) ∧ (∀ q : Nat, q < 6 → Bt 5 (S 8 k q) (Lv (zM M) (oM M n) k q)) ∧ (∀ j, j < k → tri (zM M) (oM M n) j = true) ∧ (5 : Int) ^ (6 - k) ∣ n
theorem stH_at {S S' : Nat → Int → Int → Int} {M : Nat → Int → Int} {k : Nat} {n i : Int} (h : stH S M k n) (hk : k < 6) (hS : ∀ c r, ¬ (c = 8 ∧ (k : Int) < r) → S' c r = S c r) (hi : 0 ≤ i ∧ i < 5) : Bt 6 (S' 7 0 0) (zM M).aq ∧ (∀ p x : Nat, p < 6 → x < 4 → Bt 6 (S' 3 0 (p * 5 + x)) ((zM M).ld p x)) ∧ (∀ p x q : Nat, p < 6 → x < 5 → q < 6 → Bt 5 (S' 2 (p * 5 + x) q) ((zM M).bs p x q)) ∧ (∀ p i : Nat, p < 6 → i < 5 → S' 0 p i = (oD M p i : Int)) ∧ (∀ q : Nat, q < 6 → Bt 5 (S' 8 k q) (Lv (zM M) (oM M (n + i * 5 ^ (5 - k))) k q)) ∧ ∀ j, j < k → tri (zM M) (oM M (n + i * 5 ^ (5 - k))) j = true := by
  obtain ⟨a, b, c, d, e, f, g⟩ := h
  refine ⟨by rw [hS 7 0 (by omega)]; exact a, fun p x hp hx => by rw [hS 3 0 (by omega)]; exact b p x hp hx, fun p x q hp hx hq => by rw [hS 2 _ (by omega)]; exact c p x q hp hx hq, fun p i hp hi => by rw [hS 0 _ (by omega)]; exact d p i hp hi, fun q hq => ?_, fun j hj => ?_⟩
  · rw [hS 8 k (by omega)]
    exact (e q hq).c (fun x _ => (Lv_c k (fun p hp => oM_pre hk hp g hi) q x).symm)
  · rw [tri_c (o := oM M n) (fun p hp => oM_pre hk (by omega) g hi)]; exact f j hj
theorem pw_c (k : Nat) : ((5 ^ k : Nat) : Int) = 5 ^ k := by simp
theorem srF_in' {M : Nat → Int → Int} {i k : Nat} {n : Int} : ((i * 5 ^ (5 - k) : Nat) : Int) = (i : Int) * 5 ^ (5 - k) := by rw [Int.natCast_mul, pw_c]
/-- nothing in the stretch of digit i: on -/
theorem st_no {M : Nat → Int → Int} {i k : Nat} {n : Int} (h : srF M (i * 5 ^ (5 - k)) n = n + (i : Int) * 5 ^ (5 - k)) (h2 : srF M (5 ^ (5 - k)) (n + (i : Int) * 5 ^ (5 - k)) = n + (i : Int) * 5 ^ (5 - k) + ((5 ^ (5 - k) : Nat) : Int)) : srF M ((i + 1) * 5 ^ (5 - k)) n = n + ((i + 1 : Nat) : Int) * 5 ^ (5 - k) := by
  rw [srF_next (by rw [srF_in' (n := n) (M := M)]; exact h), srF_in' (n := n) (M := M), h2, pw_c, show ((i + 1 : Nat) : Int) = (i : Int) + 1 by omega, Int.add_mul, Int.one_mul, Int.add_assoc]
/-- found in the stretch of digit i -/
theorem st_yes {M : Nat → Int → Int} {i k : Nat} {n : Int} (hi : i < 5) (hk : k < 6) (h : srF M (i * 5 ^ (5 - k)) n = n + (i : Int) * 5 ^ (5 - k)) (h2 : srF M (5 ^ (5 - k)) (n + (i : Int) * 5 ^ (5 - k)) < n + (i : Int) * 5 ^ (5 - k) + ((5 ^ (5 - k) : Nat) : Int)) : srF M (5 ^ (6 - k)) n = srF M (5 ^ (5 - k)) (n + (i : Int) * 5 ^ (5 - k)) ∧ srF M (5 ^ (6 - k)) n < n + ((5 ^ (6 - k) : Nat) : Int) := by
  have e := srF_next (M := M) (i := i) (D := 5 ^ (5 - k)) (N := n) (by rw [srF_in' (n := n) (M := M)]; exact h)
  rw [srF_in' (n := n) (M := M)] at e
  have l : srF M ((i + 1) * 5 ^ (5 - k)) n < n + (((i + 1) * 5 ^ (5 - k) : Nat) : Int) := by
    rw [e, srF_in' (n := n) (M := M), show ((i + 1 : Nat) : Int) = (i : Int) + 1 by omega, Int.add_mul, Int.one_mul, ← Int.add_assoc, ← pw_c]; exact h2
  have m := srF_more (M := M) (a := (i + 1) * 5 ^ (5 - k)) (i := n) ((4 - i) * 5 ^ (5 - k)) l
  rw [← Nat.add_mul, show i + 1 + (4 - i) = 5 by omega] at m
  have p : 5 * 5 ^ (5 - k) = 5 ^ (6 - k) := by rw [show 6 - k = (5 - k) + 1 by omega, Nat.pow_succ, Nat.mul_comm]
  rw [p] at m
  refine ⟨m.trans e, ?_⟩
  rw [m]
  refine Int.lt_of_lt_of_le l ?_
  have : (i + 1) * 5 ^ (5 - k) ≤ 5 ^ (6 - k) := by rw [← p]; exact Nat.mul_le_mul_right _ (by omega)
  omega
theorem st_end {M : Nat → Int → Int} {k : Nat} {n : Int} (hk : k < 6) (h : srF M (5 * 5 ^ (5 - k)) n = n + ((5 : Nat) : Int) * 5 ^ (5 - k)) : ¬ srF M (5 ^ (6 - k)) n < n + ((5 ^ (6 - k) : Nat) : Int) := by
  have p : 5 * 5 ^ (5 - k) = 5 ^ (6 - k) := by rw [show 6 - k = (5 - k) + 1 by omega, Nat.pow_succ, Nat.mul_comm]
  rw [p] at h
  have : ((5 : Nat) : Int) * 5 ^ (5 - k) = ((5 ^ (6 - k) : Nat) : Int) := by rw [← p, Int.natCast_mul, pw_c]
  omega

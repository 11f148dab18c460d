/-! the search's order -/
theorem oM_5 {M : Nat → Int → Int} (hw : mWF M) (n : Int) {p : Nat} (hp : p < 6) : oM M n p < 5 := by
  have := dgt_in n p
  have w := (M_big hw).1 p (by omega) (by omega)
  have l := rkd_lt (M := M) (p := p) (d := dgt n p) w.1
  unfold oM flM
  split
  · omega
  · split <;> omega
theorem us_self {M : Nat → Int → Int} {p x : Nat} (h : (zM M).l0 p x = true) : (zM M).bs p x p x = true := by
  simp only [zM, Pz.l0, Pz.bs, usM, Bool.and_eq_true, Bool.or_eq_true, decide_eq_true_eq] at h ⊢
  rcases h.1 with e | e
  · simp [bsM, admM, e]
  · exact e.2
theorem okS_tri {M : Nat → Int → Int} (hw : mWF M) (hr : rkOK M) (hg : gtOK M) (n : Int) : okS M n = true ↔ ∀ k, k < 6 → tri (zM M) (oM M n) k = true := by
  rw [okS_gd hw hr hg]
  exact ⟨fun h k hk => tri_of (fun p hp => oM_5 hw n hp) h k hk, fun h => of_tri (fun p hp => oM_5 hw n hp) (fun p x _ _ q => us_self q) h⟩
theorem Lv6 {z : Pz} {o : Nat → Nat} (h : ∀ k, k < 6 → tri z o k = true) {q : Nat} (hq : q < 6) (x : Nat) : Lv z o 6 q x = decide (x = o q) := by
  by_cases c : q = 5
  · simp [Lv, c]
  · have h5 := h 5 (by omega)
    simp only [tri, Bool.and_eq_true] at h5
    obtain ⟨y, a, b⟩ := ex_t.1 (al_t.1 h5.1.2 q hq)
    rw [Bool.and_eq_true] at b
    have e := Lv_set 5 (by omega) b.1
    rw [e] at b
    by_cases d : x = o q
    · rw [d]; simp only [decide_true]; rw [Lv, if_neg c, b.1, b.2]; rfl
    · rw [decide_eq_false d]
      cases f : Lv z o 6 q x
      · rfl
      · exact absurd (Lv_set 6 hq f) d
theorem dgt_c {n m p k : Int} (hp : 0 ≤ p ∧ p ≤ k) (hk : k ≤ 5) (h : n / 5 ^ (5 - k).toNat = m / 5 ^ (5 - k).toNat) : dgt n p = dgt m p := by
  have e : ∀ x : Int, x / 5 ^ (5 - p).toNat = x / 5 ^ (5 - k).toNat / 5 ^ (k - p).toNat := fun x => by
    rw [Int.ediv_ediv_of_nonneg (Int.le_of_lt (Int.pow_pos (by decide))), ← Int.pow_add]; congr 2; omega
  unfold dgt
  rw [e, e, h]
theorem oM_c {M : Nat → Int → Int} {n m : Int} {p k : Nat} (hp : p ≤ k) (hk : k ≤ 5) (h : n / 5 ^ (5 - (k : Int)).toNat = m / 5 ^ (5 - (k : Int)).toNat) : oM M n p = oM M m p := by
  unfold oM
  rw [dgt_c (by omega) (by omega) h]
theorem srF_in {M : Nat → Int → Int} : ∀ (a : Nat) (i : Int), i ≤ srF M a i ∧ srF M a i ≤ i + a
  | 0, i => by simp [srF]
  | a + 1, i => by have := srF_in (M := M) a (i + 1); simp only [srF]; split <;> omega
theorem srF_ok {M : Nat → Int → Int} : ∀ (a : Nat) (i : Int), srF M a i < i + a → okS M (srF M a i) = true
  | 0, i, h => by simp [srF] at h
  | a + 1, i, h => by
    simp only [srF] at h ⊢
    split at h
    · rename_i c; rw [if_pos c]; exact c
    · rename_i c; rw [if_neg c]; exact srF_ok a (i + 1) (by omega)
theorem srF_none {M : Nat → Int → Int} : ∀ (a : Nat) (i : Int), (∀ j, i ≤ j → j < i + a → okS M j = false) → srF M a i = i + a
  | 0, i, _ => by simp [srF]
  | a + 1, i, h => by
    simp only [srF]
    rw [if_neg (by rw [h i (by omega) (by omega)]; decide), srF_none a (i + 1) (fun j x y => h j (by omega) (by omega))]; omega
theorem srF_cat {M : Nat → Int → Int} : ∀ (a b : Nat) (i : Int), srF M (a + b) i = if srF M a i < i + a then srF M a i else srF M b (i + a)
  | 0, b, i => by simp [srF]
  | a + 1, b, i => by
    have ih := srF_cat (M := M) a b (i + 1)
    by_cases c : okS M i = true
    · rw [srF_hit c, srF_hit c, if_pos (by omega)]
    · have f : okS M i = false := by simpa using c
      rw [srF_go (by omega) f, srF_go (k := a + 1) (by omega) f, show a + 1 + b - 1 = a + b by omega, show a + 1 - 1 = a by omega, ih]
      by_cases d : srF M a (i + 1) < i + 1 + a
      · rw [if_pos d, if_pos (by omega)]
      · rw [if_neg d, if_neg (by omega)]; congr 1; omega
/-- one digit on: nothing so far, and what the next stretch says -/
theorem srF_next {M : Nat → Int → Int} {i D : Nat} {N : Int} (h : srF M (i * D) N = N + ((i * D : Nat) : Int)) : srF M ((i + 1) * D) N = srF M D (N + ((i * D : Nat) : Int)) := by
  rw [show (i + 1) * D = i * D + D by rw [Nat.add_mul, Nat.one_mul], srF_cat, h, if_neg (by omega)]
theorem srF_more {M : Nat → Int → Int} {a : Nat} {i : Int} (b : Nat) (h : srF M a i < i + a) : srF M (a + b) i = srF M a i := by rw [srF_cat, if_pos h]
theorem tri_no {M : Nat → Int → Int} (hw : mWF M) (hr : rkOK M) (hg : gtOK M) {k : Nat} (hk : k ≤ 5) {n : Int} (hn : 5 ^ (5 - (k : Int)).toNat ∣ n) (h : tri (zM M) (oM M n) k = false) : srF M (5 ^ (5 - k)) n = n + ((5 ^ (5 - k) : Nat) : Int) := by
  have e5 : (5 - (k : Int)).toNat = 5 - k := by omega
  rw [e5] at hn
  refine srF_none _ _ (fun j x y => ?_)
  cases c : okS M j
  · rfl
  · have := (okS_tri hw hr hg j).1 c k (by omega)
    have pos : (0 : Int) < 5 ^ (5 - k) := Int.pow_pos (by decide)
    have pe : ((5 ^ (5 - k) : Nat) : Int) = 5 ^ (5 - k) := by simp
    rw [tri_c (o := oM M n) (fun p hp => oM_c (k := k) hp hk (by
      rw [e5]
      obtain ⟨c, hc⟩ := hn
      rw [hc, Int.mul_ediv_cancel_left _ (by omega)]
      have : j = (j - 5 ^ (5 - k) * c) + 5 ^ (5 - k) * c := by omega
      rw [this, Int.add_mul_ediv_left _ _ (by omega), Int.ediv_eq_zero_of_lt (by omega) (by omega)]; omega)), h] at this
    exact absurd this (by decide)
/-- all six tries of n: n is good -/
theorem tri_yes {M : Nat → Int → Int} (hw : mWF M) (hr : rkOK M) (hg : gtOK M) {n : Int} (h : ∀ k, k < 6 → tri (zM M) (oM M n) k = true) : srF M 1 n = n := srF_hit ((okS_tri hw hr hg n).2 h)

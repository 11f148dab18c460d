/-! bounds of ranks and places; small equations -/
theorem numF_b {f : Int → Int} : ∀ (m : Nat) (i v : Int), (∀ j, i ≤ j → j < i + m → isD (f j) = true) → 0 ≤ v → 0 ≤ numF f m i v ∧ numF f m i v < (v + 1) * 10 ^ m
  | 0, _, v, _, h => by simp [numF]; omega
  | m + 1, i, v, hd, h => by
    have hb := isD_in (hd i (by omega) (by omega))
    have ih := numF_b m (i + 1) (10 * v + f i - 48) (fun j a b => hd j (by omega) (by omega)) (by omega)
    refine ⟨ih.1, Int.lt_of_lt_of_le ih.2 ?_⟩
    rw [Int.pow_succ, show (v + 1) * (10 ^ m * 10) = (10 * (v + 1)) * 10 ^ m by rw [Int.mul_comm (10 ^ m) 10, ← Int.mul_assoc, Int.mul_comm (v + 1) 10]]
    exact Int.mul_le_mul_of_nonneg_right (by omega) (Int.le_of_lt (Int.pow_pos (by decide)))
theorem dpF_b {f : Int → Int} {a e : Int} (hf : ∀ j, a ≤ j → j < e → isL (f j) = true) : ∀ (m : Nat) (i v : Int), 0 ≤ i → 0 ≤ v → 0 ≤ dpF f a e m i v ∧ dpF f a e m i v < (v + 1) * 27 ^ m
  | 0, _, v, _, h => by simp [dpF]; omega
  | m + 1, i, v, hi, h => by
    have hb : 0 ≤ (if i < e - a then f (a + i) - 97 + 1 else 0) ∧ (if i < e - a then f (a + i) - 97 + 1 else 0) ≤ 26 := by
      split
      · have := isL_in (hf (a + i) (by omega) (by omega)); omega
      · omega
    have ih := dpF_b hf m (i + 1) (v * 27 + (if i < e - a then f (a + i) - 97 + 1 else 0)) (by omega) (by omega)
    refine ⟨ih.1, Int.lt_of_lt_of_le ih.2 ?_⟩
    rw [Int.pow_succ, show (v + 1) * (27 ^ m * 27) = (27 * (v + 1)) * 27 ^ m by rw [Int.mul_comm (27 ^ m) 27, ← Int.mul_assoc, Int.mul_comm (v + 1) 27]]
    exact Int.mul_le_mul_of_nonneg_right (by omega) (Int.le_of_lt (Int.pow_pos (by decide)))
theorem vRP_b {f : Int → Int} {n : Int} (hn : 0 ≤ n ∧ n ≤ 12) (k : Int) : (0 ≤ vR f 0 n k ∧ vR f 0 n k ≤ 9) ∧ 0 ≤ vP f 0 n k ∧ vP f 0 n k ≤ 1000000000000000000 := by
  have ib := rkL_in (f := f) hn.1 k.toNat
  unfold vR vP
  by_cases c : itS f (rkL f 0 n k.toNat) n < n
  · rw [if_pos c, if_pos c]
    have ie := itE_i ib.2 c; have is := itS_i (f := f) ib.2
    have id := itS_dl ib.2 c
    have il := isDL id
    refine ⟨?_, ?_⟩
    · unfold rkC
      split
      · have := wrR_i (wrd f (itS f (rkL f 0 n k.toNat) n) (itE f (rkL f 0 n k.toNat) n)) (decide (itE f (rkL f 0 n k.toNat) n - itS f (rkL f 0 n k.toNat) n = 1) && (decide (itE f (rkL f 0 n k.toNat) n < n) && isD (f (itE f (rkL f 0 n k.toNat) n)))); omega
      · split <;> omega
    · unfold plC
      split
      · rename_i cl
        split
        · have := dpF_b (f := f) (a := itS f (rkL f 0 n k.toNat) n) (e := itE f (rkL f 0 n k.toNat) n) (fun j x y => by
            have := itE_all x y; rwa [itP_l (by rw [cl] at il; simpa using il.symm)] at this) 12 0 0 (by decide) (by decide)
          unfold dic
          have e : ((0 : Int) + 1) * 27 ^ 12 = 150094635296999121 := by decide
          rw [e] at this; omega
        · omega
      · rename_i cl
        have cd : isD (f (itS f (rkL f 0 n k.toNat) n)) = true := by simpa [cl] using id
        have := numF_b (f := f) (itE f (rkL f 0 n k.toNat) n - itS f (rkL f 0 n k.toNat) n).toNat (itS f (rkL f 0 n k.toNat) n) 0 (fun j x y => by
          have := itE_all (f := f) (p := rkL f 0 n k.toNat) (hi := n) (j := j) x (by omega); rwa [itP_d cd] at this) (by decide)
        have h12 : (10 : Int) ^ (itE f (rkL f 0 n k.toNat) n - itS f (rkL f 0 n k.toNat) n).toNat ≤ 10 ^ 12 := by
          have := Nat.pow_le_pow_right (n := 10) (by decide) (show (itE f (rkL f 0 n k.toNat) n - itS f (rkL f 0 n k.toNat) n).toNat ≤ 12 by omega)
          exact_mod_cast this
        have e : (10 : Int) ^ 12 = 1000000000000 := by decide
        omega
  · rw [if_neg c, if_neg c]; omega
theorem cvF_e {R P R' P' : Int → Int} {n : Nat} {i : Int} (hn : 0 < n) : cvF R P R' P' n i = if R i = R' i then (if P i = P' i then cvF R P R' P' (n - 1) (i + 1) else if P i < P' i then -1 else 1) else if R i < R' i then -1 else 1 := by
  cases n with
  | zero => omega
  | succ n => rfl
theorem dpF_e {f : Int → Int} {a e : Int} {n : Nat} {i v : Int} (hn : 0 < n) : dpF f a e n i v = dpF f a e (n - 1) (i + 1) (v * 27 + (if i < e - a then f (a + i) - 97 + 1 else 0)) := by
  cases n with
  | zero => omega
  | succ n => rfl
/-- what may be written, as the class says it -/
def wrT (c : Int) : Bool := decide (c = 0) || isL c || isD c || isS c || decide (c = 91) || decide (c = 93) || decide (c = 40) || decide (c = 41) || decide (c = 44)
theorem wrT_ok (c : Int) : wrT c = mOk c := by
  have a : wrT c = true ↔ mOk c = true := by
    simp only [wrT, mOk, mMay, isL, isD, isS, mIn, Bool.or_eq_true, Bool.and_eq_true, decide_eq_true_eq]; omega
  cases h : wrT c <;> cases g : mOk c <;> simp_all
theorem rank_c {f : Int → Int} {n : Int} (hn : 0 ≤ n ∧ n ≤ 12) (hd : isD (f n) = false) (i : Int) : sp_rankR f n i = if 0 ≤ i ∧ i < 12 then vR f 0 n i else 6 := by
  have hk : ∀ k, rkP f n k = rkL f 0 n k := by
    intro k
    induction k with
    | zero => rfl
    | succ k ih => simp only [rkP, rkL, ih]
  unfold sp_rankR
  by_cases c : i < 0 ∨ 12 < i
  · rw [if_pos c, if_neg (by omega)]
  · rw [if_neg c, hk]
    by_cases d : i < 12
    · rw [if_pos (by omega)]
      have := vR_ord (f := f) (lo := 0) (hi := n) hn.1 hd i.toNat
      rw [show ((i.toNat : Nat) : Int) = i by omega] at this; exact this.symm
    · rw [if_neg (by omega), rkL_12 hn.1 (by omega) (by omega), ordR, itS_end, if_neg (by omega)]
/-! the class's reading of a range -/
theorem idF_cm (g : Int → Int) : ∀ (k : Nat) (i : Int), 0 ≤ i → idF (fun j => g (1 + j)) 44 k i = if cmF g k (i + 1) = -1 then -1 else cmF g k (i + 1) - 1
  | 0, _, _ => by simp [idF, cmF]
  | k + 1, i, hi => by
    have ih := idF_cm g k (i + 1) (by omega)
    have e1 : idF (fun j => g (1 + j)) 44 (k + 1) i = if g (1 + i) = 44 then i else idF (fun j => g (1 + j)) 44 k (i + 1) := rfl
    by_cases c : g (i + 1) = 44
    · rw [e1, if_pos (by rw [Int.add_comm]; exact c), cmF_hit (by omega) c, if_neg (by omega)]; omega
    · rw [e1, if_neg (by rw [Int.add_comm]; exact c), cmF_go (by omega) c, ih]; rfl
theorem cmF_skip {g : Int → Int} : ∀ (k : Nat) (i : Int), ¬ g (i + k) = 44 → cmF g (k + 1) i = cmF g k i
  | 0, i, h => by simp [cmF]; intro q; exact absurd q (by simpa using h)
  | k + 1, i, h => by
    rw [cmF, cmF_skip k (i + 1) (by rw [show i + 1 + (k : Int) = i + ((k + 1 : Nat) : Int) by omega]; exact h)]; rfl
/-- the comma inside the brackets -/
theorem cma_id {g : Int → Int} {n : Nat} (hn : 2 ≤ n) (h0 : ¬ g 0 = 44) (h1 : ¬ g ((n : Int) - 1) = 44) : idF (fun j => g (1 + j)) 44 (n - 2) 0 = (if cma g n = -1 then -1 else cma g n - 1) := by
  rw [idF_cm _ _ _ (by decide)]
  have e : cma g n = cmF g (n - 2) (0 + 1) := by
    unfold cma
    rw [show ((n : Int)).toNat = n by omega, cmF_go (by omega) h0]
    have := cmF_skip (g := g) (n - 2) (0 + 1) (by rw [show 0 + 1 + ((n - 2 : Nat) : Int) = (n : Int) - 1 by omega]; exact h1)
    rwa [show n - 2 + 1 = n - 1 by omega] at this
  rw [e]
theorem rng_2 {g : Int → Int} {n : Int} (hv : ver g 0 n = false) (hn : n < 3) : rng g n = false := by
  rw [rng, if_neg (by rw [hv]; decide), if_pos (Or.inl hn)]
theorem rng_br {g : Int → Int} {n : Int} (hv : ver g 0 n = false) (h : ¬ (g 0 = 91 ∨ g 0 = 40) ∨ ¬ (g (n - 1) = 93 ∨ g (n - 1) = 41)) : rng g n = false := by
  rw [rng, if_neg (by rw [hv]; decide), if_pos (Or.inr h)]
theorem rng_ex {g : Int → Int} {n : Int} (hv : ver g 0 n = false) (hn : 3 ≤ n) (h0 : g 0 = 91 ∨ g 0 = 40) (h1 : g (n - 1) = 93 ∨ g (n - 1) = 41) (hc : cma g n < 0) : rng g n = (decide (g 0 = 91) && decide (g (n - 1) = 93) && ver g 1 (n - 1)) := by
  rw [rng, if_neg (by rw [hv]; decide), if_neg (by omega), if_pos hc]
theorem rng_bd {g : Int → Int} {n : Int} (hv : ver g 0 n = false) (hn : 3 ≤ n) (h0 : g 0 = 91 ∨ g 0 = 40) (h1 : g (n - 1) = 93 ∨ g (n - 1) = 41) (hc : ¬ cma g n < 0) : rng g n = ((decide (cma g n = 1) || ver g 1 (cma g n)) && (decide (cma g n = n - 2) || ver g (cma g n + 1) (n - 1))) := by
  rw [rng, if_neg (by rw [hv]; decide), if_neg (by omega), if_neg hc]

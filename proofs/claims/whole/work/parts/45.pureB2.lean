/-! the reference's own words as predicates -/
theorem gaF_t {M : Nat → Int → Int} : ∀ (m : Nat) (a : Int), gaF M m a = true ↔ ∀ b, a ≤ b → b < a + m → ¬ M 10 b = 0 → metP M (M 9 b) (2 + b) = true
  | 0, a => ⟨fun _ b x y => by omega, fun _ => rfl⟩
  | m + 1, a => by
    have ih := gaF_t (M := M) m (a + 1)
    rw [gaF]
    constructor
    · intro h b x y z
      by_cases c : ¬ M 10 a = 0 ∧ metP M (M 9 a) (2 + a) = false
      · rw [if_pos c] at h; exact absurd h (by decide)
      · rw [if_neg c] at h
        by_cases e : b = a
        · rw [e] at z ⊢
          cases q : metP M (M 9 a) (2 + a)
          · exact absurd ⟨z, q⟩ c
          · rfl
        · exact ih.1 h b (by omega) (by omega) z
    · intro h
      rw [if_neg (fun c => by have := h a (by omega) (by omega) c.1; rw [c.2] at this; exact absurd this (by decide))]
      exact ih.2 (fun b x y z => h b (by omega) (by omega) z)
theorem gpF_t {M : Nat → Int → Int} : ∀ (m : Nat) (a : Int), gpF M m a = true ↔ ∀ b, a ≤ b → b < a + m → 0 ≤ M 11 b → rgP M b = true
  | 0, a => ⟨fun _ b x y => by omega, fun _ => rfl⟩
  | m + 1, a => by
    have ih := gpF_t (M := M) m (a + 1)
    rw [gpF]
    constructor
    · intro h b x y z
      by_cases c : 0 ≤ M 11 a ∧ rgP M a = false
      · rw [if_pos c] at h; exact absurd h (by decide)
      · rw [if_neg c] at h
        by_cases e : b = a
        · rw [e] at z ⊢
          cases q : rgP M a
          · exact absurd ⟨z, q⟩ c
          · rfl
        · exact ih.1 h b (by omega) (by omega) z
    · intro h
      rw [if_neg (fun c => by have := h a (by omega) (by omega) c.1; rw [c.2] at this; exact absurd this (by decide))]
      exact ih.2 (fun b x y z => h b (by omega) (by omega) z)
theorem rgF_t {M : Nat → Int → Int} : ∀ (m : Nat) (i : Int), rgF M m i = true ↔ ∀ j, i ≤ j → j < i + m → (¬ M 7 j = 0 ∧ M 11 (M 6 j) < 0) ∨ metP M (M 6 j) (54 + j) = true
  | 0, a => ⟨fun _ b x y => by omega, fun _ => rfl⟩
  | m + 1, a => by
    have ih := rgF_t (M := M) m (a + 1)
    rw [rgF]
    by_cases c : ¬ M 7 a = 0 ∧ M 11 (M 6 a) < 0
    · rw [if_pos c, ih]
      refine ⟨fun h b x y => ?_, fun h b x y => h b (by omega) (by omega)⟩
      by_cases e : b = a
      · rw [e]; exact Or.inl c
      · exact h b (by omega) (by omega)
    · rw [if_neg c]
      by_cases d : metP M (M 6 a) (54 + a) = true
      · rw [if_pos d, ih]
        refine ⟨fun h b x y => ?_, fun h b x y => h b (by omega) (by omega)⟩
        by_cases e : b = a
        · rw [e]; exact Or.inr d
        · exact h b (by omega) (by omega)
      · rw [if_neg d]
        refine ⟨fun h => absurd h (by decide), fun h => ?_⟩
        rcases h a (by omega) (by omega) with q | q
        · exact absurd q c
        · exact absurd q d
theorem ldF_t {M : Nat → Int → Int} {l : Int → Int} : ∀ (m : Nat) (a : Int), ldF M l m a = true ↔ ∀ b, a ≤ b → b < a + m → 0 ≤ M 11 b → ¬ l b = 0
  | 0, a => ⟨fun _ b x y => by omega, fun _ => rfl⟩
  | m + 1, a => by
    have ih := ldF_t (M := M) (l := l) m (a + 1)
    rw [ldF]
    constructor
    · intro h b x y z
      by_cases c : 0 ≤ M 11 a ∧ l a = 0
      · rw [if_pos c] at h; exact absurd h (by decide)
      · rw [if_neg c] at h
        by_cases e : b = a
        · rw [e] at z ⊢; exact fun q => c ⟨z, q⟩
        · exact ih.1 h b (by omega) (by omega) z
    · intro h
      rw [if_neg (fun c => h a (by omega) (by omega) c.1 c.2)]
      exact ih.2 (fun b x y z => h b (by omega) (by omega) z)
theorem frF_t {M : Nat → Int → Int} {n : Int} : ∀ k : Nat, k ≤ 6 → (frF M n k = true ↔ ∀ p, 5 - (k : Int) < p → p ≤ 5 → dgt n p < 4 → 0 ≤ sel M n p)
  | 0, _ => ⟨fun _ p a b => by omega, fun _ => rfl⟩
  | k + 1, hk => by
    have ih := frF_t (M := M) (n := n) k (by omega)
    rw [frF]
    constructor
    · intro h p a b z
      by_cases c : dgt n (5 - k) < 4 ∧ sel M n (5 - k) < 0
      · rw [if_pos c] at h; exact absurd h (by decide)
      · rw [if_neg c] at h
        by_cases e : p = 5 - k
        · rw [e] at z ⊢; omega
        · exact ih.1 h p (by omega) b z
    · intro h
      rw [if_neg (fun c => by have := h (5 - k) (by omega) (by omega) c.1; omega)]
      exact ih.2 (fun p a b z => h p (by omega) b z)
theorem ldA_t {M : Nat → Int → Int} : ∀ (n : Nat) (q : Int), ¬ ldA M n q = 0 ↔ ∃ a : Nat, a < n ∧ ¬ M 10 a = 0 ∧ M 9 a = q
  | 0, q => ⟨fun h => absurd rfl h, fun ⟨a, h, _⟩ => by omega⟩
  | n + 1, q => by
    have ih := ldA_t (M := M) n q
    rw [ldA]
    by_cases c : M 10 n = 0
    · rw [if_pos c, ih]
      refine ⟨fun ⟨a, x, y⟩ => ⟨a, by omega, y⟩, fun ⟨a, x, y, z⟩ => ⟨a, ?_, y, z⟩⟩
      by_cases e : a = n
      · rw [e] at y; exact absurd c y
      · omega
    · rw [if_neg c]
      by_cases e : q = M 9 n
      · rw [e, rz_u_s]
        exact ⟨fun _ => ⟨n, by omega, c, rfl⟩, fun _ => by decide⟩
      · rw [rz_u_n e, ih]
        refine ⟨fun ⟨a, x, y⟩ => ⟨a, by omega, y⟩, fun ⟨a, x, y, z⟩ => ⟨a, ?_, y, z⟩⟩
        by_cases f : a = n
        · rw [f] at z; exact absurd z.symm e
        · omega
/-- p with its selected release leads to q -/
def rLd (M : Nat → Int → Int) (p q : Int) : Prop := 0 ≤ M 11 p ∧ ∃ j : Int, 0 ≤ j ∧ j < 3 ∧ j < M 5 (4 * p + M 11 p) ∧ M 7 (3 * (4 * p + M 11 p) + j) = 0 ∧ M 6 (3 * (4 * p + M 11 p) + j) = q
theorem ldB_up {M : Nat → Int → Int} {l : Int → Int} {q : Int} (n : Nat) : ∀ d : Nat, ¬ ldB M l n q = 0 → ¬ ldB M l (n + d) q = 0
  | 0, h => h
  | d + 1, h => by
    have ih := ldB_up (M := M) (l := l) (q := q) n d h
    rw [show n + (d + 1) = (n + d) + 1 by omega, ldB]
    split
    · exact ih
    · by_cases e : q = M 6 (3 * (4 * (((n + d : Nat) : Int) / 3 % 6) + M 11 (((n + d : Nat) : Int) / 3 % 6)) + ((n + d : Nat) : Int) % 3)
      · rw [e, rz_u_s]; decide
      · rw [rz_u_n e]; exact ih
theorem ldB_least {M : Nat → Int → Int} {l : Int → Int} {S : Int → Prop} (h0 : ∀ q, ¬ l q = 0 → S q) (h : ∀ p q, 0 ≤ p → p < 6 → S p → rLd M p q → S q) : ∀ (n : Nat) (q : Int), ¬ ldB M l n q = 0 → S q
  | 0, q, a => h0 q a
  | n + 1, q, a => by
    rw [ldB] at a
    split at a
    · exact ldB_least h0 h n q a
    · rename_i c
      simp only [not_or] at c
      by_cases e : q = M 6 (3 * (4 * ((n : Int) / 3 % 6) + M 11 ((n : Int) / 3 % 6)) + (n : Int) % 3)
      · refine h ((n : Int) / 3 % 6) q (by omega) (by omega) (ldB_least h0 h n _ c.1) ⟨by omega, (n : Int) % 3, by omega, by omega, by omega, Classical.not_not.1 c.2.2.2, e.symm⟩
      · rw [rz_u_n e] at a; exact ldB_least h0 h n q a
theorem ldB_step {M : Nat → Int → Int} {l : Int → Int} {r : Nat} {p q : Int} (hp : 0 ≤ p ∧ p < 6) (h : ¬ ldB M l (18 * r) p = 0) (hl : rLd M p q) : ¬ ldB M l (18 * (r + 1)) q = 0 := by
  obtain ⟨h11, j, j0, j3, j5, j7, j6⟩ := hl
  have hn : ∃ n : Nat, (n : Int) = 18 * r + 3 * p + j := ⟨(18 * r + 3 * p + j).toNat, by omega⟩
  obtain ⟨n, hn⟩ := hn
  have e1 : (n : Int) / 3 % 6 = p := by omega
  have e2 : (n : Int) % 3 = j := by omega
  have hb : ¬ ldB M l n p = 0 := by
    have := ldB_up (M := M) (l := l) (q := p) (18 * r) (n - 18 * r) h
    rwa [show 18 * r + (n - 18 * r) = n by omega] at this
  have : ¬ ldB M l (n + 1) q = 0 := by
    rw [ldB, e1, e2, if_neg (by simp only [not_or]; exact ⟨hb, by omega, by omega, fun z => z j7⟩), j6, rz_u_s]; decide
  have := ldB_up (M := M) (l := l) (q := q) (n + 1) (18 * (r + 1) - (n + 1)) this
  rwa [show n + 1 + (18 * (r + 1) - (n + 1)) = 18 * (r + 1) by omega] at this

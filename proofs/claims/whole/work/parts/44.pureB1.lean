/-! the class's search, as predicates -/
def ex (n : Nat) (P : Nat → Bool) : Bool := (List.range n).any P
def al (n : Nat) (P : Nat → Bool) : Bool := (List.range n).all P
theorem ex_t {n : Nat} {P : Nat → Bool} : ex n P = true ↔ ∃ i, i < n ∧ P i = true := by simp [ex]
theorem al_t {n : Nat} {P : Nat → Bool} : al n P = true ↔ ∀ i, i < n → P i = true := by simp [al]
abbrev Pz : Type := (Nat → Nat → Bool) × (Nat → Nat → Nat → Nat → Bool) × (Nat → Nat → Nat → Bool) × (Nat → Bool)
abbrev Pz.l0 (z : Pz) : Nat → Nat → Bool := z.1
abbrev Pz.bs (z : Pz) : Nat → Nat → Nat → Nat → Bool := z.2.1
abbrev Pz.ld (z : Pz) : Nat → Nat → Nat → Bool := z.2.2.1
abbrev Pz.aq (z : Pz) : Nat → Bool := z.2.2.2
def itc (E : Nat → Nat → Bool) (A : Nat → Bool) : Nat → Nat → Bool
  | 0, q => A q
  | k + 1, q => itc E A k q || ex 6 (fun p => itc E A k p && E p q)
def edO (z : Pz) (O : Nat → Nat → Bool) (p q : Nat) : Bool := ex 4 (fun x => O p x && z.ld p x q)
def may (z : Pz) (O : Nat → Nat → Bool) : Bool := al 6 (fun p => O p 4 || itc (edO z O) z.aq 5 p)
def Lv (z : Pz) (o : Nat → Nat) : Nat → Nat → Nat → Bool
  | 0, q, x => z.l0 q x
  | k + 1, q, x => if q = k then decide (x = o k) else (Lv z o k q x && z.bs k (o k) q x)
def tri (z : Pz) (o : Nat → Nat) (k : Nat) : Bool := Lv z o k k (o k) && al 6 (fun q => ex 5 (fun x => Lv z o k q x && z.bs k (o k) q x)) && may z (Lv z o (k + 1))
def gdO (z : Pz) (o : Nat → Nat) : Prop := (∀ p, p < 6 → z.l0 p (o p) = true) ∧ (∀ p q, p < 6 → q < 6 → z.bs p (o p) q (o q) = true) ∧ ∀ p, p < 6 → o p ≠ 4 → itc (fun p q => decide (o p < 4) && z.ld p (o p) q) z.aq 5 p = true
theorem itc_mono {E E' : Nat → Nat → Bool} {A : Nat → Bool} (h : ∀ p q, p < 6 → E p q = true → E' p q = true) : ∀ k q, itc E A k q = true → itc E' A k q = true
  | 0, _, hq => hq
  | k + 1, q, hq => by
    simp only [itc, Bool.or_eq_true, ex_t, Bool.and_eq_true] at hq ⊢
    rcases hq with a | ⟨p, hp, a, b⟩
    · exact Or.inl (itc_mono h k q a)
    · exact Or.inr ⟨p, hp, itc_mono h k p a, h p q hp b⟩
theorem Lv_set {z : Pz} {o : Nat → Nat} {q x : Nat} : ∀ k, q < k → Lv z o k q x = true → x = o q
  | 0, h, _ => by omega
  | k + 1, h, hl => by
    simp only [Lv] at hl
    split at hl
    · rename_i e; rw [e]; simpa using hl
    · exact Lv_set k (by omega) ((Bool.and_eq_true _ _).mp hl).1
theorem Lv_ge {z : Pz} {o : Nat → Nat} {q x : Nat} : ∀ k, k ≤ q → (Lv z o k q x = true ↔ z.l0 q x = true ∧ ∀ p, p < k → z.bs p (o p) q x = true)
  | 0, _ => by simp [Lv]
  | k + 1, h => by
    have ih := Lv_ge (z := z) (o := o) (q := q) (x := x) k (by omega)
    simp only [Lv, if_neg (show ¬ q = k by omega), Bool.and_eq_true, ih]
    constructor
    · rintro ⟨⟨a, b⟩, c⟩
      exact ⟨a, fun p hp => by
        by_cases e : p = k
        · rw [e]; exact c
        · exact b p (by omega)⟩
    · rintro ⟨a, b⟩
      exact ⟨⟨a, fun p hp => b p (by omega)⟩, b k (by omega)⟩
theorem Lv_own {z : Pz} {o : Nat → Nat} (hg : gdO z o) : ∀ k, k ≤ 6 → ∀ q, q < 6 → Lv z o k q (o q) = true
  | 0, _, q, hq => hg.1 q hq
  | k + 1, hk, q, hq => by
    simp only [Lv]
    split
    · rename_i e; simp [e]
    · rw [Lv_own hg k (by omega) q hq, hg.2.1 k q (by omega) hq]; rfl
theorem tri_of {z : Pz} {o : Nat → Nat} (ho : ∀ p, p < 6 → o p < 5) (hg : gdO z o) (k : Nat) (hk : k < 6) : tri z o k = true := by
  simp only [tri, Bool.and_eq_true]
  refine ⟨⟨Lv_own hg k (by omega) k hk, al_t.2 fun q hq => ex_t.2 ⟨o q, ho q hq, ?_⟩⟩, al_t.2 fun p hp => ?_⟩
  · rw [Lv_own hg k (by omega) q hq, hg.2.1 k q hk hq]; rfl
  · have hl := Lv_own hg (k + 1) (by omega) p hp
    by_cases e : o p = 4
    · rw [e] at hl; rw [hl]; rfl
    · rw [itc_mono (fun a b ha hab => ?_) 5 p (hg.2.2 p hp e)]
      · simp
      · simp only [Bool.and_eq_true, decide_eq_true_eq] at hab
        exact ex_t.2 ⟨o a, hab.1, by rw [Lv_own hg (k + 1) (by omega) a ha, hab.2]; rfl⟩
theorem of_tri {z : Pz} {o : Nat → Nat} (ho : ∀ p, p < 6 → o p < 5) (hs : ∀ p x, p < 6 → x < 5 → z.l0 p x = true → z.bs p x p x = true) (h : ∀ k, k < 6 → tri z o k = true) : gdO z o := by
  have h1 : ∀ k, k < 6 → Lv z o k k (o k) = true := fun k hk => by have := h k hk; simp only [tri, Bool.and_eq_true] at this; exact this.1.1
  have h2 : ∀ k q, k < 6 → q < 6 → ∃ x, x < 5 ∧ Lv z o k q x = true ∧ z.bs k (o k) q x = true := fun k q hk hq => by
    have := h k hk; simp only [tri, Bool.and_eq_true] at this
    have := al_t.1 this.1.2 q hq
    obtain ⟨x, a, b⟩ := ex_t.1 this
    exact ⟨x, a, (Bool.and_eq_true _ _).mp b⟩
  have l0 : ∀ p, p < 6 → z.l0 p (o p) = true := fun p hp => ((Lv_ge p (Nat.le_refl _)).1 (h1 p hp)).1
  refine ⟨l0, fun p q hp hq => ?_, fun p hp hne => ?_⟩
  · by_cases e : p = q
    · rw [← e]; exact hs p (o p) hp (ho p hp) (l0 p hp)
    · by_cases c : p < q
      · exact ((Lv_ge q (Nat.le_refl _)).1 (h1 q hq)).2 p c
      · obtain ⟨x, a, b, d⟩ := h2 p q hp hq
        rwa [Lv_set p (by omega) b] at d
  · have h6 : ∀ q, q < 6 → ∀ x, Lv z o 6 q x = true ↔ x = o q := fun q hq x => by
      refine ⟨Lv_set 6 hq, fun e => ?_⟩
      rw [e]
      by_cases c : q = 5
      · simp [Lv, c]
      · obtain ⟨y, a, b, d⟩ := h2 5 q (by omega) hq
        have := Lv_set 5 (by omega) b
        rw [this] at b d
        simp only [Lv, if_neg c] at b ⊢
        rw [b, d]; rfl
    have h5 := h 5 (by omega)
    simp only [tri, Bool.and_eq_true] at h5
    have := al_t.1 h5.2 p hp
    have n4 : Lv z o 6 p 4 = false := by
      cases q : Lv z o 6 p 4
      · rfl
      · exact absurd ((h6 p hp 4).1 q).symm hne
    have : itc (edO z (Lv z o 6)) z.aq 5 p = true := by simpa [n4] using this
    refine itc_mono (fun a b ha hab => ?_) 5 p this
    obtain ⟨x, hx, hxx⟩ := ex_t.1 hab
    simp only [Bool.and_eq_true] at hxx
    have e := (h6 a ha x).1 hxx.1
    simp only [Bool.and_eq_true, decide_eq_true_eq]
    rw [← e]; exact ⟨hx, hxx.2⟩
/-- only the settled ones count -/
theorem Lv_c {z : Pz} {o o' : Nat → Nat} : ∀ k, (∀ p, p < k → o' p = o p) → ∀ q x, Lv z o' k q x = Lv z o k q x
  | 0, _, _, _ => rfl
  | k + 1, h, q, x => by simp only [Lv, Lv_c k (fun p hp => h p (by omega)) q x, h k (by omega)]
theorem tri_c {z : Pz} {o o' : Nat → Nat} {k : Nat} (h : ∀ p, p ≤ k → o' p = o p) : tri z o' k = tri z o k := by
  have e1 : Lv z o' (k + 1) = Lv z o (k + 1) := by funext q x; exact Lv_c (k + 1) (fun p hp => h p (by omega)) q x
  have e2 : Lv z o' k = Lv z o k := by funext q x; exact Lv_c k (fun p hp => h p (by omega)) q x
  simp only [tri, e1, e2, h k (Nat.le_refl _)]
/-! the closure in five steps is closed -/
def cnt (F : Nat → Bool) : Nat → Nat
  | 0 => 0
  | n + 1 => cnt F n + (if F n = true then 1 else 0)
theorem cnt_le (F : Nat → Bool) : ∀ n, cnt F n ≤ n
  | 0 => Nat.le_refl _
  | n + 1 => by have := cnt_le F n; simp only [cnt]; split <;> omega
theorem cnt_mono {F G : Nat → Bool} (h : ∀ i, F i = true → G i = true) : ∀ n, cnt F n ≤ cnt G n
  | 0 => Nat.le_refl _
  | n + 1 => by
    have := cnt_mono h n; have := h n
    simp only [cnt]
    by_cases a : F n = true
    · rw [if_pos a, if_pos (h n a)]; omega
    · rw [if_neg a]; omega
theorem cnt_lt {F G : Nat → Bool} (h : ∀ i, F i = true → G i = true) {j : Nat} (h1 : F j = false) (h2 : G j = true) : ∀ n, j < n → cnt F n < cnt G n
  | 0, hj => by omega
  | n + 1, hj => by
    simp only [cnt]
    by_cases e : j = n
    · have := cnt_mono h n
      rw [← e, h1, h2]; simp; rw [e]; omega
    · have := cnt_lt h h1 h2 n (by omega)
      by_cases a : F n = true
      · rw [if_pos a, if_pos (h n a)]; omega
      · rw [if_neg a]; omega
theorem cnt_all {F : Nat → Bool} : ∀ n, n ≤ cnt F n → ∀ i, i < n → F i = true
  | 0, _, i, hi => by omega
  | n + 1, h, i, hi => by
    simp only [cnt] at h
    have := cnt_le F n
    by_cases a : F n = true
    · rw [if_pos a] at h
      by_cases e : i = n
      · rw [e]; exact a
      · exact cnt_all n (by omega) i (by omega)
    · rw [if_neg a] at h; omega
theorem itc_up {E : Nat → Nat → Bool} {A : Nat → Bool} {k q : Nat} (h : itc E A k q = true) : itc E A (k + 1) q = true := by simp [itc, h]
def fix (E : Nat → Nat → Bool) (S : Nat → Bool) : Prop := ∀ p q, p < 6 → q < 6 → S p = true → E p q = true → S q = true
theorem itc_stay {E : Nat → Nat → Bool} {A : Nat → Bool} {k : Nat} (h : ∀ q, q < 6 → itc E A (k + 1) q = itc E A k q) : fix E (itc E A k) := fun p q hp hq a b => by
  rw [← h q hq]; simp only [itc, Bool.or_eq_true]; exact Or.inr (ex_t.2 ⟨p, hp, by rw [a, b]; rfl⟩)
theorem itc_fx {E : Nat → Nat → Bool} {A : Nat → Bool} {k : Nat} (h : fix E (itc E A k)) {q : Nat} (hq : q < 6) : itc E A (k + 1) q = itc E A k q := by
  cases c : itc E A k q
  · simp only [itc, c, Bool.false_or]
    cases d : ex 6 (fun p => itc E A k p && E p q)
    · rfl
    · obtain ⟨p, hp, a⟩ := ex_t.1 d
      simp only [Bool.and_eq_true] at a
      rw [h p q hp hq a.1 a.2] at c; exact absurd c (by decide)
  · exact itc_up c
theorem fix_up {E : Nat → Nat → Bool} {A : Nat → Bool} {k : Nat} (h : fix E (itc E A k)) : fix E (itc E A (k + 1)) := fun p q hp hq a b => by
  rw [itc_fx h hp] at a; rw [itc_fx h hq]; exact h p q hp hq a b
theorem itc_cnt {E : Nat → Nat → Bool} {A : Nat → Bool} : ∀ k, fix E (itc E A k) ∨ cnt A 6 + k ≤ cnt (itc E A k) 6
  | 0 => Or.inr (by simp only [itc, Nat.add_zero]; exact Nat.le_refl _)
  | k + 1 => by
    rcases itc_cnt (E := E) (A := A) k with h | h
    · exact Or.inl (fix_up h)
    · by_cases c : ∀ q, q < 6 → itc E A (k + 1) q = itc E A k q
      · exact Or.inl (fix_up (itc_stay c))
      · have : ∃ q, q < 6 ∧ ¬ itc E A (k + 1) q = itc E A k q := Classical.byContradiction fun n => c fun q hq => Classical.byContradiction fun m => n ⟨q, hq, m⟩
        obtain ⟨q, hq, hne⟩ := this
        have f : itc E A k q = false := by
          cases d : itc E A k q
          · rfl
          · rw [itc_up d, d] at hne; exact absurd rfl hne
        have t : itc E A (k + 1) q = true := by
          cases d : itc E A (k + 1) q
          · rw [f, d] at hne; exact absurd rfl hne
          · rfl
        have := cnt_lt (F := itc E A k) (G := itc E A (k + 1)) (fun i hi => itc_up hi) f t 6 hq
        right; omega
theorem itc_5 (E : Nat → Nat → Bool) (A : Nat → Bool) : fix E (itc E A 5) := by
  rcases itc_cnt (E := E) (A := A) 5 with h | h
  · exact h
  · by_cases z : cnt A 6 = 0
    · have hz : ∀ i, i < 6 → A i = false := fun i hi => by
        cases c : A i
        · rfl
        · have := cnt_lt (F := fun _ => false) (G := A) (fun _ q => absurd q (by decide)) rfl c 6 hi; omega
      have f0 : fix E (itc E A 0) := fun p q hp _ a _ => by simp only [itc] at a; rw [hz p hp] at a; exact absurd a (by decide)
      exact fix_up (fix_up (fix_up (fix_up (fix_up f0))))
    · have := cnt_all (F := itc E A 5) 6 (by omega)
      exact fun p q _ hq _ _ => this q hq
theorem itc_least {E : Nat → Nat → Bool} {A S : Nat → Bool} (h0 : ∀ q, A q = true → S q = true) (h : fix E S) : ∀ k q, q < 6 → itc E A k q = true → S q = true
  | 0, q, _, a => h0 q a
  | k + 1, q, hq, a => by
    simp only [itc, Bool.or_eq_true, ex_t, Bool.and_eq_true] at a
    rcases a with a | ⟨p, hp, a, b⟩
    · exact itc_least h0 h k q hq a
    · exact h p q hp hq (itc_least h0 h k p hp a) b

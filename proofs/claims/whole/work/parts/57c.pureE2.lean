/-! the tables while they are prepared: needs before number t count -/
def nIx (p x j : Nat) : Nat := 12 * p + 3 * x + j
def adT (M : Nat → Int → Int) (t p x q y : Nat) : Bool := decide (x = 4) || al 3 (fun j => !(decide (nIx p x j < t) && (decide ((j : Int) < M 5 (4 * p + x)) && decide (M 6 (ndK p x j) = q))) || fitM M (ndK p x j) y)
def bsT (M : Nat → Int → Int) (t p x q y : Nat) : Bool := adT M t p x q y && adT M t q y p x
def ldT (M : Nat → Int → Int) (t p x q : Nat) : Bool := decide (x < 4) && ex 3 (fun j => decide (nIx p x j < t) && (decide ((j : Int) < M 5 (4 * p + x)) && decide (M 7 (ndK p x j) = 0) && decide (M 6 (ndK p x j) = q)))
theorem adT_t {M : Nat → Int → Int} {t p x q y : Nat} : adT M t p x q y = true ↔ x = 4 ∨ ∀ j, j < 3 → nIx p x j < t → (j : Int) < M 5 (4 * p + x) → M 6 (ndK p x j) = q → fitM M (ndK p x j) y = true := by
  unfold adT
  rw [Bool.or_eq_true, decide_eq_true_eq, al_t]
  refine or_congr Iff.rfl (forall_congr' fun j => forall_congr' fun hj => ?_)
  rw [Bool.or_eq_true, Bool.not_eq_true']
  constructor
  · rintro (h | h) a b c
    · rw [decide_eq_true a, decide_eq_true b, decide_eq_true c] at h; exact absurd h (by decide)
    · exact h
  · intro h
    by_cases a : nIx p x j < t
    · by_cases b : (j : Int) < M 5 (4 * p + x)
      · by_cases c : M 6 (ndK p x j) = q
        · exact Or.inr (h a b c)
        · left; rw [decide_eq_false c, Bool.and_false, Bool.and_false]
      · left; rw [decide_eq_false b, Bool.false_and, Bool.and_false]
    · left; rw [decide_eq_false a, Bool.false_and]
theorem beq_of {a b : Bool} (h : a = true ↔ b = true) : a = b := by cases a <;> cases b <;> simp_all
theorem adT_0 (M : Nat → Int → Int) (p x q y : Nat) : adT M 0 p x q y = true := adT_t.2 (Or.inr fun j _ h => by omega)
theorem bsT_0 (M : Nat → Int → Int) (p x q y : Nat) : bsT M 0 p x q y = true := by rw [bsT, adT_0, adT_0]; rfl
theorem adT_all {M : Nat → Int → Int} {p x : Nat} (hp : p < 6) (hx : x < 5) (q y : Nat) : adT M 72 p x q y = admM M p x q y := by
  apply beq_of
  rw [adT_t]
  unfold admM
  rw [Bool.or_eq_true, decide_eq_true_eq, al_t]
  by_cases c : x = 4
  · simp [c]
  · refine or_congr Iff.rfl (forall_congr' fun j => forall_congr' fun hj => ?_)
    rw [Bool.or_eq_true, Bool.not_eq_true']
    constructor
    · intro h
      by_cases b : (j : Int) < M 5 (4 * p + x)
      · by_cases d : M 6 (ndK p x j) = q
        · exact Or.inr (h (by unfold nIx; omega) b d)
        · left; rw [decide_eq_false d, Bool.and_false]
      · left; rw [decide_eq_false b, Bool.false_and]
    · rintro (h | h) _ b d
      · rw [decide_eq_true b, decide_eq_true d] at h; exact absurd h (by decide)
      · exact h
theorem bsT_all {M : Nat → Int → Int} {p x q y : Nat} (hp : p < 6) (hx : x < 5) (hq : q < 6) (hy : y < 5) : bsT M 72 p x q y = bsM M p x q y := by
  rw [bsT, bsM, adT_all hp hx, adT_all hq hy]
/-- one need more -/
theorem adT_s {M : Nat → Int → Int} {P X J p x q y : Nat} (hX : X < 4) (hJ : J < 3) (hx : x < 5) : adT M (nIx P X J + 1) p x q y = (adT M (nIx P X J) p x q y && (!decide (p = P ∧ x = X ∧ (J : Int) < M 5 (4 * P + X) ∧ M 6 (ndK P X J) = q) || fitM M (ndK P X J) y)) := by
  apply beq_of
  rw [Bool.and_eq_true, adT_t, adT_t, Bool.or_eq_true, Bool.not_eq_true', decide_eq_false_iff_not]
  by_cases c4 : x = 4
  · refine ⟨fun _ => ⟨Or.inl c4, Or.inl (by omega)⟩, fun _ => Or.inl c4⟩
  · constructor
    · rintro (h | h)
      · exact absurd h c4
      · refine ⟨Or.inr fun j hj a b c => h j hj (by omega) b c, ?_⟩
        by_cases e : p = P ∧ x = X ∧ (J : Int) < M 5 (4 * P + X) ∧ M 6 (ndK P X J) = q
        · right
          obtain ⟨e1, e2, e3, e4⟩ := e
          have := h J hJ (by rw [e1, e2]; omega) (by rw [e1, e2]; exact e3) (by rw [e1, e2]; exact e4)
          rwa [e1, e2] at this
        · exact Or.inl e
    · rintro ⟨h | h, g⟩
      · exact absurd h c4
      · refine Or.inr fun j hj a b c => ?_
        by_cases e : nIx p x j < nIx P X J
        · exact h j hj e b c
        · have ee : nIx p x j = nIx P X J := by omega
          unfold nIx at ee
          have e1 : p = P := by omega
          have e2 : x = X := by omega
          have e3 : j = J := by omega
          rw [e1, e2, e3] at b c ⊢
          rcases g with g | g
          · exact absurd ⟨e1, e2, b, c⟩ g
          · exact g
/-- no such need -/
theorem adT_n {M : Nat → Int → Int} {P X J p x q y : Nat} (hX : X < 4) (hJ : J < 3) (hx : x < 5) (hn : ¬ (J : Int) < M 5 (4 * P + X)) : adT M (nIx P X J + 1) p x q y = adT M (nIx P X J) p x q y := by
  rw [adT_s hX hJ hx, decide_eq_false (by omega)]; simp
theorem bsT_s {M : Nat → Int → Int} {P X J O p x q y : Nat} (hX : X < 4) (hJ : J < 3) (hx : x < 5) (hy : y < 5) (hn : (J : Int) < M 5 (4 * P + X)) (hO : M 6 (ndK P X J) = O) : bsT M (nIx P X J + 1) p x q y = (bsT M (nIx P X J) p x q y && (!decide (p = P ∧ x = X ∧ q = O) || fitM M (ndK P X J) y) && (!decide (p = O ∧ q = P ∧ y = X) || fitM M (ndK P X J) x)) := by
  rw [bsT, bsT, adT_s hX hJ hx, adT_s hX hJ hy]
  have e1 : decide (p = P ∧ x = X ∧ (J : Int) < M 5 (4 * P + X) ∧ M 6 (ndK P X J) = q) = decide (p = P ∧ x = X ∧ q = O) := by
    congr 1; rw [hO]; exact propext ⟨fun h => ⟨h.1, h.2.1, by omega⟩, fun h => ⟨h.1, h.2.1, hn, by omega⟩⟩
  have e2 : decide (q = P ∧ y = X ∧ (J : Int) < M 5 (4 * P + X) ∧ M 6 (ndK P X J) = p) = decide (p = O ∧ q = P ∧ y = X) := by
    congr 1; rw [hO]; exact propext ⟨fun h => ⟨by omega, h.1, h.2.1⟩, fun h => ⟨h.2.1, h.2.2, hn, by omega⟩⟩
  rw [e1, e2]
  cases adT M (nIx P X J) p x q y <;> cases adT M (nIx P X J) q y p x <;> simp
theorem bsT_n {M : Nat → Int → Int} {P X J p x q y : Nat} (hX : X < 4) (hJ : J < 3) (hx : x < 5) (hy : y < 5) (hn : ¬ (J : Int) < M 5 (4 * P + X)) : bsT M (nIx P X J + 1) p x q y = bsT M (nIx P X J) p x q y := by
  rw [bsT, bsT, adT_n hX hJ hx hn, adT_n hX hJ hy hn]
theorem ldT_t {M : Nat → Int → Int} {t p x q : Nat} : ldT M t p x q = true ↔ x < 4 ∧ ∃ j, j < 3 ∧ nIx p x j < t ∧ (j : Int) < M 5 (4 * p + x) ∧ M 7 (ndK p x j) = 0 ∧ M 6 (ndK p x j) = q := by
  unfold ldT
  simp only [Bool.and_eq_true, decide_eq_true_eq, ex_t, and_assoc]
theorem ldT_0 (M : Nat → Int → Int) (p x q : Nat) : ldT M 0 p x q = false := by
  cases h : ldT M 0 p x q
  · rfl
  · obtain ⟨_, j, _, a, _⟩ := ldT_t.1 h; omega
theorem ldT_all {M : Nat → Int → Int} {p x : Nat} (hp : p < 6) (hx : x < 4) (q : Nat) : ldT M 72 p x q = ldM M p x q := by
  apply beq_of
  rw [ldT_t]
  unfold ldM
  simp only [Bool.and_eq_true, decide_eq_true_eq, ex_t, and_assoc]
  exact ⟨fun ⟨_, j, a, _, b⟩ => ⟨j, a, b⟩, fun ⟨j, a, b⟩ => ⟨hx, j, a, by unfold nIx; omega, b⟩⟩
theorem ldT_s {M : Nat → Int → Int} {P X J p x q : Nat} (hX : X < 4) (hJ : J < 3) : ldT M (nIx P X J + 1) p x q = (ldT M (nIx P X J) p x q || decide (p = P ∧ x = X ∧ (J : Int) < M 5 (4 * P + X) ∧ M 7 (ndK P X J) = 0 ∧ M 6 (ndK P X J) = q)) := by
  apply beq_of
  rw [Bool.or_eq_true, ldT_t, ldT_t, decide_eq_true_eq]
  constructor
  · rintro ⟨x4, j, a, b, c, d, e⟩
    by_cases f : nIx p x j < nIx P X J
    · exact Or.inl ⟨x4, j, a, f, c, d, e⟩
    · have ee : nIx p x j = nIx P X J := by omega
      unfold nIx at ee
      have e1 : p = P := by omega
      have e2 : x = X := by omega
      have e3 : j = J := by omega
      rw [e1, e2, e3] at c d e
      exact Or.inr ⟨e1, e2, c, d, e⟩
  · rintro (⟨x4, j, a, b, c⟩ | ⟨a, b, c, d, e⟩)
    · exact ⟨x4, j, a, by omega, c⟩
    · rw [a, b]; exact ⟨hX, J, hJ, by omega, c, d, e⟩
/-- from the last need of a release to the first of the next -/
theorem nIx_3 (p x : Nat) : nIx p x 3 = nIx p (x + 1) 0 := by unfold nIx; omega
theorem nIx_4 (p : Nat) : nIx p 4 0 = nIx (p + 1) 0 0 := by unfold nIx; omega
theorem nIx_J (p x j : Nat) : nIx p x (j + 1) = nIx p x j + 1 := by unfold nIx; omega
/-- a stretch without needs -/
theorem bsT_skip {M : Nat → Int → Int} {P X : Nat} (hX : X < 4) : ∀ (d J : Nat), J + d = 3 → ¬ (J : Int) < M 5 (4 * P + X) → ∀ p x q y, x < 5 → y < 5 → bsT M (nIx P X 3) p x q y = bsT M (nIx P X J) p x q y ∧ ldT M (nIx P X 3) p x q = ldT M (nIx P X J) p x q
  | 0, J, h, _, p, x, q, y, _, _ => by rw [show J = 3 by omega]; exact ⟨rfl, rfl⟩
  | d + 1, J, h, hn, p, x, q, y, hx, hy => by
    have ih := bsT_skip (M := M) (P := P) hX d (J + 1) (by omega) (by omega) p x q y hx hy
    rw [ih.1, ih.2, nIx_J, bsT_n hX (by omega) hx hy hn, ldT_s hX (by omega), decide_eq_false (fun z => hn z.2.2.1), Bool.or_false]
    exact ⟨rfl, rfl⟩
/-- plugins' releases that aren't there have no needs -/
theorem bsT_far {M : Nat → Int → Int} (hna : naOK M) {P : Nat} (hP : P < 6) : ∀ (d X : Nat), X + d = 4 → M 2 P ≤ X → ∀ p x q y, x < 5 → y < 5 → bsT M (nIx P 4 0) p x q y = bsT M (nIx P X 0) p x q y ∧ ldT M (nIx P 4 0) p x q = ldT M (nIx P X 0) p x q
  | 0, X, h, _, p, x, q, y, _, _ => by rw [show X = 4 by omega]; exact ⟨rfl, rfl⟩
  | d + 1, X, h, hn, p, x, q, y, hx, hy => by
    have ih := bsT_far hna hP d (X + 1) (by omega) (by omega) p x q y hx hy
    have z := (hna (4 * P + X) (by omega) (by omega) (by rw [show (4 * (P : Int) + X) / 4 = P by omega, show (4 * (P : Int) + X) % 4 = X by omega]; exact hn)).2.2
    have sk := bsT_skip (M := M) (P := P) (X := X) (by omega) 3 0 rfl (by rw [z]; decide) p x q y hx hy
    rw [ih.1, ih.2, ← nIx_3, sk.1, sk.2]; exact ⟨rfl, rfl⟩

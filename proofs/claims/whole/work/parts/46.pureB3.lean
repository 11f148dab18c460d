/-! the class's tables from the reference's numbers -/
def vIn (M : Nat → Int → Int) (p x t : Int) : Bool := decide (x < M 2 p) && inR (mAt M (6 + (4 * p + x))) (M 1 (6 + (4 * p + x))) (mAt M t) (M 1 t)
def fitM (M : Nat → Int → Int) (k : Int) (x : Nat) : Bool := if x = 4 then decide (¬ M 7 k = 0) else vIn M (M 6 k) x (54 + k)
def ndK (p x j : Nat) : Int := 3 * (4 * (p : Int) + x) + j
def admM (M : Nat → Int → Int) (p x q y : Nat) : Bool := decide (x = 4) || al 3 (fun j => !(decide ((j : Int) < M 5 (4 * p + x)) && decide (M 6 (ndK p x j) = q)) || fitM M (ndK p x j) y)
def bsM (M : Nat → Int → Int) (p x q y : Nat) : Bool := admM M p x q y && admM M q y p x
def hstM (M : Nat → Int → Int) (k : Int) : Bool := decide (M 4 k = 0) || inR (mAt M 1) (M 1 1) (mAt M (30 + k)) (M 1 (30 + k))
def usM (M : Nat → Int → Int) (p x : Nat) : Bool := decide (x = 4) || (decide ((x : Int) < M 2 p) && decide (M 3 (4 * p + x) = 0) && hstM M (4 * p + x) && bsM M p x p x)
def akM (M : Nat → Int → Int) (p x : Nat) : Bool := al 4 (fun a => !(decide ((a : Int) < M 8 0) && decide (¬ M 10 a = 0) && decide (M 9 a = p)) || (decide (x < 4) && vIn M p x (2 + a)))
def ldM (M : Nat → Int → Int) (p x q : Nat) : Bool := ex 3 (fun j => decide ((j : Int) < M 5 (4 * p + x)) && decide (M 7 (ndK p x j) = 0) && decide (M 6 (ndK p x j) = q))
def aqM (M : Nat → Int → Int) (q : Nat) : Bool := ex 4 (fun a => decide ((a : Int) < M 8 0) && decide (¬ M 10 a = 0) && decide (M 9 a = q))
def zM (M : Nat → Int → Int) : Pz := (fun p x => usM M p x && akM M p x, bsM M, ldM M, aqM M)
/-- the class's falling order -/
def flM (M : Nat → Int → Int) (p d : Int) : Int := if d < M 2 p then rkd M p d else d
def oM (M : Nat → Int → Int) (n : Int) (p : Nat) : Nat := if dgt n p = 4 then 4 else (flM M p (dgt n p)).toNat
/-- every place in a plugin's order has its release -/
def rkOK (M : Nat → Int → Int) : Prop := ∀ p d, 0 ≤ p → p < 6 → 0 ≤ d → d < M 2 p → 0 ≤ rkd M p d
theorem gtF_in (M : Nat → Int → Int) (p r : Int) : ∀ (n : Nat) (s : Int), 0 ≤ gtF M p r n s ∧ gtF M p r n s ≤ n
  | 0, _ => by simp [gtF]
  | n + 1, s => by have := gtF_in M p r n (s + 1); simp only [gtF]; split <;> omega
theorem cvF_s {R P : Int → Int} : ∀ (n : Nat) (i : Int), cvF R P R P n i = 0 := fun n i => cvF_0 n i (fun _ _ => ⟨rfl, rfl⟩)
theorem rdF_f {M : Nat → Int → Int} {p g : Int} : ∀ (n : Nat) (r : Int), rdF M p g n r = -1 ∨ gtr M p (rdF M p g n r) = g
  | 0, _ => Or.inl rfl
  | n + 1, r => by
    simp only [rdF]
    split
    · right; assumption
    · exact rdF_f n (r + 1)
theorem sel_e (M : Nat → Int → Int) (n p : Int) : sel M n p = if dgt n p = 4 then -1 else rkd M p (dgt n p) := by
  have := dgt_in n p
  unfold sel wth
  rw [show (5 * p + dgt n p) % 5 = dgt n p by omega, show (5 * p + dgt n p) / 5 = p by omega]
theorem M_big {M : Nat → Int → Int} (hw : mWF M) : (∀ p, 0 ≤ p → p < 6 → 0 ≤ M 2 p ∧ M 2 p ≤ 4) ∧ (∀ k, 0 ≤ k → k < 24 → 0 ≤ M 5 k ∧ M 5 k ≤ 3) ∧ (∀ i, 0 ≤ i → i < 72 → 0 ≤ M 6 i ∧ M 6 i ≤ 5) ∧ (0 ≤ M 8 0 ∧ M 8 0 ≤ 4) ∧ (∀ a, 0 ≤ a → a < 4 → 0 ≤ M 9 a ∧ M 9 a ≤ 5) := by
  unfold mWF at hw
  exact ⟨hw.2.2.1, hw.2.2.2.1, hw.2.2.2.2.1, hw.2.2.2.2.2.1, hw.2.2.2.2.2.2.1⟩
/-- the rank beyond the releases is nobody's: at most size-1 are greater -/
def gtOK (M : Nat → Int → Int) : Prop := ∀ p r, 0 ≤ p → p < 6 → 0 ≤ r → r < M 2 p → gtr M p r < M 2 p
theorem rkd_far {M : Nat → Int → Int} (hg : gtOK M) {p d : Int} (hp : 0 ≤ p ∧ p < 6) (hd : M 2 p ≤ d) : rkd M p d = -1 := by
  have h1 := rdF_in M p d (M 2 p).toNat 0
  rcases rdF_f (M := M) (p := p) (g := d) (M 2 p).toNat 0 with h | h
  · exact h
  · rcases h1 with e | e
    · exact e
    · have := hg p (rdF M p d (M 2 p).toNat 0) hp.1 hp.2 (by omega) (by omega); omega
theorem rkd_lt {M : Nat → Int → Int} {p d : Int} (h2 : 0 ≤ M 2 p) : rkd M p d < M 2 p ∨ rkd M p d = -1 := by
  have h1 := rdF_in M p d (M 2 p).toNat 0; unfold rkd; omega
theorem okS_gd {M : Nat → Int → Int} (hw : mWF M) (hr : rkOK M) (hg : gtOK M) (n : Int) : okS M n = true ↔ gdO (zM M) (oM M n) := by
  obtain ⟨w2, w5, w6, w8, w9⟩ := M_big hw
  -- the selection as an option
  have hM : ∀ k, k ≠ 11 → mu M 11 (slF M n) k = M k := fun k hk => mu_n hk
  have h11 : ∀ p : Int, 0 ≤ p → p < 6 → mu M 11 (slF M n) 11 p = sel M n p := fun p a b => by rw [mu_s, slF, if_pos ⟨a, b⟩]
  have hat : ∀ t, mAt (mu M 11 (slF M n)) t = mAt M t := fun t => rfl
  have fr : frF M n 6 = true ↔ ∀ p : Nat, p < 6 → dgt n p < 4 → 0 ≤ sel M n p := by
    rw [frF_t 6 (by omega)]
    exact ⟨fun h p hp => h p (by omega) (by omega), fun h p a b => by have := h p.toNat (by omega); rwa [show ((p.toNat : Nat) : Int) = p by omega] at this⟩
  -- l0 says the options are real
  have real : ∀ p : Nat, p < 6 → (usM M p (oM M n p) = true) → (dgt n p < 4 → 0 ≤ sel M n p) := fun p hp hu hd => by
    have di := dgt_in n p
    rw [sel_e, if_neg (by omega)]
    unfold oM at hu
    rw [if_neg (by omega)] at hu
    unfold flM at hu
    by_cases c : dgt n p < M 2 p
    · exact hr p _ (by omega) (by omega) di.1 c
    · rw [if_neg c] at hu
      unfold usM at hu
      simp only [Bool.or_eq_true, Bool.and_eq_true, decide_eq_true_eq] at hu
      rcases hu with e | ⟨⟨⟨e, _⟩, _⟩, _⟩
      · omega
      · omega
  have opt : (∀ p : Nat, p < 6 → dgt n p < 4 → 0 ≤ sel M n p) → ∀ p : Nat, p < 6 → (oM M n p = 4 ∧ sel M n p = -1) ∨ (oM M n p < 4 ∧ sel M n p = oM M n p ∧ (oM M n p : Int) < M 2 p) := fun h p hp => by
    have di := dgt_in n p
    have s := h p hp
    have w := w2 p (by omega) (by omega)
    rw [sel_e] at s ⊢
    unfold oM
    by_cases c : dgt n p = 4
    · rw [if_pos c, if_pos c]; exact Or.inl ⟨rfl, rfl⟩
    · rw [if_neg c] at s
      rw [if_neg c, if_neg c]
      have s := s (by omega)
      have l := rkd_lt (M := M) (p := p) (d := dgt n p) w.1
      unfold flM
      by_cases e : dgt n p < M 2 p
      · rw [if_pos e]; right; omega
      · have := rkd_far hg (p := p) (d := dgt n p) (by omega) (by omega); omega
  -- what is asked of each release
  have met : (∀ p : Nat, p < 6 → dgt n p < 4 → 0 ≤ sel M n p) → ∀ (q : Nat) (t : Int), q < 6 → metP (mu M 11 (slF M n)) q t = (decide (oM M n q < 4) && vIn M q (oM M n q) t) := fun h q t hq => by
    unfold metP vIn
    rw [h11 q (by omega) (by omega), hM 1 (by decide), hat, hat]
    rcases opt h q hq with ⟨a, b⟩ | ⟨a, b, c⟩
    · rw [b, a]; simp
    · rw [b]; simp [a, c]
  have fit : (∀ p : Nat, p < 6 → dgt n p < 4 → 0 ≤ sel M n p) → ∀ k : Int, 0 ≤ k → k < 72 → (((¬ M 7 k = 0 ∧ mu M 11 (slF M n) 11 (M 6 k) < 0) ∨ metP (mu M 11 (slF M n)) (M 6 k) (54 + k) = true) ↔ fitM M k (oM M n (M 6 k).toNat) = true) := fun h k k0 k1 => by
    have w := w6 k k0 k1
    have e6 : (((M 6 k).toNat : Nat) : Int) = M 6 k := by omega
    have m := met h (M 6 k).toNat (54 + k) (by omega)
    have o := opt h (M 6 k).toNat (by omega)
    rw [e6] at m o
    rw [m, h11 _ w.1 (by omega)]
    unfold fitM
    rcases o with ⟨a, b⟩ | ⟨a, b, c⟩
    · rw [a, b]; simp
    · rw [if_neg (by omega), b]; simp [a]; intro _ z; omega
  have adm : (∀ p : Nat, p < 6 → dgt n p < 4 → 0 ≤ sel M n p) → ((∀ p : Nat, p < 6 → oM M n p < 4 → rgF (mu M 11 (slF M n)) (M 5 (4 * p + oM M n p)).toNat (3 * (4 * p + oM M n p)) = true) ↔ ∀ p q : Nat, p < 6 → q < 6 → admM M p (oM M n p) q (oM M n q) = true) := fun h => by
    constructor
    · intro hh p q hp hq
      unfold admM
      by_cases c : oM M n p = 4
      · simp [c]
      · have c4 : oM M n p < 4 := by rcases opt h p hp with z | z <;> omega
        have w := w5 (4 * p + oM M n p) (by omega) (by omega)
        rw [Bool.or_eq_true]; right
        rw [al_t]
        intro j hj
        simp only [Bool.or_eq_true, Bool.not_eq_true', Bool.and_eq_false_iff, decide_eq_false_iff_not]
        by_cases c1 : (j : Int) < M 5 (4 * p + oM M n p)
        · by_cases c2 : M 6 (ndK p (oM M n p) j) = q
          · right
            have := (rgF_t _ _).1 (hh p hp c4) (ndK p (oM M n p) j) (by unfold ndK; omega) (by unfold ndK; omega)
            rw [hM 7 (by decide), hM 6 (by decide)] at this
            have := (fit h _ (by unfold ndK; omega) (by unfold ndK; omega)).1 this
            rwa [c2, show ((q : Int).toNat) = q by omega] at this
          · exact Or.inl (Or.inr c2)
        · exact Or.inl (Or.inl c1)
    · intro hh p hp c4
      have w := w5 (4 * p + oM M n p) (by omega) (by omega)
      rw [rgF_t]
      intro k k0 k1
      rw [hM 7 (by decide), hM 6 (by decide)]
      have wk := w6 k (by omega) (by omega)
      rw [fit h k (by omega) (by omega)]
      have := hh p (M 6 k).toNat hp (by omega)
      unfold admM at this
      rw [Bool.or_eq_true] at this
      rcases this with e | e
      · simp at e; omega
      · have := al_t.1 e (k - 3 * (4 * p + oM M n p)).toNat (by omega)
        have ek : ndK p (oM M n p) (k - 3 * (4 * p + oM M n p)).toNat = k := by unfold ndK; omega
        rw [ek] at this
        simp only [Bool.or_eq_true, Bool.not_eq_true', Bool.and_eq_false_iff, decide_eq_false_iff_not] at this
        rcases this with (e | e) | e
        · omega
        · omega
        · exact e
  -- the closure
  have asked : ∀ q : Nat, q < 6 → (¬ ldA (mu M 11 (slF M n)) (M 8 0).toNat q = 0 ↔ aqM M q = true) := fun q hq => by
    rw [ldA_t]
    unfold aqM
    rw [ex_t, hM 10 (by decide), hM 9 (by decide)]
    constructor
    · rintro ⟨a, x, y, z⟩
      exact ⟨a, by omega, by simp [y, z]; omega⟩
    · rintro ⟨a, x, y⟩
      simp only [Bool.and_eq_true, decide_eq_true_eq] at y
      exact ⟨a, by omega, y.1.2, y.2⟩
  have edge : (∀ p : Nat, p < 6 → dgt n p < 4 → 0 ≤ sel M n p) → ∀ p q : Nat, p < 6 → q < 6 → (rLd (mu M 11 (slF M n)) p q ↔ (decide (oM M n p < 4) && ldM M p (oM M n p) q) = true) := fun h p q hp hq => by
    unfold rLd
    rw [h11 p (by omega) (by omega), hM 5 (by decide), hM 7 (by decide), hM 6 (by decide)]
    rcases opt h p hp with ⟨a, b⟩ | ⟨a, b, c⟩
    · rw [b, a]; simp
    · rw [b]
      unfold ldM ndK
      simp only [Bool.and_eq_true, decide_eq_true_eq, ex_t]
      constructor
      · rintro ⟨_, j, j0, j1, j2, j3, j4⟩
        exact ⟨a, j.toNat, by omega, by rw [show ((j.toNat : Nat) : Int) = j by omega]; exact ⟨⟨j2, j3⟩, j4⟩⟩
      · rintro ⟨_, j, j1, ⟨j2, j3⟩, j4⟩
        exact ⟨by omega, j, by omega, by omega, j2, j3, j4⟩
  have clo : (∀ p : Nat, p < 6 → dgt n p < 4 → 0 ≤ sel M n p) → ∀ q : Nat, q < 6 → (¬ ldE (mu M 11 (slF M n)) q = 0 ↔ itc (fun p q => decide (oM M n p < 4) && ldM M p (oM M n p) q) (aqM M) 5 q = true) := fun h q hq => by
    unfold ldE
    rw [hM 8 (by decide)]
    constructor
    · intro hh
      have key := ldB_least (M := mu M 11 (slF M n)) (l := ldA (mu M 11 (slF M n)) (M 8 0).toNat) (S := fun x => ∀ y : Nat, y < 6 → (y : Int) = x → itc (fun p q => decide (oM M n p < 4) && ldM M p (oM M n p) q) (aqM M) 5 y = true)
        (fun x hx y hy e => by
          rw [← e] at hx
          exact itc_up (itc_up (itc_up (itc_up (itc_up ((asked y hy).1 hx))))))
        (fun p x p0 p1 hS hL y hy e => by
          have := hS p.toNat (by omega) (by omega)
          rw [← e, show p = ((p.toNat : Nat) : Int) by omega] at hL
          exact itc_5 _ _ p.toNat y (by omega) hy this ((edge h _ _ (by omega) hy).1 hL))
      exact key 108 q hh q hq rfl
    · intro hh
      have key : ∀ (r : Nat) (q : Nat), q < 6 → itc (fun p q => decide (oM M n p < 4) && ldM M p (oM M n p) q) (aqM M) r q = true → ¬ ldB (mu M 11 (slF M n)) (ldA (mu M 11 (slF M n)) (M 8 0).toNat) (18 * r) q = 0 := by
        intro r
        induction r with
        | zero => intro q hq a; exact (asked q hq).2 a
        | succ r ih =>
          intro q hq a
          simp only [itc, Bool.or_eq_true, ex_t] at a
          rcases a with a | ⟨p, hp, a⟩
          · have := ldB_up (M := mu M 11 (slF M n)) (l := ldA (mu M 11 (slF M n)) (M 8 0).toNat) (q := q) (18 * r) 18 (ih q hq a)
            rwa [show 18 * r + 18 = 18 * (r + 1) by omega] at this
          · rw [Bool.and_eq_true] at a
            exact ldB_step (by omega) (ih p hp a.1) ((edge h p q hp hq).2 a.2)
      have := ldB_up (M := mu M 11 (slF M n)) (l := ldA (mu M 11 (slF M n)) (M 8 0).toNat) (q := q) (18 * 5) 18 (key 5 q hq hh)
      exact this
  -- together
  unfold okS goodP
  rw [Bool.and_eq_true, Bool.and_eq_true, Bool.and_eq_true, hM 8 (by decide)]
  unfold gdO zM Pz.l0 Pz.bs Pz.ld Pz.aq
  simp only [Bool.and_eq_true]
  constructor
  · rintro ⟨hf, ⟨ha, hp⟩, hl⟩
    have h := fr.1 hf
    have hrg : ∀ p : Nat, p < 6 → oM M n p < 4 → rgP (mu M 11 (slF M n)) p = true := fun p hp' c => by
      refine (gpF_t _ _).1 hp p (by omega) (by omega) ?_
      rw [h11 p (by omega) (by omega)]
      rcases opt h p hp' with z | z <;> omega
    have hrg2 : ∀ p : Nat, p < 6 → oM M n p < 4 → M 3 (4 * p + oM M n p) = 0 ∧ hstM M (4 * p + oM M n p) = true ∧ rgF (mu M 11 (slF M n)) (M 5 (4 * p + oM M n p)).toNat (3 * (4 * p + oM M n p)) = true := fun p hp' c => by
      have := hrg p hp' c
      have e : mu M 11 (slF M n) 11 p = oM M n p := by rw [h11 p (by omega) (by omega)]; rcases opt h p hp' with z | z <;> omega
      unfold rgP at this
      rw [e, hM 3 (by decide), hM 4 (by decide), hM 1 (by decide), hM 5 (by decide), hat, hat] at this
      split at this
      · exact absurd this (by decide)
      · rename_i c2
        simp only [not_or, Classical.not_not, not_and, Bool.not_eq_false] at c2
        refine ⟨c2.1, ?_, this⟩
        unfold hstM
        by_cases z : M 4 (4 * p + oM M n p) = 0
        · simp [z]
        · simp [z, c2.2 z]
    have hadm := (adm h).1 (fun p hp' c => (hrg2 p hp' c).2.2)
    refine ⟨fun p hp' => ⟨?_, ?_⟩, fun p q hp' hq => ?_, fun p hp' c => ?_⟩
    · unfold usM
      rcases opt h p hp' with z | z
      · simp [z.1]
      · have := hrg2 p hp' z.1
        have := hadm p p hp' hp'
        simp [z.2.2, hrg2 p hp' z.1, bsM, this]
    · unfold akM
      rw [al_t]
      intro a ha'
      simp only [Bool.or_eq_true, Bool.not_eq_true', Bool.and_eq_false_iff, decide_eq_false_iff_not, Bool.and_eq_true, decide_eq_true_eq]
      by_cases c1 : (a : Int) < M 8 0
      · by_cases c2 : M 10 a = 0
        · exact Or.inl (Or.inl (Or.inr (fun q => q c2)))
        · by_cases c3 : M 9 a = p
          · have := (gaF_t _ _).1 ha a (by omega) (by omega) (by rw [hM 10 (by decide)]; exact c2)
            rw [hM 9 (by decide), c3, met h p _ hp', Bool.and_eq_true, decide_eq_true_eq] at this
            exact Or.inr this
          · exact Or.inl (Or.inr c3)
      · exact Or.inl (Or.inl (Or.inl c1))
    · simp only [bsM, hadm p q hp' hq, hadm q p hq hp', Bool.and_self]
    · have hq := (ldF_t _ _).1 hl p (by omega) (by omega) (by rw [h11 p (by omega) (by omega)]; rcases opt h p hp' with z | z <;> omega)
      exact (clo h p hp').1 hq
  · rintro ⟨hl0, hbs, hcl⟩
    have h : ∀ p : Nat, p < 6 → dgt n p < 4 → 0 ≤ sel M n p := fun p hp => real p hp (hl0 p hp).1
    have hadm : ∀ p q : Nat, p < 6 → q < 6 → admM M p (oM M n p) q (oM M n q) = true := fun p q hp hq => by
      have := hbs p q hp hq; unfold bsM at this; rw [Bool.and_eq_true] at this; exact this.1
    refine ⟨fr.2 h, ⟨?_, ?_⟩, ?_⟩
    · rw [gaF_t]
      intro b b0 b1 hc
      rw [hM 10 (by decide)] at hc
      rw [hM 9 (by decide)]
      have w := w9 b (by omega) (by omega)
      have := (hl0 (M 9 b).toNat (by omega)).2
      unfold akM at this
      have := al_t.1 this b.toNat (by omega)
      rw [show ((b.toNat : Nat) : Int) = b by omega, show (((M 9 b).toNat : Nat) : Int) = M 9 b by omega] at this
      simp only [Bool.or_eq_true, Bool.not_eq_true', Bool.and_eq_false_iff, decide_eq_false_iff_not] at this
      have m := met h (M 9 b).toNat (2 + b) (by omega)
      rw [show (((M 9 b).toNat : Nat) : Int) = M 9 b by omega] at m
      rw [m]
      rcases this with ((e | e) | e) | e
      · omega
      · exact absurd hc e
      · exact absurd trivial e
      · exact e
    · rw [gpF_t]
      intro p p0 p1 hs
      have hp : p.toNat < 6 := by omega
      have ep : ((p.toNat : Nat) : Int) = p := by omega
      rw [h11 p p0 (by omega)] at hs
      have o := opt h p.toNat hp
      rw [ep] at o
      have c : oM M n p.toNat < 4 := by omega
      have e : mu M 11 (slF M n) 11 p = oM M n p.toNat := by rw [h11 p p0 (by omega)]; omega
      have u := (hl0 p.toNat hp).1
      unfold usM at u
      rw [ep] at u
      simp only [Bool.or_eq_true, Bool.and_eq_true, decide_eq_true_eq] at u
      have u := u.resolve_left (by omega)
      unfold rgP
      rw [e, hM 3 (by decide), hM 4 (by decide), hM 1 (by decide), hM 5 (by decide), hat, hat]
      have hh := u.1.2
      unfold hstM at hh
      rw [if_neg]
      · have := (adm h).2 hadm p.toNat hp c
        rwa [ep] at this
      · simp only [not_or, Classical.not_not, not_and, Bool.not_eq_false]
        refine ⟨u.1.1.2, fun z => ?_⟩
        simpa [z] using hh
    · unfold ledP
      rw [ldF_t]
      intro p p0 p1 hs
      have hp : p.toNat < 6 := by omega
      have ep : ((p.toNat : Nat) : Int) = p := by omega
      rw [h11 p p0 (by omega)] at hs
      have o := opt h p.toNat hp
      rw [ep] at o
      have := (clo h p.toNat hp).2 (hcl p.toNat hp (by omega))
      rwa [ep] at this

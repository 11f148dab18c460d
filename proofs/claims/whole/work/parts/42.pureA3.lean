/-! words -/
def ltr (l : List Int) : Int → Int := fun j => l.getD j.toNat 0
def weq (g : Int → Int) (n : Nat) (l : List Int) : Bool := decide (n = l.length) && eqF g (ltr l) n 0
def vaR : List Int → Int
  | [] => 0
  | c :: r => vaR r * 32 + c - 96
def eqR (g : Int → Int) : List Int → Nat → Prop
  | [], n => n = 0
  | c :: r, n => 0 < n ∧ g ((n : Int) - 1) = c ∧ eqR g r (n - 1)
theorem wdF_last (g : Int → Int) : ∀ (n : Nat) (i v : Int), wdF g (n + 1) i v = wdF g n i v * 32 + g (i + n) - 96
  | 0, i, v => by simp [wdF]
  | n + 1, i, v => by
    rw [wdF, wdF_last g n (i + 1), show i + 1 + (n : Int) = i + ((n + 1 : Nat) : Int) by omega]; rfl
theorem wdF_pos {g : Int → Int} : ∀ n : Nat, (∀ j, 0 ≤ j → j < (n : Int) → isL (g j) = true) → (n = 0 ∧ wdF g n 0 0 = 0) ∨ (0 < n ∧ 0 < wdF g n 0 0)
  | 0, _ => Or.inl ⟨rfl, rfl⟩
  | n + 1, h => by
    have ih := wdF_pos n (fun j a b => h j a (by omega))
    have := isL_in (h n (by omega) (by omega))
    rw [wdF_last, show (0 : Int) + (n : Int) = n by omega]
    omega
theorem eqR_v {g : Int → Int} : ∀ (r : List Int) (n : Nat), (∀ c ∈ r, 97 ≤ c ∧ c ≤ 122) → (∀ j, 0 ≤ j → j < (n : Int) → isL (g j) = true) → (eqR g r n ↔ wdF g n 0 0 = vaR r)
  | [], n, _, h => by
    have := wdF_pos n h
    simp only [eqR, vaR]; omega
  | c :: r, 0, hc, h => by
    have := hc c (by simp)
    have hp : ∀ r : List Int, (∀ c ∈ r, 97 ≤ c ∧ c ≤ 122) → 0 ≤ vaR r := by
      intro r
      induction r with
      | nil => intro _; simp [vaR]
      | cons d r ih => intro q; have := ih (fun x hx => q x (by simp [hx])); have := q d (by simp); simp only [vaR]; omega
    have := hp r (fun x hx => hc x (by simp [hx]))
    simp only [eqR, vaR, wdF]; omega
  | c :: r, n + 1, hc, h => by
    have ih := eqR_v r n (fun x hx => hc x (by simp [hx])) (fun j a b => h j a (by omega))
    have h1 := hc c (by simp)
    have h2 := isL_in (h n (by omega) (by omega))
    simp only [eqR, vaR, wdF_last, Nat.add_sub_cancel, ih]
    rw [show ((n + 1 : Nat) : Int) - 1 = n by omega, show (0 : Int) + (n : Int) = n by omega]
    omega
theorem eqF_all (f g : Int → Int) : ∀ (k : Nat) (i : Int), eqF f g k i = true ↔ ∀ j, i ≤ j → j < i + k → f j = g j
  | 0, i => ⟨fun _ j a b => by omega, fun _ => rfl⟩
  | k + 1, i => by
    have ih := eqF_all f g k (i + 1)
    simp only [eqF]
    constructor
    · intro h j a b
      split at h
      · by_cases e : j = i
        · rw [e]; assumption
        · exact ih.1 h j (by omega) (by omega)
      · exact absurd h (by decide)
    · intro h
      rw [if_pos (h i (by omega) (by omega))]
      exact ih.2 (fun j a b => h j (by omega) (by omega))
theorem gdl {l : List Int} {c : Int} {j : Nat} (h : j < l.length) : (l ++ [c]).getD j 0 = l.getD j 0 := by simp [List.getD_eq_getElem?_getD, List.getElem?_append_left h]
theorem gdr {l : List Int} {c : Int} {j : Nat} (h : j = l.length) : (l ++ [c]).getD j 0 = c := by simp [List.getD_eq_getElem?_getD, h]
theorem eqR_l {g : Int → Int} : ∀ (r : List Int) (n : Nat), eqR g r n ↔ n = r.length ∧ ∀ j : Nat, j < n → g j = r.reverse.getD j 0
  | [], n => by
    simp only [eqR, List.length_nil]
    exact ⟨fun h => ⟨h, fun j q => by omega⟩, fun h => h.1⟩
  | c :: r, n => by
    have ih := eqR_l (g := g) r (n - 1)
    simp only [eqR, ih, List.length_cons, List.reverse_cons]
    constructor
    · rintro ⟨a, b, d, e⟩
      refine ⟨by omega, fun j hj => ?_⟩
      by_cases z : j = n - 1
      · rw [gdr (by simp; omega), ← b]; congr 1; omega
      · rw [gdl (by simp; omega)]; exact e j (by omega)
    · rintro ⟨a, b⟩
      refine ⟨by omega, ?_, by omega, fun j hj => ?_⟩
      · have := b (n - 1) (by omega)
        rw [gdr (by simp; omega)] at this
        rw [← this]; congr 1; omega
      · rw [b j (by omega), gdl (by simp; omega)]
theorem weq_v {g : Int → Int} {n : Nat} {l : List Int} (hl : ∀ c ∈ l, 97 ≤ c ∧ c ≤ 122) (h : ∀ j, 0 ≤ j → j < (n : Int) → isL (g j) = true) : weq g n l = decide (wdF g n 0 0 = vaR l.reverse) := by
  have h1 := eqR_v (g := g) l.reverse n (fun c hc => hl c (by simpa using hc)) h
  have h2 := eqR_l (g := g) l.reverse n
  rw [List.reverse_reverse, List.length_reverse] at h2
  have h3 : weq g n l = true ↔ eqR g l.reverse n := by
    rw [h2, weq, Bool.and_eq_true, decide_eq_true_eq, eqF_all]
    refine and_congr Iff.rfl ⟨fun q j hj => ?_, fun q j a b => ?_⟩
    · have := q j (by omega) (by omega); rw [this]; simp [ltr]
    · have := q j.toNat (by omega); rw [show ((j.toNat : Nat) : Int) = j by omega] at this; rw [this]; rfl
  rw [h1] at h3
  cases hw : weq g n l
  · simp [hw] at h3; simp [h3]
  · simp [hw] at h3; simp [h3]
def kAlpha : List Int := [97, 108, 112, 104, 97]
def kBeta : List Int := [98, 101, 116, 97]
def kMilestone : List Int := [109, 105, 108, 101, 115, 116, 111, 110, 101]
def kSnapshot : List Int := [115, 110, 97, 112, 115, 104, 111, 116]
def kFinal : List Int := [102, 105, 110, 97, 108]
def kRelease : List Int := [114, 101, 108, 101, 97, 115, 101]
/-- the class's rank of a word -/
def rW (g : Int → Int) (n : Nat) (db : Bool) : Int :=
  if (weq g n kAlpha || (db && weq g n [97])) = true then 1
  else if (weq g n kBeta || (db && weq g n [98])) = true then 2
  else if (weq g n kMilestone || (db && weq g n [109])) = true then 3
  else if (weq g n [114, 99] || weq g n [99, 114]) = true then 4
  else if weq g n kSnapshot = true then 5
  else if (weq g n [103, 97] || weq g n kFinal || weq g n kRelease) = true then 6
  else if weq g n [115, 112] = true then 7 else 8
theorem rW_e {g : Int → Int} {n : Nat} {db : Bool} (h : ∀ j, 0 ≤ j → j < (n : Int) → isL (g j) = true) (hn : 1 ≤ n) : rW g n db = wrR (wrd g 0 n) (decide ((n : Int) - 0 = 1) && db) := by
  have e := fun l hl => weq_v (g := g) (n := n) (l := l) hl h
  have hl1 : decide ((n : Int) - 0 = 1) = decide (n = 1) := by congr 1; simp; omega
  rw [hl1]
  by_cases h9 : 9 < n
  · have z : ∀ l : List Int, l.length ≤ 9 → weq g n l = false := fun l q => by simp [weq]; intro; omega
    have w : wrd g 0 n = -1 := by rw [wrd, if_pos (by omega)]
    simp only [rW, w, z kAlpha (by decide), z kBeta (by decide), z kMilestone (by decide), z kSnapshot (by decide), z kFinal (by decide), z kRelease (by decide), z [97] (by decide), z [98] (by decide), z [109] (by decide), z [114, 99] (by decide), z [99, 114] (by decide), z [103, 97] (by decide), z [115, 112] (by decide)]
    cases db <;> simp [wrR] <;> omega
  · have w : wrd g 0 n = wdF g n 0 0 := by rw [wrd, if_neg (by omega), show ((n : Int) - 0).toNat = n by omega]
    have s1 : ∀ c : Int, weq g n [c] = (decide (n = 1) && weq g n [c]) := fun c => by simp [weq]
    have e0 : weq g n kAlpha = decide (wdF g n 0 0 = 1458433) := e kAlpha (by decide)
    have e1 : weq g n kBeta = decide (wdF g n 0 0 = 71297) := e kBeta (by decide)
    have e2 : weq g n kMilestone = decide (wdF g n 0 0 = 14615962074565) := e kMilestone (by decide)
    have e3 : weq g n kSnapshot = decide (wdF g n 0 0 = 667918377460) := e kSnapshot (by decide)
    have e4 : weq g n kFinal = decide (wdF g n 0 0 = 6600748) := e kFinal (by decide)
    have e5 : weq g n kRelease = decide (wdF g n 0 0 = 19507873381) := e kRelease (by decide)
    have e6 : weq g n [97] = decide (wdF g n 0 0 = 1) := e [97] (by decide)
    have e7 : weq g n [98] = decide (wdF g n 0 0 = 2) := e [98] (by decide)
    have e8 : weq g n [109] = decide (wdF g n 0 0 = 13) := e [109] (by decide)
    have e9 : weq g n [114, 99] = decide (wdF g n 0 0 = 579) := e [114, 99] (by decide)
    have e10 : weq g n [99, 114] = decide (wdF g n 0 0 = 114) := e [99, 114] (by decide)
    have e11 : weq g n [103, 97] = decide (wdF g n 0 0 = 225) := e [103, 97] (by decide)
    have e12 : weq g n [115, 112] = decide (wdF g n 0 0 = 624) := e [115, 112] (by decide)
    rw [w, rW, s1 97, s1 98, s1 109, e0, e1, e2, e3, e4, e5, e6, e7, e8, e9, e10, e11, e12]
    generalize wdF g n 0 0 = v
    generalize decide (n = 1) = o
    by_cases h0 : v = 1458433
    · rw [h0]; cases db <;> cases o <;> rfl
    by_cases h1 : v = 71297
    · rw [h1]; cases db <;> cases o <;> rfl
    by_cases h2 : v = 14615962074565
    · rw [h2]; cases db <;> cases o <;> rfl
    by_cases h3 : v = 667918377460
    · rw [h3]; cases db <;> cases o <;> rfl
    by_cases h4 : v = 6600748
    · rw [h4]; cases db <;> cases o <;> rfl
    by_cases h5 : v = 19507873381
    · rw [h5]; cases db <;> cases o <;> rfl
    by_cases h6 : v = 1
    · rw [h6]; cases db <;> cases o <;> rfl
    by_cases h7 : v = 2
    · rw [h7]; cases db <;> cases o <;> rfl
    by_cases h8 : v = 13
    · rw [h8]; cases db <;> cases o <;> rfl
    by_cases h9 : v = 579
    · rw [h9]; cases db <;> cases o <;> rfl
    by_cases h10 : v = 114
    · rw [h10]; cases db <;> cases o <;> rfl
    by_cases h11 : v = 225
    · rw [h11]; cases db <;> cases o <;> rfl
    by_cases h12 : v = 624
    · rw [h12]; cases db <;> cases o <;> rfl
    simp only [wrR, h0, h1, h2, h3, h4, h5, h6, h7, h8, h9, h10, h11, h12, decide_false, Bool.and_false, Bool.or_false, Bool.false_eq_true, if_false, or_self, and_false]

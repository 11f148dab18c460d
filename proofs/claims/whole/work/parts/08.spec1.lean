/-! SPEC 1: characters, versions, items, ranks, by an integer's function of places -/
def mIn (v lo hi : Int) : Bool := decide (lo ≤ v) && decide (v ≤ hi)
theorem mIn_t {v lo hi : Int} : mIn v lo hi = true ↔ lo ≤ v ∧ v ≤ hi := by simp [mIn]
theorem mIn_f {v lo hi : Int} : mIn v lo hi = false ↔ ¬ (lo ≤ v ∧ v ≤ hi) := by rw [← mIn_t]; simp
def isD (c : Int) : Bool := mIn c 48 57
def isL (c : Int) : Bool := mIn c 97 122
def isS (c : Int) : Bool := decide (c = 46) || decide (c = 45)
def mMay (c : Int) : Bool := isD c || isL c || mIn c 40 41 || mIn c 44 46 || decide (c = 91) || decide (c = 93)
/-- a version, letter by letter: n are left, the run of digits, whether a mark stands before -/
def verF (f : Int → Int) : Nat → Int → Int → Bool → Bool
  | 0, _, _, gap => !gap
  | n + 1, i, run, gap =>
    if (!isS (f i) && !isD (f i) && !isL (f i)) || (isS (f i) && gap) then false
    else if 9 < (if isD (f i) = true then run + 1 else 0) then false
    else verF f n (i + 1) (if isD (f i) = true then run + 1 else 0) (isS (f i))
def ver (f : Int → Int) (lo hi : Int) : Bool := mIn (hi - lo) 1 12 && verF f (hi - lo).toNat lo 0 true
theorem verF_congr {f g : Int → Int} : ∀ (n : Nat) (i j run : Int) (gap : Bool), (∀ k : Nat, k < n → f (i + k) = g (j + k)) → verF f n i run gap = verF g n j run gap
  | 0, _, _, _, _, _ => rfl
  | n + 1, i, j, run, gap, h => by
    have h0 : f i = g j := by have := h 0 (by omega); simpa using this
    have ih := fun r b => verF_congr (f := f) (g := g) n (i + 1) (j + 1) r b (fun k hk => by have := h (k + 1) (by omega); rw [show i + 1 + (k : Int) = i + ((k + 1 : Nat) : Int) by omega, show j + 1 + (k : Int) = j + ((k + 1 : Nat) : Int) by omega]; exact this)
    simp only [verF, h0, ih]
/-- the first letter or digit from i on, at most n places on -/
def skF (f : Int → Int) : Nat → Int → Int
  | 0, i => i
  | n + 1, i => if (isD (f i) || isL (f i)) = true then i else skF f n (i + 1)
/-- the end of a row of its kind -/
def ruF (p : Int → Bool) (f : Int → Int) : Nat → Int → Int
  | 0, i => i
  | n + 1, i => if p (f i) = true then ruF p f n (i + 1) else i
theorem skF_in (f : Int → Int) : ∀ (n : Nat) (i : Int), i ≤ skF f n i ∧ skF f n i ≤ i + n
  | 0, i => by simp [skF]
  | n + 1, i => by
    have ih := skF_in f n (i + 1)
    simp only [skF]
    split
    · omega
    · omega
theorem ruF_in (p : Int → Bool) (f : Int → Int) : ∀ (n : Nat) (i : Int), i ≤ ruF p f n i ∧ ruF p f n i ≤ i + n
  | 0, i => by simp [ruF]
  | n + 1, i => by
    have ih := ruF_in p f n (i + 1)
    simp only [ruF]
    split
    · omega
    · omega
def itS (f : Int → Int) (p hi : Int) : Int := skF f (hi - p).toNat p
def itP (f : Int → Int) (a : Int) : Int → Bool := if isD (f a) = true then isD else isL
def itE (f : Int → Int) (p hi : Int) : Int := ruF (itP f (itS f p hi)) f (hi - itS f p hi).toNat (itS f p hi)

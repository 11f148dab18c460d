/-! the reference: search -/
/-- what is kept behind a search: all but its scribbles -/
def mSS (M M' : Nat → Int → Int) : Prop := mSk [10, 11, 16, 17, 18, 19] M M'
theorem mSS.k {M M' : Nat → Int → Int} (h : mSS M M') (k : Nat) (hk : k ∉ [10, 11, 16, 17, 18, 19]) : M' k = M k := h k hk
theorem mSS_at {M M' : Nat → Int → Int} (h : mSS M M') (t : Int) : mAt M' t = mAt M t := by
  funext i
  unfold mAt
  rw [h.k 0 (by decide), h.k 1 (by decide)]
theorem mSS_wf {M M' : Nat → Int → Int} (h : mSS M M') (hw : mWF M) : mWF M' := by
  unfold mWF
  rw [h.k 0 (by decide), h.k 1 (by decide), h.k 2 (by decide), h.k 3 (by decide), h.k 4 (by decide), h.k 5 (by decide), h.k 6 (by decide), h.k 7 (by decide), h.k 8 (by decide), h.k 9 (by decide), h.k 12 (by decide), h.k 13 (by decide), h.k 14 (by decide), h.k 15 (by decide)]
  exact hw
theorem mSS_val {M M' : Nat → Int → Int} (h : mSS M M') (hv : mVal M) : mVal M' := by
  refine ⟨?_, ?_, ?_, ?_, ?_⟩
  · intro p r h1 h2 h3 h4; rw [mSS_at h, h.k 1 (by decide)]; rw [h.k 2 (by decide)] at h4; exact hv.1 p r h1 h2 h3 h4
  · rw [mSS_at h, h.k 1 (by decide)]; exact hv.2.1
  · intro k a b c; rw [mSS_at h, h.k 1 (by decide)]; rw [h.k 4 (by decide)] at c; exact hv.2.2.1 k a b c
  · intro k j a b c d; rw [mSS_at h, h.k 1 (by decide)]; rw [h.k 5 (by decide)] at d; exact hv.2.2.2.1 k j a b c d
  · intro a b c; rw [mSS_at h, h.k 1 (by decide)]; rw [h.k 8 (by decide)] at c; exact hv.2.2.2.2 a b c
theorem cmpR_SS {M M' : Nat → Int → Int} (h : mSS M M') (p s r : Int) : cmpR M' p s r = cmpR M p s r := by
  unfold cmpR
  rw [mSS_at h, mSS_at h, h.k 1 (by decide)]
theorem gtF_SS {M M' : Nat → Int → Int} (h : mSS M M') (p r : Int) : ∀ n s, gtF M' p r n s = gtF M p r n s
  | 0, _ => rfl
  | n + 1, s => by simp only [gtF, gtF_SS h p r n, cmpR_SS h]
theorem rdF_SS {M M' : Nat → Int → Int} (h : mSS M M') (p g : Int) : ∀ n r, rdF M' p g n r = rdF M p g n r
  | 0, _ => rfl
  | n + 1, r => by simp only [rdF, rdF_SS h p g n, gtr, gtF_SS h, h.k 2 (by decide)]
theorem rkd_SS {M M' : Nat → Int → Int} (h : mSS M M') (p g : Int) : rkd M' p g = rkd M p g := by
  unfold rkd
  rw [rdF_SS h, h.k 2 (by decide)]
theorem rdF_in (M : Nat → Int → Int) (p g : Int) : ∀ (n : Nat) (r : Int), rdF M p g n r = -1 ∨ (r ≤ rdF M p g n r ∧ rdF M p g n r < r + n)
  | 0, _ => Or.inl rfl
  | n + 1, r => by
    have ih := rdF_in M p g n (r + 1)
    simp only [rdF]
    split <;> omega
theorem rkd_in (M : Nat → Int → Int) (hw : mWF M) {p : Int} (hp : 0 ≤ p ∧ p < 6) (g : Int) : -1 ≤ rkd M p g ∧ rkd M p g < M 2 p := by
  have := rdF_in M p g (M 2 p).toNat 0
  have := hw.2.2.1 p hp.1 hp.2
  unfold rkd
  omega
/-- the j-th worth: of plugin j / 5 the release with j % 5 greater ones, -1 for none -/
def wth (M : Nat → Int → Int) (j : Int) : Int := if j % 5 = 4 then -1 else rkd M (j / 5) (j % 5)
theorem wth_in (M : Nat → Int → Int) (hw : mWF M) {j : Int} (hj : 0 ≤ j ∧ j < 30) : -1 ≤ wth M j ∧ wth M j < M 2 (j / 5) := by
  have h1 := rkd_in M hw (p := j / 5) (by omega) (j % 5)
  have := hw.2.2.1 (j / 5) (by omega) (by omega)
  unfold wth
  split <;> omega
def dgt (n p : Int) : Int := n / 5 ^ (5 - p).toNat % 5
/-- the n-th selection -/
def sel (M : Nat → Int → Int) (n p : Int) : Int := wth M (5 * p + dgt n p)
def frF (M : Nat → Int → Int) (n : Int) : Nat → Bool
  | 0 => true
  | k + 1 => if dgt n (5 - k) < 4 ∧ sel M n (5 - k) < 0 then false else frF M n k
def slF (M : Nat → Int → Int) (n : Int) : Int → Int := fun q => if 0 ≤ q ∧ q < 6 then sel M n q else M 11 q
def okS (M : Nat → Int → Int) (n : Int) : Bool := frF M n 6 && goodP (mu M 11 (slF M n))
def srF (M : Nat → Int → Int) : Nat → Int → Int
  | 0, i => i
  | k + 1, i => if okS M i = true then i else srF M k (i + 1)
theorem srF_hit {M : Nat → Int → Int} {k : Nat} {i : Int} (h : okS M i = true) : srF M k i = i := by
  cases k with
  | zero => rfl
  | succ k => simp only [srF]; rw [if_pos h]
theorem srF_go {M : Nat → Int → Int} {k : Nat} {i : Int} (hk : 0 < k) (h : okS M i = false) : srF M k i = srF M (k - 1) (i + 1) := by
  cases k with
  | zero => omega
  | succ k => simp only [srF]; rw [if_neg (by rw [h]; decide)]; rfl
/-- the number of the first good selection; 15625 if there is none -/
def srch (M : Nat → Int → Int) : Int := srF M 15625 0
/-- goodP reads the first twelve alone -/
theorem metP_K {M M' : Nat → Int → Int} (h : ∀ k, k < 12 → M' k = M k) (p t : Int) : metP M' p t = metP M p t := by
  have ha : ∀ t, mAt M' t = mAt M t := fun t => by funext i; unfold mAt; rw [h 0 (by decide), h 1 (by decide)]
  unfold metP
  rw [h 11 (by decide), h 1 (by decide), ha, ha]
theorem rgF_K {M M' : Nat → Int → Int} (h : ∀ k, k < 12 → M' k = M k) : ∀ n i, rgF M' n i = rgF M n i
  | 0, _ => rfl
  | n + 1, i => by simp only [rgF, metP_K h, rgF_K h n, h 7 (by decide), h 6 (by decide), h 11 (by decide)]
theorem rgP_K {M M' : Nat → Int → Int} (h : ∀ k, k < 12 → M' k = M k) (p : Int) : rgP M' p = rgP M p := by
  have ha : ∀ t, mAt M' t = mAt M t := fun t => by funext i; unfold mAt; rw [h 0 (by decide), h 1 (by decide)]
  unfold rgP
  simp only [rgF_K h, h 3 (by decide), h 4 (by decide), h 5 (by decide), h 11 (by decide), h 1 (by decide), ha]
theorem gaF_K {M M' : Nat → Int → Int} (h : ∀ k, k < 12 → M' k = M k) : ∀ n a, gaF M' n a = gaF M n a
  | 0, _ => rfl
  | n + 1, a => by simp only [gaF, metP_K h, gaF_K h n, h 10 (by decide), h 9 (by decide)]
theorem gpF_K {M M' : Nat → Int → Int} (h : ∀ k, k < 12 → M' k = M k) : ∀ n a, gpF M' n a = gpF M n a
  | 0, _ => rfl
  | n + 1, a => by simp only [gpF, rgP_K h, gpF_K h n, h 11 (by decide)]
theorem ldA_K {M M' : Nat → Int → Int} (h : ∀ k, k < 12 → M' k = M k) : ∀ n, ldA M' n = ldA M n
  | 0 => rfl
  | n + 1 => by simp only [ldA, ldA_K h n, h 10 (by decide), h 9 (by decide)]
theorem ldB_K {M M' : Nat → Int → Int} (h : ∀ k, k < 12 → M' k = M k) (l : Int → Int) : ∀ n, ldB M' l n = ldB M l n
  | 0 => rfl
  | n + 1 => by simp only [ldB, ldB_K h l n, h 11 (by decide), h 5 (by decide), h 7 (by decide), h 6 (by decide)]
theorem ldF_K {M M' : Nat → Int → Int} (h : ∀ k, k < 12 → M' k = M k) (l : Int → Int) : ∀ n p, ldF M' l n p = ldF M l n p
  | 0, _ => rfl
  | n + 1, p => by simp only [ldF, ldF_K h l n, h 11 (by decide)]
theorem goodP_K {M M' : Nat → Int → Int} (h : ∀ k, k < 12 → M' k = M k) : goodP M' = goodP M := by
  unfold goodP ledP ldE
  rw [gaF_K h, gpF_K h, ldF_K h, ldB_K h, ldA_K h, h 8 (by decide)]

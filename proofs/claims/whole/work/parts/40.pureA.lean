/-! the class's version: ranks and places, item by item -/
def isO (a b : Int) : Bool := (isD a && isD b) || (isL a && isL b)
def stI (f : Int → Int) (i : Int) : Bool := !isS (f i) && (decide (i = 0) || !isO (f (i - 1)) (f i))
def nsF (f : Int → Int) : Nat → Int → Int
  | 0, i => i
  | n + 1, i => if stI f i = true then i else nsF f n (i + 1)
def rkC (f : Int → Int) (a e n : Int) : Int := if isL (f a) = true then wrR (wrd f a e) (decide (e - a = 1) && (decide (e < n) && isD (f e))) else if numF f (e - a).toNat a 0 = 0 then 6 else 9
def dpF (f : Int → Int) (a e : Int) : Nat → Int → Int → Int
  | 0, _, v => v
  | n + 1, i, v => dpF f a e n (i + 1) (v * 27 + (if i < e - a then f (a + i) - 97 + 1 else 0))
def dic (f : Int → Int) (a e : Int) : Int := dpF f a e 12 0 0
def plC (f : Int → Int) (a e n : Int) : Int := if isL (f a) = true then (if rkC f a e n = 8 then dic f a e else 0) else numF f (e - a).toNat a 0
/-- where the search for item k begins -/
def rkL (f : Int → Int) (lo hi : Int) : Nat → Int
  | 0 => lo
  | k + 1 => if itS f (rkL f lo hi k) hi < hi then itE f (rkL f lo hi k) hi else hi
def vR (f : Int → Int) (lo hi k : Int) : Int := if itS f (rkL f lo hi k.toNat) hi < hi then rkC f (itS f (rkL f lo hi k.toNat) hi) (itE f (rkL f lo hi k.toNat) hi) hi else 6
def vP (f : Int → Int) (lo hi k : Int) : Int := if itS f (rkL f lo hi k.toNat) hi < hi then plC f (itS f (rkL f lo hi k.toNat) hi) (itE f (rkL f lo hi k.toNat) hi) hi else 0
def cvF (R P R' P' : Int → Int) : Nat → Int → Int
  | 0, _ => 0
  | n + 1, i => if R i = R' i then (if P i = P' i then cvF R P R' P' n (i + 1) else if P i < P' i then -1 else 1) else if R i < R' i then -1 else 1
theorem isDL {c : Int} (h : (isD c || isL c) = true) : isL c = !isD c := by
  simp only [isD, isL, mIn, Bool.or_eq_true, Bool.and_eq_true, decide_eq_true_eq] at h
  by_cases d : 48 ≤ c ∧ c ≤ 57
  · simp [isD, isL, mIn, d]; omega
  · have : 97 ≤ c ∧ c ≤ 122 := by omega
    simp [isD, isL, mIn, this]; omega
theorem isS_n {c : Int} (h : (isD c || isL c) = true) : isS c = false := by
  simp only [isD, isL, mIn, Bool.or_eq_true, Bool.and_eq_true, decide_eq_true_eq] at h
  simp [isS]; omega
theorem isL_in {c : Int} (h : isL c = true) : 97 ≤ c ∧ c ≤ 122 := mIn_t.1 h
theorem isD_in {c : Int} (h : isD c = true) : 48 ≤ c ∧ c ≤ 57 := mIn_t.1 h
theorem skF_dl (f : Int → Int) : ∀ (n : Nat) (i : Int), skF f n i < i + n → (isD (f (skF f n i)) || isL (f (skF f n i))) = true
  | 0, i, h => by simp [skF] at h
  | n + 1, i, h => by
    simp only [skF] at h ⊢
    split at h
    · rename_i c; rw [if_pos c]; exact c
    · rename_i c; rw [if_neg c]; exact skF_dl f n (i + 1) (by omega)
theorem ruF_all (p : Int → Bool) (f : Int → Int) : ∀ (n : Nat) (i j : Int), i ≤ j → j < ruF p f n i → p (f j) = true
  | 0, i, j, h, g => by simp only [ruF] at g; omega
  | n + 1, i, j, h, g => by
    simp only [ruF] at g
    split at g
    · rename_i c
      by_cases e : j = i
      · rw [e]; exact c
      · exact ruF_all p f n (i + 1) j (by omega) g
    · omega
theorem itS_i {f : Int → Int} {p hi : Int} (h : p ≤ hi) : p ≤ itS f p hi ∧ itS f p hi ≤ hi := by
  have := skF_in f (hi - p).toNat p; unfold itS; omega
theorem itS_dl {f : Int → Int} {p hi : Int} (h : p ≤ hi) (g : itS f p hi < hi) : (isD (f (itS f p hi)) || isL (f (itS f p hi))) = true := skF_dl f _ _ (by unfold itS at g; omega)
theorem itE_i {f : Int → Int} {p hi : Int} (h : p ≤ hi) (g : itS f p hi < hi) : itS f p hi < itE f p hi ∧ itE f p hi ≤ hi := by
  have hd := itS_dl h g
  have h1 := ruF_in (itP f (itS f p hi)) f (hi - itS f p hi).toNat (itS f p hi)
  have hp : itP f (itS f p hi) (f (itS f p hi)) = true := by
    unfold itP; split
    · assumption
    · rename_i c; simpa [c] using hd
  have h2 := ruF_go (f := f) (p := itP f (itS f p hi)) (n := (hi - itS f p hi).toNat) (i := itS f p hi) (by omega) hp
  have h3 := ruF_in (itP f (itS f p hi)) f ((hi - itS f p hi).toNat - 1) (itS f p hi + 1)
  unfold itE
  omega
theorem itE_all {f : Int → Int} {p hi j : Int} (h0 : itS f p hi ≤ j) (h1 : j < itE f p hi) : itP f (itS f p hi) (f j) = true := ruF_all _ f _ _ j h0 h1
theorem rkL_in {f : Int → Int} {lo hi : Int} (h : lo ≤ hi) : ∀ k : Nat, lo ≤ rkL f lo hi k ∧ rkL f lo hi k ≤ hi
  | 0 => by simp [rkL, h]
  | k + 1 => by
    have ih := rkL_in (f := f) h k
    simp only [rkL]
    split
    · rename_i c
      have := itE_i ih.2 c; have := itS_i (f := f) ih.2; omega
    · omega
theorem rkL_far {f : Int → Int} {lo hi : Int} (h : lo ≤ hi) : ∀ k : Nat, rkL f lo hi k = hi ∨ lo + k ≤ rkL f lo hi k
  | 0 => by simp [rkL]
  | k + 1 => by
    have ih := rkL_far (f := f) h k
    have ib := rkL_in (f := f) h k
    simp only [rkL]
    split
    · rename_i c
      have := itE_i ib.2 c; have := itS_i (f := f) ib.2
      rcases ih with e | e
      · omega
      · right; omega
    · exact Or.inl rfl
theorem itS_end (f : Int → Int) (hi : Int) : itS f hi hi = hi := by simp [itS, skF]
theorem rkL_12 {f : Int → Int} {lo hi : Int} (h : lo ≤ hi) (h12 : hi - lo ≤ 12) {k : Nat} (hk : 12 ≤ k) : rkL f lo hi k = hi := by
  have := rkL_far (f := f) h k; have := rkL_in (f := f) h k; omega
theorem rkL_stay {f : Int → Int} {lo hi : Int} {k : Nat} (h : ¬ itS f (rkL f lo hi k) hi < hi) : ∀ d : Nat, ¬ itS f (rkL f lo hi (k + d)) hi < hi
  | 0 => h
  | d + 1 => by
    have ih := rkL_stay h d
    rw [show k + (d + 1) = (k + d) + 1 by omega, rkL, if_neg ih, itS_end]; omega
theorem numF_pos {f : Int → Int} : ∀ (n : Nat) (i v : Int), (∀ j, i ≤ j → j < i + n → isD (f j) = true) → 0 < v → 0 < numF f n i v
  | 0, _, _, _, h => h
  | n + 1, i, v, hd, h => by
    have := isD_in (hd i (by omega) (by omega))
    exact numF_pos n (i + 1) _ (fun j a b => hd j (by omega) (by omega)) (by omega)
theorem numF_z {f : Int → Int} : ∀ (n : Nat) (i : Int), (∀ j, i ≤ j → j < i + n → isD (f j) = true) → (zrF f n i = true ↔ numF f n i 0 = 0)
  | 0, _, _ => by simp [zrF, numF]
  | n + 1, i, hd => by
    have h1 := isD_in (hd i (by omega) (by omega))
    simp only [zrF, numF]
    split
    · rename_i c
      rw [c, show (10 * 0 + 48 - 48 : Int) = 0 by decide]
      exact numF_z n (i + 1) (fun j a b => hd j (by omega) (by omega))
    · have := numF_pos n (i + 1) (10 * 0 + f i - 48) (fun j a b => hd j (by omega) (by omega)) (by omega)
      exact ⟨fun q => absurd q (by decide), fun q => by omega⟩
theorem wrR_i (w : Int) (sh : Bool) : 1 ≤ wrR w sh ∧ wrR w sh ≤ 8 := by
  unfold wrR
  repeat' split
  all_goals omega
def dg27 (f : Int → Int) (a e i : Int) : Int := if i < e - a then f (a + i) - 97 + 1 else 0
theorem dpF_lt {f g : Int → Int} {a ae b be : Int} (hf : ∀ j, a ≤ j → j < ae → isL (f j) = true) (hg : ∀ j, b ≤ j → j < be → isL (g j) = true) : ∀ (n : Nat) (i v w : Int), 0 ≤ i → v < w → dpF f a ae n i v < dpF g b be n i w
  | 0, _, _, _, _, h => h
  | n + 1, i, v, w, hi, h => by
    refine dpF_lt hf hg n (i + 1) _ _ (by omega) ?_
    split <;> split
    · have := isL_in (hf (a + i) (by omega) (by omega)); have := isL_in (hg (b + i) (by omega) (by omega)); omega
    · have := isL_in (hf (a + i) (by omega) (by omega)); omega
    · have := isL_in (hg (b + i) (by omega) (by omega)); omega
    · omega
theorem wcF_end {f g : Int → Int} {a ae b be : Int} {i : Int} (h1 : ae ≤ a + i) (h2 : be ≤ b + i) : ∀ m, wcF f g a ae b be m i = 0
  | 0 => rfl
  | m + 1 => by rw [wcF, if_neg (by omega)]
theorem wcF_dp {f g : Int → Int} {a ae b be : Int} (hf : ∀ j, a ≤ j → j < ae → isL (f j) = true) (hg : ∀ j, b ≤ j → j < be → isL (g j) = true) : ∀ (n m : Nat) (i v : Int), 0 ≤ i → n ≤ m → ae - a ≤ i + n → be - b ≤ i + n → cmp3 (dpF f a ae n i v) (dpF g b be n i v) = wcF f g a ae b be m i
  | 0, m, i, v, hi, _, h1, h2 => by rw [wcF_end (by omega) (by omega)]; simp [dpF, cmp3]
  | n + 1, 0, i, v, hi, hm, h1, h2 => by omega
  | n + 1, m + 1, i, v, hi, hm, h1, h2 => by
    have ih := fun w => wcF_dp hf hg n m (i + 1) w (by omega) (by omega) (by omega) (by omega)
    by_cases c1 : a + i < ae
    · have l1 := isL_in (hf (a + i) (by omega) (by omega))
      by_cases c2 : b + i < be
      · have l2 := isL_in (hg (b + i) (by omega) (by omega))
        rw [wcF, if_pos (Or.inl c1)]
        simp only [dpF, wcX, if_pos c1, if_pos c2, if_pos (show i < ae - a by omega), if_pos (show i < be - b by omega)]
        by_cases c3 : f (a + i) = g (b + i)
        · rw [if_pos c3, c3]; exact ih _
        · rw [if_neg c3]
          by_cases c4 : f (a + i) < g (b + i)
          · rw [if_pos c4, cmp3, if_pos (dpF_lt hf hg n (i + 1) _ _ (by omega) (by omega))]
          · have := dpF_lt hg hf n (i + 1) (v * 27 + (g (b + i) - 97 + 1)) (v * 27 + (f (a + i) - 97 + 1)) (by omega) (by omega)
            rw [if_neg c4, cmp3, if_neg (by omega), if_pos this]
      · rw [wcF, if_pos (Or.inl c1)]
        simp only [dpF, wcX, if_pos c1, if_neg c2, if_pos (show i < ae - a by omega), if_neg (show ¬ i < be - b by omega)]
        have := dpF_lt hg hf n (i + 1) (v * 27 + 0) (v * 27 + (f (a + i) - 97 + 1)) (by omega) (by omega)
        rw [if_neg (by omega), if_neg (by omega), cmp3, if_neg (by omega), if_pos this]
    · by_cases c2 : b + i < be
      · have l2 := isL_in (hg (b + i) (by omega) (by omega))
        rw [wcF, if_pos (Or.inr c2)]
        simp only [dpF, wcX, if_neg c1, if_pos c2, if_neg (show ¬ i < ae - a by omega), if_pos (show i < be - b by omega)]
        have := dpF_lt hf hg n (i + 1) (v * 27 + 0) (v * 27 + (g (b + i) - 97 + 1)) (by omega) (by omega)
        rw [if_neg (by omega), if_pos (by omega), cmp3, if_pos this]
      · rw [wcF, if_neg (by omega)]
        simp only [dpF, if_neg (show ¬ i < ae - a by omega), if_neg (show ¬ i < be - b by omega)]
        rw [ih, wcF_end (by omega) (by omega)]
theorem cmp3_0 {m n : Int} : cmp3 m n = 0 ↔ m = n := by unfold cmp3; by_cases a : m < n <;> by_cases b : n < m <;> simp [a, b] <;> omega
/-- what the class and the reference say of an item -/
theorem rkC_I {f : Int → Int} {p hi : Int} (h : p ≤ hi) (g : itS f p hi < hi) (hd : isD (f hi) = false) : rkC f (itS f p hi) (itE f p hi) hi = rkI f (itS f p hi) (itE f p hi) := by
  have he := itE_i h g
  unfold rkC rkI
  by_cases c : isL (f (itS f p hi)) = true
  · rw [if_pos c, if_pos c]
    by_cases e : itE f p hi < hi
    · simp [e]
    · rw [show itE f p hi = hi by omega, hd]; simp
  · have hdl := itS_dl h g
    have hD : isD (f (itS f p hi)) = true := by simpa [c] using hdl
    have hz := numF_z (f := f) (itE f p hi - itS f p hi).toNat (itS f p hi) (fun j a b => by have := itE_all (f := f) (p := p) (hi := hi) a (by omega); rwa [itP_d hD] at this)
    rw [if_neg c, if_neg c]
    by_cases z : numF f (itE f p hi - itS f p hi).toNat (itS f p hi) 0 = 0
    · rw [if_pos z, if_pos (hz.2 z)]
    · rw [if_neg z, if_neg (fun q => z (hz.1 q))]
theorem vR_ord {f : Int → Int} {lo hi : Int} (h : lo ≤ hi) (hd : isD (f hi) = false) (k : Nat) : vR f lo hi k = ordR f (rkL f lo hi k) hi := by
  unfold vR ordR
  rw [show ((k : Int).toNat) = k by omega]
  split
  · rename_i c; exact rkC_I (rkL_in h k).2 c hd
  · rfl
theorem ordD_P {f g : Int → Int} {p n q hi : Int} (hp : p ≤ n) (hq : q ≤ hi) (hf : n - p ≤ 12) (hg : hi - q ≤ 12) (f1 : itS f p n < n) (g1 : itS g q hi < hi) (hr : rkC f (itS f p n) (itE f p n) n = rkC g (itS g q hi) (itE g q hi) hi) : ordD f g (itS f p n) (itE f p n) (itS g q hi) (itE g q hi) (rkC f (itS f p n) (itE f p n) n) = cmp3 (plC f (itS f p n) (itE f p n) n) (plC g (itS g q hi) (itE g q hi) hi) := by
  have ef := itE_i hp f1; have eg := itE_i hq g1; have sf := itS_i (f := f) hp; have sg := itS_i (f := g) hq
  have df := itS_dl hp f1; have dg := itS_dl hq g1
  have lf := isDL df; have lg := isDL dg
  unfold ordD plC
  by_cases cf : isL (f (itS f p n)) = true
  · have Lf : ∀ j, itS f p n ≤ j → j < itE f p n → isL (f j) = true := fun j a b => by
      have := itE_all a b; rwa [itP_l (by rw [cf] at lf; simpa using lf.symm)] at this
    have r1 : rkC f (itS f p n) (itE f p n) n ≤ 8 := by rw [rkC, if_pos cf]; exact (wrR_i _ _).2
    by_cases cg : isL (g (itS g q hi)) = true
    · have Lg : ∀ j, itS g q hi ≤ j → j < itE g q hi → isL (g j) = true := fun j a b => by
        have := itE_all a b; rwa [itP_l (by rw [cg] at lg; simpa using lg.symm)] at this
      rw [if_neg (by omega), if_pos cf, if_pos cg, ← hr]
      split
      · unfold wcp dic
        exact (wcF_dp Lf Lg 12 101 0 0 (by decide) (by decide) (by omega) (by omega)).symm
      · simp [cmp3]
    · rw [if_neg (by omega), if_pos cf, if_neg cg]
      have r2 : rkC g (itS g q hi) (itE g q hi) hi = 6 ∧ numF g (itE g q hi - itS g q hi).toNat (itS g q hi) 0 = 0 ∨ rkC g (itS g q hi) (itE g q hi) hi = 9 := by
        rw [rkC, if_neg cg]; split
        · rename_i z; exact Or.inl ⟨rfl, z⟩
        · exact Or.inr rfl
      rcases r2 with ⟨a, b⟩ | a
      · rw [if_neg (by omega), if_neg (by omega), b]; simp [cmp3]
      · omega
  · have r1 : rkC f (itS f p n) (itE f p n) n = 6 ∧ numF f (itE f p n - itS f p n).toNat (itS f p n) 0 = 0 ∨ rkC f (itS f p n) (itE f p n) n = 9 := by
      rw [rkC, if_neg cf]; split
      · rename_i z; exact Or.inl ⟨rfl, z⟩
      · exact Or.inr rfl
    rw [if_neg cf]
    rcases r1 with ⟨a, b⟩ | a
    · rw [if_neg (by omega), if_neg (by omega), b]
      split
      · rw [if_neg (by omega)]; simp [cmp3]
      · rename_i cg
        have : numF g (itE g q hi - itS g q hi).toNat (itS g q hi) 0 = 0 := by
          have : rkC g (itS g q hi) (itE g q hi) hi = 6 := by omega
          rw [rkC, if_neg cg] at this; split at this
          · assumption
          · omega
        rw [this]; simp [cmp3]
    · rw [if_pos a]
      have cg : ¬ isL (g (itS g q hi)) = true := fun c => by
        have := wrR_i (wrd g (itS g q hi) (itE g q hi)) (decide (itE g q hi - itS g q hi = 1) && (decide (itE g q hi < hi) && isD (g (itE g q hi))))
        rw [hr, rkC, if_pos c] at a; omega
      rw [if_neg cg]
theorem cvF_0 {R P R' P' : Int → Int} : ∀ (n : Nat) (i : Int), (∀ j, i ≤ j → R j = R' j ∧ P j = P' j) → cvF R P R' P' n i = 0
  | 0, _, _ => rfl
  | n + 1, i, h => by rw [cvF, if_pos (h i (by omega)).1, if_pos (h i (by omega)).2]; exact cvF_0 n (i + 1) (fun j a => h j (by omega))
theorem vR_none {f : Int → Int} {lo hi : Int} {k : Nat} (h : ¬ itS f (rkL f lo hi k) hi < hi) (j : Int) (hj : (k : Int) ≤ j) : vR f lo hi j = 6 ∧ vP f lo hi j = 0 := by
  have := rkL_stay h (j.toNat - k)
  rw [show k + (j.toNat - k) = j.toNat by omega] at this
  simp only [vR, vP, if_neg this, and_self]
/-- the missing item's own: against an item of its rank that has no place -/
theorem plC_6 {f : Int → Int} {p n : Int} (h6 : rkC f (itS f p n) (itE f p n) n = 6) : plC f (itS f p n) (itE f p n) n = 0 := by
  unfold plC
  split
  · rw [if_neg (by omega)]
  · rename_i c
    rw [rkC, if_neg c] at h6; split at h6
    · assumption
    · omega
theorem ord_step {f g : Int → Int} {n1 lo hi : Int} (hf : 0 ≤ n1 ∧ n1 ≤ 12) (hg : lo ≤ hi ∧ hi - lo ≤ 12) (df : isD (f n1) = false) (dg : isD (g hi) = false) : ∀ (m : Nat) (i : Nat), i + m = 12 → ordF f g n1 hi (m + 1) (rkL f 0 n1 i) (rkL g lo hi i) = cvF (vR f 0 n1) (vP f 0 n1) (vR g lo hi) (vP g lo hi) m i
  | 0, i, h => by
    rw [show i = 12 by omega, rkL_12 hf.1 (by omega) (Nat.le_refl 12), rkL_12 hg.1 hg.2 (Nat.le_refl 12), ordF, itS_end, itS_end, if_pos (by omega)]; rfl
  | m + 1, i, h => by
    have pf := rkL_in (f := f) hf.1 i; have pg := rkL_in (f := g) hg.1 i
    rw [ordF]
    by_cases c0 : ¬ itS f (rkL f 0 n1 i) n1 < n1 ∧ ¬ itS g (rkL g lo hi i) hi < hi
    · rw [if_pos c0, cvF_0]
      intro j hj
      have a := vR_none c0.1 j hj; have b := vR_none c0.2 j hj
      rw [a.1, a.2, b.1, b.2]; exact ⟨rfl, rfl⟩
    · rw [if_neg c0, ← vR_ord hf.1 df, ← vR_ord hg.1 dg, cvF]
      by_cases cr : vR f 0 n1 i = vR g lo hi i
      · rw [if_pos cr, if_pos cr]
        have key : ordD f g (itS f (rkL f 0 n1 i) n1) (itE f (rkL f 0 n1 i) n1) (itS g (rkL g lo hi i) hi) (itE g (rkL g lo hi i) hi) (vR f 0 n1 i) = cmp3 (vP f 0 n1 i) (vP g lo hi i) := by
          by_cases c1 : itS f (rkL f 0 n1 i) n1 < n1
          · by_cases c2 : itS g (rkL g lo hi i) hi < hi
            · have e1 : vR f 0 n1 i = rkC f (itS f (rkL f 0 n1 i) n1) (itE f (rkL f 0 n1 i) n1) n1 := by rw [vR, show ((i : Int).toNat) = i by omega, if_pos c1]
              have e2 : vR g lo hi i = rkC g (itS g (rkL g lo hi i) hi) (itE g (rkL g lo hi i) hi) hi := by rw [vR, show ((i : Int).toNat) = i by omega, if_pos c2]
              have e3 : vP f 0 n1 i = plC f (itS f (rkL f 0 n1 i) n1) (itE f (rkL f 0 n1 i) n1) n1 := by rw [vP, show ((i : Int).toNat) = i by omega, if_pos c1]
              have e4 : vP g lo hi i = plC g (itS g (rkL g lo hi i) hi) (itE g (rkL g lo hi i) hi) hi := by rw [vP, show ((i : Int).toNat) = i by omega, if_pos c2]
              rw [e1, e3, e4]
              exact ordD_P pf.2 pg.2 (by omega) (by omega) c1 c2 (by rw [← e1, ← e2]; exact cr)
            · have b := vR_none c2 i (Int.le_refl _)
              have e1 : vR f 0 n1 i = rkC f (itS f (rkL f 0 n1 i) n1) (itE f (rkL f 0 n1 i) n1) n1 := by rw [vR, show ((i : Int).toNat) = i by omega, if_pos c1]
              have e3 : vP f 0 n1 i = plC f (itS f (rkL f 0 n1 i) n1) (itE f (rkL f 0 n1 i) n1) n1 := by rw [vP, show ((i : Int).toNat) = i by omega, if_pos c1]
              rw [b.1] at cr
              rw [b.2, e3, plC_6 (by rw [← e1]; exact cr), cr]; simp [ordD, cmp3]
          · have a := vR_none c1 i (Int.le_refl _)
            have c2 : itS g (rkL g lo hi i) hi < hi := by omega
            have e2 : vR g lo hi i = rkC g (itS g (rkL g lo hi i) hi) (itE g (rkL g lo hi i) hi) hi := by rw [vR, show ((i : Int).toNat) = i by omega, if_pos c2]
            have e4 : vP g lo hi i = plC g (itS g (rkL g lo hi i) hi) (itE g (rkL g lo hi i) hi) hi := by rw [vP, show ((i : Int).toNat) = i by omega, if_pos c2]
            rw [a.1] at cr
            rw [a.1, a.2, e4, plC_6 (by rw [← e2]; exact cr.symm)]; simp [ordD, cmp3]
        rw [key]
        by_cases cp : vP f 0 n1 i = vP g lo hi i
        · rw [if_pos (cmp3_0.2 cp), if_pos cp]
          exact ord_step hf hg df dg m (i + 1) (by omega)
        · rw [if_neg (fun z => cp (cmp3_0.1 z)), if_neg cp, cmp3]
          split
          · rfl
          · rw [if_pos (by omega)]
      · rw [if_neg cr, if_neg cr]
theorem ord_cv {f g : Int → Int} {n1 lo hi : Int} (hf : 0 ≤ n1 ∧ n1 ≤ 12) (hg : lo ≤ hi ∧ hi - lo ≤ 12) (df : isD (f n1) = false) (dg : isD (g hi) = false) : ord f g n1 lo hi = cvF (vR f 0 n1) (vP f 0 n1) (vR g lo hi) (vP g lo hi) 12 0 := ord_step hf hg df dg 12 0 rfl

/-! the order of versions, and of a plugin's releases -/
theorem cvF_neg {R P R' P' : Int → Int} : ∀ (n : Nat) (i : Int), cvF R' P' R P n i = - cvF R P R' P' n i
  | 0, _ => rfl
  | n + 1, i => by
    have ih := cvF_neg (R := R) (P := P) (R' := R') (P' := P') n (i + 1)
    simp only [cvF]
    by_cases a : R i = R' i
    · rw [if_pos a, if_pos a.symm]
      by_cases b : P i = P' i
      · rw [if_pos b, if_pos b.symm, ih]
      · rw [if_neg b, if_neg (fun q => b q.symm)]
        by_cases c : P i < P' i
        · rw [if_pos c, if_neg (by omega)]; rfl
        · rw [if_neg c, if_pos (by omega)]
    · rw [if_neg a, if_neg (fun q => a q.symm)]
      by_cases c : R i < R' i
      · rw [if_pos c, if_neg (by omega)]; rfl
      · rw [if_neg c, if_pos (by omega)]
theorem cvF_in {R P R' P' : Int → Int} : ∀ (n : Nat) (i : Int), -1 ≤ cvF R P R' P' n i ∧ cvF R P R' P' n i ≤ 1
  | 0, _ => by simp [cvF]
  | n + 1, i => by
    have ih := cvF_in (R := R) (P := P) (R' := R') (P' := P') n (i + 1)
    simp only [cvF]
    by_cases a : R i = R' i
    · rw [if_pos a]
      by_cases b : P i = P' i
      · rw [if_pos b]; exact ih
      · rw [if_neg b]; by_cases c : P i < P' i
        · rw [if_pos c]; omega
        · rw [if_neg c]; omega
    · rw [if_neg a]; by_cases c : R i < R' i
      · rw [if_pos c]; omega
      · rw [if_neg c]; omega
theorem cvF_tr {R P R' P' S Q : Int → Int} : ∀ (n : Nat) (i : Int), 0 < cvF R P R' P' n i → 0 ≤ cvF R' P' S Q n i → 0 < cvF R P S Q n i
  | 0, _, h, _ => by simp [cvF] at h
  | n + 1, i, h, g => by
    have ih := cvF_tr (R := R) (P := P) (R' := R') (P' := P') (S := S) (Q := Q) n (i + 1)
    rw [cvF] at h g ⊢
    by_cases a : R i = R' i
    · rw [if_pos a] at h
      by_cases a2 : R' i = S i
      · rw [if_pos a2] at g
        rw [if_pos (a.trans a2)]
        by_cases b : P i = P' i
        · rw [if_pos b] at h
          by_cases b2 : P' i = Q i
          · rw [if_pos b2] at g; rw [if_pos (b.trans b2)]; exact ih h g
          · rw [if_neg b2] at g
            rw [if_neg (by omega)]
            by_cases c : P' i < Q i
            · rw [if_pos c] at g; omega
            · rw [if_neg (by omega)]; omega
        · rw [if_neg b] at h
          by_cases c : P i < P' i
          · rw [if_pos c] at h; omega
          · by_cases b2 : P' i = Q i
            · rw [if_neg (by omega), if_neg (by omega)]; omega
            · rw [if_neg b2] at g
              by_cases c2 : P' i < Q i
              · rw [if_pos c2] at g; omega
              · rw [if_neg (by omega), if_neg (by omega)]; omega
      · rw [if_neg a2] at g
        by_cases c : R' i < S i
        · rw [if_pos c] at g; omega
        · rw [if_neg (by omega), if_neg (by omega)]; omega
    · rw [if_neg a] at h
      by_cases c : R i < R' i
      · rw [if_pos c] at h; omega
      · by_cases a2 : R' i = S i
        · rw [if_neg (by omega), if_neg (by omega)]; omega
        · rw [if_neg a2] at g
          by_cases c2 : R' i < S i
          · rw [if_pos c2] at g; omega
          · rw [if_neg (by omega), if_neg (by omega)]; omega
def cI (P : Int → Bool) : Nat → Int → Int
  | 0, _ => 0
  | n + 1, s => (if P s = true then 1 else 0) + cI P n (s + 1)
theorem cI_in (P : Int → Bool) : ∀ (n : Nat) (s : Int), 0 ≤ cI P n s ∧ cI P n s ≤ n
  | 0, _ => by simp [cI]
  | n + 1, s => by have := cI_in P n (s + 1); simp only [cI]; split <;> omega
theorem cI_le {P Q : Int → Bool} : ∀ (n : Nat) (s : Int), (∀ j, s ≤ j → j < s + n → P j = true → Q j = true) → cI P n s ≤ cI Q n s
  | 0, _, _ => by simp [cI]
  | n + 1, s, h => by
    have ih := cI_le n (s + 1) (fun j a b => h j (by omega) (by omega))
    simp only [cI]
    by_cases a : P s = true
    · rw [if_pos a, if_pos (h s (by omega) (by omega) a)]; omega
    · rw [if_neg a]; split <;> omega
theorem cI_lt {P Q : Int → Bool} {r : Int} (h1 : P r = false) (h2 : Q r = true) : ∀ (n : Nat) (s : Int), s ≤ r → r < s + n → (∀ j, s ≤ j → j < s + n → P j = true → Q j = true) → cI P n s < cI Q n s
  | 0, s, a, b, _ => by omega
  | n + 1, s, a, b, h => by
    simp only [cI]
    by_cases e : r = s
    · have ih := cI_le (P := P) (Q := Q) n (s + 1) (fun j a b => h j (by omega) (by omega))
      rw [← e, h1, h2]; simp; rw [e]; omega
    · have ih := cI_lt h1 h2 n (s + 1) (by omega) (by omega) (fun j a b => h j (by omega) (by omega))
      by_cases a : P s = true
      · rw [if_pos a, if_pos (h s (by omega) (by omega) a)]; omega
      · rw [if_neg a]; split <;> omega
theorem cI_c {P Q : Int → Bool} : ∀ (n : Nat) (s : Int), (∀ j, s ≤ j → j < s + n → P j = Q j) → cI P n s = cI Q n s
  | 0, _, _ => rfl
  | n + 1, s, h => by simp only [cI, h s (by omega) (by omega), cI_c n (s + 1) (fun j a b => h j (by omega) (by omega))]
theorem cI_last (P : Int → Bool) : ∀ (n : Nat) (s : Int), cI P (n + 1) s = cI P n s + (if P (s + n) = true then 1 else 0)
  | 0, s => by simp [cI]
  | n + 1, s => by
    have := cI_last P n (s + 1)
    rw [show s + 1 + (n : Int) = s + ((n + 1 : Nat) : Int) by omega] at this
    rw [cI, this, cI]; omega
theorem gtF_c {M : Nat → Int → Int} {p r : Int} : ∀ (n : Nat) (s : Int), gtF M p r n s = cI (fun s => decide (0 < cmpR M p s r)) n s
  | 0, _ => rfl
  | n + 1, s => by simp only [gtF, cI, gtF_c n (s + 1), decide_eq_true_eq]
/-- F is the falling order of plugin p's releases -/
def flOK (M : Nat → Int → Int) (p : Int) (F : Int → Int) : Prop := (∀ d, 0 ≤ d → d < M 2 p → 0 ≤ F d ∧ F d < M 2 p ∧ gtr M p (F d) = d) ∧ (∀ r, 0 ≤ r → r < M 2 p → 0 ≤ gtr M p r ∧ gtr M p r < M 2 p ∧ F (gtr M p r) = r) ∧ ∀ d, M 2 p ≤ d → d < 4 → F d = d
theorem rdF_h {M : Nat → Int → Int} {p g r : Int} : ∀ (n : Nat) (s : Int), s ≤ r → r < s + n → gtr M p r = g → (∀ j, s ≤ j → j < s + n → gtr M p j = g → j = r) → rdF M p g n s = r
  | 0, s, a, b, _, _ => by omega
  | n + 1, s, a, b, h, u => by
    simp only [rdF]
    by_cases c : gtr M p s = g
    · rw [if_pos c]; exact u s (by omega) (by omega) c
    · rw [if_neg c]
      by_cases e : r = s
      · rw [e] at h; exact absurd h c
      · exact rdF_h n (s + 1) (by omega) (by omega) h (fun j x y => u j (by omega) (by omega))
theorem fl_rkd {M : Nat → Int → Int} {p : Int} {F : Int → Int} (h : flOK M p F) {d : Int} (h0 : 0 ≤ d) (h1 : d < M 2 p) : rkd M p d = F d := by
  have a := h.1 d h0 h1
  exact rdF_h _ 0 a.1 (by omega) a.2.2 (fun j x y z => by have := h.2.1 j x (by omega); rw [z] at this; exact this.2.2.symm)
theorem fl_flM {M : Nat → Int → Int} {p : Int} {F : Int → Int} (h : flOK M p F) {d : Int} (h0 : 0 ≤ d) (h1 : d < 4) : flM M p d = F d := by
  unfold flM
  split
  · rename_i c; exact fl_rkd h h0 c
  · exact (h.2.2 d (by omega) h1).symm
theorem fl_ok {M : Nat → Int → Int} {F : Int → Int → Int} (h : ∀ p, 0 ≤ p → p < 6 → flOK M p (F p)) : rkOK M ∧ gtOK M :=
  ⟨fun p d a b c e => by rw [fl_rkd (h p a b) c e]; exact ((h p a b).1 d c e).1, fun p r a b c e => ((h p a b).2.1 r c e).2.1⟩
/-- a new release put in at its place -/
def insF (F : Int → Int) (pl n : Int) : Int → Int := fun d => if d < pl then F d else if d = pl then n else if d ≤ n then F (d - 1) else F d
theorem fl_ins {M M' : Nat → Int → Int} {p : Int} {F : Int → Int} (h : flOK M p F) (h2 : 0 ≤ M 2 p) (e2 : M' 2 p = M 2 p + 1)
    (hc : ∀ s r, 0 ≤ s → s < M 2 p → 0 ≤ r → r < M 2 p → cmpR M' p s r = cmpR M p s r)
    (V : Int → (Int → Int) × (Int → Int)) (hV : ∀ s r, 0 ≤ s → s < M' 2 p → 0 ≤ r → r < M' 2 p → cmpR M' p s r = cvF (V s).1 (V s).2 (V r).1 (V r).2 12 0)
    (hn : ∀ r, 0 ≤ r → r < M 2 p → ¬ cmpR M' p r (M 2 p) = 0) {pl : Int} (hpl : pl = cI (fun s => decide (0 < cmpR M' p s (M 2 p))) (M 2 p).toNat 0) : flOK M' p (insF F pl (M 2 p)) := by
  have hpi := cI_in (fun s => decide (0 < cmpR M' p s (M 2 p))) (M 2 p).toNat 0
  rw [← hpl] at hpi
  have hv := fun s r a b c d => hV s r a (show s < M' 2 p by omega) c (show r < M' 2 p by omega)
  -- old ones' counts
  have go : ∀ r, 0 ≤ r → r < M 2 p → gtr M p r = cI (fun s => decide (0 < cmpR M' p s r)) (M 2 p).toNat 0 := fun r a b => by
    unfold gtr; rw [gtF_c]; exact cI_c _ _ (fun j x y => by rw [hc j r x (by omega) a b])
  have gn : ∀ r, gtr M' p r = cI (fun s => decide (0 < cmpR M' p s r)) (M 2 p).toNat 0 + (if 0 < cmpR M' p (M 2 p) r then 1 else 0) := fun r => by
    unfold gtr; rw [gtF_c, e2, show (M 2 p + 1).toNat = (M 2 p).toNat + 1 by omega, cI_last, show (0 : Int) + ((M 2 p).toNat : Int) = M 2 p by omega]; simp
  have self : ∀ r, 0 ≤ r → r < M' 2 p → cmpR M' p r r = 0 := fun r a b => by rw [hV r r a b a b]; exact cvF_s _ _
  have neg : ∀ s r, 0 ≤ s → s < M' 2 p → 0 ≤ r → r < M' 2 p → cmpR M' p s r = - cmpR M' p r s := fun s r a b c d => by rw [hV s r a b c d, hV r s c d a b]; exact cvF_neg _ _
  have tr : ∀ s r q, 0 ≤ s → s < M' 2 p → 0 ≤ r → r < M' 2 p → 0 ≤ q → q < M' 2 p → 0 < cmpR M' p s r → 0 < cmpR M' p r q → 0 < cmpR M' p s q := fun s r q a b c d e f g i => by
    rw [hV s r a b c d] at g; rw [hV r q c d e f] at i; rw [hV s q a b e f]; exact cvF_tr _ _ g (Int.le_of_lt i)
  have gN : gtr M' p (M 2 p) = pl := by rw [gn, ← hpl, self _ h2 (by omega)]; simp
  -- who is greater than the new one stands before its place
  have up : ∀ r, 0 ≤ r → r < M 2 p → 0 < cmpR M' p r (M 2 p) → gtr M p r < pl ∧ gtr M' p r = gtr M p r := fun r a b c => by
    refine ⟨?_, ?_⟩
    · rw [go r a b, hpl]
      exact cI_lt (r := r) (by simp [self r a (by omega)]) (by simpa using c) _ _ a (by omega) (fun j x y z => by
        simp only [decide_eq_true_eq] at z ⊢
        exact tr j r _ x (by omega) a (by omega) h2 (by omega) z c)
    · rw [gn, ← go r a b, if_neg (by have := neg r (M 2 p) a (by omega) h2 (by omega); omega)]; omega
  have dn : ∀ r, 0 ≤ r → r < M 2 p → ¬ 0 < cmpR M' p r (M 2 p) → pl ≤ gtr M p r ∧ gtr M' p r = gtr M p r + 1 := fun r a b c => by
    have c2 : 0 < cmpR M' p (M 2 p) r := by have := hn r a b; have := neg r (M 2 p) a (by omega) h2 (by omega); omega
    refine ⟨?_, ?_⟩
    · rw [go r a b, hpl]
      exact cI_le _ _ (fun j x y z => by
        simp only [decide_eq_true_eq] at z ⊢
        exact tr j _ r x (by omega) h2 (by omega) a (by omega) z c2)
    · rw [gn, ← go r a b, if_pos c2]
  refine ⟨fun d d0 d1 => ?_, fun r r0 r1 => ?_, fun d d0 d1 => ?_⟩
  · unfold insF
    by_cases a : d < pl
    · obtain ⟨f0, f1, f2⟩ := h.1 d d0 (by omega)
      rw [if_pos a]
      by_cases c : 0 < cmpR M' p (F d) (M 2 p)
      · have := up (F d) f0 f1 c; omega
      · have := dn (F d) f0 f1 c; omega
    · rw [if_neg a]
      by_cases b : d = pl
      · rw [if_pos b, gN]; omega
      · obtain ⟨f0, f1, f2⟩ := h.1 (d - 1) (by omega) (by omega)
        rw [if_neg b, if_pos (by omega)]
        by_cases c : 0 < cmpR M' p (F (d - 1)) (M 2 p)
        · have := up _ f0 f1 c; omega
        · have := dn _ f0 f1 c; omega
  · by_cases e : r = M 2 p
    · rw [e, gN]
      refine ⟨by omega, by omega, ?_⟩
      unfold insF; rw [if_neg (by omega), if_pos rfl]
    · obtain ⟨f0, f1, f2⟩ := h.2.1 r r0 (by omega)
      by_cases c : 0 < cmpR M' p r (M 2 p)
      · have := up r r0 (by omega) c
        rw [this.2]
        refine ⟨by omega, by omega, ?_⟩
        unfold insF; rw [if_pos this.1]; exact f2
      · have := dn r r0 (by omega) c
        rw [this.2]
        refine ⟨by omega, by omega, ?_⟩
        unfold insF; rw [if_neg (by omega), if_neg (by omega), if_pos (by omega), show gtr M p r + 1 - 1 = gtr M p r by omega]; exact f2
  · unfold insF
    rw [if_neg (by omega), if_neg (by omega), if_neg (by omega)]; exact h.2.2 d (by omega) d1

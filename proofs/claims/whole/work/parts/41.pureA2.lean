/-! the same letters elsewhere -/
def shE (f g : Int → Int) (lo n : Int) : Prop := ∀ j, 0 ≤ j → j < n → g j = f (j + lo)
theorem skF_sh {f g : Int → Int} {lo : Int} : ∀ (m : Nat) (i : Int), (∀ j, i ≤ j → j < i + m → g j = f (j + lo)) → skF f m (i + lo) = skF g m i + lo
  | 0, _, _ => rfl
  | m + 1, i, h => by
    simp only [skF, ← h i (by omega) (by omega)]
    split
    · rfl
    · rw [show i + lo + 1 = i + 1 + lo by omega]; exact skF_sh m (i + 1) (fun j a b => h j (by omega) (by omega))
theorem ruF_sh {p : Int → Bool} {f g : Int → Int} {lo : Int} : ∀ (m : Nat) (i : Int), (∀ j, i ≤ j → j < i + m → g j = f (j + lo)) → ruF p f m (i + lo) = ruF p g m i + lo
  | 0, _, _ => rfl
  | m + 1, i, h => by
    simp only [ruF, ← h i (by omega) (by omega)]
    split
    · rw [show i + lo + 1 = i + 1 + lo by omega]; exact ruF_sh m (i + 1) (fun j a b => h j (by omega) (by omega))
    · rfl
theorem numF_sh {f g : Int → Int} {lo : Int} : ∀ (m : Nat) (i v : Int), (∀ j, i ≤ j → j < i + m → g j = f (j + lo)) → numF f m (i + lo) v = numF g m i v
  | 0, _, _, _ => rfl
  | m + 1, i, v, h => by
    simp only [numF, ← h i (by omega) (by omega)]
    rw [show i + lo + 1 = i + 1 + lo by omega]; exact numF_sh m (i + 1) _ (fun j a b => h j (by omega) (by omega))
theorem wdF_sh {f g : Int → Int} {lo : Int} : ∀ (m : Nat) (i v : Int), (∀ j, i ≤ j → j < i + m → g j = f (j + lo)) → wdF f m (i + lo) v = wdF g m i v
  | 0, _, _, _ => rfl
  | m + 1, i, v, h => by
    simp only [wdF, ← h i (by omega) (by omega)]
    rw [show i + lo + 1 = i + 1 + lo by omega]; exact wdF_sh m (i + 1) _ (fun j a b => h j (by omega) (by omega))
theorem dpF_sh {f g : Int → Int} {lo a e : Int} (h : ∀ j, a ≤ j → j < e → g j = f (j + lo)) : ∀ (m : Nat) (i v : Int), 0 ≤ i → dpF f (a + lo) (e + lo) m i v = dpF g a e m i v
  | 0, _, _, _ => rfl
  | m + 1, i, v, hi => by
    simp only [dpF]
    by_cases c : i < e - a
    · rw [if_pos c, if_pos (by omega), h (a + i) (by omega) (by omega), show a + i + lo = a + lo + i by omega]; exact dpF_sh h m (i + 1) _ (by omega)
    · rw [if_neg c, if_neg (by omega)]; exact dpF_sh h m (i + 1) _ (by omega)
theorem itS_sh {f g : Int → Int} {lo n p : Int} (h : shE f g lo n) (hp : 0 ≤ p) : itS f (p + lo) (n + lo) = itS g p n + lo := by
  unfold itS
  rw [show n + lo - (p + lo) = n - p by omega]
  exact skF_sh _ p (fun j a b => h j (by omega) (by omega))
theorem itE_sh {f g : Int → Int} {lo n p : Int} (h : shE f g lo n) (hp : 0 ≤ p ∧ p ≤ n) : itE f (p + lo) (n + lo) = itE g p n + lo := by
  have hs := itS_i (f := g) hp.2
  unfold itE
  rw [itS_sh h hp.1, show n + lo - (itS g p n + lo) = n - itS g p n by omega]
  by_cases c : itS g p n < n
  · have : itP f (itS g p n + lo) = itP g (itS g p n) := by unfold itP; rw [h _ (by omega) c]
    rw [this]; exact ruF_sh _ _ (fun j a b => h j (by omega) (by omega))
  · rw [show (n - itS g p n).toNat = 0 by omega]; rfl
theorem rkL_sh {f g : Int → Int} {lo n : Int} (h : shE f g lo n) (hn : 0 ≤ n) : ∀ k : Nat, rkL f lo (n + lo) k = rkL g 0 n k + lo
  | 0 => by simp [rkL]
  | k + 1 => by
    have ib := rkL_in (f := g) hn k
    simp only [rkL, rkL_sh h hn k, itS_sh h ib.1, itE_sh h ib]
    by_cases c : itS g (rkL g 0 n k) n < n
    · rw [if_pos c, if_pos (by omega)]
    · rw [if_neg c, if_neg (by omega)]
theorem rkC_sh {f g : Int → Int} {lo n a e : Int} (h : shE f g lo n) (ha : 0 ≤ a) (he : a < e ∧ e ≤ n) : rkC f (a + lo) (e + lo) (n + lo) = rkC g a e n := by
  have hd : (decide (e + lo < n + lo) && isD (f (e + lo))) = (decide (e < n) && isD (g e)) := by
    by_cases c : e < n
    · rw [h e (by omega) c]; simp [c]
    · simp [c]
  have hw : wrd f (a + lo) (e + lo) = wrd g a e := by
    unfold wrd; rw [show e + lo - (a + lo) = e - a by omega, wdF_sh _ a 0 (fun j x y => h j (by omega) (by omega))]
  unfold rkC
  rw [hd, hw, ← h a ha (by omega), show e + lo - (a + lo) = e - a by omega, numF_sh _ a 0 (fun j x y => h j (by omega) (by omega))]
theorem plC_sh {f g : Int → Int} {lo n a e : Int} (h : shE f g lo n) (ha : 0 ≤ a) (he : a < e ∧ e ≤ n) : plC f (a + lo) (e + lo) (n + lo) = plC g a e n := by
  unfold plC
  rw [rkC_sh h ha he, ← h a ha (by omega), show e + lo - (a + lo) = e - a by omega, numF_sh _ a 0 (fun j x y => h j (by omega) (by omega)), dic, dpF_sh (fun j x y => h j (by omega) (by omega)) 12 0 0 (by decide)]; rfl
theorem vR_sh {f g : Int → Int} {lo n : Int} (h : shE f g lo n) (hn : 0 ≤ n) (k : Int) : vR f lo (n + lo) k = vR g 0 n k ∧ vP f lo (n + lo) k = vP g 0 n k := by
  have ib := rkL_in (f := g) hn k.toNat
  unfold vR vP
  rw [rkL_sh h hn, itS_sh h ib.1, itE_sh h ib]
  by_cases c : itS g (rkL g 0 n k.toNat) n < n
  · have e := itE_i ib.2 c; have s := itS_i (f := g) ib.2
    rw [if_pos c, if_pos (by omega), if_pos c, if_pos (by omega), rkC_sh h (by omega) e, plC_sh h (by omega) e]; exact ⟨rfl, rfl⟩
  · rw [if_neg c, if_neg (by omega), if_neg c, if_neg (by omega)]; exact ⟨rfl, rfl⟩
theorem ver_sh {f g : Int → Int} {lo n : Int} (h : shE f g lo n) : ver f lo (n + lo) = ver g 0 n := by
  unfold ver
  rw [show n + lo - lo = n by omega, show n - 0 = n by omega, verF_congr (g := g) n.toNat lo 0 0 true (fun k hk => by rw [h (0 + k) (by omega) (by omega), show 0 + (k : Int) + lo = lo + k by omega])]
theorem cvF_c {R P R' P' S Q S' Q' : Int → Int} : ∀ (n : Nat) (i : Int), (∀ j, i ≤ j → j < i + n → R j = S j ∧ P j = Q j ∧ R' j = S' j ∧ P' j = Q' j) → cvF R P R' P' n i = cvF S Q S' Q' n i
  | 0, _, _ => rfl
  | n + 1, i, h => by
    obtain ⟨a, b, c, d⟩ := h i (by omega) (by omega)
    simp only [cvF, a, b, c, d, cvF_c n (i + 1) (fun j x y => h j (by omega) (by omega))]
/-! what a version's letters are -/
theorem verF_ch {f : Int → Int} : ∀ (n : Nat) (i run : Int) (gap : Bool), verF f n i run gap = true → ∀ j, i ≤ j → j < i + n → (isS (f j) || (isD (f j) || isL (f j))) = true
  | 0, i, _, _, _, j, a, b => by omega
  | n + 1, i, run, gap, h, j, a, b => by
    rw [verF] at h
    by_cases c : ((!isS (f i) && !isD (f i) && !isL (f i)) || (isS (f i) && gap)) = true
    · rw [if_pos c] at h; exact absurd h (by decide)
    · rw [if_neg c] at h
      by_cases c9 : 9 < (if isD (f i) = true then run + 1 else 0)
      · rw [if_pos c9] at h; exact absurd h (by decide)
      · rw [if_neg c9] at h
        by_cases e : j = i
        · rw [e]; revert c; cases isS (f i) <;> cases isD (f i) <;> cases isL (f i) <;> simp
        · exact verF_ch n (i + 1) _ _ h j (by omega) (by omega)
theorem ver_ch {f : Int → Int} {lo hi : Int} (h : ver f lo hi = true) : (1 ≤ hi - lo ∧ hi - lo ≤ 12) ∧ ∀ j, lo ≤ j → j < hi → (isS (f j) || (isD (f j) || isL (f j))) = true := by
  unfold ver at h
  rw [Bool.and_eq_true] at h
  have := mIn_t.1 h.1
  exact ⟨this, fun j a b => verF_ch _ _ _ _ h.2 j a (by omega)⟩
/-! how the class finds the items -/
def vch (f : Int → Int) (n : Int) : Prop := ∀ j, 0 ≤ j → j < n → (isS (f j) || (isD (f j) || isL (f j))) = true
theorem nsF_hit {f : Int → Int} {m : Nat} {i : Int} (h : stI f i = true) : nsF f m i = i := by cases m <;> simp [nsF, h]
theorem nsF_go {f : Int → Int} {m : Nat} {i : Int} (hm : 0 < m) (h : stI f i = false) : nsF f m i = nsF f (m - 1) (i + 1) := by
  cases m with
  | zero => omega
  | succ m => simp [nsF, h]
/-- from a place whose letter before is of another kind, the next item is the next letter or digit -/
theorem nsF_sk {f : Int → Int} : ∀ (m : Nat) (i : Int), 0 ≤ i → (i = 0 ∨ isO (f (i - 1)) (f i) = false ∨ m = 0) → (∀ j, i ≤ j → j < i + m → (isS (f j) || (isD (f j) || isL (f j))) = true) → nsF f m i = skF f m i
  | 0, _, _, _, _ => rfl
  | m + 1, i, hi, h0, hc => by
    have hci := hc i (by omega) (by omega)
    simp only [nsF, skF]
    by_cases c : (isD (f i) || isL (f i)) = true
    · rw [if_pos c, if_pos]
      unfold stI
      rw [isS_n c]
      rcases h0 with e | e | e
      · simp [e]
      · simp [e]
      · omega
    · have hs : isS (f i) = true := by simpa [c] using hci
      rw [if_neg c, if_neg (by simp [stI, hs])]
      refine nsF_sk m (i + 1) (by omega) ?_ (fun j a b => hc j (by omega) (by omega))
      right; left
      have c1 : isD (f i) = false := by cases h : isD (f i) <;> simp_all
      have c2 : isL (f i) = false := by cases h : isL (f i) <;> simp_all
      rw [show i + 1 - 1 = i by omega]; simp [isO, c1, c2]
/-- inside an item no item begins -/
theorem nsF_in {f : Int → Int} {n : Int} : ∀ (m : Nat) (i e : Int), 0 < i → e = i + m → e ≤ n → (∀ j, i ≤ j → j < e → isO (f (j - 1)) (f j) = true) → nsF f (n - i).toNat i = nsF f (n - e).toNat e
  | 0, i, e, _, h, _, _ => by rw [h]; simp
  | m + 1, i, e, hi, h, hn, ho => by
    rw [nsF_go (by omega) (by have := ho i (by omega) (by omega); simp [stI, this]; intro; omega), show (n - i).toNat - 1 = (n - (i + 1)).toNat by omega]
    exact nsF_in m (i + 1) e (by omega) (by omega) hn (fun j a b => ho j (by omega) b)
theorem ruF_stop {p : Int → Bool} {f : Int → Int} : ∀ (m : Nat) (i : Int), ruF p f m i < i + m → p (f (ruF p f m i)) = false
  | 0, i, h => by simp only [ruF] at h; omega
  | m + 1, i, h => by
    simp only [ruF] at h ⊢
    split at h
    · rename_i c; rw [if_pos c]; exact ruF_stop m (i + 1) (by omega)
    · rename_i c; rw [if_neg c]; simpa using c
theorem isO_e {f : Int → Int} {a : Int} (h : (isD (f a) || isL (f a)) = true) {x : Int} : isO (f a) x = itP f a x := by
  have l := isDL h
  unfold isO itP
  cases d : isD (f a) <;> simp [d] at l ⊢ <;> simp [l]
theorem isO_k {f : Int → Int} {a x y : Int} (h : (isD (f a) || isL (f a)) = true) (hx : itP f a x = true) : isO x y = itP f a y := by
  have l := isDL h
  unfold itP at hx ⊢
  cases d : isD (f a)
  · simp [d] at hx ⊢
    have : isD x = false := by have := isL_in hx; simp [isD, mIn]; omega
    simp [isO, hx, this]
  · simp [d] at hx ⊢
    have : isL x = false := by have := isD_in hx; simp [isL, mIn]; omega
    simp [isO, hx, this]
theorem ns_next {f : Int → Int} {n p : Int} (hc : vch f n) (hp : 0 ≤ p ∧ p ≤ n) (h : itS f p n < n) : nsF f (n - (itS f p n + 1)).toNat (itS f p n + 1) = itS f (itE f p n) n := by
  have hs := itS_i (f := f) hp.2; have he := itE_i hp.2 h; have hd := itS_dl hp.2 h
  rw [nsF_in (n := n) (itE f p n - (itS f p n + 1)).toNat (itS f p n + 1) (itE f p n) (by omega) (by omega) he.2 (fun j a b => by
    rw [isO_k hd (itE_all (f := f) (p := p) (hi := n) (show itS f p n ≤ j - 1 by omega) (by omega))]; exact itE_all (by omega) b)]
  unfold itS
  refine nsF_sk _ _ (by omega) ?_ (fun j a b => hc j (by omega) (by omega))
  by_cases e : itE f p n < n
  · right; left
    have := ruF_stop (p := itP f (itS f p n)) (f := f) (n - itS f p n).toNat (itS f p n) (by have : itE f p n < n := e; unfold itE at this; omega)
    rw [isO_k hd (itE_all (f := f) (p := p) (hi := n) (show itS f p n ≤ itE f p n - 1 by omega) (by omega))]; exact this
  · right; right; omega
theorem ns_first {f : Int → Int} {n : Int} (hc : vch f n) (hn : 0 ≤ n) : nsF f n.toNat 0 = itS f (rkL f 0 n 0) n := by
  unfold itS rkL
  rw [show n - 0 = n by omega]
  exact nsF_sk _ 0 (by omega) (Or.inl rfl) (fun j a b => hc j a (by omega))
theorem stI_dl {f : Int → Int} {n i : Int} (hc : vch f n) (hi : 0 ≤ i ∧ i < n) (h : stI f i = true) : (isD (f i) || isL (f i)) = true := by
  have := hc i hi.1 hi.2
  unfold stI at h
  revert h this
  cases isS (f i) <;> simp
/-- the end of the item that begins at a, as the class looks for it -/
theorem itE_a {f : Int → Int} {n p a : Int} (hp : p ≤ n) (ha : itS f p n = a) (h : a < n) : itE f p n = ruF (itP f a) f (n - (a + 1)).toNat (a + 1) := by
  have hd := itS_dl (f := f) hp (by omega)
  have hq : itP f a (f a) = true := by
    rw [← ha]; unfold itP; split
    · assumption
    · rename_i c; simpa [c] using hd
  unfold itE
  rw [ha, ruF_go (by omega) hq, show (n - a).toNat - 1 = (n - (a + 1)).toNat by omega]

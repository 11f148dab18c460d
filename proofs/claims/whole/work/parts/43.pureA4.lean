/-! what readItem writes -/
theorem shE_sub (f : Int → Int) (a m : Int) : shE f (fun j => f (a + j)) a m := fun j _ _ => by show f (a + j) = f (j + a); rw [Int.add_comm]
theorem rW_rkC {f : Int → Int} {p n a e : Int} {m : Nat} (hp : p ≤ n) (ha : itS f p n = a) (he : itE f p n = e) (hm : (m : Int) = e - a) (h : a < n) (hL : isL (f a) = true) : rW (fun j => f (a + j)) m (decide (e < n) && isD (f e)) = rkC f a e n := by
  have ie := itE_i (f := f) hp (by omega)
  have il := isDL (itS_dl (f := f) hp (by omega))
  rw [ha, hL] at il
  rw [rW_e (fun j x y => by
    have := itE_all (f := f) (p := p) (hi := n) (j := a + j) (by omega) (by omega)
    rwa [ha, itP_l (by simpa using il.symm)] at this) (by omega)]
  rw [rkC, if_pos hL]
  have hw : wrd f a e = wrd (fun j => f (a + j)) 0 m := by
    unfold wrd
    rw [show (m : Int) - 0 = e - a by omega]
    split
    · rfl
    · have := wdF_sh (f := f) (g := fun j => f (a + j)) (lo := a) (e - a).toNat 0 0 (fun j _ _ => shE_sub f a (j + 1) j (by omega) (by omega))
      rwa [show (0 : Int) + a = a by omega] at this
  rw [hw, show (m : Int) - 0 = e - a by omega]
theorem num_sub (f : Int → Int) (a : Int) (m : Nat) : numF (fun j => f (a + j)) m 0 0 = numF f m a 0 := by
  have := numF_sh (f := f) (g := fun j => f (a + j)) (lo := a) m 0 0 (fun j _ _ => shE_sub f a (j + 1) j (by omega) (by omega))
  rw [← this, show (0 : Int) + a = a by omega]
theorem dic_sub (f : Int → Int) {a e : Int} {m : Nat} (hm : (m : Int) = e - a) : dic (fun j => f (a + j)) 0 m = dic f a e := by
  have := dpF_sh (f := f) (g := fun j => f (a + j)) (lo := a) (a := 0) (e := m) (fun j p q => shE_sub f a m j p q) 12 0 0 (by decide)
  unfold dic
  rw [← this, show (0 : Int) + a = a by omega, show (m : Int) + a = e by omega]
theorem isL_f {f : Int → Int} {n i : Int} (hc : vch f n) (hi : 0 ≤ i ∧ i < n) (h : stI f i = true) : isL (f i) = !isD (f i) := isDL (stI_dl hc hi h)
/-! the item loop: item k begins where the class finds the next start -/
theorem loop_hit {f : Int → Int} {n i : Int} {k : Nat} (hc : vch f n) (hn : 0 ≤ n) (hi : 0 ≤ i ∧ i < n) (hv : nsF f (n - i).toNat i = itS f (rkL f 0 n k) n) (h : stI f i = true) : itS f (rkL f 0 n k) n = i ∧ nsF f (n - (i + 1)).toNat (i + 1) = itS f (rkL f 0 n (k + 1)) n := by
  rw [nsF_hit h] at hv
  have ib := rkL_in (f := f) hn k
  refine ⟨hv.symm, ?_⟩
  have hlt : itS f (rkL f 0 n k) n < n := by omega
  have := ns_next hc ⟨ib.1, ib.2⟩ hlt
  rw [rkL, if_pos hlt, ← this, ← hv]
theorem loop_go {f : Int → Int} {n i : Int} {k : Nat} (hi : 0 ≤ i ∧ i < n) (hv : nsF f (n - i).toNat i = itS f (rkL f 0 n k) n) (h : stI f i = false) : nsF f (n - (i + 1)).toNat (i + 1) = itS f (rkL f 0 n k) n := by
  rw [← hv, nsF_go (by omega) h, show (n - i).toNat - 1 = (n - (i + 1)).toNat by omega]
theorem loop_end {f : Int → Int} {n : Int} {k : Nat} (hv : nsF f (n - n).toNat n = itS f (rkL f 0 n k) n) (j : Int) (hj : (k : Int) ≤ j) : vR f 0 n j = 6 ∧ vP f 0 n j = 0 := by
  refine vR_none (k := k) ?_ j hj
  rw [← hv, show (n - n).toNat = 0 by omega, nsF]; omega
theorem vR_hit {f : Int → Int} {n i : Int} {k : Nat} (hs : itS f (rkL f 0 n k) n = i) (hi : i < n) : vR f 0 n k = rkC f i (itE f (rkL f 0 n k) n) n ∧ vP f 0 n k = plC f i (itE f (rkL f 0 n k) n) n := by
  unfold vR vP
  rw [show ((k : Int).toNat) = k by omega, hs, if_pos hi, if_pos hi]; exact ⟨rfl, rfl⟩
/-- the loop's two tables -/
def tbR (f : Int → Int) (n : Int) (k : Nat) : Int → Int := fun j => if j < k then vR f 0 n j else 6
def tbP (f : Int → Int) (n : Int) (k : Nat) : Int → Int := fun j => if j < k then vP f 0 n j else 0
theorem tb_s {f : Int → Int} {n : Int} {k : Nat} {R P : Int → Int} (hR : ∀ j, 0 ≤ j → j < 12 → R j = tbR f n k j) (hP : ∀ j, 0 ≤ j → j < 12 → P j = tbP f n k j) : (∀ j, 0 ≤ j → j < 12 → rz_u R k (vR f 0 n k) j = tbR f n (k + 1) j) ∧ (∀ j, 0 ≤ j → j < 12 → rz_u P k (vP f 0 n k) j = tbP f n (k + 1) j) := by
  refine ⟨fun j a b => ?_, fun j a b => ?_⟩
  · by_cases e : j = k
    · rw [e, rz_u_s, tbR, if_pos (by omega)]
    · rw [rz_u_n e, hR j a b, tbR, tbR]
      by_cases c : j < k
      · rw [if_pos c, if_pos (by omega)]
      · rw [if_neg c, if_neg (by omega)]
  · by_cases e : j = k
    · rw [e, rz_u_s, tbP, if_pos (by omega)]
    · rw [rz_u_n e, hP j a b, tbP, tbP]
      by_cases c : j < k
      · rw [if_pos c, if_pos (by omega)]
      · rw [if_neg c, if_neg (by omega)]
theorem tb_end {f : Int → Int} {n : Int} {k : Nat} (hv : nsF f (n - n).toNat n = itS f (rkL f 0 n k) n) (j : Int) : tbR f n k j = vR f 0 n j ∧ tbP f n k j = vP f 0 n j := by
  unfold tbR tbP
  by_cases c : j < k
  · rw [if_pos c, if_pos c]; exact ⟨rfl, rfl⟩
  · have := loop_end hv j (by omega)
    rw [if_neg c, if_neg c, this.1, this.2]; exact ⟨rfl, rfl⟩
/-! ranges -/
def rLo (f : Int → Int) (n : Int) : Option (Int × Int) := if ver f 0 n = true then some (0, n) else if cma f n < 0 then some (1, n - 1) else if cma f n = 1 then none else some (1, cma f n)
def rHi (f : Int → Int) (n : Int) : Option (Int × Int) := if ver f 0 n = true then none else if cma f n < 0 then some (1, n - 1) else if cma f n = n - 2 then none else some (cma f n + 1, n - 1)
def rWl (f : Int → Int) (n : Int) : Bool := if ver f 0 n = true then true else decide (f 0 = 91)
def rWu (f : Int → Int) (n : Int) : Bool := if ver f 0 n = true then true else decide (f (n - 1) = 93)
/-- a version against a bound -/
def cvB (R P : Int → Int) (f : Int → Int) (b : Int × Int) : Int := cvF R P (vR f b.1 b.2) (vP f b.1 b.2) 12 0
def hoL (R P : Int → Int) (f : Int → Int) (n : Int) : Bool := match rLo f n with
  | none => true
  | some b => decide ((if rWl f n = true then 0 else 1) ≤ cvB R P f b)
def hoU (R P : Int → Int) (f : Int → Int) (n : Int) : Bool := match rHi f n with
  | none => true
  | some b => decide (cvB R P f b ≤ (if rWu f n = true then 0 else -1))
def hoR (R P : Int → Int) (f : Int → Int) (n : Int) : Bool := hoL R P f n && hoU R P f n
theorem cma_c (f : Int → Int) : ∀ (m : Nat) (i : Int), cmF f m i = -1 ∨ f (cmF f m i) = 44
  | 0, _ => Or.inl rfl
  | m + 1, i => by
    simp only [cmF]
    split
    · right; assumption
    · exact cma_c f m (i + 1)
theorem ver_1 {f : Int → Int} {n : Int} (h : ver f 0 n = true) : ¬ (f 0 = 91 ∨ f 0 = 40) := fun q => by
  have := ver_ch h
  have h1 := this.2 0 (by omega) (by omega)
  rcases q with q | q <;> rw [q] at h1 <;> exact absurd h1 (by decide)
theorem hoR_in {v : Int → Int} {nv : Int} {f : Int → Int} {n : Int} (hv : ver v 0 nv = true) (dv : isD (v nv) = false) (hr : rng f n = true) (df : isD (f n) = false) : hoR (vR v 0 nv) (vP v 0 nv) f n = inR v nv f n := by
  have hvn := (ver_ch hv).1
  have key : ∀ lo hi : Int, ver f lo hi = true → isD (f hi) = false → cvB (vR v 0 nv) (vP v 0 nv) f (lo, hi) = ord v f nv lo hi := fun lo hi a b => by
    have := (ver_ch a).1
    exact (ord_cv (by omega) (by omega) dv b).symm
  by_cases c : ver f 0 n = true
  · have L : rLo f n = some (0, n) := by rw [rLo, if_pos c]
    have H : rHi f n = none := by rw [rHi, if_pos c]
    have w : rWl f n = true := by rw [rWl, if_pos c]
    rw [inR, if_pos (ver_1 c)]
    simp only [hoR, hoL, hoU, L, H, w, key 0 n c df, if_true, Bool.and_true]
  · rw [rng, if_neg c] at hr
    by_cases c1 : n < 3 ∨ ¬ (f 0 = 91 ∨ f 0 = 40) ∨ ¬ (f (n - 1) = 93 ∨ f (n - 1) = 41)
    · rw [if_pos c1] at hr; exact absurd hr (by decide)
    · rw [if_neg c1] at hr
      have g0 : f 0 = 91 ∨ f 0 = 40 := by
        by_cases q : f 0 = 91 ∨ f 0 = 40
        · exact q
        · exact absurd (Or.inr (Or.inl q)) c1
      have g1 : f (n - 1) = 93 ∨ f (n - 1) = 41 := by
        by_cases q : f (n - 1) = 93 ∨ f (n - 1) = 41
        · exact q
        · exact absurd (Or.inr (Or.inr q)) c1
      have d1 : isD (f (n - 1)) = false := by rcases g1 with q | q <;> rw [q] <;> decide
      have w : rWl f n = decide (f 0 = 91) := by rw [rWl, if_neg c]
      have u : rWu f n = decide (f (n - 1) = 93) := by rw [rWu, if_neg c]
      rw [inR, if_neg (fun q => q g0)]
      by_cases c2 : cma f n < 0
      · rw [if_pos c2] at hr
        simp only [Bool.and_eq_true, decide_eq_true_eq] at hr
        have L : rLo f n = some (1, n - 1) := by rw [rLo, if_neg c, if_pos c2]
        have H : rHi f n = some (1, n - 1) := by rw [rHi, if_neg c, if_pos c2]
        rw [if_pos c2]
        simp only [hoR, hoL, hoU, L, H, w, u, key 1 (n - 1) hr.2 d1, hr.1.1, hr.1.2, decide_true, if_true]
        rw [← Bool.decide_and]; congr 1; simp; omega
      · rw [if_neg c2] at hr
        simp only [Bool.and_eq_true, Bool.or_eq_true, decide_eq_true_eq] at hr
        have hcm : f (cma f n) = 44 := by
          rcases cma_c f n.toNat 0 with q | q
          · unfold cma at c2; omega
          · exact q
        have dc : isD (f (cma f n)) = false := by rw [hcm]; decide
        rw [if_neg c2, hoR]
        congr 1
        · by_cases z : cma f n = 1
          · have L : rLo f n = none := by rw [rLo, if_neg c, if_neg c2, if_pos z]
            simp only [hoL, L, if_pos z]; rcases g0 with q | q <;> simp [q]
          · have L : rLo f n = some (1, cma f n) := by rw [rLo, if_neg c, if_neg c2, if_neg z]
            have k := key 1 (cma f n) (hr.1.resolve_left z) dc
            simp only [hoL, L, if_neg z, k, w]
            rcases g0 with q | q <;> simp [q]
        · by_cases z : cma f n = n - 2
          · have H : rHi f n = none := by rw [rHi, if_neg c, if_neg c2, if_pos z]
            simp only [hoU, H, if_pos z]; rcases g1 with q | q <;> simp [q]
          · have H : rHi f n = some (cma f n + 1, n - 1) := by rw [rHi, if_neg c, if_neg c2, if_neg z]
            have k := key (cma f n + 1) (n - 1) (hr.2.resolve_left z) d1
            simp only [hoU, H, if_neg z, k, u]
            rcases g1 with q | q <;> simp [q]

/-! asks and usable options while they are gathered -/
def aqT (M : Nat → Int → Int) (a q : Nat) : Bool := ex a (fun b => decide ((b : Int) < M 8 0) && decide (¬ M 10 b = 0) && decide (M 9 b = q))
def akT (M : Nat → Int → Int) (a p x : Nat) : Bool := al a (fun b => !(decide ((b : Int) < M 8 0) && decide (¬ M 10 b = 0) && decide (M 9 b = p)) || (decide (x < 4) && vIn M p x (2 + b)))
theorem ex_s' (n : Nat) (Q : Nat → Bool) : ex (n + 1) Q = (ex n Q || Q n) := by simp [ex, List.range_succ]
theorem al_s' (n : Nat) (Q : Nat → Bool) : al (n + 1) Q = (al n Q && Q n) := by simp [al, List.range_succ]
theorem aqT_far {M : Nat → Int → Int} : ∀ (d a : Nat), M 8 0 ≤ a → ∀ q, aqT M (a + d) q = aqT M a q
  | 0, _, _, _ => rfl
  | d + 1, a, h, q => by
    have ih := aqT_far (M := M) d a h q
    rw [aqT, show a + (d + 1) = (a + d) + 1 by omega, ex_s', decide_eq_false (show ¬ (((a + d : Nat) : Int) < M 8 0) by omega)]
    simp only [Bool.false_and, Bool.or_false]; exact ih
theorem akT_far {M : Nat → Int → Int} : ∀ (d a : Nat), M 8 0 ≤ a → ∀ p x, akT M (a + d) p x = akT M a p x
  | 0, _, _, _, _ => rfl
  | d + 1, a, h, p, x => by
    have ih := akT_far (M := M) d a h p x
    rw [akT, show a + (d + 1) = (a + d) + 1 by omega, al_s', decide_eq_false (show ¬ (((a + d : Nat) : Int) < M 8 0) by omega)]
    simp only [Bool.false_and, Bool.not_false, Bool.true_or, Bool.and_true]; exact ih
theorem aqT_4 {M : Nat → Int → Int} {a : Nat} (h : M 8 0 ≤ a) (h4 : a ≤ 4) (q : Nat) : aqT M a q = aqM M q := by
  have := aqT_far (M := M) (4 - a) a h q
  rw [← this, show a + (4 - a) = 4 by omega]; rfl
theorem akT_4 {M : Nat → Int → Int} {a : Nat} (h : M 8 0 ≤ a) (h4 : a ≤ 4) (p x : Nat) : akT M a p x = akM M p x := by
  have := akT_far (M := M) (4 - a) a h p x
  rw [← this, show a + (4 - a) = 4 by omega]; rfl
/-- an ask that doesn't count -/
theorem aqT_n {M : Nat → Int → Int} {a : Nat} (h : M 10 a = 0) (q : Nat) : aqT M (a + 1) q = aqT M a q := by
  rw [aqT, ex_s', decide_eq_false (show ¬ ¬ M 10 a = 0 from fun z => z h)]
  simp only [Bool.and_false, Bool.false_and, Bool.or_false]; rfl
theorem akT_n {M : Nat → Int → Int} {a : Nat} (h : M 10 a = 0) (p x : Nat) : akT M (a + 1) p x = akT M a p x := by
  rw [akT, al_s', decide_eq_false (show ¬ ¬ M 10 a = 0 from fun z => z h)]
  simp only [Bool.and_false, Bool.false_and, Bool.not_false, Bool.true_or, Bool.and_true]; rfl
/-- one that counts -/
theorem aqT_y {M : Nat → Int → Int} {a : Nat} (h8 : (a : Int) < M 8 0) (h : ¬ M 10 a = 0) (h9 : 0 ≤ M 9 a) (q : Nat) : aqT M (a + 1) q = (aqT M a q || decide (q = (M 9 a).toNat)) := by
  rw [aqT, ex_s', decide_eq_true h8, decide_eq_true h]
  simp only [Bool.true_and]
  congr 1; congr 1; exact propext ⟨fun z => by omega, fun z => by omega⟩
theorem akT_y {M : Nat → Int → Int} {a : Nat} (h8 : (a : Int) < M 8 0) (h : ¬ M 10 a = 0) (h9 : 0 ≤ M 9 a) (p x : Nat) : akT M (a + 1) p x = (akT M a p x && (decide (p ≠ (M 9 a).toNat) || (decide (x < 4) && vIn M p x (2 + a)))) := by
  rw [akT, al_s', decide_eq_true h8, decide_eq_true h]
  simp only [Bool.true_and]
  congr 1; congr 1
  by_cases c : M 9 a = p
  · rw [decide_eq_true c, decide_eq_false (show ¬ p ≠ (M 9 a).toNat by omega)]; rfl
  · rw [decide_eq_false c, decide_eq_true (show p ≠ (M 9 a).toNat by omega)]; rfl
/-- usable options before i -/
def usT (M : Nat → Int → Int) (i p x : Nat) : Bool := decide (x = 4) || (decide (x < i) && usM M p x)
theorem usT_0 (M : Nat → Int → Int) (p x : Nat) : usT M 0 p x = decide (x = 4) := by unfold usT; simp
theorem usT_all {M : Nat → Int → Int} {i p x : Nat} (h : M 2 p ≤ i) : usT M i p x = usM M p x := by
  unfold usT
  by_cases c : x = 4
  · simp [c, usM]
  · rw [decide_eq_false c, Bool.false_or]
    by_cases d : x < i
    · rw [decide_eq_true d, Bool.true_and]
    · rw [decide_eq_false d, Bool.false_and]
      unfold usM
      rw [decide_eq_false c, decide_eq_false (show ¬ (x : Int) < M 2 p by omega)]; rfl
theorem usT_s {M : Nat → Int → Int} {i p : Nat} (hi : i < 4) (x : Nat) : usT M (i + 1) p x = (usT M i p x || (decide (x = i) && usM M p i)) := by
  unfold usT
  by_cases c : x = 4
  · simp [c]
  · rw [decide_eq_false c, Bool.false_or, Bool.false_or]
    by_cases d : x = i
    · rw [d]; simp
    · rw [decide_eq_false d, Bool.false_and, Bool.or_false]
      by_cases e : x < i
      · rw [decide_eq_true e, decide_eq_true (show x < i + 1 by omega)]
      · rw [decide_eq_false e, decide_eq_false (show ¬ x < i + 1 by omega)]
theorem usM_i {M : Nat → Int → Int} {p i : Nat} (hi : i < 4) (h : (i : Int) < M 2 p) : usM M p i = (decide (M 3 (4 * p + i) = 0) && hstM M (4 * p + i) && bsM M p i p i) := by
  unfold usM
  rw [decide_eq_false (show ¬ i = 4 by omega), decide_eq_true h, Bool.false_or, Bool.true_and]
/-- versions in a range, by the class and by the reference -/
theorem vIn_ho {M : Nat → Int → Int} (hv : vOK M) {p : Int} (hp : 0 ≤ p ∧ p < 6) {x : Nat} {t : Int} (hr : rng (mAt M t) (M 1 t) = true) : (decide ((x : Int) < M 2 p) && hoR (vRt M (6 + (4 * p + x))) (vPt M (6 + (4 * p + x))) (mAt M t) (M 1 t)) = vIn M p x t := by
  unfold vIn
  by_cases c : (x : Int) < M 2 p
  · rw [decide_eq_true c, Bool.true_and, Bool.true_and]
    have := hv p x hp.1 hp.2 (by omega) c
    rw [show 6 + 4 * p + (x : Int) = 6 + (4 * p + x) by omega] at this
    exact hoR_in this (mAt_end M _) hr (mAt_end M _)
  · rw [decide_eq_false c, Bool.false_and, Bool.false_and]
theorem hst_ho {M : Nat → Int → Int} (hv : mVal M) {k : Int} (hk : 0 ≤ k ∧ k < 24) : (decide (M 4 k = 0) || hoR (vRt M 1) (vPt M 1) (mAt M (30 + k)) (M 1 (30 + k))) = hstM M k := by
  unfold hstM
  by_cases c : M 4 k = 0
  · rw [decide_eq_true c]; rfl
  · rw [decide_eq_false c, Bool.false_or, Bool.false_or]
    exact hoR_in hv.2.1 (mAt_end M _) (hv.2.2.1 k hk.1 hk.2 c) (mAt_end M _)
theorem fitM_e {M : Nat → Int → Int} (hv : mVal M) {k : Int} {p : Int} (hp : 0 ≤ p ∧ p < 6) (h6 : M 6 k = p) (h2 : M 2 p ≤ 4) (hr : rng (mAt M (54 + k)) (M 1 (54 + k)) = true) {x : Nat} (hx : x < 5) : fitM M k x = ((decide ((x : Int) < M 2 p) && hoR (vRt M (6 + (4 * p + x))) (vPt M (6 + (4 * p + x))) (mAt M (54 + k)) (M 1 (54 + k))) || (decide (x = 4) && decide (¬ M 7 k = 0))) := by
  rw [vIn_ho hv.1 hp hr]
  unfold fitM
  by_cases c : x = 4
  · rw [if_pos c, decide_eq_true c, Bool.true_and, vIn, decide_eq_false (show ¬ (x : Int) < M 2 p by omega), Bool.false_and, Bool.false_or]
  · rw [if_neg c, decide_eq_false c, Bool.false_and, Bool.or_false, h6]

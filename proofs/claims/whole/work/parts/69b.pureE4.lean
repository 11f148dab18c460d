theorem opt_ok {M : Nat → Int → Int} (hw : mWF M) (hg : gtOK M) {n : Int} (h : okS M n = true) {p : Nat} (hp : p < 6) : (oM M n p = 4 ∧ sel M n p = -1) ∨ (oM M n p < 4 ∧ sel M n p = oM M n p) := by
  have w := (M_big hw).1 p (by omega) (by omega)
  unfold okS at h
  rw [Bool.and_eq_true] at h
  have s := (frF_t 6 (by omega)).1 h.1 p (by omega) (by omega)
  have di := dgt_in n p
  rw [sel_e] at s ⊢
  unfold oM
  by_cases c : dgt n p = 4
  · rw [if_pos c, if_pos c]; exact Or.inl ⟨rfl, rfl⟩
  · rw [if_neg c] at s
    rw [if_neg c, if_neg c]
    have s := s (by omega)
    have l := rkd_lt (M := M) (p := p) (d := dgt n p) w.1
    unfold flM
    by_cases e : dgt n p < M 2 p
    · rw [if_pos e]; right; omega
    · have := rkd_far hg (p := p) (d := dgt n p) (by omega) (by omega); omega
theorem rkOK_m {M : Nat → Int → Int} (h : rkOK M) (g : Int → Int) : rkOK (mu M 10 g) := fun p d a b c e => by
  rw [rkd_K (M := M) (fun k hk => mu_n (by omega))]; exact h p d a b c e
theorem gtOK_m {M : Nat → Int → Int} (h : gtOK M) (g : Int → Int) : gtOK (mu M 10 g) := fun p r a b c e => by
  rw [gtr_K (M := M) (fun k hk => mu_n (by omega))]; exact h p r a b c e
def kc (o : Nat → Nat) : Nat → Int
  | 0 => 0
  | n + 1 => kc o n + (if o n = 4 then 0 else 1)
theorem kc_cn {o : Nat → Nat} {g : Int → Int} (h : ∀ p : Nat, p < 6 → (o p = 4 ∧ g p = -1) ∨ (o p < 4 ∧ g p = o p)) : ∀ n, n ≤ 6 → kc o n = cnF g n
  | 0, _ => rfl
  | n + 1, hn => by
    rw [kc, cnF, kc_cn h n (by omega)]
    rcases h n (by omega) with ⟨a, b⟩ | ⟨a, b⟩
    · rw [if_pos a, if_neg (by omega)]
    · rw [if_neg (by omega), if_pos (by omega)]
/-- blame: the asks still kept, by the reference -/
theorem blS_c {M : Nat → Int → Int} {a : Int} {c : Int → Int} (hc : c a = 1) : blS M a c = if srch (mu M 10 (rz_u c a 0)) < 15625 then c else rz_u c a 0 := by
  unfold blS
  split
  · funext j
    by_cases z : j = a
    · rw [z, rz_u_s, hc]
    · rw [rz_u_n z, rz_u_n z]
  · rfl

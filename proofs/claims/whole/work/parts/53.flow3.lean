/-! FLOW 3 -/
theorem rz_loopA {Γ : rz_G} {X : rz_X} {rm : Room} {post : Option Value → rz_H → Prop} {K : rz_K} {cells slots pc : Nat} {L : List (Nat × Value)} {st : List Value} {h : rz_H} {α : Type} (c' s' : α → Nat) (pc' : Nat) (μ : α → Nat) (P : α → Prop) (L' : α → List (Nat × Value)) (st' : α → List Value) (h' : α → rz_H) (step : ∀ x, P x → (∀ y, P y → μ y < μ x → Wk Γ X rm post K (c' y) (s' y) pc' (L' y) (st' y) (h' y)) → Wk Γ X rm post K (c' x) (s' x) pc' (L' x) (st' x) (h' x)) (k2 : (∀ x, P x → Wk Γ X rm post K (c' x) (s' x) pc' (L' x) (st' x) (h' x)) → Wk Γ X rm post K cells slots pc L st h) : Wk Γ X rm post K cells slots pc L st h := by
  have key : ∀ (n : Nat) (x : α), μ x < n → P x → Wk Γ X rm post K (c' x) (s' x) pc' (L' x) (st' x) (h' x) := by
    intro n
    induction n with
    | zero => intro x hx; exact absurd hx (Nat.not_lt_zero _)
    | succ n ih => intro x hx hp; exact step x hp (fun y hy hlt => ih y (by omega) hy)
  exact k2 (fun x hx => key (μ x + 1) x (Nat.lt_succ_self _) hx)
theorem kO {Γ : rz_G} {X : rz_X} {rm : Room} {post : Option Value → rz_H → Prop} {K : rz_K} {cells slots pc : Nat} {L : List (Nat × Value)} {st : List Value} {h : rz_H} {P : Option Nat → rz_H → Prop} (k0 : ∀ h' : rz_H, P none h' → Wk Γ X rm post K cells slots pc L (.null :: st) h') (k : ∀ (a : Nat) (h' : rz_H), P (some a) h' → Wk Γ X rm post K cells slots pc L (.ref a :: st) h') : ∀ (v : Option Value) (h' : rz_H), pO P v h' → Wk Γ X rm post K cells slots pc L (v.toList ++ st) h' := by
  rintro v h' ⟨a, rfl, hp⟩
  cases a with
  | none => exact k0 h' hp
  | some a => exact k a h' hp
theorem rz_aloadN {Γ : rz_G} {X : rz_X} {rm : Room} {post : Option Value → rz_H → Prop} {K : rz_K} {cells slots pc : Nat} {L : List (Nat × Value)} {st : List Value} {h : rz_H} {i : Nat} (k : Nat) (hd : decode X.1 pc = .ok (.aload i, 2)) (hk : L[k]? = some (i, .null)) (kk : Wk Γ X rm post K cells slots (pc + 2) L (.null :: st) h) : Wk Γ X rm post K cells slots pc L st h :=
  fun C H locs ls hO hS hl => lv_aloadN C.1 C.2.1 hd (lv_at hl k hk) (kk C H locs ls hO hS hl)
theorem rz_astoreN {Γ : rz_G} {X : rz_X} {rm : Room} {post : Option Value → rz_H → Prop} {K : rz_K} {cells slots pc : Nat} {L : List (Nat × Value)} {st : List Value} {h : rz_H} {i : Nat} (L' : List (Nat × Value)) (hd : decode X.1 pc = .ok (.astore i, 2)) (hn : i < X.2.2.1) (hL : (i, Value.null) :: L.filter (fun q => !(q.1 == i) && !(q.1 + 1 == i && q.2.category == 2)) = L') (kk : Wk Γ X rm post K cells slots (pc + 2) L' st h) : Wk Γ X rm post K cells slots pc L (.null :: st) h :=
  fun C H locs ls hO hS hl => lv_astoreN C.1 C.2.1 hd hl hn hL (fun ls' hl' => kk C H locs ls' hO hS hl')
/-- all cells but a's and b's stay -/
def rz_f2 (a b : Nat) (h h' : rz_H) : Prop := ∀ (q : Nat) (x : (Nat × Nat) × va_E), q ≠ a → q ≠ b → h q = some x → h' q = some x
theorem rz_f2.rf {a b : Nat} {h : rz_H} : rz_f2 a b h h := fun _ _ _ _ q => q
theorem rz_f2.tr {a b : Nat} {h h1 h2 : rz_H} (x : rz_f2 a b h h1) (y : rz_f2 a b h1 h2) : rz_f2 a b h h2 := fun q v p r s => y q v p r (x q v p r s)
theorem rz_f2.upa {a b : Nat} {h h1 : rz_H} {x : (Nat × Nat) × va_E} (f : rz_f2 a b h h1) : rz_f2 a b h (rz_up h1 a x) := fun q y p r s => by
  rw [rz_up_n p]; exact f q y p r s
theorem rz_f2.upb {a b : Nat} {h h1 : rz_H} {x : (Nat × Nat) × va_E} (f : rz_f2 a b h h1) : rz_f2 a b h (rz_up h1 b x) := fun q y p r s => by
  rw [rz_up_n r]; exact f q y p r s
theorem rz_f2.fr {a b : Nat} {h h1 h2 : rz_H} (f : rz_f2 a b h h1) (g : rz_fr [] h1 h2) : rz_f2 a b h h2 := fun q x p r s => g q x.1 x.2 (f q x p r s) (by simp)
theorem rz_f2.ro {a b : Nat} {h h1 : rz_H} {t u : Nat × Nat} {x y : va_E} (f : rz_f2 a b h h1) (ha : h a = some (t, x)) (hb : h b = some (u, y)) : rz_fr [t.1, u.1] h h1 := fun q v e hq hn => f q (v, e) (fun z => by rw [z, ha] at hq; cases hq; exact hn (by simp)) (fun z => by rw [z, hb] at hq; cases hq; exact hn (by simp)) hq
theorem rz_fo.f2 {v a b : Nat} {h0 h h1 : rz_H} (f : rz_fo v h0 h) (g : rz_f2 a b h h1) (ha : h0 a = none) (hb : h0 b = none) : rz_fo v h0 h1 := fun q x p r => g q x (fun z => by rw [z, ha] at r; cases r) (fun z => by rw [z, hb] at r; cases r) (f q x p r)


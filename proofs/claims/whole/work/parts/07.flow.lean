/-! FLOW: cuts (where ways join), loops, frames -/
theorem rz_cut {Γ : rz_G} {X : rz_X} {rm : Room} {post : Option Value → rz_H → Prop} {K : rz_K} {cells slots pc : Nat} {L : List (Nat × Value)} {st : List Value} {h : rz_H} {α : Type} (c' s' pc' : Nat) (P : α → Prop) (L' : α → List (Nat × Value)) (st' : α → List Value) (h' : α → rz_H) (k : ∀ x, P x → Wk Γ X rm post K c' s' pc' (L' x) (st' x) (h' x)) (k2 : (∀ x, P x → Wk Γ X rm post K c' s' pc' (L' x) (st' x) (h' x)) → Wk Γ X rm post K cells slots pc L st h) : Wk Γ X rm post K cells slots pc L st h := k2 k
theorem rz_loop {Γ : rz_G} {X : rz_X} {rm : Room} {post : Option Value → rz_H → Prop} {K : rz_K} {cells slots pc : Nat} {L : List (Nat × Value)} {st : List Value} {h : rz_H} {α : Type} (c' s' pc' : Nat) (μ : α → Nat) (P : α → Prop) (L' : α → List (Nat × Value)) (st' : α → List Value) (h' : α → rz_H) (step : ∀ x, P x → (∀ y, P y → μ y < μ x → Wk Γ X rm post K c' s' pc' (L' y) (st' y) (h' y)) → Wk Γ X rm post K c' s' pc' (L' x) (st' x) (h' x)) (k2 : (∀ x, P x → Wk Γ X rm post K c' s' pc' (L' x) (st' x) (h' x)) → Wk Γ X rm post K cells slots pc L st h) : Wk Γ X rm post K cells slots pc L st h := by
  have key : ∀ (n : Nat) (x : α), μ x < n → P x → Wk Γ X rm post K c' s' pc' (L' x) (st' x) (h' x) := by
    intro n
    induction n with
    | zero => intro x hx; exact absurd hx (Nat.not_lt_zero _)
    | succ n ih => intro x hx hp; exact step x hp (fun y hy hlt => ih y (by omega) hy)
  exact k2 (fun x hx => key (μ x + 1) x (Nat.lt_succ_self _) hx)
/-- cells of roles that rs doesn't name stay as they are -/
def rz_fr (rs : List Nat) (h h' : rz_H) : Prop := ∀ (a : Nat) (t : Nat × Nat) (e : va_E), h a = some (t, e) → t.1 ∉ rs → h' a = some (t, e)
theorem rz_fr.rf {rs : List Nat} {h : rz_H} : rz_fr rs h h := fun _ _ _ ha _ => ha
theorem rz_fr.tr {rs : List Nat} {h h1 h2 : rz_H} (a : rz_fr rs h h1) (b : rz_fr rs h1 h2) : rz_fr rs h h2 := fun q t e ha hn => b q t e (a q t e ha hn) hn
theorem rz_fr.up {rs : List Nat} {h h1 : rz_H} {a : Nat} {t : Nat × Nat} {e e' : va_E} (hf : rz_fr rs h h1) (ha : h1 a = some (t, e)) (ht : t.1 ∈ rs) : rz_fr rs h (rz_up h1 a (t, e')) := fun q t2 e2 hq hn => rz_up_t ha (hf q t2 e2 hq hn) (fun z => hn (by rw [z]; exact ht))
theorem rz_fr.new {rs : List Nat} {h h1 : rz_H} {a : Nat} {x : (Nat × Nat) × va_E} (hf : rz_fr rs h h1) (ha : h1 a = none) : rz_fr rs h (rz_up h1 a x) := fun q t2 e2 hq hn => rz_up_f ha (hf q t2 e2 hq hn)
theorem rz_fr.mono {rs rs' : List Nat} {h h1 : rz_H} (hf : rz_fr rs h h1) (hs : ∀ r ∈ rs, r ∈ rs') : rz_fr rs' h h1 := fun q t e ha hn => hf q t e ha (fun z => hn (hs _ z))
theorem rz_Leq {Γ : rz_G} {X : rz_X} {rm : Room} {post : Option Value → rz_H → Prop} {K : rz_K} {cells slots pc : Nat} {L : List (Nat × Value)} {st : List Value} {h : rz_H} (L' : List (Nat × Value)) (e : L = L') (k : Wk Γ X rm post K cells slots pc L' st h) : Wk Γ X rm post K cells slots pc L st h := e ▸ k
theorem bi01 (b : Bool) : bi b = 0 ∨ bi b = 1 := by cases b <;> decide
theorem rz_Seq {Γ : rz_G} {X : rz_X} {rm : Room} {post : Option Value → rz_H → Prop} {K : rz_K} {cells slots pc : Nat} {L : List (Nat × Value)} {st : List Value} {h : rz_H} (st' : List Value) (e : st = st') (k : Wk Γ X rm post K cells slots pc L st' h) : Wk Γ X rm post K cells slots pc L st h := e ▸ k
theorem rz_Lsub {Γ : rz_G} {X : rz_X} {rm : Room} {post : Option Value → rz_H → Prop} {K : rz_K} {cells slots pc : Nat} {L : List (Nat × Value)} {st : List Value} {h : rz_H} (L' : List (Nat × Value)) (ks : List Nat) (e : lv_pick L ks = L') (k : Wk Γ X rm post K cells slots pc L' st h) : Wk Γ X rm post K cells slots pc L st h := fun C H locs ls hO hS hl => k C H locs ls hO hS (lv_sub hl ks e)

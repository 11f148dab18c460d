/-! the class: Search -/
/-! its state: S c i j is place j of row i of table c; c is 0 order, 1 usable, 2 beside, 3 leads, 4 askPlugins, 5 askOptions, 6 askCount, 7 asked, 8 left -/
def se_L : List (Nat × Nat × Nat) := [(0, 6, 5), (1, 1, 6), (2, 30, 6), (3, 1, 30), (4, 1, 4), (5, 1, 4), (8, 7, 6)]
def se_O : List (Nat × Nat) := [(0, 6), (2, 30), (8, 7)]
abbrev se_F (B : Nat → Int → Nat) (S : Nat → Int → Int → Int) : List Value := [.ref (B 20 0), .ref (B 1 0), .ref (B 22 0), .ref (B 3 0), .ref (B 4 0), .ref (B 5 0), vi (S 6 0 0), vi (S 7 0 0), .ref (B 28 0)]
def SeAt (Γ : rz_G) (h : rz_H) (se : Nat) (B : Nat → Int → Nat) (S : Nat → Int → Int → Int) : Prop := h se = some ((40, 0), .inr (4, se_F B S)) ∧ (∀ q ∈ se_O, ∃ f, h (B (20 + q.1) 0) = some ((60 + q.1, 0), aR Γ 6 q.2 f) ∧ ∀ i, 0 ≤ i → i < (q.2 : Int) → f i = some (B q.1 i)) ∧ ∀ q ∈ se_L, ∀ i, 0 ≤ i → i < (q.2.1 : Int) → h (B q.1 i) = some ((50 + q.1, i.toNat), aI Γ 0 q.2.2 (S q.1 i))
def su (S : Nat → Int → Int → Int) (c : Nat) (i : Int) (g : Int → Int) : Nat → Int → Int → Int := fun c' i' => if c' = c ∧ i' = i then g else S c' i'
theorem su_s (S : Nat → Int → Int → Int) (c : Nat) (i : Int) (g : Int → Int) : su S c i g c i = g := by simp [su]
theorem su_n {S : Nat → Int → Int → Int} {c c' : Nat} {i i' : Int} {g : Int → Int} (h : ¬ (c' = c ∧ i' = i)) : su S c i g c' i' = S c' i' := by simp [su, h]
theorem se_nd : ∀ p ∈ se_L, ∀ q ∈ se_L, p.1 = q.1 → p = q := by decide
theorem se_sc : ∀ p ∈ se_L, p.1 ≠ 6 ∧ p.1 ≠ 7 := by decide
theorem se_r : ∀ p ∈ se_L, p.1 < 9 := by decide
theorem se_ro : ∀ p ∈ se_O, p.1 < 9 := by decide
theorem SeAt.up {Γ : rz_G} {h : rz_H} {se : Nat} {B : Nat → Int → Nat} {S : Nat → Int → Int → Int} (hS : SeAt Γ h se B S) {q : Nat × Nat × Nat} (hq : q ∈ se_L) {i : Int} (hi : 0 ≤ i ∧ i < (q.2.1 : Int)) (g : Int → Int) : SeAt Γ (rz_up h (B q.1 i) ((50 + q.1, i.toNat), aI Γ 0 q.2.2 g)) se B (su S q.1 i g) := by
  have hc := hS.2.2 q hq i hi.1 hi.2
  have hs := se_sc q hq
  have h9 := se_r q hq
  refine ⟨?_, fun p hp => ?_, fun p hp j j0 j1 => ?_⟩
  · rw [rz_up_t hc hS.1 (by simp; omega)]
    simp only [se_F, su_n (show ¬ (6 = q.1 ∧ (0 : Int) = i) by omega), su_n (show ¬ (7 = q.1 ∧ (0 : Int) = i) by omega)]
  · obtain ⟨f, a, b⟩ := hS.2.1 p hp
    have := se_ro p hp
    exact ⟨f, rz_up_t hc a (by simp; omega), b⟩
  · by_cases e : p.1 = q.1 ∧ j = i
    · have := se_nd p hp q hq e.1
      rw [e.2, this, rz_up_s, su_s]
    · rw [rz_up_t hc (hS.2.2 p hp j j0 j1) (by simp; omega), su_n e]
theorem SeAt.ups {Γ : rz_G} {h : rz_H} {se : Nat} {B : Nat → Int → Nat} {S : Nat → Int → Int → Int} (hS : SeAt Γ h se B S) {c : Nat} (hc : c = 6 ∨ c = 7) {v : Int} {fs : List Value} (hf : fs = se_F B (su S c 0 (fun _ => v))) : SeAt Γ (rz_up h se ((40, 0), .inr (4, fs))) se B (su S c 0 (fun _ => v)) := by
  refine ⟨by rw [rz_up_s, hf], fun p hp => ?_, fun p hp j j0 j1 => ?_⟩
  · obtain ⟨f, a, b⟩ := hS.2.1 p hp
    exact ⟨f, rz_up_t hS.1 a (by simp; omega), b⟩
  · have := se_sc p hp
    rw [rz_up_t hS.1 (hS.2.2 p hp j j0 j1) (by simp; omega), su_n (by omega)]
def SR : List Nat := [40, 50, 51, 52, 53, 54, 55, 58]
theorem SeAt.fr {Γ : rz_G} {h : rz_H} {se : Nat} {B : Nat → Int → Nat} {S : Nat → Int → Int → Int} {h' : rz_H} {rs : List Nat} (hS : SeAt Γ h se B S) (hf : rz_fr rs h h') (hr : ∀ r ∈ rs, r < 40 ∨ 70 ≤ r) : SeAt Γ h' se B S := by
  refine ⟨hf _ _ _ hS.1 (fun z => by have := hr _ z; omega), fun p hp => ?_, fun p hp j j0 j1 => hf _ _ _ (hS.2.2 p hp j j0 j1) (fun z => by have := hr _ z; have := se_r p hp; omega)⟩
  obtain ⟨f, a, b⟩ := hS.2.1 p hp
  exact ⟨f, hf _ _ _ a (fun z => by have := hr _ z; have := se_ro p hp; omega), b⟩
theorem SR_in {q : Nat × Nat × Nat} (hq : q ∈ se_L) : 50 + q.1 ∈ SR := by revert q; decide
theorem se_st {Γ : rz_G} {X : rz_X} {rm : Room} {post : Option Value → rz_H → Prop} {K : rz_K} {cells slots pc : Nat} {L : List (Nat × Value)} {st : List Value} {h : rz_H} {h0 : rz_H} {se : Nat} {B : Nat → Int → Nat} {S : Nat → Int → Int → Int} (q : Nat × Nat × Nat) (hq : q ∈ se_L) {i j v : Int} (hS : SeAt Γ h se B S) (hF : rz_fr SR h0 h) (hi : 0 ≤ i ∧ i < (q.2.1 : Int)) (hj : 0 ≤ j ∧ j < (q.2.2 : Int) ∧ j ≤ 2147483647) (hd : decode X.1 pc = .ok (.iastore, 1)) (kk : ∀ h' : rz_H, SeAt Γ h' se B (su S q.1 i (rz_u (S q.1 i) j v)) → rz_fr SR h0 h' → Wk Γ X rm post K cells slots (pc + 1) L st h') : Wk Γ X rm post K cells slots pc L (vi v :: vi j :: .ref (B q.1 i) :: st) h :=
  rz_iastore (hS.2.2 q hq i hi.1 hi.2) (show 50 + q.1 ≠ 0 by omega) hj hd (kk _ (hS.up hq hi _) (hF.up (hS.2.2 q hq i hi.1 hi.2) (SR_in hq)))
theorem se_pf {Γ : rz_G} {X : rz_X} {rm : Room} {post : Option Value → rz_H → Prop} {K : rz_K} {cells slots pc : Nat} {L : List (Nat × Value)} {st : List Value} {h : rz_H} {h0 : rz_H} {se idx : Nat} {B : Nat → Int → Nat} {S : Nat → Int → Int → Int} (c : Nat) (hc : c = 6 ∨ c = 7) {v : Int} (hS : SeAt Γ h se B S) (hF : rz_fr SR h0 h) (hf : rz_lnkP X.2.1 X.2.2.2.2 idx 4 c .int) (hd : decode X.1 pc = .ok (.putfield idx, 3)) (kk : ∀ h' : rz_H, SeAt Γ h' se B (su S c 0 (fun _ => v)) → rz_fr SR h0 h' → Wk Γ X rm post K cells slots (pc + 3) L st h') : Wk Γ X rm post K cells slots pc L (vi v :: .ref se :: st) h := by
  rcases hc with rfl | rfl
  · exact rz_putf hf hS.1 (by decide) rfl rfl (show 6 < 9 by decide) hd (kk _ (hS.ups (Or.inl rfl) rfl) (hF.up hS.1 (by decide)))
  · exact rz_putf hf hS.1 (by decide) rfl rfl (show 7 < 9 by decide) hd (kk _ (hS.ups (Or.inr rfl) rfl) (hF.up hS.1 (by decide)))
theorem se_r0 {Γ : rz_G} {h : rz_H} {se : Nat} {B : Nat → Int → Nat} {S : Nat → Int → Int → Int} (hS : SeAt Γ h se B S) {i : Int} (hi : 0 ≤ i ∧ i < 6) : h (B 0 i) = some ((50, i.toNat), aI Γ 0 5 (S 0 i)) := hS.2.2 (0, 6, 5) (by decide) i hi.1 hi.2
theorem se_st0 {Γ : rz_G} {X : rz_X} {rm : Room} {post : Option Value → rz_H → Prop} {K : rz_K} {cells slots pc : Nat} {L : List (Nat × Value)} {st : List Value} {h : rz_H} {h0 : rz_H} {se : Nat} {B : Nat → Int → Nat} {S : Nat → Int → Int → Int} {i j v : Int} (hS : SeAt Γ h se B S) (hF : rz_fr SR h0 h) (hi : 0 ≤ i ∧ i < 6) (hj : 0 ≤ j ∧ j < 5) (hd : decode X.1 pc = .ok (.iastore, 1)) (kk : ∀ h' : rz_H, SeAt Γ h' se B (su S 0 i (rz_u (S 0 i) j v)) → rz_fr SR h0 h' → Wk Γ X rm post K cells slots (pc + 1) L st h') : Wk Γ X rm post K cells slots pc L (vi v :: vi j :: .ref (B 0 i) :: st) h := se_st (0, 6, 5) (by decide) hS hF hi ⟨hj.1, hj.2, by omega⟩ hd kk
theorem se_r1 {Γ : rz_G} {h : rz_H} {se : Nat} {B : Nat → Int → Nat} {S : Nat → Int → Int → Int} (hS : SeAt Γ h se B S) {i : Int} (hi : 0 ≤ i ∧ i < 1) : h (B 1 i) = some ((51, i.toNat), aI Γ 0 6 (S 1 i)) := hS.2.2 (1, 1, 6) (by decide) i hi.1 hi.2
theorem se_st1 {Γ : rz_G} {X : rz_X} {rm : Room} {post : Option Value → rz_H → Prop} {K : rz_K} {cells slots pc : Nat} {L : List (Nat × Value)} {st : List Value} {h : rz_H} {h0 : rz_H} {se : Nat} {B : Nat → Int → Nat} {S : Nat → Int → Int → Int} {i j v : Int} (hS : SeAt Γ h se B S) (hF : rz_fr SR h0 h) (hi : 0 ≤ i ∧ i < 1) (hj : 0 ≤ j ∧ j < 6) (hd : decode X.1 pc = .ok (.iastore, 1)) (kk : ∀ h' : rz_H, SeAt Γ h' se B (su S 1 i (rz_u (S 1 i) j v)) → rz_fr SR h0 h' → Wk Γ X rm post K cells slots (pc + 1) L st h') : Wk Γ X rm post K cells slots pc L (vi v :: vi j :: .ref (B 1 i) :: st) h := se_st (1, 1, 6) (by decide) hS hF hi ⟨hj.1, hj.2, by omega⟩ hd kk
theorem se_r2 {Γ : rz_G} {h : rz_H} {se : Nat} {B : Nat → Int → Nat} {S : Nat → Int → Int → Int} (hS : SeAt Γ h se B S) {i : Int} (hi : 0 ≤ i ∧ i < 30) : h (B 2 i) = some ((52, i.toNat), aI Γ 0 6 (S 2 i)) := hS.2.2 (2, 30, 6) (by decide) i hi.1 hi.2
theorem se_st2 {Γ : rz_G} {X : rz_X} {rm : Room} {post : Option Value → rz_H → Prop} {K : rz_K} {cells slots pc : Nat} {L : List (Nat × Value)} {st : List Value} {h : rz_H} {h0 : rz_H} {se : Nat} {B : Nat → Int → Nat} {S : Nat → Int → Int → Int} {i j v : Int} (hS : SeAt Γ h se B S) (hF : rz_fr SR h0 h) (hi : 0 ≤ i ∧ i < 30) (hj : 0 ≤ j ∧ j < 6) (hd : decode X.1 pc = .ok (.iastore, 1)) (kk : ∀ h' : rz_H, SeAt Γ h' se B (su S 2 i (rz_u (S 2 i) j v)) → rz_fr SR h0 h' → Wk Γ X rm post K cells slots (pc + 1) L st h') : Wk Γ X rm post K cells slots pc L (vi v :: vi j :: .ref (B 2 i) :: st) h := se_st (2, 30, 6) (by decide) hS hF hi ⟨hj.1, hj.2, by omega⟩ hd kk
theorem se_r3 {Γ : rz_G} {h : rz_H} {se : Nat} {B : Nat → Int → Nat} {S : Nat → Int → Int → Int} (hS : SeAt Γ h se B S) {i : Int} (hi : 0 ≤ i ∧ i < 1) : h (B 3 i) = some ((53, i.toNat), aI Γ 0 30 (S 3 i)) := hS.2.2 (3, 1, 30) (by decide) i hi.1 hi.2
theorem se_st3 {Γ : rz_G} {X : rz_X} {rm : Room} {post : Option Value → rz_H → Prop} {K : rz_K} {cells slots pc : Nat} {L : List (Nat × Value)} {st : List Value} {h : rz_H} {h0 : rz_H} {se : Nat} {B : Nat → Int → Nat} {S : Nat → Int → Int → Int} {i j v : Int} (hS : SeAt Γ h se B S) (hF : rz_fr SR h0 h) (hi : 0 ≤ i ∧ i < 1) (hj : 0 ≤ j ∧ j < 30) (hd : decode X.1 pc = .ok (.iastore, 1)) (kk : ∀ h' : rz_H, SeAt Γ h' se B (su S 3 i (rz_u (S 3 i) j v)) → rz_fr SR h0 h' → Wk Γ X rm post K cells slots (pc + 1) L st h') : Wk Γ X rm post K cells slots pc L (vi v :: vi j :: .ref (B 3 i) :: st) h := se_st (3, 1, 30) (by decide) hS hF hi ⟨hj.1, hj.2, by omega⟩ hd kk
theorem se_r4 {Γ : rz_G} {h : rz_H} {se : Nat} {B : Nat → Int → Nat} {S : Nat → Int → Int → Int} (hS : SeAt Γ h se B S) {i : Int} (hi : 0 ≤ i ∧ i < 1) : h (B 4 i) = some ((54, i.toNat), aI Γ 0 4 (S 4 i)) := hS.2.2 (4, 1, 4) (by decide) i hi.1 hi.2
theorem se_st4 {Γ : rz_G} {X : rz_X} {rm : Room} {post : Option Value → rz_H → Prop} {K : rz_K} {cells slots pc : Nat} {L : List (Nat × Value)} {st : List Value} {h : rz_H} {h0 : rz_H} {se : Nat} {B : Nat → Int → Nat} {S : Nat → Int → Int → Int} {i j v : Int} (hS : SeAt Γ h se B S) (hF : rz_fr SR h0 h) (hi : 0 ≤ i ∧ i < 1) (hj : 0 ≤ j ∧ j < 4) (hd : decode X.1 pc = .ok (.iastore, 1)) (kk : ∀ h' : rz_H, SeAt Γ h' se B (su S 4 i (rz_u (S 4 i) j v)) → rz_fr SR h0 h' → Wk Γ X rm post K cells slots (pc + 1) L st h') : Wk Γ X rm post K cells slots pc L (vi v :: vi j :: .ref (B 4 i) :: st) h := se_st (4, 1, 4) (by decide) hS hF hi ⟨hj.1, hj.2, by omega⟩ hd kk
theorem se_r5 {Γ : rz_G} {h : rz_H} {se : Nat} {B : Nat → Int → Nat} {S : Nat → Int → Int → Int} (hS : SeAt Γ h se B S) {i : Int} (hi : 0 ≤ i ∧ i < 1) : h (B 5 i) = some ((55, i.toNat), aI Γ 0 4 (S 5 i)) := hS.2.2 (5, 1, 4) (by decide) i hi.1 hi.2
theorem se_st5 {Γ : rz_G} {X : rz_X} {rm : Room} {post : Option Value → rz_H → Prop} {K : rz_K} {cells slots pc : Nat} {L : List (Nat × Value)} {st : List Value} {h : rz_H} {h0 : rz_H} {se : Nat} {B : Nat → Int → Nat} {S : Nat → Int → Int → Int} {i j v : Int} (hS : SeAt Γ h se B S) (hF : rz_fr SR h0 h) (hi : 0 ≤ i ∧ i < 1) (hj : 0 ≤ j ∧ j < 4) (hd : decode X.1 pc = .ok (.iastore, 1)) (kk : ∀ h' : rz_H, SeAt Γ h' se B (su S 5 i (rz_u (S 5 i) j v)) → rz_fr SR h0 h' → Wk Γ X rm post K cells slots (pc + 1) L st h') : Wk Γ X rm post K cells slots pc L (vi v :: vi j :: .ref (B 5 i) :: st) h := se_st (5, 1, 4) (by decide) hS hF hi ⟨hj.1, hj.2, by omega⟩ hd kk
theorem se_r8 {Γ : rz_G} {h : rz_H} {se : Nat} {B : Nat → Int → Nat} {S : Nat → Int → Int → Int} (hS : SeAt Γ h se B S) {i : Int} (hi : 0 ≤ i ∧ i < 7) : h (B 8 i) = some ((58, i.toNat), aI Γ 0 6 (S 8 i)) := hS.2.2 (8, 7, 6) (by decide) i hi.1 hi.2
theorem se_st8 {Γ : rz_G} {X : rz_X} {rm : Room} {post : Option Value → rz_H → Prop} {K : rz_K} {cells slots pc : Nat} {L : List (Nat × Value)} {st : List Value} {h : rz_H} {h0 : rz_H} {se : Nat} {B : Nat → Int → Nat} {S : Nat → Int → Int → Int} {i j v : Int} (hS : SeAt Γ h se B S) (hF : rz_fr SR h0 h) (hi : 0 ≤ i ∧ i < 7) (hj : 0 ≤ j ∧ j < 6) (hd : decode X.1 pc = .ok (.iastore, 1)) (kk : ∀ h' : rz_H, SeAt Γ h' se B (su S 8 i (rz_u (S 8 i) j v)) → rz_fr SR h0 h' → Wk Γ X rm post K cells slots (pc + 1) L st h') : Wk Γ X rm post K cells slots pc L (vi v :: vi j :: .ref (B 8 i) :: st) h := se_st (8, 7, 6) (by decide) hS hF hi ⟨hj.1, hj.2, by omega⟩ hd kk
abbrev rm_Se_row : Room := { frames := 0, cells := 0, slots := 0, locals := 0 }
set_option maxRecDepth 100000 in
set_option maxHeartbeats 4000000 in
theorem c_Se_row {l : Launch} {Γ : rz_G} {h : rz_H} {p x : Int} : Ct l Γ x_Se_row y_Se_row rm_Se_row [vi p, vi x] h (pE (p * 5 + x) h) := by
  refine rz_met (by decide) rfl rfl (Nat.le_of_ble_eq_true rfl) (fun K _ => ?_)
  refine rz_Leq [(0, vi p), (1, vi x)] rfl ?_
  refine rz_iload_n 0 d_Se_row_0 rfl rfl ?_
  refine rz_iconst d_Se_row_1 ?_
  refine rz_imul d_Se_row_2 ?_
  refine rz_iload_n 1 d_Se_row_3 rfl rfl ?_
  refine rz_iadd d_Se_row_4 ?_
  exact rz_ireturn (st := []) rfl d_Se_row_5 ⟨by decide, by decide⟩ ⟨_, rfl, rfl, rfl⟩
theorem ex_s (n : Nat) (Q : Nat → Bool) : ex (n + 1) Q = (ex n Q || Q n) := by simp [ex, List.range_succ]
theorem al_s (n : Nat) (Q : Nat → Bool) : al (n + 1) Q = (al n Q && Q n) := by simp [al, List.range_succ]
theorem ex_0 (Q : Nat → Bool) : ex 0 Q = false := rfl
theorem al_0 (Q : Nat → Bool) : al 0 Q = true := rfl
abbrev rm_Se_found : Room := { frames := 1, cells := 0, slots := 0, locals := 21 }
set_option maxRecDepth 100000 in
set_option maxHeartbeats 4000000 in
theorem c_Se_found {l : Launch} {Γ : rz_G} {h : rz_H} {se : Nat} {B : Nat → Int → Nat} {S : Nat → Int → Int → Int} (hS : SeAt Γ h se B S) {p : Int} (hp : 0 ≤ p ∧ p < 6) {x : Nat} (hb : Bt 5 (S 8 6 p) (fun i => decide (i = x))) (hx : x < 5) : Ct l Γ x_Se_found y_Se_found rm_Se_found [.ref se, vi p] h (pE (if x = 4 then -4 else (x : Int)) h) := by
  refine rz_met (by decide) rfl rfl (Nat.le_of_ble_eq_true rfl) (fun K _ => ?_)
  refine rz_Leq [(0, .ref se), (1, vi p)] rfl ?_
  refine rz_iconst d_Se_found_0 ?_
  refine rz_istore_n [(2, vi 0), (0, .ref se), (1, vi p)] d_Se_found_1 rfl (by decide) rfl ?_
  refine rz_loop (α := Int) 0 0 2 (fun i => (4 - i).toNat) (fun i => 0 ≤ i ∧ i ≤ 4 ∧ i ≤ x) (fun i => [(2, vi i), (0, .ref se), (1, vi p)]) (fun i => []) (fun i => h) (fun y hy ih2 => ?_) (fun LP => ?_)
  · obtain ⟨i, rfl⟩ : ∃ z, z = y := ⟨_, rfl⟩
    try dsimp only at hy ih2 ⊢
    obtain ⟨hi0, hi1, hix⟩ := hy
    refine rz_iload_n 0 d_Se_found_2 rfl rfl ?_
    refine rz_iconst d_Se_found_3 ?_
    refine rz_icmp_ge 31 d_Se_found_4 (by decide) (by omega) ⟨by decide, by decide⟩ (fun c4 => ?_) (fun c4 => ?_)
    · refine rz_bipush (v := (-4)) d_Se_found_31 (by decide) ?_
      exact rz_ireturn (st := []) rfl d_Se_found_33 ⟨by decide, by decide⟩ ⟨_, rfl, (by rw [if_pos (by omega)]), rfl⟩
    · refine rz_aload_n 1 d_Se_found_7 rfl rfl ?_
      refine rz_getf f_Se_39 hS.1 rfl d_Se_found_8 ?_
      refine rz_bipush (v := 6) d_Se_found_11 (by decide) ?_
      obtain ⟨f1, fo1, fe1⟩ := hS.2.1 (8, 7) (by decide)
      refine rz_aaloadA fo1 (show 60 + 8 ≠ 0 by decide) (by omega) d_Se_found_13 ?_
      refine rz_Seq [.ref (B 8 6)] (by rw [fe1 6 (by omega) (by omega)]; rfl) ?_
      refine rz_iload_n 2 d_Se_found_14 rfl rfl ?_
      refine rz_iaload (se_r8 hS (i := 6) (by omega)) (show 58 ≠ 0 by decide) (by omega) d_Se_found_15 ?_
      refine rz_iload_n 0 d_Se_found_16 rfl rfl ?_
      refine rz_callS (As := [vi (S 8 6 p), vi i]) (c_Rs_hasBit hb (by decide) (by omega)) m_Se_70 rfl rfl (Nat.le_of_ble_eq_true rfl) ⟨by decide, by decide⟩ ⟨by decide, by decide⟩ d_Se_found_17 (kE (h := h) ?_)
      refine rz_Seq [vi (bi (decide (i.toNat = x)))] rfl ?_
      refine rz_if_eqB 25 d_Se_found_20 (by decide) (fun c20 => ?_) (fun c20 => ?_)
      · refine rz_iinc (i + 1) 0 [(2, vi (i + 1)), (0, .ref se), (1, vi p)] d_Se_found_25 rfl (by first | rfl | omega) (by decide) rfl ?_
        refine rz_goto 2 d_Se_found_28 (by decide) ?_
        refine rz_Lsub [(2, vi (i + 1)), (0, .ref se), (1, vi p)] [0, 1, 2] rfl ?_
        refine ih2 (i + 1) ?_ ?_
        · try dsimp only
          exact ⟨by omega, by omega, (by have z := of_decide_eq_false c20; omega)⟩
        · exact (by first | omega | (dsimp only; omega))
      · refine rz_iload_n 0 d_Se_found_23 rfl rfl ?_
        exact rz_ireturn (st := []) rfl d_Se_found_24 ⟨by decide, by decide⟩ ⟨_, rfl, (by have z := of_decide_eq_true c20; rw [if_neg (by omega)]; omega), rfl⟩
  · refine rz_Lsub [(2, vi 0), (0, .ref se), (1, vi p)] [0, 1, 2] rfl ?_
    refine LP 0 ?_
    try dsimp only
    exact ⟨by omega, by omega, by omega⟩
abbrev rm_Se_leadsFrom : Room := { frames := 1, cells := 0, slots := 0, locals := 21 }
set_option maxRecDepth 100000 in
set_option maxHeartbeats 4000000 in
theorem c_Se_leadsFrom {l : Launch} {Γ : rz_G} {h : rz_H} {se : Nat} {B : Nat → Int → Nat} {S : Nat → Int → Int → Int} (hS : SeAt Γ h se B S) {k : Int} (hk : 0 ≤ k ∧ k < 7) {ll : Int} {Lf : Nat → Bool} {O : Nat → Nat → Bool} {Ld : Nat → Nat → Nat → Bool} (hl : Bt 6 ll Lf) (hO : ∀ p : Nat, p < 6 → Bt 5 (S 8 k p) (O p)) (hd : ∀ p x : Nat, p < 6 → x < 4 → Bt 6 (S 3 0 (p * 5 + x)) (Ld p x)) : Ct l Γ x_Se_leadsFrom y_Se_leadsFrom rm_Se_leadsFrom [.ref se, vi ll, .ref (B 8 k)] h (pI (fun r h' => Bt 6 r (fun q => ex 6 (fun p => Lf p && ex 4 (fun x => O p x && Ld p x q))) ∧ h' = h)) := by
  refine rz_met (by decide) rfl rfl (Nat.le_of_ble_eq_true rfl) (fun K _ => ?_)
  refine rz_Leq [(0, .ref se), (1, vi ll), (2, .ref (B 8 k))] rfl ?_
  refine rz_iconst d_Se_leadsFrom_0 ?_
  refine rz_istore_n [(3, vi 0), (0, .ref se), (1, vi ll), (2, .ref (B 8 k))] d_Se_leadsFrom_1 rfl (by decide) rfl ?_
  refine rz_iconst d_Se_leadsFrom_2 ?_
  refine rz_istore [(4, vi 0), (3, vi 0), (0, .ref se), (1, vi ll), (2, .ref (B 8 k))] d_Se_leadsFrom_3 (by decide) rfl ?_
  refine rz_loop (α := Nat × Int) 0 0 5 (fun (p, m) => 6 - p) (fun (p, m) => p ≤ 6 ∧ Bt 6 m (fun q => ex p (fun p => Lf p && ex 4 (fun x => O p x && Ld p x q)))) (fun (p, m) => [(4, vi (p : Int)), (3, vi m), (0, .ref se), (1, vi ll), (2, .ref (B 8 k))]) (fun (p, m) => []) (fun (p, m) => h) (fun y hy ih5 => ?_) (fun LP => ?_)
  · obtain ⟨p, m⟩ := y
    try dsimp only at hy ih5 ⊢
    obtain ⟨hp6, hm⟩ := hy
    refine rz_iload 0 d_Se_leadsFrom_5 rfl ?_
    refine rz_bipush (v := 6) d_Se_leadsFrom_7 (by decide) ?_
    refine rz_icmp_ge 69 d_Se_leadsFrom_9 (by decide) (by omega) ⟨by decide, by decide⟩ (fun c9 => ?_) (fun c9 => ?_)
    · refine rz_iload_n 1 d_Se_leadsFrom_69 rfl rfl ?_
      exact rz_ireturn (st := []) rfl d_Se_leadsFrom_70 ⟨by decide, by decide⟩ ⟨_, rfl, (by have z := hm; rw [show p = 6 by omega] at z; exact z), rfl⟩
    · refine rz_iconst d_Se_leadsFrom_12 ?_
      refine rz_istore [(5, vi 0), (4, vi (p : Int)), (3, vi m), (0, .ref se), (1, vi ll), (2, .ref (B 8 k))] d_Se_leadsFrom_13 (by decide) rfl ?_
      refine rz_loop (α := Nat × Int) 0 0 15 (fun (x, m2) => 4 - x) (fun (x, m2) => x ≤ 4 ∧ Bt 6 m2 (fun q => ex p (fun p => Lf p && ex 4 (fun x => O p x && Ld p x q)) || (Lf p && ex x (fun x => O p x && Ld p x q)))) (fun (x, m2) => [(5, vi (x : Int)), (4, vi (p : Int)), (3, vi m2), (0, .ref se), (1, vi ll), (2, .ref (B 8 k))]) (fun (x, m2) => []) (fun (x, m2) => h) (fun y hy ih15 => ?_) (fun LP => ?_)
      · obtain ⟨x, m2⟩ := y
        try dsimp only at hy ih15 ⊢
        obtain ⟨hx4, hm2⟩ := hy
        refine rz_iload_n 4 d_Se_leadsFrom_15 rfl rfl ?_
        refine rz_iload 1 d_Se_leadsFrom_16 rfl ?_
        refine rz_callS (As := [vi ll, vi (p : Int)]) (c_Rs_hasBit hl (by decide) (by omega)) m_Se_70 rfl rfl (Nat.le_of_ble_eq_true rfl) ⟨by decide, by decide⟩ ⟨by decide, by decide⟩ d_Se_leadsFrom_18 (kE (h := h) ?_)
        refine rz_Seq [vi (bi (Lf p))] rfl ?_
        refine rz_if_eqB 63 d_Se_leadsFrom_21 (by decide) (fun c21 => ?_) (fun c21 => ?_)
        · have EX : ∀ q, (ex p (fun p => Lf p && ex 4 (fun x => O p x && Ld p x q)) || (Lf p && ex x (fun x => O p x && Ld p x q))) = (ex p (fun p => Lf p && ex 4 (fun x => O p x && Ld p x q)) || (Lf p && ex 4 (fun x => O p x && Ld p x q))) := fun q => by first | (rw [c21, Bool.false_and, Bool.false_and]) | (rw [show x = 4 by omega])
          refine rz_iinc ((p : Int) + 1) 1 [(4, vi ((p : Int) + 1)), (5, vi (x : Int)), (3, vi m2), (0, .ref se), (1, vi ll), (2, .ref (B 8 k))] d_Se_leadsFrom_63 rfl (by first | rfl | omega) (by decide) rfl ?_
          refine rz_goto 5 d_Se_leadsFrom_66 (by decide) ?_
          refine rz_Lsub [(4, vi ((p : Int) + 1)), (3, vi m2), (0, .ref se), (1, vi ll), (2, .ref (B 8 k))] [0, 2, 3, 4, 5] rfl ?_
          refine ih5 (p + 1, m2) ?_ ?_
          · try dsimp only
            exact ⟨by omega, (hm2.c (fun q _ => by rw [ex_s]; exact EX q))⟩
          · exact (by first | omega | (dsimp only; omega))
        · refine rz_iload 0 d_Se_leadsFrom_24 rfl ?_
          refine rz_iconst d_Se_leadsFrom_26 ?_
          refine rz_icmp_ge 63 d_Se_leadsFrom_27 (by decide) (by omega) ⟨by decide, by decide⟩ (fun c27 => ?_) (fun c27 => ?_)
          · have EX : ∀ q, (ex p (fun p => Lf p && ex 4 (fun x => O p x && Ld p x q)) || (Lf p && ex x (fun x => O p x && Ld p x q))) = (ex p (fun p => Lf p && ex 4 (fun x => O p x && Ld p x q)) || (Lf p && ex 4 (fun x => O p x && Ld p x q))) := fun q => by first | (rw [c21, Bool.false_and, Bool.false_and]) | (rw [show x = 4 by omega])
            refine rz_iinc ((p : Int) + 1) 1 [(4, vi ((p : Int) + 1)), (5, vi (x : Int)), (3, vi m2), (0, .ref se), (1, vi ll), (2, .ref (B 8 k))] d_Se_leadsFrom_63 rfl (by first | rfl | omega) (by decide) rfl ?_
            refine rz_goto 5 d_Se_leadsFrom_66 (by decide) ?_
            refine rz_Lsub [(4, vi ((p : Int) + 1)), (3, vi m2), (0, .ref se), (1, vi ll), (2, .ref (B 8 k))] [0, 2, 3, 4, 5] rfl ?_
            refine ih5 (p + 1, m2) ?_ ?_
            · try dsimp only
              exact ⟨by omega, (hm2.c (fun q _ => by rw [ex_s]; exact EX q))⟩
            · exact (by first | omega | (dsimp only; omega))
          · refine rz_aload_n 5 d_Se_leadsFrom_30 rfl rfl ?_
            refine rz_iload 1 d_Se_leadsFrom_31 rfl ?_
            refine rz_iaload (se_r8 hS (i := k) (by omega)) (show 58 ≠ 0 by decide) (by omega) d_Se_leadsFrom_33 ?_
            refine rz_iload 0 d_Se_leadsFrom_34 rfl ?_
            refine rz_callS (As := [vi (S 8 k (p : Int)), vi (x : Int)]) (c_Rs_hasBit (hO p (by omega)) (by decide) (by omega)) m_Se_70 rfl rfl (Nat.le_of_ble_eq_true rfl) ⟨by decide, by decide⟩ ⟨by decide, by decide⟩ d_Se_leadsFrom_36 (kE (h := h) ?_)
            refine rz_Seq [vi (bi (O p x))] rfl ?_
            refine rz_if_eqB 57 d_Se_leadsFrom_39 (by decide) (fun c39 => ?_) (fun c39 => ?_)
            · refine rz_iinc ((x : Int) + 1) 0 [(5, vi ((x : Int) + 1)), (4, vi (p : Int)), (3, vi m2), (0, .ref se), (1, vi ll), (2, .ref (B 8 k))] d_Se_leadsFrom_57 rfl (by first | rfl | omega) (by decide) rfl ?_
              refine rz_goto 15 d_Se_leadsFrom_60 (by decide) ?_
              refine rz_Lsub [(5, vi ((x : Int) + 1)), (4, vi (p : Int)), (3, vi m2), (0, .ref se), (1, vi ll), (2, .ref (B 8 k))] [0, 1, 2, 3, 4, 5] rfl ?_
              refine ih15 (x + 1, m2) ?_ ?_
              · try dsimp only
                exact ⟨by omega, (hm2.c (fun q _ => by rw [ex_s, c39, Bool.false_and, Bool.or_false]))⟩
              · exact (by first | omega | (dsimp only; omega))
            · obtain ⟨r1, e1, b3⟩ := hm2.or (hd p x (by omega) (by omega))
              refine rz_iload_n 2 d_Se_leadsFrom_42 rfl rfl ?_
              refine rz_aload_n 3 d_Se_leadsFrom_43 rfl rfl ?_
              refine rz_getf f_Se_23 hS.1 rfl d_Se_leadsFrom_44 ?_
              refine rz_iload 1 d_Se_leadsFrom_47 rfl ?_
              refine rz_iload 0 d_Se_leadsFrom_49 rfl ?_
              refine rz_callS (As := [vi (p : Int), vi (x : Int)]) c_Se_row m_Se_121 rfl rfl (Nat.le_of_ble_eq_true rfl) ⟨by decide, by decide⟩ ⟨by decide, by decide⟩ d_Se_leadsFrom_51 (kE (h := h) ?_)
              refine rz_iaload (se_r3 hS (i := 0) (by omega)) (show 53 ≠ 0 by decide) (by omega) d_Se_leadsFrom_54 ?_
              refine rz_ior r1 e1 d_Se_leadsFrom_55 ?_
              refine rz_istore_n [(3, vi r1), (5, vi (x : Int)), (4, vi (p : Int)), (0, .ref se), (1, vi ll), (2, .ref (B 8 k))] d_Se_leadsFrom_56 rfl (by decide) rfl ?_
              refine rz_iinc ((x : Int) + 1) 1 [(5, vi ((x : Int) + 1)), (3, vi r1), (4, vi (p : Int)), (0, .ref se), (1, vi ll), (2, .ref (B 8 k))] d_Se_leadsFrom_57 rfl (by first | rfl | omega) (by decide) rfl ?_
              refine rz_goto 15 d_Se_leadsFrom_60 (by decide) ?_
              refine rz_Lsub [(5, vi ((x : Int) + 1)), (4, vi (p : Int)), (3, vi r1), (0, .ref se), (1, vi ll), (2, .ref (B 8 k))] [0, 2, 1, 3, 4, 5] rfl ?_
              refine ih15 (x + 1, r1) ?_ ?_
              · try dsimp only
                exact ⟨by omega, (b3.c (fun q _ => by rw [ex_s, c39, Bool.true_and, c21, Bool.true_and, Bool.true_and, Bool.or_assoc]))⟩
              · exact (by first | omega | (dsimp only; omega))
      · refine rz_Lsub [(5, vi 0), (4, vi (p : Int)), (3, vi m), (0, .ref se), (1, vi ll), (2, .ref (B 8 k))] [0, 1, 2, 3, 4, 5] rfl ?_
        refine LP (0, m) ?_
        try dsimp only
        exact ⟨by omega, (hm.c (fun q _ => by rw [ex_0, Bool.and_false, Bool.or_false]))⟩
  · refine rz_Lsub [(4, vi 0), (3, vi 0), (0, .ref se), (1, vi ll), (2, .ref (B 8 k))] [0, 1, 2, 3, 4] rfl ?_
    refine LP (0, 0) ?_
    try dsimp only
    exact ⟨by omega, (Bt.zero 6)⟩

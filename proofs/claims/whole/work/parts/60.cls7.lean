/-! the class: Search, preparing -/
def PsAt (Γ : rz_G) (h : rz_H) (pa : Nat) (A : Nat → Int → Nat) (M : Nat → Int → Int) (F : Int → Int → Int) : Prop := (∃ f, h pa = some ((33, 0), aR Γ 5 6 f) ∧ ∀ p, 0 ≤ p → p < 6 → f p = some (A 0 p)) ∧ ∀ p, 0 ≤ p → p < 6 → PlAt Γ h A M (F p) p
theorem PsAt.fr {Γ : rz_G} {h h' : rz_H} {pa : Nat} {A : Nat → Int → Nat} {M : Nat → Int → Int} {F : Int → Int → Int} {rs : List Nat} (hp : PsAt Γ h pa A M F) (hf : rz_fr rs h h') (h1 : rOK rs) : PsAt Γ h' pa A M F := by
  obtain ⟨⟨f, a, b⟩, c⟩ := hp
  exact ⟨⟨f, hf _ _ _ a (fun z => by have := h1 _ z; omega), b⟩, fun p x y => (c p x y).fr hf h1⟩
theorem SRok : rOK SR := by unfold rOK; decide
/-- the asks: list al -/
def AsAt (Γ : rz_G) (h : rz_H) (al : Nat) (A : Nat → Int → Nat) (M : Nat → Int → Int) : Prop := AlAt Γ h al 6 (M 8 0).toNat (fun a => some (A 9 a)) ∧ ∀ a, 0 ≤ a → a < M 8 0 → h (A 9 a) = some ((8, 0), .inr (11, [vi (M 9 a), .ref (A 10 a)])) ∧ RgAt Γ h (A 10 a) (mAt M (2 + a)) (M 1 (2 + a))
theorem AsAt.fr {Γ : rz_G} {h h' : rz_H} {al : Nat} {A : Nat → Int → Nat} {M : Nat → Int → Int} {rs : List Nat} (hp : AsAt Γ h al A M) (hf : rz_fr rs h h') (h1 : rOK rs) : AsAt Γ h' al A M :=
  ⟨hp.1.fr hf (fun z => by have := h1 _ z; omega) (fun z => by have := h1 _ z; omega) (fun z => by have := h1 _ z; omega), fun a x y => ⟨hf _ _ _ (hp.2 a x y).1 (fun z => by have := h1 _ z; omega), (hp.2 a x y).2.fr hf (fun r q => by have := h1 r q; omega)⟩⟩
theorem VeAt.s {Γ : rz_G} {h h' : rz_H} {v : Nat} {R Q : Int → Int} (hv : VeAt Γ h v R Q) (hf : rz_fr SR h h') : VeAt Γ h' v R Q := hv.fr hf (by decide)
theorem tab_up {S : Nat → Int → Int → Int} {T T' : Nat → Nat → Nat → Nat → Bool} {P' X' Q' : Nat} {v : Int} (hT : ∀ p x q : Nat, p < 6 → x < 5 → q < 6 → Bt 5 (S 2 (p * 5 + x) q) (T p x q)) (hX : X' < 5) (hv : Bt 5 v (T' P' X' Q')) (he : ∀ p x q y : Nat, x < 5 → y < 5 → ¬ (p = P' ∧ x = X' ∧ q = Q') → T' p x q y = T p x q y) : ∀ p x q : Nat, p < 6 → x < 5 → q < 6 → Bt 5 (su S 2 (P' * 5 + X') (rz_u (S 2 (P' * 5 + X')) Q' v) 2 (p * 5 + x) q) (T' p x q) := fun p x q hp hx hq => by
  by_cases c : p = P' ∧ x = X'
  · rw [c.1, c.2, su_s]
    by_cases d : q = Q'
    · rw [d, rz_u_s]; exact hv
    · rw [rz_u_n (by omega)]
      have := hT p x q hp hx hq
      rw [c.1, c.2] at this
      exact this.c (fun y hy => (he _ _ _ _ hX hy (by omega)).symm)
  · rw [su_n (by omega)]
    exact (hT p x q hp hx hq).c (fun y hy => (he _ _ _ _ hx hy (by omega)).symm)
theorem ko_y {T : Nat → Nat → Nat → Nat → Bool} {P' X' O' i p x q y : Nat} {Fi : Nat → Bool} (hF : Fi i = true) : (T p x q y && (!decide (p = P' ∧ x = X' ∧ q = O') || Fi y) && (!decide (p = O' ∧ q = P' ∧ y = X' ∧ x < i) || Fi x)) = (T p x q y && (!decide (p = P' ∧ x = X' ∧ q = O') || Fi y) && (!decide (p = O' ∧ q = P' ∧ y = X' ∧ x < i + 1) || Fi x)) := by
  congr 1
  by_cases c : x = i
  · rw [c, hF, Bool.or_true, Bool.or_true]
  · congr 2; congr 1; exact propext ⟨fun z => ⟨z.1, z.2.1, z.2.2.1, by omega⟩, fun z => ⟨z.1, z.2.1, z.2.2.1, by omega⟩⟩
theorem ko_n {T : Nat → Nat → Nat → Nat → Bool} {P' X' O' i p x q y : Nat} {Fi : Nat → Bool} (h : ¬ (p = O' ∧ x = i ∧ q = P')) : (T p x q y && (!decide (p = P' ∧ x = X' ∧ q = O') || Fi y) && (!decide (p = O' ∧ q = P' ∧ y = X' ∧ x < i + 1) || Fi x)) = (T p x q y && (!decide (p = P' ∧ x = X' ∧ q = O') || Fi y) && (!decide (p = O' ∧ q = P' ∧ y = X' ∧ x < i) || Fi x)) := by
  congr 3; congr 1; exact propext ⟨fun z => ⟨z.1, z.2.1, z.2.2.1, by omega⟩, fun z => ⟨z.1, z.2.1, z.2.2.1, by omega⟩⟩
theorem ko_s {T : Nat → Nat → Nat → Nat → Bool} {P' X' O' i y : Nat} {Fi : Nat → Bool} (hF : Fi i = false) : ((T O' i P' y && (!decide (O' = P' ∧ i = X' ∧ P' = O') || Fi y) && (!decide (O' = O' ∧ P' = P' ∧ y = X' ∧ i < i) || Fi i)) && decide (y ≠ X')) = (T O' i P' y && (!decide (O' = P' ∧ i = X' ∧ P' = O') || Fi y) && (!decide (O' = O' ∧ P' = P' ∧ y = X' ∧ i < i + 1) || Fi i)) := by
  rw [hF, decide_eq_false (show ¬ (O' = O' ∧ P' = P' ∧ y = X' ∧ i < i) by omega)]
  by_cases c : y = X'
  · rw [decide_eq_true (show O' = O' ∧ P' = P' ∧ y = X' ∧ i < i + 1 from ⟨rfl, rfl, c, by omega⟩), decide_eq_false (show ¬ y ≠ X' by omega)]; simp
  · rw [decide_eq_false (show ¬ (O' = O' ∧ P' = P' ∧ y = X' ∧ i < i + 1) by omega), decide_eq_true (show y ≠ X' by omega)]; simp
abbrev rm_Se_keepOnly : Room := { frames := 1, cells := 0, slots := 0, locals := 21 }
set_option maxRecDepth 100000 in
set_option maxHeartbeats 4000000 in
theorem c_Se_keepOnly {l : Launch} {Γ : rz_G} {h : rz_H} {se : Nat} {B : Nat → Int → Nat} {S : Nat → Int → Int → Int} (hS : SeAt Γ h se B S) {P' X' O' : Nat} (hP : P' < 6) (hX : X' < 4) (hO : O' < 6) {fi : Int} {Fi : Nat → Bool} (hf : Bt 5 fi Fi) {T : Nat → Nat → Nat → Nat → Bool} (hT : ∀ p x q : Nat, p < 6 → x < 5 → q < 6 → Bt 5 (S 2 (p * 5 + x) q) (T p x q)) : Ct l Γ x_Se_keepOnly y_Se_keepOnly rm_Se_keepOnly [.ref se, vi (P' : Int), vi (X' : Int), vi (O' : Int), vi fi] h (pV (fun h' => ∃ S', SeAt Γ h' se B S' ∧ (∀ c i, c ≠ 2 → S' c i = S c i) ∧ (∀ p x q : Nat, p < 6 → x < 5 → q < 6 → Bt 5 (S' 2 (p * 5 + x) q) (fun y => T p x q y && (!decide (p = P' ∧ x = X' ∧ q = O') || Fi y) && (!decide (p = O' ∧ q = P' ∧ y = X') || Fi x))) ∧ rz_fr SR h h')) := by
  refine rz_met (by decide) rfl rfl (Nat.le_of_ble_eq_true rfl) (fun K _ => ?_)
  refine rz_Leq [(0, .ref se), (1, vi (P' : Int)), (2, vi (X' : Int)), (3, vi (O' : Int)), (4, vi fi)] rfl ?_
  refine rz_aload_n 0 d_Se_keepOnly_0 rfl rfl ?_
  refine rz_getf f_Se_20 hS.1 rfl d_Se_keepOnly_1 ?_
  refine rz_iload_n 1 d_Se_keepOnly_4 rfl rfl ?_
  refine rz_iload_n 2 d_Se_keepOnly_5 rfl rfl ?_
  refine rz_callS (As := [vi (P' : Int), vi (X' : Int)]) c_Se_row m_Se_121 rfl rfl (Nat.le_of_ble_eq_true rfl) ⟨by decide, by decide⟩ ⟨by decide, by decide⟩ d_Se_keepOnly_6 (kE (h := h) ?_)
  obtain ⟨f1, fo1, fe1⟩ := hS.2.1 (2, 30) (by decide)
  refine rz_aaloadA fo1 (show 60 + 2 ≠ 0 by decide) (by omega) d_Se_keepOnly_9 ?_
  refine rz_Seq [.ref (B 2 ((P' : Int) * 5 + (X' : Int)))] (by rw [fe1 ((P' : Int) * 5 + (X' : Int)) (by omega) (by omega)]; rfl) ?_
  refine rz_iload_n 3 d_Se_keepOnly_10 rfl rfl ?_
  refine rz_dup2 d_Se_keepOnly_11 rfl rfl ?_
  refine rz_iaload (se_r2 hS (i := ((P' : Int) * 5 + (X' : Int))) (by omega)) (show 52 ≠ 0 by decide) (by omega) d_Se_keepOnly_12 ?_
  refine rz_iload 4 d_Se_keepOnly_13 rfl ?_
  obtain ⟨r1, e1, b1⟩ := (hT P' X' O' hP (by omega) hO).and hf
  refine rz_iand r1 e1 d_Se_keepOnly_15 ?_
  refine se_st2 hS rz_fr.rf (i := ((P' : Int) * 5 + (X' : Int))) (by omega) (by omega) d_Se_keepOnly_16 (fun h2 hS2 hF2 => ?_)
  obtain ⟨S2, eS2⟩ : ∃ z, z = su S 2 ((P' : Int) * 5 + (X' : Int)) (rz_u (S 2 ((P' : Int) * 5 + (X' : Int))) (O' : Int) r1) := ⟨_, rfl⟩
  rw [← eS2] at hS2
  have T0 : ∀ p x q : Nat, p < 6 → x < 5 → q < 6 → Bt 5 (S2 2 (p * 5 + x) q) ((fun p x q y => T p x q y && (!decide (p = P' ∧ x = X' ∧ q = O') || Fi y) && (!decide (p = O' ∧ q = P' ∧ y = X' ∧ x < 0) || Fi x)) p x q) := by
    rw [eS2]
    refine tab_up hT (by omega) (b1.c (fun y hy => by simp)) (fun p x q y hx hy hne => ?_)
    rw [decide_eq_false (show ¬ (p = P' ∧ x = X' ∧ q = O') by omega), decide_eq_false (show ¬ (p = O' ∧ q = P' ∧ y = X' ∧ x < 0) by omega)]; simp
  have K0 : ∀ c i, c ≠ 2 → S2 c i = S c i := fun c i hc => by rw [eS2, su_n (by omega)]
  refine rz_iconst d_Se_keepOnly_17 ?_
  refine rz_istore [(5, vi 0), (0, .ref se), (1, vi (P' : Int)), (2, vi (X' : Int)), (3, vi (O' : Int)), (4, vi fi)] d_Se_keepOnly_18 (by decide) rfl ?_
  refine rz_loop (α := Nat × rz_H × (Nat → Int → Int → Int)) 0 0 20 (fun (i, hA, SA) => 5 - i) (fun (i, hA, SA) => i ≤ 5 ∧ SeAt Γ hA se B SA ∧ rz_fr SR h hA ∧ (∀ c i, c ≠ 2 → SA c i = S c i) ∧ (∀ p x q : Nat, p < 6 → x < 5 → q < 6 → Bt 5 (SA 2 (p * 5 + x) q) ((fun p x q y => T p x q y && (!decide (p = P' ∧ x = X' ∧ q = O') || Fi y) && (!decide (p = O' ∧ q = P' ∧ y = X' ∧ x < i) || Fi x)) p x q))) (fun (i, hA, SA) => [(5, vi (i : Int)), (0, .ref se), (1, vi (P' : Int)), (2, vi (X' : Int)), (3, vi (O' : Int)), (4, vi fi)]) (fun (i, hA, SA) => []) (fun (i, hA, SA) => hA) (fun y hy ih20 => ?_) (fun LP => ?_)
  · obtain ⟨i, hA, SA⟩ := y
    try dsimp only at hy ih20 ⊢
    obtain ⟨hi5, hSA, hFA, KA, tA⟩ := hy
    refine rz_iload 0 d_Se_keepOnly_20 rfl ?_
    refine rz_iconst d_Se_keepOnly_22 ?_
    refine rz_icmp_ge 63 d_Se_keepOnly_23 (by decide) (by omega) ⟨by decide, by decide⟩ (fun c23 => ?_) (fun c23 => ?_)
    · exact rz_return (st := []) rfl d_Se_keepOnly_63 ⟨by decide, by decide⟩ ⟨rfl, SA, hSA, KA, (fun p x q hp hx hq => (tA p x q hp hx hq).c (fun y hy => by congr 2; congr 1; congr 1; exact propext ⟨fun z => ⟨z.1, z.2.1, z.2.2.1⟩, fun z => ⟨z.1, z.2.1, z.2.2, by omega⟩⟩)), hFA⟩
    · refine rz_iload 5 d_Se_keepOnly_26 rfl ?_
      refine rz_iload 0 d_Se_keepOnly_28 rfl ?_
      refine rz_callS (As := [vi fi, vi (i : Int)]) (c_Rs_hasBit hf (by decide) (by omega)) m_Se_70 rfl rfl (Nat.le_of_ble_eq_true rfl) ⟨by decide, by decide⟩ ⟨by decide, by decide⟩ d_Se_keepOnly_30 (kE (h := hA) ?_)
      refine rz_Seq [vi (bi (Fi i))] rfl ?_
      refine rz_if_neB 57 d_Se_keepOnly_33 (by decide) (fun c33 => ?_) (fun c33 => ?_)
      · refine rz_iinc ((i : Int) + 1) 0 [(5, vi ((i : Int) + 1)), (0, .ref se), (1, vi (P' : Int)), (2, vi (X' : Int)), (3, vi (O' : Int)), (4, vi fi)] d_Se_keepOnly_57 rfl (by first | rfl | omega) (by decide) rfl ?_
        refine rz_goto 20 d_Se_keepOnly_60 (by decide) ?_
        refine rz_Lsub [(5, vi ((i : Int) + 1)), (0, .ref se), (1, vi (P' : Int)), (2, vi (X' : Int)), (3, vi (O' : Int)), (4, vi fi)] [0, 1, 2, 3, 4, 5] rfl ?_
        refine ih20 (i + 1, hA, SA) ?_ ?_
        · try dsimp only
          exact ⟨by omega, hSA, hFA, KA, (fun p x q hp hx hq => (tA p x q hp hx hq).c (fun y hy => ko_y c33))⟩
        · exact (by first | omega | (dsimp only; omega))
      · refine rz_aload_n 1 d_Se_keepOnly_36 rfl rfl ?_
        refine rz_getf f_Se_20 hSA.1 rfl d_Se_keepOnly_37 ?_
        refine rz_iload_n 4 d_Se_keepOnly_40 rfl rfl ?_
        refine rz_iload 0 d_Se_keepOnly_41 rfl ?_
        refine rz_callS (As := [vi (O' : Int), vi (i : Int)]) c_Se_row m_Se_121 rfl rfl (Nat.le_of_ble_eq_true rfl) ⟨by decide, by decide⟩ ⟨by decide, by decide⟩ d_Se_keepOnly_43 (kE (h := hA) ?_)
        obtain ⟨f3, fo3, fe3⟩ := hSA.2.1 (2, 30) (by decide)
        refine rz_aaloadA fo3 (show 60 + 2 ≠ 0 by decide) (by omega) d_Se_keepOnly_46 ?_
        refine rz_Seq [.ref (B 2 ((O' : Int) * 5 + (i : Int)))] (by rw [fe3 ((O' : Int) * 5 + (i : Int)) (by omega) (by omega)]; rfl) ?_
        refine rz_iload_n 2 d_Se_keepOnly_47 rfl rfl ?_
        refine rz_dup2 d_Se_keepOnly_48 rfl rfl ?_
        refine rz_iaload (se_r2 hSA (i := ((O' : Int) * 5 + (i : Int))) (by omega)) (show 52 ≠ 0 by decide) (by omega) d_Se_keepOnly_49 ?_
        obtain ⟨s1, x1, r2, e2, e3, e4, b2⟩ := (tA O' i P' hO (by omega) hP).clr (i := (X' : Int)) (by decide) (by omega)
        refine rz_iconst d_Se_keepOnly_50 ?_
        refine rz_iload_n 3 d_Se_keepOnly_51 rfl rfl ?_
        refine rz_ishl s1 e2 d_Se_keepOnly_52 ?_
        refine rz_iconst d_Se_keepOnly_53 ?_
        refine rz_ixor x1 e3 d_Se_keepOnly_54 ?_
        refine rz_iand r2 e4 d_Se_keepOnly_55 ?_
        refine se_st2 hSA hFA (i := ((O' : Int) * 5 + (i : Int))) (by omega) (by omega) d_Se_keepOnly_56 (fun h4 hS4 hF4 => ?_)
        obtain ⟨S4, eS4⟩ : ∃ z, z = su SA 2 ((O' : Int) * 5 + (i : Int)) (rz_u (SA 2 ((O' : Int) * 5 + (i : Int))) (P' : Int) r2) := ⟨_, rfl⟩
        rw [← eS4] at hS4
        have TN : ∀ p x q : Nat, p < 6 → x < 5 → q < 6 → Bt 5 (S4 2 (p * 5 + x) q) ((fun p x q y => T p x q y && (!decide (p = P' ∧ x = X' ∧ q = O') || Fi y) && (!decide (p = O' ∧ q = P' ∧ y = X' ∧ x < (i + 1)) || Fi x)) p x q) := by
          rw [eS4]
          exact tab_up tA (by omega) (b2.c (fun y hy => ko_s c33)) (fun p x q y hx hy hne => ko_n hne)
        refine rz_iinc ((i : Int) + 1) 0 [(5, vi ((i : Int) + 1)), (0, .ref se), (1, vi (P' : Int)), (2, vi (X' : Int)), (3, vi (O' : Int)), (4, vi fi)] d_Se_keepOnly_57 rfl (by first | rfl | omega) (by decide) rfl ?_
        refine rz_goto 20 d_Se_keepOnly_60 (by decide) ?_
        refine rz_Lsub [(5, vi ((i : Int) + 1)), (0, .ref se), (1, vi (P' : Int)), (2, vi (X' : Int)), (3, vi (O' : Int)), (4, vi fi)] [0, 1, 2, 3, 4, 5] rfl ?_
        refine ih20 (i + 1, h4, S4) ?_ ?_
        · try dsimp only
          exact ⟨by omega, hS4, hF4, (fun c r hc => by rw [eS4, su_n (by omega)]; exact KA c r hc), TN⟩
        · exact (by first | omega | (dsimp only; omega))
  · refine rz_Lsub [(5, vi 0), (0, .ref se), (1, vi (P' : Int)), (2, vi (X' : Int)), (3, vi (O' : Int)), (4, vi fi)] [0, 1, 2, 3, 4, 5] rfl ?_
    refine LP (0, h2, S2) ?_
    try dsimp only
    exact ⟨by omega, hS2, hF2, K0, T0⟩

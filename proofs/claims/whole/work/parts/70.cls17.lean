/-! the class: solve -/
abbrev rm_Rs_keepSelection : Room := { frames := 2, cells := 0, slots := 0, locals := 43 }
set_option maxRecDepth 100000 in
set_option maxHeartbeats 4000000 in
theorem c_Rs_keepSelection {l : Launch} {Γ : rz_G} {h : rz_H} {x se sa : Nat} {fs : List Value} (hx : h x = some ((30, 0), .inr (7, fs))) (h3 : fs[3]? = some (.ref se)) (h6 : fs[6]? = some (.ref sa)) {B : Nat → Int → Nat} {S : Nat → Int → Int → Int} (hS : SeAt Γ h se B S) {g : Int → Int} (hsa : h sa = some ((39, 0), aI Γ 0 6 g)) {o : Nat → Nat} (ho : ∀ p : Nat, p < 6 → o p < 5) (hL : ∀ p : Nat, p < 6 → Bt 5 (S 8 6 p) (fun i => decide (i = o p))) : Ct l Γ x_Rs_keepSelection y_Rs_keepSelection rm_Rs_keepSelection [.ref x] h (pI (fun r h' => r = kc o 6 ∧ (∃ g', h' sa = some ((39, 0), aI Γ 0 6 g') ∧ ∀ p : Nat, p < 6 → g' p = if o p = 4 then -4 else (o p : Int)) ∧ rz_fr [39] h h')) := by
  refine rz_met (by decide) rfl rfl (Nat.le_of_ble_eq_true rfl) (fun K _ => ?_)
  refine rz_Leq [(0, .ref x)] rfl ?_
  refine rz_iconst d_Rs_keepSelection_0 ?_
  refine rz_istore_n [(1, vi 0), (0, .ref x)] d_Rs_keepSelection_1 rfl (by decide) rfl ?_
  refine rz_iconst d_Rs_keepSelection_2 ?_
  refine rz_istore_n [(2, vi 0), (1, vi 0), (0, .ref x)] d_Rs_keepSelection_3 rfl (by decide) rfl ?_
  refine rz_loop (α := Nat × Int × rz_H × (Int → Int)) 0 0 4 (fun (p, c, hA, gA) => 6 - p) (fun (p, c, hA, gA) => p ≤ 6 ∧ hA x = some ((30, 0), .inr (7, fs)) ∧ SeAt Γ hA se B S ∧ hA sa = some ((39, 0), aI Γ 0 6 gA) ∧ rz_fr [39] h hA ∧ (∀ p2 : Nat, p2 < p → gA p2 = if o p2 = 4 then -4 else (o p2 : Int)) ∧ c = kc o p) (fun (p, c, hA, gA) => [(2, vi (p : Int)), (1, vi c), (0, .ref x)]) (fun (p, c, hA, gA) => []) (fun (p, c, hA, gA) => hA) (fun y hy ih4 => ?_) (fun LP => ?_)
  · obtain ⟨p, c, hA, gA⟩ := y
    try dsimp only at hy ih4 ⊢
    obtain ⟨hp6, fx, fS, fsa, FA, gA2, hc⟩ := hy
    have hS_A := fS
    have hop := ho p
    refine rz_iload_n 0 d_Rs_keepSelection_4 rfl rfl ?_
    refine rz_bipush (v := 6) d_Rs_keepSelection_5 (by decide) ?_
    refine rz_icmp_ge 44 d_Rs_keepSelection_7 (by decide) (by omega) ⟨by decide, by decide⟩ (fun c7 => ?_) (fun c7 => ?_)
    · refine rz_iload_n 1 d_Rs_keepSelection_44 rfl rfl ?_
      exact rz_ireturn (st := []) rfl d_Rs_keepSelection_45 ⟨by decide, by decide⟩ ⟨_, rfl, (by rw [hc, show p = 6 by omega]), ⟨gA, fsa, fun p2 z => gA2 p2 (by omega)⟩, FA⟩
    · refine rz_aload_n 2 d_Rs_keepSelection_10 rfl rfl ?_
      refine rz_getf f_Rs_51 fx h6 d_Rs_keepSelection_11 ?_
      refine rz_iload_n 0 d_Rs_keepSelection_14 rfl rfl ?_
      refine rz_aload_n 2 d_Rs_keepSelection_15 rfl rfl ?_
      refine rz_getf f_Rs_32 fx h3 d_Rs_keepSelection_16 ?_
      refine rz_iload_n 0 d_Rs_keepSelection_19 rfl rfl ?_
      refine rz_callV (As := [vi (p : Int)]) (c_Se_found hS_A (p := (p : Int)) (by omega) (hL p (by omega)) (ho p (by omega))) m_Rs_219 hS_A.1 rfl rfl rfl rfl (Nat.le_of_ble_eq_true rfl) ⟨by decide, by decide⟩ ⟨by decide, by decide⟩ d_Rs_keepSelection_20 (kE (h := hA) ?_)
      refine rz_top (fun fv e_fv => ?_)
      replace e_fv := e_fv.symm
      have fvb : -4 ≤ fv ∧ fv ≤ 4 := by have := hop; rw [← e_fv]; split <;> omega
      refine rz_iastore fsa (show (39 : Nat) ≠ 0 by decide) (by omega) d_Rs_keepSelection_23 ?_
      refine rz_nm fun h1 eh1 => ?_
      have g1 : rz_fr [39] hA h1 := by rw [eh1]; exact rz_fr.one fsa
      have F2 : rz_fr [39] h h1 := FA.tr (g1.mono (by decide))
      have fc_3_0 : h1 x = some ((30, 0), .inr (7, fs)) := g1 _ _ _ fx (show 30 ∉ ([39] : List Nat) by decide)
      have hS_3 : SeAt Γ h1 se B S := SeAt.fr hS_A g1 (by decide)
      have fu_1 : h1 sa = some ((39, 0), aI Γ 0 6 (rz_u gA (p : Int) fv)) := by rw [eh1]; exact rz_up_s _ _ _
      refine rz_aload_n 2 d_Rs_keepSelection_24 rfl rfl ?_
      refine rz_getf f_Rs_51 fc_3_0 h6 d_Rs_keepSelection_25 ?_
      refine rz_iload_n 0 d_Rs_keepSelection_28 rfl rfl ?_
      refine rz_iaload fu_1 (show (39 : Nat) ≠ 0 by decide) (by omega) d_Rs_keepSelection_29 ?_
      refine rz_bipush (v := (-4)) d_Rs_keepSelection_30 (by decide) ?_
      refine rz_icmp_eq 38 d_Rs_keepSelection_32 (by decide) (by rw [rz_u_s]; omega) ⟨by decide, by decide⟩ (fun c32 => ?_) (fun c32 => ?_)
      · have GN : ∀ p2 : Nat, p2 < p + 1 → (rz_u gA (p : Int) fv) p2 = if o p2 = 4 then -4 else (o p2 : Int) := fun p2 z => by
          by_cases y : p2 = p
          · rw [y, rz_u_s]; exact e_fv.symm
          · rw [rz_u_n (by omega)]; exact gA2 p2 (by omega)
        have HC : c = kc o (p + 1) := by
          have z := c32
          rw [rz_u_s, ← e_fv] at z
          by_cases y : o p = 4
          · rw [kc, ← hc, if_pos y]; omega
          · rw [if_neg y] at z; omega
        refine rz_iinc ((p : Int) + 1) 0 [(2, vi ((p : Int) + 1)), (1, vi c), (0, .ref x)] d_Rs_keepSelection_38 rfl (by first | rfl | omega) (by decide) rfl ?_
        refine rz_goto 4 d_Rs_keepSelection_41 (by decide) ?_
        refine rz_Lsub [(2, vi ((p : Int) + 1)), (1, vi c), (0, .ref x)] [0, 1, 2] rfl ?_
        refine ih4 (p + 1, c, h1, (rz_u gA (p : Int) fv)) ?_ ?_
        · try dsimp only
          exact ⟨by omega, fc_3_0, hS_3, fu_1, F2, GN, HC⟩
        · exact (by first | omega | (dsimp only; omega))
      · refine rz_iinc (c + 1) 1 [(1, vi (c + 1)), (2, vi (p : Int)), (0, .ref x)] d_Rs_keepSelection_35 rfl (by first | rfl | omega) (by decide) rfl ?_
        have GN : ∀ p2 : Nat, p2 < p + 1 → (rz_u gA (p : Int) fv) p2 = if o p2 = 4 then -4 else (o p2 : Int) := fun p2 z => by
          by_cases y : p2 = p
          · rw [y, rz_u_s]; exact e_fv.symm
          · rw [rz_u_n (by omega)]; exact gA2 p2 (by omega)
        have HC : c + 1 = kc o (p + 1) := by
          have z := c32
          rw [rz_u_s, ← e_fv] at z
          rw [kc, ← hc, if_neg (fun y => by rw [if_pos y] at z; exact z rfl)]
        refine rz_iinc ((p : Int) + 1) 1 [(2, vi ((p : Int) + 1)), (1, vi (c + 1)), (0, .ref x)] d_Rs_keepSelection_38 rfl (by first | rfl | omega) (by decide) rfl ?_
        refine rz_goto 4 d_Rs_keepSelection_41 (by decide) ?_
        refine rz_Lsub [(2, vi ((p : Int) + 1)), (1, vi (c + 1)), (0, .ref x)] [0, 1, 2] rfl ?_
        refine ih4 (p + 1, c + 1, h1, (rz_u gA (p : Int) fv)) ?_ ?_
        · try dsimp only
          exact ⟨by omega, fc_3_0, hS_3, fu_1, F2, GN, HC⟩
        · exact (by first | omega | (dsimp only; omega))
  · refine rz_Lsub [(2, vi 0), (1, vi 0), (0, .ref x)] [0, 1, 2] rfl ?_
    refine LP (0, 0, h, g) ?_
    try dsimp only
    exact ⟨by omega, hx, hS, hsa, rz_fr.rf, (fun p2 z => absurd z (by omega)), rfl⟩
abbrev rm_Rs_blameAmong : Room := { frames := 38, cells := 0, slots := 0, locals := 1644 }
set_option maxRecDepth 100000 in
set_option maxHeartbeats 4000000 in
theorem c_Rs_blameAmong {l : Launch} {Γ : rz_G} {h : rz_H} {x se al : Nat} {fs : List Value} (hx : h x = some ((30, 0), .inr (7, fs))) (h2 : fs[2]? = some (.ref al)) (h3 : fs[3]? = some (.ref se)) {A : Nat → Int → Nat} {B : Nat → Int → Nat} {S : Nat → Int → Int → Int} {M : Nat → Int → Int} (hAs : AsAt Γ h al A M) (hS : SeAt Γ h se B S) (hw : mWF M) (hr : rkOK M) (hg : gtOK M) (hpr : prH S M) (h10 : ∀ a, 0 ≤ a → a < 4 → M 10 a = 1) {v : Int} (hv : Bt 4 v (fun a => decide ((a : Int) < M 8 0))) : Ct l Γ x_Rs_blameAmong y_Rs_blameAmong rm_Rs_blameAmong [.ref x, vi v] h (pI (fun r h' => Bt 4 r (fun b => blB M b) ∧ (∃ S', SeAt Γ h' se B S') ∧ rz_fr SR h h')) := by
  refine rz_met (by decide) rfl rfl (Nat.le_of_ble_eq_true rfl) (fun K _ => ?_)
  refine rz_Leq [(0, .ref x), (1, vi v)] rfl ?_
  obtain ⟨w2, w5, w6, w8, w9⟩ := M_big hw
  refine rz_iload_n 1 d_Rs_blameAmong_0 rfl rfl ?_
  refine rz_istore_n [(2, vi v), (0, .ref x), (1, vi v)] d_Rs_blameAmong_1 rfl (by decide) rfl ?_
  refine rz_iconst d_Rs_blameAmong_2 ?_
  refine rz_istore_n [(3, vi 0), (2, vi v), (0, .ref x), (1, vi v)] d_Rs_blameAmong_3 rfl (by decide) rfl ?_
  refine rz_loop (α := Nat × Int × (Int → Int) × rz_H × (Nat → Int → Int → Int)) 0 0 4 (fun (i, kept, c, hA, SA) => 4 - i) (fun (i, kept, c, hA, SA) => (i : Int) ≤ M 8 0 ∧ hA x = some ((30, 0), .inr (7, fs)) ∧ SeAt Γ hA se B SA ∧ rz_fr SR h hA ∧ prH SA M ∧ blF M (M 8 0).toNat 0 (M 10) = blF M (M 8 0 - (i : Int)).toNat i c ∧ Bt 4 kept (fun a => decide ((a : Int) < M 8 0) && decide (¬ c a = 0)) ∧ (∀ b, (i : Int) ≤ b → b < 4 → c b = 1)) (fun (i, kept, c, hA, SA) => [(3, vi (i : Int)), (2, vi kept), (0, .ref x), (1, vi v)]) (fun (i, kept, c, hA, SA) => []) (fun (i, kept, c, hA, SA) => hA) (fun y hy ih4 => ?_) (fun LP => ?_)
  · obtain ⟨i, kept, c, hA, SA⟩ := y
    try dsimp only at hy ih4 ⊢
    obtain ⟨hi, fx, hSA, FA, prA, hb, bK, c1⟩ := hy
    refine rz_iload_n 0 d_Rs_blameAmong_4 rfl rfl ?_
    refine rz_aload_n 2 d_Rs_blameAmong_5 rfl rfl ?_
    refine rz_getf f_Rs_25 fx h2 d_Rs_blameAmong_6 ?_
    obtain ⟨fso1, so1⟩ := (hAs.fr FA SRok).1.ob
    refine rz_callV (As := []) (c_Al_size (hAs.fr FA SRok).1) m_Rs_121 so1 rfl rfl rfl rfl (Nat.le_of_ble_eq_true rfl) ⟨by decide, by decide⟩ ⟨by decide, by decide⟩ d_Rs_blameAmong_9 (kE (h := hA) ?_)
    refine rz_Seq [vi (M 8 0), vi (i : Int)] (by rw [Int.tn (by omega)]) ?_
    refine rz_icmp_ge 45 d_Rs_blameAmong_12 (by decide) (by omega) (by omega) (fun c12 => ?_) (fun c12 => ?_)
    · refine rz_iload_n 1 d_Rs_blameAmong_45 rfl rfl ?_
      exact rz_ireturn (st := []) rfl d_Rs_blameAmong_46 ⟨by decide, by decide⟩ ⟨_, rfl, (bK.c (fun a _ => by rw [blB, blC, hb, show (M 8 0 - i).toNat = 0 by omega, blF, Bool.decide_and])), ⟨SA, hSA⟩, FA⟩
    · obtain ⟨sq, xq, rq, eq1, eq2, eq3, b2⟩ := bK.clr (i := (i : Int)) (by decide) (by omega)
      have KB : ∀ a : Nat, ((decide ((a : Int) < M 8 0) && decide (¬ c a = 0)) && decide (a ≠ ((i : Nat) : Int).toNat)) = (decide ((a : Int) < M 8 0) && decide (¬ rz_u c (i : Int) 0 a = 0)) := fun a => by
        by_cases z : a = i
        · rw [z, rz_u_s, decide_eq_false (show ¬ i ≠ ((i : Nat) : Int).toNat by omega)]; simp
        · rw [rz_u_n (by omega), decide_eq_true (show a ≠ ((i : Nat) : Int).toNat by omega), Bool.and_true]
      have KF : ∀ a : Nat, (a : Int) < mu M 10 (rz_u c (i : Int) 0) 8 0 → (fun j : Nat => (decide ((j : Int) < M 8 0) && decide (¬ c j = 0)) && decide (j ≠ ((i : Nat) : Int).toNat)) a = decide (¬ mu M 10 (rz_u c (i : Int) 0) 10 a = 0) := fun a ha => by
        have ha2 : (a : Int) < M 8 0 := ha
        dsimp only
        rw [KB a, decide_eq_true ha2, Bool.true_and, mu_s]
      refine rz_iload_n 1 d_Rs_blameAmong_15 rfl rfl ?_
      refine rz_iconst d_Rs_blameAmong_16 ?_
      refine rz_iload_n 0 d_Rs_blameAmong_17 rfl rfl ?_
      refine rz_ishl sq eq1 d_Rs_blameAmong_18 ?_
      refine rz_iconst d_Rs_blameAmong_19 ?_
      refine rz_ixor xq eq2 d_Rs_blameAmong_20 ?_
      refine rz_iand rq eq3 d_Rs_blameAmong_21 ?_
      refine rz_istore [(4, vi rq), (3, vi (i : Int)), (2, vi kept), (0, .ref x), (1, vi v)] d_Rs_blameAmong_22 (by decide) rfl ?_
      refine rz_aload_n 3 d_Rs_blameAmong_24 rfl rfl ?_
      refine rz_getf f_Rs_32 fx h3 d_Rs_blameAmong_25 ?_
      refine rz_iload 0 d_Rs_blameAmong_28 rfl ?_
      refine rz_callV (As := [vi rq]) (c_Se_finds hSA (M := mu M 10 (rz_u c (i : Int) 0)) hw (rkOK_m hr _) (gtOK_m hg _) (prA.m _) (v := rq) b2 KF) m_Rs_171 hSA.1 rfl rfl rfl rfl (Nat.le_of_ble_eq_true rfl) ⟨by decide, by decide⟩ ⟨by decide, by decide⟩ d_Rs_blameAmong_30 (kI (h := hA) fun r2 h2 q2 => ?_)
      obtain ⟨S2, hS2, K2, e2, -, G2⟩ := q2
      rw [e2]
      have hF2 := FA.tr G2
      have fx2 : h2 x = some ((30, 0), .inr (7, fs)) := G2 _ _ _ fx (by decide)
      refine rz_if_neB 39 d_Rs_blameAmong_33 (by decide) (fun c33 => ?_) (fun c33 => ?_)
      · refine rz_iinc ((i : Int) + 1) 1 [(3, vi ((i : Int) + 1)), (4, vi rq), (2, vi kept), (0, .ref x), (1, vi v)] d_Rs_blameAmong_39 rfl (by first | rfl | omega) (by decide) rfl ?_
        refine rz_goto 4 d_Rs_blameAmong_42 (by decide) ?_
        refine rz_Lsub [(3, vi ((i : Int) + 1)), (2, vi kept), (0, .ref x), (1, vi v)] [0, 2, 3, 4] rfl ?_
        refine ih4 (i + 1, kept, c, h2, S2) ?_ ?_
        · try dsimp only
          exact ⟨by omega, fx2, hS2, hF2, (prA.c K2), (by rw [hb, blF_e _ _ _ (by omega), show ((M 8 0 - i).toNat - 1) = (M 8 0 - ((i + 1 : Nat) : Int)).toNat by omega, blS_c (c1 i (by omega) (by omega)), if_pos (of_decide_eq_true c33)]; rfl), bK, (fun b b0 b1 => c1 b (by omega) b1)⟩
        · exact (by first | omega | (dsimp only; omega))
      · refine rz_iload 0 d_Rs_blameAmong_36 rfl ?_
        refine rz_istore_n [(2, vi rq), (4, vi rq), (3, vi (i : Int)), (0, .ref x), (1, vi v)] d_Rs_blameAmong_38 rfl (by decide) rfl ?_
        refine rz_iinc ((i : Int) + 1) 2 [(3, vi ((i : Int) + 1)), (2, vi rq), (4, vi rq), (0, .ref x), (1, vi v)] d_Rs_blameAmong_39 rfl (by first | rfl | omega) (by decide) rfl ?_
        refine rz_goto 4 d_Rs_blameAmong_42 (by decide) ?_
        refine rz_Lsub [(3, vi ((i : Int) + 1)), (2, vi rq), (0, .ref x), (1, vi v)] [0, 1, 3, 4] rfl ?_
        refine ih4 (i + 1, rq, (rz_u c (i : Int) 0), h2, S2) ?_ ?_
        · try dsimp only
          exact ⟨by omega, fx2, hS2, hF2, (prA.c K2), (by rw [hb, blF_e _ _ _ (by omega), show ((M 8 0 - i).toNat - 1) = (M 8 0 - ((i + 1 : Nat) : Int)).toNat by omega, blS_c (c1 i (by omega) (by omega)), if_neg (of_decide_eq_false c33)]; rfl), (b2.c (fun a _ => KB a)), (fun b b0 b1 => by rw [rz_u_n (by omega)]; exact c1 b (by omega) b1)⟩
        · exact (by first | omega | (dsimp only; omega))
  · refine rz_Lsub [(3, vi 0), (2, vi v), (0, .ref x), (1, vi v)] [0, 1, 2, 3] rfl ?_
    refine LP (0, v, (M 10), h, S) ?_
    try dsimp only
    exact ⟨by omega, hx, hS, rz_fr.rf, hpr, (by rw [show (M 8 0 - ((0 : Nat) : Int)).toNat = (M 8 0).toNat by omega]; rfl), (hv.c (fun a ha => by rw [h10 a (by omega) (by omega)]; simp)), (fun b b0 b1 => h10 b (by omega) b1)⟩

/-! the class: release -/
def plC' (M : Nat → Int → Int) (p : Int) (R Q : Int → Int) : Int → Bool := fun s => decide (0 < cvF (vRt M (6 + (4 * p + s))) (vPt M (6 + (4 * p + s))) R Q 12 0)
/-- while the order makes room: those behind i are moved -/
def shF (F : Int → Int) (n i : Int) : Int → Int := fun d => if i < d ∧ d ≤ n then F (d - 1) else F d
theorem shF_s {F g : Int → Int} {n i : Int} (hi : 0 < i ∧ i ≤ n) (hn : n < 4) (hg : ∀ d, 0 ≤ d → d < 4 → g d = shF F n i d) : ∀ d, 0 ≤ d → d < 4 → rz_u g i (g (i - 1)) d = shF F n (i - 1) d := fun d a b => by
  by_cases z : d = i
  · rw [z, rz_u_s, hg (i - 1) (by omega) (by omega), shF, shF, if_neg (by omega), if_pos (by omega)]
  · rw [rz_u_n z, hg d a b, shF, shF]
    by_cases y : i < d ∧ d ≤ n
    · rw [if_pos y, if_pos (by omega)]
    · rw [if_neg y, if_neg (by omega)]
theorem shF_e {F g : Int → Int} {n pl : Int} (hg : ∀ d, 0 ≤ d → d < 4 → g d = shF F n pl d) : ∀ d, 0 ≤ d → d < 4 → rz_u g pl n d = insF F pl n d := fun d a b => by
  by_cases z : d = pl
  · rw [z, rz_u_s, insF, if_neg (by omega), if_pos rfl]
  · rw [rz_u_n z, hg d a b, shF, insF]
    by_cases y : d < pl
    · rw [if_pos y, if_neg (by omega)]
    · rw [if_neg y, if_neg z]
      by_cases w : d ≤ n
      · rw [if_pos w, if_pos (by omega)]
      · rw [if_neg w, if_neg (by omega)]
abbrev rm_Pl_add : Room := { frames := 6, cells := 1, slots := 10, locals := 150 }
set_option maxRecDepth 100000 in
set_option maxHeartbeats 4000000 in
theorem c_Pl_addF {l : Launch} {Γ : rz_G} {h : rz_H} {A : Nat → Int → Nat} {M : Nat → Int → Int} {F : Int → Int} {p : Int} (hp : PlAt Γ h A M F p) (hw : mWF M) (hp6 : 0 ≤ p ∧ p < 6) (h4 : M 2 p = 4) {q v nl kq : Nat} {R P : Int → Int} (hq : h q = some ((38, kq), .inr (8, [.ref v, .ref nl, .null, vi 0]))) (hv : VeAt Γ h v R P) : Ct l Γ x_Pl_add y_Pl_add rm_Pl_add [.ref (A 0 p), .ref q] h (pE (-2) h) := by
  refine rz_met (by decide) rfl rfl (Nat.le_of_ble_eq_true rfl) (fun K _ => ?_)
  refine rz_Leq [(0, .ref (A 0 p)), (1, .ref q)] rfl ?_
  have w2 := (M_big hw).1 p hp6.1 hp6.2
  refine rz_aload_n 0 d_Pl_add_0 rfl rfl ?_
  refine rz_getf f_Pl_12 hp.ob rfl d_Pl_add_1 ?_
  obtain ⟨fso1, so1⟩ := hp.rl.ob
  refine rz_callV (As := []) (c_Al_size hp.rl) m_Pl_22 so1 rfl rfl rfl rfl (Nat.le_of_ble_eq_true rfl) ⟨by decide, by decide⟩ ⟨by decide, by decide⟩ d_Pl_add_4 (kE (h := h) ?_)
  refine rz_Seq [vi (M 2 p)] (by rw [Int.tn (by omega)]) ?_
  refine rz_istore_n [(2, vi (M 2 p)), (0, .ref (A 0 p)), (1, .ref q)] d_Pl_add_7 rfl (by decide) rfl ?_
  refine rz_iload_n 0 d_Pl_add_8 rfl rfl ?_
  refine rz_iconst d_Pl_add_9 ?_
  refine rz_icmp_lt 16 d_Pl_add_10 (by decide) (by omega) ⟨by decide, by decide⟩ (fun c10 => absurd c10 (by omega)) (fun c10 => ?_)
  refine rz_bipush (v := (-2)) d_Pl_add_13 (by decide) ?_
  exact rz_ireturn (st := []) rfl d_Pl_add_15 ⟨by decide, by decide⟩ ⟨_, rfl, rfl, rfl⟩
set_option maxRecDepth 100000 in
set_option maxHeartbeats 4000000 in
theorem c_Pl_addN {l : Launch} {Γ : rz_G} {h : rz_H} {A : Nat → Int → Nat} {M : Nat → Int → Int} {F : Int → Int} {p : Int} (hp : PlAt Γ h A M F p) (hw : mWF M) (hp6 : 0 ≤ p ∧ p < 6) (h4 : M 2 p < 4) {q v nl kq : Nat} {R P : Int → Int} (hq : h q = some ((38, kq), .inr (8, [.ref v, .ref nl, .null, vi 0]))) (hv : VeAt Γ h v R P) : Ct l Γ x_Pl_add y_Pl_add rm_Pl_add [.ref (A 0 p), .ref q] h (pI (fun r h' => r = M 2 p ∧ AlAt Γ h' (A 1 p) p.toNat ((M 2 p).toNat + 1) (rz_u (fun r => some (A 3 (4 * p + r))) ((M 2 p).toNat : Nat) (some q)) ∧ (∃ g, h' (A 2 p) = some ((37, p.toNat), aI Γ 0 4 g) ∧ ∀ d, 0 ≤ d → d < 4 → g d = insF F (cI (plC' M p R P) (M 2 p).toNat 0) (M 2 p) d) ∧ rz_ft [(35, p.toNat), (36, p.toNat), (37, p.toNat)] h h')) := by
  refine rz_met (by decide) rfl rfl (Nat.le_of_ble_eq_true rfl) (fun K _ => ?_)
  refine rz_Leq [(0, .ref (A 0 p)), (1, .ref q)] rfl ?_
  have w2 := (M_big hw).1 p hp6.1 hp6.2
  obtain ⟨gf, hfa, hgf⟩ := hp.fa
  refine rz_aload_n 0 d_Pl_add_0 rfl rfl ?_
  refine rz_getf f_Pl_12 hp.ob rfl d_Pl_add_1 ?_
  obtain ⟨fso1, so1⟩ := hp.rl.ob
  refine rz_callV (As := []) (c_Al_size hp.rl) m_Pl_22 so1 rfl rfl rfl rfl (Nat.le_of_ble_eq_true rfl) ⟨by decide, by decide⟩ ⟨by decide, by decide⟩ d_Pl_add_4 (kE (h := h) ?_)
  refine rz_Seq [vi (M 2 p)] (by rw [Int.tn (by omega)]) ?_
  refine rz_istore_n [(2, vi (M 2 p)), (0, .ref (A 0 p)), (1, .ref q)] d_Pl_add_7 rfl (by decide) rfl ?_
  refine rz_iload_n 0 d_Pl_add_8 rfl rfl ?_
  refine rz_iconst d_Pl_add_9 ?_
  refine rz_icmp_lt 16 d_Pl_add_10 (by decide) (by omega) ⟨by decide, by decide⟩ (fun c10 => ?_) (fun c10 => absurd c10 (by omega))
  refine rz_iconst d_Pl_add_16 ?_
  refine rz_istore_n [(3, vi 0), (2, vi (M 2 p)), (0, .ref (A 0 p)), (1, .ref q)] d_Pl_add_17 rfl (by decide) rfl ?_
  refine rz_iconst d_Pl_add_18 ?_
  refine rz_istore [(4, vi 0), (3, vi 0), (2, vi (M 2 p)), (0, .ref (A 0 p)), (1, .ref q)] d_Pl_add_19 (by decide) rfl ?_
  refine rz_loop (α := Int × Int) 0 0 21 (fun (i, c) => (M 2 p - i).toNat) (fun (i, c) => 0 ≤ i ∧ i ≤ M 2 p ∧ c = cI (plC' M p R P) i.toNat 0) (fun (i, c) => [(4, vi i), (3, vi c), (0, .ref (A 0 p)), (1, .ref q), (2, vi (M 2 p))]) (fun (i, c) => []) (fun (i, c) => h) (fun y hy ih21 => ?_) (fun LP => ?_)
  · obtain ⟨i, c⟩ := y
    try dsimp only at hy ih21 ⊢
    obtain ⟨hi0, hi1, hc⟩ := hy
    refine rz_iload 0 d_Pl_add_21 rfl ?_
    refine rz_iload_n 4 d_Pl_add_23 rfl rfl ?_
    refine rz_icmp_ge 61 d_Pl_add_24 (by decide) (by omega) (by omega) (fun c24 => ?_) (fun c24 => ?_)
    · have cin := cI_in (plC' M p R P) (M 2 p).toNat 0
      obtain ⟨pl, epl⟩ : ∃ z, z = c := ⟨_, rfl⟩
      refine rz_Leq [(4, vi i), (3, vi pl), (0, .ref (A 0 p)), (1, .ref q), (2, vi (M 2 p))] (by rw [epl]) ?_
      have hpl : pl = cI (plC' M p R P) (M 2 p).toNat 0 := by rw [epl, hc, show i = M 2 p by omega]
      rw [← hpl] at cin ⊢
      refine rz_iload_n 4 d_Pl_add_61 rfl rfl ?_
      refine rz_istore [(4, vi (M 2 p)), (3, vi pl), (0, .ref (A 0 p)), (1, .ref q), (2, vi (M 2 p))] d_Pl_add_62 (by decide) rfl ?_
      refine rz_loop (α := Int × rz_H × (Int → Int)) 0 0 64 (fun (i, hA, gA) => (i - pl).toNat) (fun (i, hA, gA) => pl ≤ i ∧ i ≤ M 2 p ∧ hA (A 0 p) = some ((34, p.toNat), .inr (6, [.ref (A 1 p), .ref (A 2 p)])) ∧ hA (A 2 p) = some ((37, p.toNat), aI Γ 0 4 gA) ∧ AlAt Γ hA (A 1 p) p.toNat (M 2 p).toNat (fun r => some (A 3 (4 * p + r))) ∧ hA q = some ((38, kq), .inr (8, [.ref v, .ref nl, .null, vi 0])) ∧ rz_ft [(35, p.toNat), (36, p.toNat), (37, p.toNat)] h hA ∧ (∀ d, 0 ≤ d → d < 4 → gA d = shF F (M 2 p) i d)) (fun (i, hA, gA) => [(4, vi i), (0, .ref (A 0 p)), (1, .ref q), (2, vi (M 2 p)), (3, vi pl)]) (fun (i, hA, gA) => []) (fun (i, hA, gA) => hA) (fun y hy ih64 => ?_) (fun LP => ?_)
      · obtain ⟨i, hA, gA⟩ := y
        try dsimp only at hy ih64 ⊢
        obtain ⟨hi0, hi1, fo, ff, fl, fq, FA, sA⟩ := hy
        refine rz_iload 0 d_Pl_add_64 rfl ?_
        refine rz_iload_n 4 d_Pl_add_66 rfl rfl ?_
        refine rz_icmp_le 92 d_Pl_add_67 (by decide) (by omega) (by omega) (fun c67 => ?_) (fun c67 => ?_)
        · refine rz_aload_n 1 d_Pl_add_92 rfl rfl ?_
          refine rz_getf f_Pl_18 fo rfl d_Pl_add_93 ?_
          refine rz_iload_n 4 d_Pl_add_96 rfl rfl ?_
          refine rz_iload_n 3 d_Pl_add_97 rfl rfl ?_
          refine rz_iastore ff (show (37 : Nat) ≠ 0 by decide) (by omega) d_Pl_add_98 ?_
          refine rz_nm fun h2 eh2 => ?_
          have g2 : rz_fr [37] hA h2 := by rw [eh2]; exact rz_fr.one ff
          have F3 : rz_ft [(35, p.toNat), (36, p.toNat), (37, p.toNat)] h h2 := by rw [eh2]; exact FA.up ff (by simp)
          have fc_4_0 : h2 (A 0 p) = some ((34, p.toNat), .inr (6, [.ref (A 1 p), .ref (A 2 p)])) := g2 _ _ _ fo (show 34 ∉ ([37] : List Nat) by decide)
          have fc_4_1 : h2 q = some ((38, kq), .inr (8, [.ref v, .ref nl, .null, vi 0])) := g2 _ _ _ fq (show 38 ∉ ([37] : List Nat) by decide)
          have fl_4 : AlAt Γ h2 (A 1 p) p.toNat (M 2 p).toNat (fun r => some (A 3 (4 * p + r))) := AlAt.f5 fl g2 (by decide)
          have fu_2 : h2 (A 2 p) = some ((37, p.toNat), aI Γ 0 4 (rz_u gA pl (M 2 p))) := by rw [eh2]; exact rz_up_s _ _ _
          refine rz_aload_n 1 d_Pl_add_99 rfl rfl ?_
          refine rz_getf f_Pl_12 fc_4_0 rfl d_Pl_add_100 ?_
          refine rz_aload_n 2 d_Pl_add_103 rfl rfl ?_
          obtain ⟨fso6, so6⟩ := fl_4.ob
          refine rz_callV (As := [.ref q]) (c_Al_add fl_4 (by omega) fc_4_1 (show (38 : Nat) ≠ 0 by decide) (show (38 : Nat) ≠ 35 ∧ (38 : Nat) ≠ 36 by decide) (ci := 8) rfl (by decide)) m_Pl_42 so6 rfl rfl rfl rfl (Nat.le_of_ble_eq_true rfl) ⟨by decide, by decide⟩ ⟨by decide, by decide⟩ d_Pl_add_104 (kI (h := h2) fun r5 h5 q5 => ?_)
          obtain ⟨er5, qa5, G5⟩ := q5
          rw [er5]
          refine rz_pop d_Pl_add_107 rfl ?_
          refine rz_iload_n 3 d_Pl_add_108 rfl rfl ?_
          exact rz_ireturn (st := []) rfl d_Pl_add_109 ⟨by decide, by decide⟩ ⟨_, rfl, rfl, qa5, ⟨_, G5 _ _ _ fu_2 (by simp), shF_e (fun d a b => by rw [sA d a b, show i = pl by omega])⟩, F3.tr (G5.mono (by simp))⟩
        · refine rz_aload_n 1 d_Pl_add_70 rfl rfl ?_
          refine rz_getf f_Pl_18 fo rfl d_Pl_add_71 ?_
          refine rz_iload 0 d_Pl_add_74 rfl ?_
          refine rz_aload_n 1 d_Pl_add_76 rfl rfl ?_
          refine rz_getf f_Pl_18 fo rfl d_Pl_add_77 ?_
          refine rz_iload 0 d_Pl_add_80 rfl ?_
          refine rz_iconst d_Pl_add_82 ?_
          refine rz_isub d_Pl_add_83 ?_
          refine rz_iaload ff (show (37 : Nat) ≠ 0 by decide) (by omega) d_Pl_add_84 ?_
          refine rz_iastore ff (show (37 : Nat) ≠ 0 by decide) (by omega) d_Pl_add_85 ?_
          refine rz_nm fun h7 eh7 => ?_
          have g7 : rz_fr [37] hA h7 := by rw [eh7]; exact rz_fr.one ff
          have F8 : rz_ft [(35, p.toNat), (36, p.toNat), (37, p.toNat)] h h7 := by rw [eh7]; exact FA.up ff (by simp)
          have fc_9_0 : h7 (A 0 p) = some ((34, p.toNat), .inr (6, [.ref (A 1 p), .ref (A 2 p)])) := g7 _ _ _ fo (show 34 ∉ ([37] : List Nat) by decide)
          have fc_9_1 : h7 q = some ((38, kq), .inr (8, [.ref v, .ref nl, .null, vi 0])) := g7 _ _ _ fq (show 38 ∉ ([37] : List Nat) by decide)
          have fl_9 : AlAt Γ h7 (A 1 p) p.toNat (M 2 p).toNat (fun r => some (A 3 (4 * p + r))) := AlAt.f5 fl g7 (by decide)
          have fu_7 : h7 (A 2 p) = some ((37, p.toNat), aI Γ 0 4 (rz_u gA i (gA (i - 1)))) := by rw [eh7]; exact rz_up_s _ _ _
          refine rz_iinc (i - 1) 0 [(4, vi (i - 1)), (0, .ref (A 0 p)), (1, .ref q), (2, vi (M 2 p)), (3, vi pl)] d_Pl_add_86 rfl (by first | rfl | omega) (by decide) rfl ?_
          refine rz_goto 64 d_Pl_add_89 (by decide) ?_
          refine rz_Lsub [(4, vi (i - 1)), (0, .ref (A 0 p)), (1, .ref q), (2, vi (M 2 p)), (3, vi pl)] [0, 1, 2, 3, 4] rfl ?_
          refine ih64 (i - 1, h7, (rz_u gA i (gA (i - 1)))) ?_ ?_
          · try dsimp only
            exact ⟨by omega, by omega, fc_9_0, fu_7, fl_9, fc_9_1, F8, (shF_s (by omega) (by omega) sA)⟩
          · exact (by first | omega | (dsimp only; omega))
      · refine rz_Lsub [(4, vi (M 2 p)), (0, .ref (A 0 p)), (1, .ref q), (2, vi (M 2 p)), (3, vi pl)] [0, 2, 3, 4, 1] rfl ?_
        refine LP (M 2 p, h, gf) ?_
        try dsimp only
        exact ⟨(by omega), by omega, hp.ob, hfa, hp.rl, hq, rz_ft.rf, (fun d a b => by rw [hgf d a b, shF, if_neg (by omega)])⟩
    · refine rz_aload_n 2 d_Pl_add_27 rfl rfl ?_
      refine rz_getf f_Pl_12 hp.ob rfl d_Pl_add_28 ?_
      refine rz_iload 0 d_Pl_add_31 rfl ?_
      obtain ⟨fso10, so10⟩ := hp.rl.ob
      refine rz_callV (As := [vi i]) (c_Al_get hp.rl (i := i) (y := (A 3 (4 * p + i))) (by omega) (by omega) rfl) m_Pl_26 so10 rfl rfl rfl rfl (Nat.le_of_ble_eq_true rfl) ⟨by decide, by decide⟩ ⟨by decide, by decide⟩ d_Pl_add_33 (kR (h := h) fun b11 h11 q11 => ?_)
      rw [q11.1, q11.2]
      refine rz_cast (hp.re i (by omega) (by omega)).ob rfl cl_Pl_30 d_Pl_add_36 ?_
      refine rz_getf f_Pl_32 (hp.re i (by omega) (by omega)).ob rfl d_Pl_add_39 ?_
      refine rz_aload_n 3 d_Pl_add_42 rfl rfl ?_
      refine rz_getf f_Pl_32 hq rfl d_Pl_add_43 ?_
      obtain ⟨fso12, so12⟩ := (hp.re i (by omega) (by omega)).ve.ob
      refine rz_callV (As := [.ref v]) (c_Ve_comparedTo (hp.re i (by omega) (by omega)).ve hv) m_Pl_36 so12 rfl rfl rfl rfl (Nat.le_of_ble_eq_true rfl) ⟨by decide, by decide⟩ ⟨by decide, by decide⟩ d_Pl_add_46 (kE (h := h) ?_)
      have cb := cvF_in (R := vRt M (6 + (4 * p + i))) (P := vPt M (6 + (4 * p + i))) (R' := R) (P' := P) 12 0
      refine rz_if_le 55 d_Pl_add_49 (by decide) (by omega) (fun c49 => ?_) (fun c49 => ?_)
      · refine rz_iinc (i + 1) 0 [(4, vi (i + 1)), (3, vi c), (0, .ref (A 0 p)), (1, .ref q), (2, vi (M 2 p))] d_Pl_add_55 rfl (by first | rfl | omega) (by decide) rfl ?_
        refine rz_goto 21 d_Pl_add_58 (by decide) ?_
        refine rz_Lsub [(4, vi (i + 1)), (3, vi c), (0, .ref (A 0 p)), (1, .ref q), (2, vi (M 2 p))] [0, 1, 2, 3, 4] rfl ?_
        refine ih21 (i + 1, c) ?_ ?_
        · try dsimp only
          exact ⟨by omega, by omega, (by rw [show (i + 1).toNat = i.toNat + 1 by omega, cI_last, ← hc, show (0 : Int) + (i.toNat : Int) = i by omega, if_neg (by rw [show plC' M p R P i = false from decide_eq_false (by omega)]; decide)]; omega)⟩
        · exact (by first | omega | (dsimp only; omega))
      · refine rz_iinc (c + 1) 1 [(3, vi (c + 1)), (4, vi i), (0, .ref (A 0 p)), (1, .ref q), (2, vi (M 2 p))] d_Pl_add_52 rfl (by first | rfl | omega) (by decide) rfl ?_
        refine rz_iinc (i + 1) 1 [(4, vi (i + 1)), (3, vi (c + 1)), (0, .ref (A 0 p)), (1, .ref q), (2, vi (M 2 p))] d_Pl_add_55 rfl (by first | rfl | omega) (by decide) rfl ?_
        refine rz_goto 21 d_Pl_add_58 (by decide) ?_
        refine rz_Lsub [(4, vi (i + 1)), (3, vi (c + 1)), (0, .ref (A 0 p)), (1, .ref q), (2, vi (M 2 p))] [0, 1, 2, 3, 4] rfl ?_
        refine ih21 (i + 1, c + 1) ?_ ?_
        · try dsimp only
          exact ⟨by omega, by omega, (by rw [show (i + 1).toNat = i.toNat + 1 by omega, cI_last, ← hc, show (0 : Int) + (i.toNat : Int) = i by omega, if_pos (show plC' M p R P i = true from decide_eq_true (by omega))])⟩
        · exact (by first | omega | (dsimp only; omega))
  · refine rz_Lsub [(4, vi 0), (3, vi 0), (0, .ref (A 0 p)), (1, .ref q), (2, vi (M 2 p))] [0, 1, 3, 4, 2] rfl ?_
    refine LP (0, 0) ?_
    try dsimp only
    exact ⟨by omega, by omega, rfl⟩
theorem PsAt.rl1 {Γ : rz_G} {h h' : rz_H} {pa : Nat} {A A' : Nat → Int → Nat} {M M' : Nat → Int → Int} {F : Int → Int → Int} {F' : Int → Int} {p0 : Int} (hp : PsAt Γ h pa A M F) (hw : mWF M) (h0 : 0 ≤ p0 ∧ p0 ≤ 5) (hf : rz_ft [(35, p0.toNat), (36, p0.toNat), (37, p0.toNat)] h h') (hn : PlAt Γ h' A' M' F' p0) (ea : ∀ c i, c < 3 → A' c i = A c i) (e2 : ∀ q, q ≠ p0 → M' 2 q = M 2 q) (eo : ∀ q r, 0 ≤ q → q < 6 → q ≠ p0 → 0 ≤ r → r < M 2 q → (∀ c, c ∈ [3, 4, 5, 6] → A' c (4 * q + r) = A c (4 * q + r)) ∧ (∀ j, 0 ≤ j → j < 3 → A' 7 (3 * (4 * q + r) + j) = A 7 (3 * (4 * q + r) + j) ∧ A' 8 (3 * (4 * q + r) + j) = A 8 (3 * (4 * q + r) + j)) ∧ txE M M' (6 + (4 * q + r))) (en : ∀ c, c ∈ [3, 4, 5, 6, 7] → M' c = M c) (ht : ∀ t, 30 ≤ t → t < 126 → txE M M' t) : PsAt Γ h' pa A' M' (fun q => if q = p0 then F' else F q) := by
  obtain ⟨w2, w5, w6, w8, w9⟩ := M_big hw
  obtain ⟨⟨f, a, b⟩, c⟩ := hp
  refine ⟨⟨f, hf _ _ _ a (by simp), fun p x y => by rw [ea 0 p (by decide)]; exact b p x y⟩, fun p x y => ?_⟩
  by_cases z : p = p0
  · rw [z]; show PlAt Γ h' A' M' (if p0 = p0 then F' else F p0) p0; rw [if_pos rfl]; exact hn
  · show PlAt Γ h' A' M' (if p = p0 then F' else F p) p
    rw [if_neg z]
    have wq := w2 p x y
    refine ((c p x y).ft hf (by simp) (by simp; omega) (fun r _ _ => by simp; omega)).m (fun c hc => ea c p (by revert hc; simp; omega)) (e2 p z) (fun r r0 r1 => (eo p r x y z r0 r1).1 3 (by decide)) (fun r r0 r1 => ?_)
    have w5k := w5 (4 * p + r) (by omega) (by omega)
    obtain ⟨o1, o2, o3⟩ := eo p r x y z r0 r1
    exact (((c p x y).re r r0 r1).ft hf (by simp) (by simp; omega)).m o1 (by rw [en 3 (by decide)]) (by rw [en 4 (by decide)]) (by rw [en 5 (by decide)]) (fun j j0 j1 => ⟨(o2 j j0 (by omega)).1, (o2 j j0 (by omega)).2, by rw [en 6 (by decide)], by rw [en 7 (by decide)], ht _ (by omega) (by omega)⟩) o3 (fun _ => ht _ (by omega) (by omega))
theorem RsAt.rl {Γ : rz_G} {h h' : rz_H} {x : Nat} {A : Nat → Int → Nat} {B : Nat → Int → Nat} {S : Nat → Int → Int → Int} {M : Nat → Int → Int} {F : Int → Int → Int} {p : Int} {q v nl : Nat} (hU : RsAt Γ h x A B S (mUse M) F) (hBg : Big M F) (h0 : 0 ≤ p ∧ p ≤ 5) (h4 : M 2 p < 4) (hver : ver (mAt M 0) 0 (M 1 0) = true) (hq : h q = some ((38, (4 * p + M 2 p).toNat), .inr (8, [.ref v, .ref nl, .null, vi 0]))) (hv : VeAt Γ h v (vRt M 0) (vPt M 0)) (hnl : AlAt Γ h nl (10 + (4 * p + M 2 p).toNat) 0 (fun _ => none)) (hl : AlAt Γ h' (A 1 p) p.toNat ((M 2 p).toNat + 1) (rz_u (fun r => some (A 3 (4 * p + r))) ((M 2 p).toNat : Nat) (some q))) (hg : ∃ g, h' (A 2 p) = some ((37, p.toNat), aI Γ 0 4 g) ∧ ∀ d, 0 ≤ d → d < 4 → g d = insF (F p) (cI (plC' M p (vRt M 0) (vPt M 0)) (M 2 p).toNat 0) (M 2 p) d) (hf : rz_ft [(35, p.toNat), (36, p.toNat), (37, p.toNat)] h h') : RsAt Γ h' x (au (au (au A 3 (4 * p + M 2 p) q) 4 (4 * p + M 2 p) v) 5 (4 * p + M 2 p) nl) B S (mUse (mu (mKeep M (6 + 4 * p + M 2 p)) 2 (rz_u (M 2) p (M 2 p + 1)))) (fun y => if y = p then insF (F p) (plM M p) (M 2 p) else F y) := by
  have hw := hBg.wf
  have hw1 := use_wf hw
  obtain ⟨w2, w5, w6, w8, w9⟩ := M_big hw
  have w2p := w2 p h0.1 (by omega)
  have w5p := w5 (4 * p + M 2 p) (by omega) (by omega)
  have na := hBg.na (4 * p + M 2 p) (by omega) (by omega) (by rw [show (4 * p + M 2 p) / 4 = p by omega, show (4 * p + M 2 p) % 4 = M 2 p by omega]; exact Int.le_refl _)
  have epl : plM M p = cI (plC' M p (vRt M 0) (vPt M 0)) (M 2 p).toNat 0 := by
    unfold plM
    refine cI_c _ _ (fun j j0 j1 => ?_)
    unfold plC'
    rw [show 6 + 4 * p + j = 6 + (4 * p + j) by omega, ord_t (vk hBg.val ⟨h0, j0, by omega⟩) hver]
  generalize hs : M 2 p = s at *
  generalize hk : 4 * p + s = k at *
  rw [show 6 + 4 * p + s = 6 + k by omega]
  generalize hM : mUse (mu (mKeep M (6 + k)) 2 (rz_u (M 2) p (s + 1))) = M2
  generalize hA : au (au (au A 3 k q) 4 k v) 5 k nl = A2
  have an : ∀ c j, ¬ ((c = 3 ∨ c = 4 ∨ c = 5) ∧ j = k) → A2 c j = A c j := fun c j hc => by rw [← hA, au_n (by omega), au_n (by omega), au_n (by omega)]
  have a3 : A2 3 k = q := by rw [← hA, au_n (by omega), au_n (by omega), au_s]
  have a4 : A2 4 k = v := by rw [← hA, au_n (by omega), au_s]
  have a5 : A2 5 k = nl := by rw [← hA, au_s]
  have e2 : M2 2 = rz_u (M 2) p (s + 1) := by rw [← hM]; rfl
  have en : ∀ c, c ∉ [0, 1, 2] → M2 c = mUse M c := fun c hc => by
    simp only [List.mem_cons, List.not_mem_nil, or_false, not_or] at hc
    rw [← hM, use_n hc.2.1, mu_n hc.2.2, keep_n hc.1 hc.2.1, use_n hc.2.1]
  have ht : ∀ t, 1 ≤ t → t < 126 → t ≠ 6 + k → txE (mUse M) M2 t := fun t t0 t1 tn => by
    rw [← hM]
    exact ((use_t M (by omega)).sy.tr (txE_n (M' := mu (mKeep M (6 + k)) 2 (rz_u (M 2) p (s + 1))) (keep_t hw (by omega) tn) rfl rfl)).tr (use_t _ (by omega))
  have ti : mAt M2 (6 + k) = mAt M 0 ∧ M2 1 (6 + k) = M 1 0 := by
    have u := use_t (mu (mKeep M (6 + k)) 2 (rz_u (M 2) p (s + 1))) (t := 6 + k) (by omega)
    rw [hM] at u
    have ks := keep_s hw (6 + k)
    exact ⟨u.1.trans ks.1, u.2.trans ks.2⟩
  have hl2 := hf.lo
  have hpp := hU.2.2.1.2 p h0.1 (by omega)
  have new : RlAt Γ h' A2 M2 k := by
    have m3 : M2 3 k = 0 := by rw [en 3 (by decide)]; exact na.1
    have m4 : M2 4 k = 0 := by rw [en 4 (by decide)]; exact na.2.1
    have m5 : M2 5 k = 0 := by rw [en 5 (by decide)]; exact na.2.2
    refine ⟨?_, ?_, ?_, fun z => absurd m4 z, fun j j0 j1 => by rw [m5] at j1; omega⟩
    · rw [a3, a4, a5, m3, m4, if_pos rfl]; exact hl2 _ _ _ hq (by simp)
    · rw [a4]
      have r1 : vRt M2 (6 + k) = vRt M 0 := by unfold vRt; rw [ti.1, ti.2]
      have r2 : vPt M2 (6 + k) = vPt M 0 := by unfold vPt; rw [ti.1, ti.2]
      rw [r1, r2]; exact hv.fr hl2 (by simp)
    · rw [a5, m5]; exact (hnl.ft hf (by simp; omega) (by simp; omega) (by simp)).e0
  refine hU.ftx hw1 hf (by simp; omega) (fun c i hc => an c i (by omega)) (fun c hc => en c (by revert hc; simp; omega)) ?_ ?_ (fun t a b => ht t a (by omega) (by omega)) ?_
  · rw [← hM, mUse, mu_s, rz_u_s, mUse, mu_s, rz_u_s]
  · funext j; unfold mAt; rw [show M2 1 0 = 0 by rw [← hM, mUse, mu_s, rz_u_s], show mUse M 1 0 = 0 by rw [mUse, mu_s, rz_u_s], if_neg (by omega), if_neg (by omega)]
  · refine hU.2.2.1.rl1 (A' := A2) (M' := M2) hw1 h0 hf ?_ (fun c i hc => an c i (by omega)) (fun y yn => by rw [e2, rz_u_n yn]; rfl) (fun y r y0 y1 yn r0 r1 => ?_) (fun c hc => en c (by revert hc; simp; omega)) (fun t a b => ht t (by omega) b (by omega))
    · refine ⟨?_, ?_, ?_, fun r r0 r1 => ?_⟩
      · rw [an 0 p (by omega), an 1 p (by omega), an 2 p (by omega)]; exact hf _ _ _ hpp.ob (by simp)
      · rw [an 1 p (by omega), e2, rz_u_s, show (s + 1).toNat = s.toNat + 1 by omega]
        refine hl.c (fun j j0 j1 => ?_)
        by_cases z : j = s
        · rw [z, hk, a3, Int.tn w2p.1, rz_u_s]
        · rw [an 3 _ (by omega), rz_u_n (by omega)]
      · rw [an 2 p (by omega)]
        obtain ⟨g, g1, g2⟩ := hg
        exact ⟨g, g1, fun d d0 d1 => by rw [epl]; exact g2 d d0 d1⟩
      · rw [e2, rz_u_s] at r1
        by_cases z : r = s
        · rw [z, hk]; exact new
        · have w5k := w5 (4 * p + r) (by omega) (by omega)
          have hre := hpp.re r r0 (show r < mUse M 2 p by rw [show mUse M 2 p = M 2 p from rfl, hs]; omega)
          exact (hre.ft hf (by simp) (by simp; omega)).m (fun c hc => an c _ (by omega)) (by rw [en 3 (by decide)]) (by rw [en 4 (by decide)]) (by rw [en 5 (by decide)]) (fun j j0 j1 => ⟨an 7 _ (by omega), an 8 _ (by omega), by rw [en 6 (by decide)], by rw [en 7 (by decide)], ht _ (by omega) (by have : j < M 5 (4 * p + r) := j1; omega) (by omega)⟩) (ht _ (by omega) (by omega) (by omega)) (fun _ => ht _ (by omega) (by omega) (by omega))
    · have wy := w2 y y0 y1
      have r1' : r < M 2 y := r1
      exact ⟨fun c hc => an c _ (by omega), fun j j0 j1 => ⟨an 7 _ (by omega), an 8 _ (by omega)⟩, ht _ (by omega) (by omega) (by omega)⟩
theorem hv_tw {M : Nat → Int → Int} (hv : mVal M) (h0 : ver (mAt M 0) 0 (M 1 0) = true) {p : Int} (hp : 0 ≤ p ∧ p ≤ 5) : ∀ (n : Nat) (r : Int), 0 ≤ r → r + n ≤ M 2 p → hvF M p (vRt M 0) (vPt M 0) n r = twF M p n r
  | 0, _, _, _ => rfl
  | n + 1, r, r0, r1 => by
    rw [hvF, twF, hv_tw hv h0 hp n (r + 1) (by omega) (by omega), show 6 + 4 * p + r = 6 + (4 * p + r) by omega, ord_t (vk hv ⟨hp, r0, by omega⟩) h0]
theorem rel_1 {M : Nat → Int → Int} {p : Int} (h : mIn p 0 5 = false) : sp_release M p = (-1, M) := by rw [sp_release, if_neg (by rw [h]; decide)]
theorem rel_3 {M : Nat → Int → Int} {p : Int} (h : mIn p 0 5 = true) (hv : ver (mAt M 0) 0 (M 1 0) = false) : sp_release M p = (-3, mUse M) := by rw [sp_release, if_pos h, if_neg (by rw [hv]; decide)]
theorem rel_5 {M : Nat → Int → Int} {p : Int} (h : mIn p 0 5 = true) (hv : ver (mAt M 0) 0 (M 1 0) = true) (ht : tw M p = true) : sp_release M p = (-5, mUse M) := by rw [sp_release, if_pos h, if_pos hv, if_pos ht]
theorem rel_2 {M : Nat → Int → Int} {p : Int} (h : mIn p 0 5 = true) (hv : ver (mAt M 0) 0 (M 1 0) = true) (ht : tw M p = false) (h4 : M 2 p = 4) : sp_release M p = (-2, mUse M) := by rw [sp_release, if_pos h, if_pos hv, if_neg (by rw [ht]; decide), if_pos h4]
theorem rel_0 {M : Nat → Int → Int} {p : Int} (h : mIn p 0 5 = true) (hv : ver (mAt M 0) 0 (M 1 0) = true) (ht : tw M p = false) (h4 : ¬ M 2 p = 4) : sp_release M p = (M 2 p, mUse (mu (mKeep M (6 + 4 * p + M 2 p)) 2 (rz_u (M 2) p (M 2 p + 1)))) := by rw [sp_release, if_pos h, if_pos hv, if_neg (by rw [ht]; decide), if_neg h4]
theorem rlF_n {M : Nat → Int → Int} {F : Int → Int → Int} {p r : Int} {M' : Nat → Int → Int} (h : sp_release M p = (r, M')) (hr : r < 0) : rlF M F p = F := by unfold rlF; rw [h]; exact if_pos hr
theorem rlF_y {M : Nat → Int → Int} {F : Int → Int → Int} {p r : Int} {M' : Nat → Int → Int} (h : sp_release M p = (r, M')) (hr : ¬ r < 0) : rlF M F p = fun q => if q = p then insF (F p) (plM M p) (M 2 p) else F q := by unfold rlF; rw [h]; exact if_neg hr
abbrev rm_Rs_release : Room := { frames := 8, cells := 33, slots := 571, locals := 201 }
set_option maxRecDepth 100000 in
set_option maxHeartbeats 4000000 in
theorem c_Rs_release {l : Launch} {Γ : rz_G} {h : rz_H} {x : Nat} {A : Nat → Int → Nat} {B : Nat → Int → Nat} {S : Nat → Int → Int → Int} {M : Nat → Int → Int} {F : Int → Int → Int} (hR : RsAt Γ h x A B S M F) (hBg : Big M F) {p : Int} (rp : -2147483648 ≤ p ∧ p ≤ 2147483647) : Ct l Γ x_Rs_release y_Rs_release rm_Rs_release [.ref x, vi p] h (opP Γ x B (sp_release M p).2 (rlF M F p) h (sp_release M p).1) := by
  refine rz_met (by decide) rfl rfl (Nat.le_of_ble_eq_true rfl) (fun K _ => ?_)
  refine rz_Leq [(0, .ref x), (1, vi p)] rfl ?_
  have hR0 := hR
  obtain ⟨⟨bl, hx, hbl⟩, hSb, hPs, hAs, hSe, hHv, ⟨gs, hsa, hgs⟩, hk⟩ := hR
  obtain ⟨w2, w5, w6, w8, w9⟩ := M_big hBg.wf
  have w1 := hBg.wf.1 0 (by omega) (by omega)
  refine rz_iload_n 1 d_Rs_release_0 rfl rfl ?_
  refine rz_callS (As := [vi p]) (c_Rs_isPlugin (by omega)) m_Rs_85 rfl rfl (Nat.le_of_ble_eq_true rfl) ⟨by decide, by decide⟩ ⟨by decide, by decide⟩ d_Rs_release_1 (kE (h := h) ?_)
  refine rz_if_neB 9 d_Rs_release_4 (by decide) (fun c4 => ?_) (fun c4 => ?_)
  · have hp5 := mIn_t.1 c4
    have w2p := w2 p (by omega) (by omega)
    refine rz_aload_n 0 d_Rs_release_9 rfl rfl ?_
    refine rz_callV (As := []) (c_Rs_takeText hx rfl hSb (mAt (mUse M) 0)) m_Rs_88 hx rfl rfl rfl rfl (Nat.le_of_ble_eq_true rfl) ⟨by decide, by decide⟩ ⟨by decide, by decide⟩ d_Rs_release_10 (kR (h := h) fun s1 h1 q1 => ?_)
    obtain ⟨hs1, hSb_1, G1⟩ := q1
    have hU1 := hR0.use hBg.wf G1 hSb_1
    have hcast : ((M 1 0).toNat : Int) = M 1 0 := Int.tn w1.1
    have F2 : rz_fr [31, 32] h h1 := rz_fr.rf.tr (G1.mono (by decide))
    have fc_3_0 : h1 x = some ((30, 0), .inr (7, [.ref (A 11 0), .ref (A 12 0), .ref (A 13 0), .ref (A 14 0), .ref (A 15 0), vi (M 12 0), .ref (A 16 0), vi bl])) := G1 _ _ _ hx (show 30 ∉ ([31, 32] : List Nat) by decide)
    have fc_3_1 : h1 (A 16 0) = some ((39, 0), aI Γ 0 6 gs) := G1 _ _ _ hsa (show 39 ∉ ([31, 32] : List Nat) by decide)
    have hPs_3 : PsAt Γ h1 (A 12 0) A M F := PsAt.fd hPs G1 (by decide)
    have hAs_3 : AsAt Γ h1 (A 13 0) A M := AsAt.fd hAs G1 (by decide)
    have hSe_3 : SeAt Γ h1 (A 14 0) B S := SeAt.fr hSe G1 (by decide)
    have hHv_3 : VeAt Γ h1 (A 15 0) (vRt M 1) (vPt M 1) := VeAt.fr hHv G1 (by decide)
    have hk_3 : KsAt Γ h1 := KsAt.fr hk G1 (by decide)
    refine rz_callS (As := [.ref s1]) (c_Ve_read hs1 hk_3) m_Rs_92 rfl rfl (Nat.le_of_ble_eq_true rfl) ⟨by decide, by decide⟩ ⟨by decide, by decide⟩ d_Rs_release_13 (kO (h := h1) (fun h4 q4 => ?_) (fun a4 h4 q4 => ?_))
    · obtain ⟨b4, G4⟩ := q4
      have bv4 : ver (mAt M 0) 0 (M 1 0) = false := by rw [← hcast]; exact b4
      have F5 : rz_fr [31, 32] h h4 := F2.tr (G4.mono (by decide))
      have fc_6_0 : h4 x = some ((30, 0), .inr (7, [.ref (A 11 0), .ref (A 12 0), .ref (A 13 0), .ref (A 14 0), .ref (A 15 0), vi (M 12 0), .ref (A 16 0), vi bl])) := G4 _ _ _ fc_3_0 (by simp)
      have fc_6_1 : h4 (A 16 0) = some ((39, 0), aI Γ 0 6 gs) := G4 _ _ _ fc_3_1 (by simp)
      have hPs_6 : PsAt Γ h4 (A 12 0) A M F := PsAt.fd hPs_3 G4 (by decide)
      have hAs_6 : AsAt Γ h4 (A 13 0) A M := AsAt.fd hAs_3 G4 (by decide)
      have hSe_6 : SeAt Γ h4 (A 14 0) B S := SeAt.fr hSe_3 G4 (by decide)
      have hHv_6 : VeAt Γ h4 (A 15 0) (vRt M 1) (vPt M 1) := VeAt.fr hHv_3 G4 (by decide)
      have hk_6 : KsAt Γ h4 := KsAt.fr hk_3 G4 (by decide)
      have hs1_6 : StrAt Γ h4 s1 (M 1 0).toNat (mAt M 0) 1 := StrAt.fr hs1 G4 (by decide)
      have hU1_6 : RsAt Γ h4 x A B S (mUse M) F := RsAt.f0 hU1 G4 (by decide)
      refine rz_astore_nN [(2, .null), (0, .ref x), (1, vi p)] d_Rs_release_16 rfl (by decide) rfl ?_
      refine rz_aload_nN 0 d_Rs_release_17 rfl rfl ?_
      refine rz_ifnonnullN d_Rs_release_18 ?_
      refine rz_bipush (v := (-3)) d_Rs_release_21 (by decide) ?_
      exact rz_ireturn (st := []) rfl d_Rs_release_23 ⟨by decide, by decide⟩ ⟨_, rfl, (by rw [(rel_3 c4 bv4)]), A, S, (by rw [rlF_n (rel_3 c4 bv4) (by decide), (rel_3 c4 bv4)]; exact hU1_6), cr2 F5⟩
    · obtain ⟨b4, G4⟩ := q4
      have bv4 : ver (mAt M 0) 0 (M 1 0) = true := by rw [← hcast]; exact b4.1
      have bx4 : VeAt Γ h4 a4 (vRt M 0) (vPt M 0) := by unfold vRt vPt; rw [← hcast]; exact b4.2
      have F7 : rz_fr [31, 32] h h4 := F2.tr (G4.mono (by decide))
      have fc_8_0 : h4 x = some ((30, 0), .inr (7, [.ref (A 11 0), .ref (A 12 0), .ref (A 13 0), .ref (A 14 0), .ref (A 15 0), vi (M 12 0), .ref (A 16 0), vi bl])) := G4 _ _ _ fc_3_0 (by simp)
      have fc_8_1 : h4 (A 16 0) = some ((39, 0), aI Γ 0 6 gs) := G4 _ _ _ fc_3_1 (by simp)
      have hPs_8 : PsAt Γ h4 (A 12 0) A M F := PsAt.fd hPs_3 G4 (by decide)
      have hAs_8 : AsAt Γ h4 (A 13 0) A M := AsAt.fd hAs_3 G4 (by decide)
      have hSe_8 : SeAt Γ h4 (A 14 0) B S := SeAt.fr hSe_3 G4 (by decide)
      have hHv_8 : VeAt Γ h4 (A 15 0) (vRt M 1) (vPt M 1) := VeAt.fr hHv_3 G4 (by decide)
      have hk_8 : KsAt Γ h4 := KsAt.fr hk_3 G4 (by decide)
      have hs1_8 : StrAt Γ h4 s1 (M 1 0).toNat (mAt M 0) 1 := StrAt.fr hs1 G4 (by decide)
      have hU1_8 : RsAt Γ h4 x A B S (mUse M) F := RsAt.f0 hU1 G4 (by decide)
      refine rz_astore_n [(2, .ref a4), (0, .ref x), (1, vi p)] d_Rs_release_16 rfl (by decide) rfl ?_
      refine rz_aload_n 0 d_Rs_release_17 rfl rfl ?_
      refine rz_ifnonnullR 24 d_Rs_release_18 (by decide) ?_
      refine rz_aload_n 1 d_Rs_release_24 rfl rfl ?_
      refine rz_getf f_Rs_18 fc_8_0 rfl d_Rs_release_25 ?_
      refine rz_iload_n 2 d_Rs_release_28 rfl rfl ?_
      obtain ⟨f9, fo9, fe9⟩ := hPs_8.1
      refine rz_aaload fo9 rfl (show (33 : Nat) ≠ 0 by decide) (by omega) d_Rs_release_29 ?_
      refine rz_Seq [.ref (A 0 p)] (by rw [fe9 p (by omega) (by omega)]; rfl) ?_
      refine rz_aload_n 0 d_Rs_release_30 rfl rfl ?_
      refine rz_callV (As := [.ref a4]) (c_Pl_hasVersion (hPs_8.2 p (by omega) (by omega)) hBg.wf (by omega) bx4) m_Rs_96 (hPs_8.2 p (by omega) (by omega)).ob rfl rfl rfl rfl (Nat.le_of_ble_eq_true rfl) ⟨by decide, by decide⟩ ⟨by decide, by decide⟩ d_Rs_release_31 (kE (h := h4) ?_)
      refine rz_Seq [vi (bi (tw M p))] (by rw [tw, hv_tw hBg.val bv4 hp5 _ _ (by omega) (by omega)]) ?_
      refine rz_if_eqB 40 d_Rs_release_34 (by decide) (fun c34 => ?_) (fun c34 => ?_)
      · refine rz_aload_n 1 d_Rs_release_40 rfl rfl ?_
        refine rz_getf f_Rs_18 fc_8_0 rfl d_Rs_release_41 ?_
        refine rz_iload_n 2 d_Rs_release_44 rfl rfl ?_
        obtain ⟨f10, fo10, fe10⟩ := hPs_8.1
        refine rz_aaload fo10 rfl (show (33 : Nat) ≠ 0 by decide) (by omega) d_Rs_release_45 ?_
        refine rz_Seq [.ref (A 0 p)] (by rw [fe10 p (by omega) (by omega)]; rfl) ?_
        refine rz_new (ci := 8) (q0 := ("ReleaseSolver$Release", k_T8, 4)) (38, (4 * p + M 2 p).toNat) (show (38 : Nat) ≠ 0 by decide) rfl rfl cl_Rs_100 ⟨by decide, by decide⟩ d_Rs_release_46 (fun q11 zq11 => ?_)
        refine rz_nm fun h12 eh12 => ?_
        have g12 : rz_fr [] h4 h12 := by rw [eh12]; exact rz_fr.nw zq11
        have z12 : h4 q11 = none := rz_fr.rf.nn zq11
        have F13 : rz_fr [] h4 h12 := rz_fr.rf.tr (g12.mono (by decide))
        have fc_14_0 : h12 x = some ((30, 0), .inr (7, [.ref (A 11 0), .ref (A 12 0), .ref (A 13 0), .ref (A 14 0), .ref (A 15 0), vi (M 12 0), .ref (A 16 0), vi bl])) := g12 _ _ _ fc_8_0 (by simp)
        have fc_14_1 : h12 (A 16 0) = some ((39, 0), aI Γ 0 6 gs) := g12 _ _ _ fc_8_1 (by simp)
        have hk_14 : KsAt Γ h12 := KsAt.fr hk_8 g12 (by decide)
        have hs1_14 : StrAt Γ h12 s1 (M 1 0).toNat (mAt M 0) 1 := StrAt.fr hs1_8 g12 (by decide)
        have bx4_14 : VeAt Γ h12 a4 (vRt M 0) (vPt M 0) := VeAt.fr bx4 g12 (by decide)
        have fn_12 : h12 q11 = some ((38, (4 * p + M 2 p).toNat), .inr (8, [.null, .null, .null, vi 0])) := by rw [eh12]; exact rz_up_s _ _ _
        refine rz_dup d_Rs_release_49 rfl ?_
        refine rz_aload_n 0 d_Rs_release_50 rfl rfl ?_
        refine rz_callI (As := [.ref a4]) (c_Rl_init (k := (4 * p + M 2 p).toNat) fn_12 hk_14) m_Rs_102 rfl rfl (Nat.le_of_ble_eq_true rfl) ⟨by decide, by decide⟩ ⟨by decide, by decide⟩ d_Rs_release_51 (kV (h := h12) fun h15 q15 => ?_)
        obtain ⟨p15, G15⟩ := q15
        have R15 : rz_fr [38] h12 h15 := rz_fo.fr1 fn_12 G15
        have F15 : rz_fr [] h4 h15 := fun a t x ha hr => G15 a (t, x) (fun z => by rw [z, z12] at ha; cases ha) (F13 a t x ha hr)
        have fc_16_0 : h15 x = some ((30, 0), .inr (7, [.ref (A 11 0), .ref (A 12 0), .ref (A 13 0), .ref (A 14 0), .ref (A 15 0), vi (M 12 0), .ref (A 16 0), vi bl])) := R15 _ _ _ fc_14_0 (show 30 ∉ ([38] : List Nat) by decide)
        have fc_16_1 : h15 (A 16 0) = some ((39, 0), aI Γ 0 6 gs) := R15 _ _ _ fc_14_1 (show 39 ∉ ([38] : List Nat) by decide)
        have hk_16 : KsAt Γ h15 := KsAt.fr hk_14 R15 (by decide)
        have hs1_16 : StrAt Γ h15 s1 (M 1 0).toNat (mAt M 0) 1 := StrAt.fr hs1_14 R15 (by decide)
        have bx4_16 : VeAt Γ h15 a4 (vRt M 0) (vPt M 0) := VeAt.fr bx4_14 R15 (by decide)
        have vq11_15 : ∃ nl, h15 q11 = some ((38, (4 * p + M 2 p).toNat), .inr (8, [.ref a4, .ref nl, .null, vi 0])) ∧ AlAt Γ h15 nl (10 + (4 * p + M 2 p).toNat) 0 (fun _ => none) := p15
        have hV15 := RsAt.f0 hU1_8 F15 rfl
        have hPs_15 := hV15.psM hBg.wf
        have hAs_15 := hV15.asM hBg.wf
        obtain ⟨nl, hq0, hnl0⟩ := vq11_15
        by_cases h4 : M 2 p = 4
        · refine rz_callV (As := [.ref q11]) (c_Pl_addF (hPs_15.2 p (by omega) (by omega)) hBg.wf (by omega) (by omega) hq0 bx4_16) m_Rs_105 (hPs_15.2 p (by omega) (by omega)).ob rfl rfl rfl rfl (Nat.le_of_ble_eq_true rfl) ⟨by decide, by decide⟩ ⟨by decide, by decide⟩ d_Rs_release_54 (kE (h := h15) ?_)
          exact rz_ireturn (st := []) rfl d_Rs_release_57 ⟨by decide, by decide⟩ ⟨_, rfl, (by rw [(rel_2 c4 bv4 c34 h4)]), A, S, (by rw [rlF_n (rel_2 c4 bv4 c34 h4) (by decide), (rel_2 c4 bv4 c34 h4)]; exact hV15), (cr2 F7).tr (F15.mono (by simp))⟩
        · refine rz_callV (As := [.ref q11]) (c_Pl_addN (hPs_15.2 p (by omega) (by omega)) hBg.wf (by omega) (by omega) hq0 bx4_16) m_Rs_105 (hPs_15.2 p (by omega) (by omega)).ob rfl rfl rfl rfl (Nat.le_of_ble_eq_true rfl) ⟨by decide, by decide⟩ ⟨by decide, by decide⟩ d_Rs_release_54 (kI (h := h15) fun r17 h17 q17 => ?_)
          obtain ⟨er17, ql17, qg17, G17⟩ := q17
          rw [er17]
          exact rz_ireturn (st := []) rfl d_Rs_release_57 ⟨by decide, by decide⟩ ⟨_, rfl, (by rw [(rel_0 c4 bv4 c34 h4)]), au (au (au A 3 (4 * p + M 2 p) q11) 4 (4 * p + M 2 p) a4) 5 (4 * p + M 2 p) nl, S, (by rw [rlF_y (rel_0 c4 bv4 c34 h4) (by omega), (rel_0 c4 bv4 c34 h4)]; exact RsAt.rl hV15 hBg hp5 (by omega) bv4 hq0 bx4_16 hnl0 ql17 qg17 G17), ((cr2 F7).tr (F15.mono (by simp))).tr (cr_ft G17 (by simp [CR]))⟩
      · refine rz_bipush (v := (-5)) d_Rs_release_37 (by decide) ?_
        exact rz_ireturn (st := []) rfl d_Rs_release_39 ⟨by decide, by decide⟩ ⟨_, rfl, (by rw [(rel_5 c4 bv4 c34)]), A, S, (by rw [rlF_n (rel_5 c4 bv4 c34) (by decide), (rel_5 c4 bv4 c34)]; exact hU1_8), cr2 F7⟩
  · refine rz_iconst d_Rs_release_7 ?_
    exact rz_ireturn (st := []) rfl d_Rs_release_8 ⟨by decide, by decide⟩ ⟨_, rfl, (by rw [(rel_1 c4)]), A, S, (by rw [rlF_n (rel_1 c4) (by decide), (rel_1 c4)]; exact hR0), rz_fr.rf⟩

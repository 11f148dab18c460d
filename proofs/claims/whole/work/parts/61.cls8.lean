/-! the class: Search, preparing 2 -/
theorem Bt.b16 : Bt 5 16 (fun x => decide (x = 4)) := ⟨16, rfl, by decide, by decide⟩
theorem fl_pos {M : Nat → Int → Int} {p : Int} {F : Int → Int} (h : flOK M p F) {d : Int} (h0 : 0 ≤ d) (h4 : d < 4) : 0 ≤ F d := by
  by_cases c : d < M 2 p
  · exact (h.1 d h0 c).1
  · rw [h.2.2 d (by omega) h4]; exact h0
abbrev rm_Se_prepareOrder : Room := { frames := 1, cells := 0, slots := 0, locals := 40 }
set_option maxRecDepth 100000 in
set_option maxHeartbeats 4000000 in
theorem c_Se_prepareOrder {l : Launch} {Γ : rz_G} {h : rz_H} {se : Nat} {B : Nat → Int → Nat} {S : Nat → Int → Int → Int} (hS : SeAt Γ h se B S) {pa : Nat} {A : Nat → Int → Nat} {M : Nat → Int → Int} {F : Int → Int → Int} (hPs : PsAt Γ h pa A M F) (hBg : Big M F) {p : Nat} (hp : p < 6) : Ct l Γ x_Se_prepareOrder y_Se_prepareOrder rm_Se_prepareOrder [.ref se, vi (p : Int), .ref (A 0 (p : Int))] h (pV (fun h' => ∃ S', SeAt Γ h' se B S' ∧ (∀ c r, ¬ (c = 0 ∧ r = (p : Int)) → S' c r = S c r) ∧ (∀ i : Nat, i < 5 → S' 0 p i = (oD M p i : Int)) ∧ rz_fr SR h h')) := by
  refine rz_met (by decide) rfl rfl (Nat.le_of_ble_eq_true rfl) (fun K _ => ?_)
  refine rz_Leq [(0, .ref se), (1, vi (p : Int)), (2, .ref (A 0 (p : Int)))] rfl ?_
  obtain ⟨gx, fax, fex⟩ := (hPs.2 p (by omega) (by omega)).fa
  refine rz_aload_n 2 d_Se_prepareOrder_0 rfl rfl ?_
  refine rz_getf f_Se_78 (hPs.2 (p : Int) (by omega) (by omega)).ob rfl d_Se_prepareOrder_1 ?_
  refine rz_iconst d_Se_prepareOrder_4 ?_
  refine rz_aload_n 0 d_Se_prepareOrder_5 rfl rfl ?_
  refine rz_getf f_Se_13 hS.1 rfl d_Se_prepareOrder_6 ?_
  refine rz_iload_n 1 d_Se_prepareOrder_9 rfl rfl ?_
  obtain ⟨f1, fo1, fe1⟩ := hS.2.1 (0, 6) (by decide)
  refine rz_aaloadA fo1 (show 60 + 0 ≠ 0 by decide) (by omega) d_Se_prepareOrder_10 ?_
  refine rz_Seq [.ref (B 0 (p : Int)), vi 0, .ref (A 2 (p : Int))] (by rw [fe1 (p : Int) (by omega) (by omega)]; rfl) ?_
  refine rz_iconst d_Se_prepareOrder_11 ?_
  refine rz_iconst d_Se_prepareOrder_12 ?_
  refine rz_copyI cp_Se_81 fax (show (37 : Nat) ≠ 0 by decide) (se_r0 hS (i := (p : Int)) (by omega)) (show (50 : Nat) ≠ 0 by decide) (by omega) (by omega) (by omega) (by decide) (Nat.le_of_ble_eq_true rfl) d_Se_prepareOrder_13 ?_
  refine rz_nm fun h2 eh2 => ?_
  have hS2 : SeAt Γ h2 se B (su S 0 (p : Int) (rz_cp gx (S 0 (p : Int)) 0 0 4)) := by rw [eh2]; exact hS.up (q := (0, 6, 5)) (by decide) (show 0 ≤ (p : Int) ∧ (p : Int) < 6 by omega) _
  have hF2 : rz_fr SR h h2 := by rw [eh2]; exact rz_fr.rf.up (se_r0 hS (i := (p : Int)) (by omega)) (show (50 : Nat) ∈ SR by decide)
  obtain ⟨S2, eS2⟩ : ∃ z, z = su S 0 (p : Int) (rz_cp gx (S 0 (p : Int)) 0 0 4) := ⟨_, rfl⟩
  rw [← eS2] at hS2
  refine rz_aload_n 0 d_Se_prepareOrder_16 rfl rfl ?_
  refine rz_getf f_Se_13 hS2.1 rfl d_Se_prepareOrder_17 ?_
  refine rz_iload_n 1 d_Se_prepareOrder_20 rfl rfl ?_
  obtain ⟨f3, fo3, fe3⟩ := hS2.2.1 (0, 6) (by decide)
  refine rz_aaloadA fo3 (show 60 + 0 ≠ 0 by decide) (by omega) d_Se_prepareOrder_21 ?_
  refine rz_Seq [.ref (B 0 (p : Int))] (by rw [fe3 (p : Int) (by omega) (by omega)]; rfl) ?_
  refine rz_iconst d_Se_prepareOrder_22 ?_
  refine rz_iconst d_Se_prepareOrder_23 ?_
  refine se_st0 hS2 hF2 (i := (p : Int)) (by omega) (by omega) d_Se_prepareOrder_24 (fun h4 hS4 hF4 => ?_)
  obtain ⟨S4, eS4⟩ : ∃ z, z = su S2 0 (p : Int) (rz_u (S2 0 (p : Int)) 4 4) := ⟨_, rfl⟩
  rw [← eS4] at hS4
  exact rz_return (st := []) rfl d_Se_prepareOrder_25 ⟨by decide, by decide⟩ ⟨rfl, S4, hS4, (fun c r hc => by rw [eS4, su_n hc, eS2, su_n hc]), (fun i hi => by
      rw [eS4, su_s]
      by_cases c : i = 4
      · rw [c, show ((4 : Nat) : Int) = 4 from rfl, rz_u_s]; rfl
      · rw [rz_u_n (by omega), eS2, su_s, rz_cp, if_pos (by omega), show (0 : Int) + ((i : Int) - 0) = i by omega, fex i (by omega) (by omega), oD, if_neg (by omega), fl_flM (hBg.fl p (by omega) (by omega)) (by omega) (by omega)]
        have := fl_pos (hBg.fl p (by omega) (by omega)) (d := (i : Int)) (by omega) (by omega)
        omega), hF4⟩
abbrev rm_Se_prepareNeeds : Room := { frames := 4, cells := 0, slots := 0, locals := 87 }
set_option maxRecDepth 100000 in
set_option maxHeartbeats 4000000 in
theorem c_Se_prepareNeeds {l : Launch} {Γ : rz_G} {h : rz_H} {se : Nat} {B : Nat → Int → Nat} {S : Nat → Int → Int → Int} (hS : SeAt Γ h se B S) {pa : Nat} {A : Nat → Int → Nat} {M : Nat → Int → Int} {F : Int → Int → Int} (hPs : PsAt Γ h pa A M F) (hBg : Big M F) {P' X' : Nat} (hP : P' < 6) (hX : (X' : Int) < M 2 P') (hT : ∀ p x q : Nat, p < 6 → x < 5 → q < 6 → Bt 5 (S 2 (p * 5 + x) q) (bsT M (nIx P' X' 0) p x q)) (hD : ∀ p x : Nat, p < 6 → x < 5 → Bt 6 (S 3 0 (p * 5 + x)) (ldT M (nIx P' X' 0) p x)) : Ct l Γ x_Se_prepareNeeds y_Se_prepareNeeds rm_Se_prepareNeeds [.ref se, .ref pa, vi (P' : Int), vi (X' : Int)] h (pV (fun h' => ∃ S', SeAt Γ h' se B S' ∧ (∀ c r, c ≠ 2 → c ≠ 3 → S' c r = S c r) ∧ (∀ p x q : Nat, p < 6 → x < 5 → q < 6 → Bt 5 (S' 2 (p * 5 + x) q) (bsT M (nIx P' X' 3) p x q)) ∧ (∀ p x : Nat, p < 6 → x < 5 → Bt 6 (S' 3 0 (p * 5 + x)) (ldT M (nIx P' X' 3) p x)) ∧ rz_fr SR h h')) := by
  refine rz_met (by decide) rfl rfl (Nat.le_of_ble_eq_true rfl) (fun K _ => ?_)
  refine rz_Leq [(0, .ref se), (1, .ref pa), (2, vi (P' : Int)), (3, vi (X' : Int))] rfl ?_
  obtain ⟨w2, w5, w6, w8, w9⟩ := M_big hBg.wf
  have w2p := w2 P' (by omega) (by omega)
  have w5k := w5 (4 * (P' : Int) + (X' : Int)) (by omega) (by omega)
  refine rz_aload_n 1 d_Se_prepareNeeds_0 rfl rfl ?_
  refine rz_iload_n 2 d_Se_prepareNeeds_1 rfl rfl ?_
  obtain ⟨f1, fo1, fe1⟩ := hPs.1
  refine rz_aaload fo1 rfl (show (33 : Nat) ≠ 0 by decide) (by omega) d_Se_prepareNeeds_2 ?_
  refine rz_Seq [.ref (A 0 (P' : Int))] (by rw [fe1 (P' : Int) (by omega) (by omega)]; rfl) ?_
  refine rz_iload_n 3 d_Se_prepareNeeds_3 rfl rfl ?_
  refine rz_callV (As := [vi (X' : Int)]) (c_Pl_at (hPs.2 (P' : Int) (by omega) (by omega)) hBg.wf (by omega) (r := (X' : Int)) (by omega)) m_Se_87 (hPs.2 (P' : Int) (by omega) (by omega)).ob rfl rfl rfl rfl (Nat.le_of_ble_eq_true rfl) ⟨by decide, by decide⟩ ⟨by decide, by decide⟩ d_Se_prepareNeeds_4 (kO (h := h) (fun h2 q2 => absurd q2.1 (by rw [if_pos (by omega)]; simp)) fun a2 h2 q2 => ?_)
  rw [if_pos (by omega)] at q2
  rw [Option.some.inj q2.1, q2.2]
  refine rz_astore [(4, .ref (A 3 (4 * (P' : Int) + (X' : Int)))), (0, .ref se), (1, .ref pa), (2, vi (P' : Int)), (3, vi (X' : Int))] d_Se_prepareNeeds_7 (by decide) rfl ?_
  refine rz_aload 0 d_Se_prepareNeeds_9 rfl ?_
  refine rz_ifnonnullR 15 d_Se_prepareNeeds_11 (by decide) ?_
  refine rz_iconst d_Se_prepareNeeds_15 ?_
  refine rz_istore [(5, vi 0), (4, .ref (A 3 (4 * (P' : Int) + (X' : Int)))), (0, .ref se), (1, .ref pa), (2, vi (P' : Int)), (3, vi (X' : Int))] d_Se_prepareNeeds_16 (by decide) rfl ?_
  refine rz_loop (α := Nat × rz_H × (Nat → Int → Int → Int)) 0 0 18 (fun (j, hA, SA) => 3 - j) (fun (j, hA, SA) => (j : Int) ≤ M 5 (4 * (P' : Int) + (X' : Int)) ∧ SeAt Γ hA se B SA ∧ rz_fr SR h hA ∧ (∀ c r, c ≠ 2 → c ≠ 3 → SA c r = S c r) ∧ (∀ p x q : Nat, p < 6 → x < 5 → q < 6 → Bt 5 (SA 2 (p * 5 + x) q) (bsT M (nIx P' X' j) p x q)) ∧ (∀ p x : Nat, p < 6 → x < 5 → Bt 6 (SA 3 0 (p * 5 + x)) (ldT M (nIx P' X' j) p x))) (fun (j, hA, SA) => [(5, vi (j : Int)), (0, .ref se), (1, .ref pa), (2, vi (P' : Int)), (3, vi (X' : Int)), (4, .ref (A 3 (4 * (P' : Int) + (X' : Int))))]) (fun (j, hA, SA) => []) (fun (j, hA, SA) => hA) (fun y hy ih18 => ?_) (fun LP => ?_)
  · obtain ⟨j, hA, SA⟩ := y
    try dsimp only at hy ih18 ⊢
    obtain ⟨hj, hSA, hFA, KA, tA, dA⟩ := hy
    refine rz_iload 0 d_Se_prepareNeeds_18 rfl ?_
    refine rz_aload 5 d_Se_prepareNeeds_20 rfl ?_
    refine rz_getf f_Se_91 (((hPs.fr hFA SRok).2 (P' : Int) (by omega) (by omega)).re (X' : Int) (by omega) (by omega)).ob rfl d_Se_prepareNeeds_22 ?_
    obtain ⟨fso3, so3⟩ := (((hPs.fr hFA SRok).2 (P' : Int) (by omega) (by omega)).re (X' : Int) (by omega) (by omega)).nl.ob
    refine rz_callV (As := []) (c_Al_size (((hPs.fr hFA SRok).2 (P' : Int) (by omega) (by omega)).re (X' : Int) (by omega) (by omega)).nl) m_Se_97 so3 rfl rfl rfl rfl (Nat.le_of_ble_eq_true rfl) ⟨by decide, by decide⟩ ⟨by decide, by decide⟩ d_Se_prepareNeeds_25 (kE (h := hA) ?_)
    refine rz_Seq [vi (M 5 (4 * (P' : Int) + (X' : Int))), vi (j : Int)] (by rw [Int.tn (by omega)]) ?_
    refine rz_icmp_ge 120 d_Se_prepareNeeds_28 (by decide) (by omega) (by omega) (fun c28 => ?_) (fun c28 => ?_)
    · exact rz_return (st := []) rfl d_Se_prepareNeeds_120 ⟨by decide, by decide⟩ ⟨rfl, SA, hSA, KA, (fun p x q hp hx hq => (tA p x q hp hx hq).c (fun y hy => ((bsT_skip (M := M) (P := P') (X := X') (by omega) (3 - j) j (by omega) (by omega) p x q y hx hy).1).symm)), (fun p x hp hx => (dA p x hp hx).c (fun q hq => ((bsT_skip (M := M) (P := P') (X := X') (by omega) (3 - j) j (by omega) (by omega) p x q 0 hx (by omega)).2).symm)), hFA⟩
    · have w6i := w6 (3 * (4 * (P' : Int) + (X' : Int)) + (j : Int)) (by omega) (by omega)
      have w7i := hBg.wf.2.2.2.2.2.2.2.2.2.1 (3 * (4 * (P' : Int) + (X' : Int)) + (j : Int)) (by omega) (by omega)
      have w2o := w2 (M 6 (3 * (4 * (P' : Int) + (X' : Int)) + (j : Int))) (by omega) (by omega)
      have FE : ∀ x, x < 5 → fitM M (3 * (4 * (P' : Int) + (X' : Int)) + (j : Int)) x = (inF M (M 6 (3 * (4 * (P' : Int) + (X' : Int)) + (j : Int))) (mAt M (54 + (3 * (4 * (P' : Int) + (X' : Int)) + (j : Int)))) (M 1 (54 + (3 * (4 * (P' : Int) + (X' : Int)) + (j : Int)))) (M 2 (M 6 (3 * (4 * (P' : Int) + (X' : Int)) + (j : Int)))) x || (decide (x = 4) && decide (¬ M 7 (3 * (4 * (P' : Int) + (X' : Int)) + (j : Int)) = 0))) := fun x hx => fitM_e (k := (3 * (4 * (P' : Int) + (X' : Int)) + (j : Int))) hBg.val (by omega) rfl (by omega) (hBg.val.2.2.2.1 (4 * (P' : Int) + X') j (by omega) (by omega) (by omega) (by omega)) hx
      refine rz_aload 5 d_Se_prepareNeeds_31 rfl ?_
      refine rz_getf f_Se_91 (((hPs.fr hFA SRok).2 (P' : Int) (by omega) (by omega)).re (X' : Int) (by omega) (by omega)).ob rfl d_Se_prepareNeeds_33 ?_
      refine rz_iload 0 d_Se_prepareNeeds_36 rfl ?_
      obtain ⟨fso4, so4⟩ := (((hPs.fr hFA SRok).2 (P' : Int) (by omega) (by omega)).re (X' : Int) (by omega) (by omega)).nl.ob
      refine rz_callV (As := [vi (j : Int)]) (c_Al_get (((hPs.fr hFA SRok).2 (P' : Int) (by omega) (by omega)).re (X' : Int) (by omega) (by omega)).nl (i := (j : Int)) (y := (A 7 (3 * (4 * (P' : Int) + (X' : Int)) + (j : Int)))) (by omega) (by omega) rfl) m_Se_100 so4 rfl rfl rfl rfl (Nat.le_of_ble_eq_true rfl) ⟨by decide, by decide⟩ ⟨by decide, by decide⟩ d_Se_prepareNeeds_38 (kR (h := hA) fun b5 h5 q5 => ?_)
      rw [q5.1, q5.2]
      refine rz_cast ((((hPs.fr hFA SRok).2 (P' : Int) (by omega) (by omega)).re (X' : Int) (by omega) (by omega)).nd (j : Int) (by omega) (by omega)).1 rfl cl_Se_104 d_Se_prepareNeeds_41 ?_
      refine rz_astore [(6, .ref (A 7 (3 * (4 * (P' : Int) + (X' : Int)) + (j : Int)))), (5, vi (j : Int)), (0, .ref se), (1, .ref pa), (2, vi (P' : Int)), (3, vi (X' : Int)), (4, .ref (A 3 (4 * (P' : Int) + (X' : Int))))] d_Se_prepareNeeds_44 (by decide) rfl ?_
      refine rz_aload_n 3 d_Se_prepareNeeds_46 rfl rfl ?_
      refine rz_aload 0 d_Se_prepareNeeds_47 rfl ?_
      refine rz_getf f_Se_106 ((((hPs.fr hFA SRok).2 (P' : Int) (by omega) (by omega)).re (X' : Int) (by omega) (by omega)).nd (j : Int) (by omega) (by omega)).1 rfl d_Se_prepareNeeds_49 ?_
      obtain ⟨f6, fo6, fe6⟩ := (hPs.fr hFA SRok).1
      refine rz_aaload fo6 rfl (show (33 : Nat) ≠ 0 by decide) (by omega) d_Se_prepareNeeds_52 ?_
      refine rz_Seq [.ref (A 0 (M 6 (3 * (4 * (P' : Int) + (X' : Int)) + (j : Int))))] (by rw [fe6 (M 6 (3 * (4 * (P' : Int) + (X' : Int)) + (j : Int))) (by omega) (by omega)]; rfl) ?_
      refine rz_aload 0 d_Se_prepareNeeds_53 rfl ?_
      refine rz_getf f_Se_109 ((((hPs.fr hFA SRok).2 (P' : Int) (by omega) (by omega)).re (X' : Int) (by omega) (by omega)).nd (j : Int) (by omega) (by omega)).1 rfl d_Se_prepareNeeds_55 ?_
      refine rz_callV (As := [.ref (A 8 (3 * (4 * (P' : Int) + (X' : Int)) + (j : Int)))]) (c_Pl_releasesIn ((hPs.fr hFA SRok).2 (M 6 (3 * (4 * (P' : Int) + (X' : Int)) + (j : Int))) (by omega) (by omega)) hBg.wf (by omega) ((((hPs.fr hFA SRok).2 (P' : Int) (by omega) (by omega)).re (X' : Int) (by omega) (by omega)).nd (j : Int) (by omega) (by omega)).2) m_Se_113 ((hPs.fr hFA SRok).2 (M 6 (3 * (4 * (P' : Int) + (X' : Int)) + (j : Int))) (by omega) (by omega)).ob rfl rfl rfl rfl (Nat.le_of_ble_eq_true rfl) ⟨by decide, by decide⟩ ⟨by decide, by decide⟩ d_Se_prepareNeeds_58 (kI (h := hA) fun b7 h7 q7 => ?_)
      obtain ⟨bt7, eh7⟩ := q7
      rw [eh7]
      refine rz_istore [(7, vi b7), (6, .ref (A 7 (3 * (4 * (P' : Int) + (X' : Int)) + (j : Int)))), (5, vi (j : Int)), (0, .ref se), (1, .ref pa), (2, vi (P' : Int)), (3, vi (X' : Int)), (4, .ref (A 3 (4 * (P' : Int) + (X' : Int))))] d_Se_prepareNeeds_61 (by decide) rfl ?_
      have bt0 := bt7
      refine rz_aload 1 d_Se_prepareNeeds_63 rfl ?_
      refine rz_getf f_Se_117 ((((hPs.fr hFA SRok).2 (P' : Int) (by omega) (by omega)).re (X' : Int) (by omega) (by omega)).nd (j : Int) (by omega) (by omega)).1 rfl d_Se_prepareNeeds_65 ?_
      refine rz_if_eq 81 d_Se_prepareNeeds_68 (by decide) (by omega) (fun c68 => ?_) (fun c68 => ?_)
      · refine rz_aload_n 3 d_Se_prepareNeeds_81 rfl rfl ?_
        refine rz_getf f_Se_23 hSA.1 rfl d_Se_prepareNeeds_82 ?_
        refine rz_iload_n 5 d_Se_prepareNeeds_85 rfl rfl ?_
        refine rz_iload_n 6 d_Se_prepareNeeds_86 rfl rfl ?_
        refine rz_callS (As := [vi (P' : Int), vi (X' : Int)]) c_Se_row m_Se_121 rfl rfl (Nat.le_of_ble_eq_true rfl) ⟨by decide, by decide⟩ ⟨by decide, by decide⟩ d_Se_prepareNeeds_87 (kE (h := hA) ?_)
        refine rz_dup2 d_Se_prepareNeeds_90 rfl rfl ?_
        refine rz_iaload (se_r3 hSA (i := 0) (by omega)) (show 53 ≠ 0 by decide) (by omega) d_Se_prepareNeeds_91 ?_
        obtain ⟨s1, es1, bs1⟩ := Bt.shl (n := 6) (i := M 6 (3 * (4 * (P' : Int) + (X' : Int)) + (j : Int))) (by decide) (by omega)
        obtain ⟨r2, er2, bl⟩ := (dA P' X' (by omega) (by omega)).or bs1
        refine rz_iconst d_Se_prepareNeeds_92 ?_
        refine rz_aload 1 d_Se_prepareNeeds_93 rfl ?_
        refine rz_getf f_Se_106 ((((hPs.fr hFA SRok).2 (P' : Int) (by omega) (by omega)).re (X' : Int) (by omega) (by omega)).nd (j : Int) (by omega) (by omega)).1 rfl d_Se_prepareNeeds_95 ?_
        refine rz_ishl s1 es1 d_Se_prepareNeeds_98 ?_
        refine rz_ior r2 er2 d_Se_prepareNeeds_99 ?_
        refine se_st3 hSA hFA (i := 0) (by omega) (by omega) d_Se_prepareNeeds_100 (fun h8 hS8 hF8 => ?_)
        obtain ⟨S8, eS8⟩ : ∃ z, z = su SA 3 0 (rz_u (SA 3 0) ((P' : Int) * 5 + (X' : Int)) r2) := ⟨_, rfl⟩
        rw [← eS8] at hS8
        have BF := bt0.c (G := fitM M (3 * (4 * (P' : Int) + (X' : Int)) + (j : Int))) (fun x hx => by rw [FE x hx, decide_eq_false (show ¬ ¬ M 7 (3 * (4 * (P' : Int) + (X' : Int)) + (j : Int)) = 0 from fun z => z c68), Bool.and_false, Bool.or_false])
        have TT : ∀ p x q : Nat, p < 6 → x < 5 → q < 6 → Bt 5 (S8 2 (p * 5 + x) q) (bsT M (nIx P' X' j) p x q) := fun p x q hp hx hq => by rw [eS8, su_n (by omega)]; exact tA p x q hp hx hq
        have DD : ∀ p x : Nat, p < 6 → x < 5 → Bt 6 (S8 3 0 (p * 5 + x)) (ldT M (nIx P' X' (j + 1)) p x) := fun p x hp hx => by
          rw [eS8, su_s]
          by_cases c : p = P' ∧ x = X'
          · rw [c.1, c.2, rz_u_s]
            exact bl.c (fun q hq => by
              rw [nIx_J, ldT_s (by omega) (by omega)]
              congr 1; congr 1; exact propext ⟨fun z => ⟨rfl, rfl, by omega, c68, (by show M 6 (3 * (4 * (P' : Int) + (X' : Int)) + (j : Int)) = (q : Int); omega)⟩, fun z => by have : M 6 (3 * (4 * (P' : Int) + (X' : Int)) + (j : Int)) = (q : Int) := z.2.2.2.2; omega⟩)
          · rw [rz_u_n (by omega)]
            exact (dA p x hp hx).c (fun q hq => by rw [nIx_J, ldT_s (by omega) (by omega), decide_eq_false (fun z => c ⟨z.1, z.2.1⟩), Bool.or_false])
        refine rz_aload_n 3 d_Se_prepareNeeds_101 rfl rfl ?_
        refine rz_iload_n 5 d_Se_prepareNeeds_102 rfl rfl ?_
        refine rz_iload_n 6 d_Se_prepareNeeds_103 rfl rfl ?_
        refine rz_aload 1 d_Se_prepareNeeds_104 rfl ?_
        refine rz_getf f_Se_106 ((((hPs.fr hF8 SRok).2 (P' : Int) (by omega) (by omega)).re (X' : Int) (by omega) (by omega)).nd (j : Int) (by omega) (by omega)).1 rfl d_Se_prepareNeeds_106 ?_
        refine rz_iload 0 d_Se_prepareNeeds_109 rfl ?_
        refine rz_Seq [vi b7, vi ((M 6 (3 * (4 * (P' : Int) + (X' : Int)) + (j : Int))).toNat : Int), vi (X' : Int), vi (P' : Int), .ref se] (by rw [Int.tn (x := M 6 (3 * (4 * (P' : Int) + (X' : Int)) + (j : Int))) (by omega)]) ?_
        refine rz_callV (As := [vi (P' : Int), vi (X' : Int), vi ((M 6 (3 * (4 * (P' : Int) + (X' : Int)) + (j : Int))).toNat : Int), vi b7]) (c_Se_keepOnly hS8 (P' := P') (X' := X') (O' := (M 6 (3 * (4 * (P' : Int) + (X' : Int)) + (j : Int))).toNat) hP (by omega) (by omega) (fi := b7) (Fi := fitM M (3 * (4 * (P' : Int) + (X' : Int)) + (j : Int))) BF (T := bsT M (nIx P' X' j)) TT) m_Se_125 hS8.1 rfl rfl rfl rfl (Nat.le_of_ble_eq_true rfl) ⟨by decide, by decide⟩ ⟨by decide, by decide⟩ d_Se_prepareNeeds_111 (kV (h := h8) fun h9 q9 => ?_)
        obtain ⟨S9, hS9, K9, T9, G9⟩ := q9
        have hF9 : rz_fr SR h h9 := hF8.tr G9
        refine rz_iinc ((j : Int) + 1) 2 [(5, vi ((j : Int) + 1)), (7, vi b7), (6, .ref (A 7 (3 * (4 * (P' : Int) + (X' : Int)) + (j : Int)))), (0, .ref se), (1, .ref pa), (2, vi (P' : Int)), (3, vi (X' : Int)), (4, .ref (A 3 (4 * (P' : Int) + (X' : Int))))] d_Se_prepareNeeds_114 rfl (by first | rfl | omega) (by decide) rfl ?_
        refine rz_goto 18 d_Se_prepareNeeds_117 (by decide) ?_
        refine rz_Lsub [(5, vi ((j : Int) + 1)), (0, .ref se), (1, .ref pa), (2, vi (P' : Int)), (3, vi (X' : Int)), (4, .ref (A 3 (4 * (P' : Int) + (X' : Int))))] [0, 3, 4, 5, 6, 7] rfl ?_
        refine ih18 (j + 1, h9, S9) ?_ ?_
        · try dsimp only
          exact ⟨by omega, hS9, hF9, (fun c r h2 h3 => (K9 c r h2).trans (by rw [eS8, su_n (by omega)]; exact KA c r h2 h3)), (fun p x q hp hx hq => (T9 p x q hp hx hq).c (fun y hy => by rw [nIx_J]; exact (bsT_s (O := (M 6 (3 * (4 * (P' : Int) + (X' : Int)) + (j : Int))).toNat) (by omega) (by omega) hx hy (by omega) (by show M 6 (3 * (4 * (P' : Int) + (X' : Int)) + (j : Int)) = _; omega)).symm)), (fun p x hp hx => by rw [K9 3 0 (by decide)]; exact DD p x hp hx)⟩
        · exact (by first | omega | (dsimp only; omega))
      · obtain ⟨r16, e16, br⟩ := bt0.or Bt.b16
        replace br := br.c (G := fun x => inF M (M 6 (3 * (4 * (P' : Int) + (X' : Int)) + (j : Int))) (mAt M (54 + (3 * (4 * (P' : Int) + (X' : Int)) + (j : Int)))) (M 1 (54 + (3 * (4 * (P' : Int) + (X' : Int)) + (j : Int)))) (M 2 (M 6 (3 * (4 * (P' : Int) + (X' : Int)) + (j : Int)))) x || (decide (x = 4) && decide (¬ M 7 (3 * (4 * (P' : Int) + (X' : Int)) + (j : Int)) = 0))) (fun x hx => by rw [decide_eq_true (show ¬ M 7 (3 * (4 * (P' : Int) + (X' : Int)) + (j : Int)) = 0 from c68), Bool.and_true])
        refine rz_iload 0 d_Se_prepareNeeds_71 rfl ?_
        refine rz_bipush (v := 16) d_Se_prepareNeeds_73 (by decide) ?_
        refine rz_ior r16 e16 d_Se_prepareNeeds_75 ?_
        refine rz_istore [(7, vi r16), (6, .ref (A 7 (3 * (4 * (P' : Int) + (X' : Int)) + (j : Int)))), (5, vi (j : Int)), (0, .ref se), (1, .ref pa), (2, vi (P' : Int)), (3, vi (X' : Int)), (4, .ref (A 3 (4 * (P' : Int) + (X' : Int))))] d_Se_prepareNeeds_76 (by decide) rfl ?_
        refine rz_goto 101 d_Se_prepareNeeds_78 (by decide) ?_
        have BF := br.c (fun x hx => (FE x hx).symm)
        have TT := tA
        have DD : ∀ p x : Nat, p < 6 → x < 5 → Bt 6 (SA 3 0 (p * 5 + x)) (ldT M (nIx P' X' (j + 1)) p x) := fun p x hp hx => (dA p x hp hx).c (fun q hq => by rw [nIx_J, ldT_s (by omega) (by omega), decide_eq_false (fun z => c68 z.2.2.2.1), Bool.or_false])
        refine rz_aload_n 3 d_Se_prepareNeeds_101 rfl rfl ?_
        refine rz_iload_n 5 d_Se_prepareNeeds_102 rfl rfl ?_
        refine rz_iload_n 6 d_Se_prepareNeeds_103 rfl rfl ?_
        refine rz_aload 1 d_Se_prepareNeeds_104 rfl ?_
        refine rz_getf f_Se_106 ((((hPs.fr hFA SRok).2 (P' : Int) (by omega) (by omega)).re (X' : Int) (by omega) (by omega)).nd (j : Int) (by omega) (by omega)).1 rfl d_Se_prepareNeeds_106 ?_
        refine rz_iload 0 d_Se_prepareNeeds_109 rfl ?_
        refine rz_Seq [vi r16, vi ((M 6 (3 * (4 * (P' : Int) + (X' : Int)) + (j : Int))).toNat : Int), vi (X' : Int), vi (P' : Int), .ref se] (by rw [Int.tn (x := M 6 (3 * (4 * (P' : Int) + (X' : Int)) + (j : Int))) (by omega)]) ?_
        refine rz_callV (As := [vi (P' : Int), vi (X' : Int), vi ((M 6 (3 * (4 * (P' : Int) + (X' : Int)) + (j : Int))).toNat : Int), vi r16]) (c_Se_keepOnly hSA (P' := P') (X' := X') (O' := (M 6 (3 * (4 * (P' : Int) + (X' : Int)) + (j : Int))).toNat) hP (by omega) (by omega) (fi := r16) (Fi := fitM M (3 * (4 * (P' : Int) + (X' : Int)) + (j : Int))) BF (T := bsT M (nIx P' X' j)) TT) m_Se_125 hSA.1 rfl rfl rfl rfl (Nat.le_of_ble_eq_true rfl) ⟨by decide, by decide⟩ ⟨by decide, by decide⟩ d_Se_prepareNeeds_111 (kV (h := hA) fun h10 q10 => ?_)
        obtain ⟨S10, hS10, K10, T10, G10⟩ := q10
        have hF10 : rz_fr SR h h10 := hFA.tr G10
        refine rz_iinc ((j : Int) + 1) 2 [(5, vi ((j : Int) + 1)), (7, vi r16), (6, .ref (A 7 (3 * (4 * (P' : Int) + (X' : Int)) + (j : Int)))), (0, .ref se), (1, .ref pa), (2, vi (P' : Int)), (3, vi (X' : Int)), (4, .ref (A 3 (4 * (P' : Int) + (X' : Int))))] d_Se_prepareNeeds_114 rfl (by first | rfl | omega) (by decide) rfl ?_
        refine rz_goto 18 d_Se_prepareNeeds_117 (by decide) ?_
        refine rz_Lsub [(5, vi ((j : Int) + 1)), (0, .ref se), (1, .ref pa), (2, vi (P' : Int)), (3, vi (X' : Int)), (4, .ref (A 3 (4 * (P' : Int) + (X' : Int))))] [0, 3, 4, 5, 6, 7] rfl ?_
        refine ih18 (j + 1, h10, S10) ?_ ?_
        · try dsimp only
          exact ⟨by omega, hS10, hF10, (fun c r h2 h3 => (K10 c r h2).trans (KA c r h2 h3)), (fun p x q hp hx hq => (T10 p x q hp hx hq).c (fun y hy => by rw [nIx_J]; exact (bsT_s (O := (M 6 (3 * (4 * (P' : Int) + (X' : Int)) + (j : Int))).toNat) (by omega) (by omega) hx hy (by omega) (by show M 6 (3 * (4 * (P' : Int) + (X' : Int)) + (j : Int)) = _; omega)).symm)), (fun p x hp hx => by rw [K10 3 0 (by decide)]; exact DD p x hp hx)⟩
        · exact (by first | omega | (dsimp only; omega))
  · refine rz_Lsub [(5, vi 0), (0, .ref se), (1, .ref pa), (2, vi (P' : Int)), (3, vi (X' : Int)), (4, .ref (A 3 (4 * (P' : Int) + (X' : Int))))] [0, 2, 3, 4, 5, 1] rfl ?_
    refine LP (0, h, S) ?_
    try dsimp only
    exact ⟨by omega, hS, rz_fr.rf, (fun _ _ _ _ => rfl), hT, hD⟩
abbrev rm_Se_prepareUsable : Room := { frames := 4, cells := 0, slots := 0, locals := 85 }
set_option maxRecDepth 100000 in
set_option maxHeartbeats 4000000 in
theorem c_Se_prepareUsable {l : Launch} {Γ : rz_G} {h : rz_H} {se : Nat} {B : Nat → Int → Nat} {S : Nat → Int → Int → Int} (hS : SeAt Γ h se B S) {pa : Nat} {A : Nat → Int → Nat} {M : Nat → Int → Int} {F : Int → Int → Int} (hPs : PsAt Γ h pa A M F) (hBg : Big M F) {hv : Nat} (hHv : VeAt Γ h hv (vRt M 1) (vPt M 1)) {p : Nat} (hp : p < 6) (hT : ∀ p x q : Nat, p < 6 → x < 5 → q < 6 → Bt 5 (S 2 (p * 5 + x) q) (bsM M p x q)) : Ct l Γ x_Se_prepareUsable y_Se_prepareUsable rm_Se_prepareUsable [.ref se, vi (p : Int), .ref (A 0 (p : Int)), .ref hv] h (pV (fun h' => ∃ S', SeAt Γ h' se B S' ∧ (∀ c r, c ≠ 1 → S' c r = S c r) ∧ (∀ q : Int, q ≠ p → S' 1 0 q = S 1 0 q) ∧ Bt 5 (S' 1 0 p) (usM M p) ∧ rz_fr SR h h')) := by
  refine rz_met (by decide) rfl rfl (Nat.le_of_ble_eq_true rfl) (fun K _ => ?_)
  refine rz_Leq [(0, .ref se), (1, vi (p : Int)), (2, .ref (A 0 (p : Int))), (3, .ref hv)] rfl ?_
  obtain ⟨w2, w5, w6, w8, w9⟩ := M_big hBg.wf
  have w2p := w2 p (by omega) (by omega)
  refine rz_aload_n 0 d_Se_prepareUsable_0 rfl rfl ?_
  refine rz_getf f_Se_16 hS.1 rfl d_Se_prepareUsable_1 ?_
  refine rz_iload_n 1 d_Se_prepareUsable_4 rfl rfl ?_
  refine rz_bipush (v := 16) d_Se_prepareUsable_5 (by decide) ?_
  refine se_st1 hS rz_fr.rf (i := 0) (by omega) (by omega) d_Se_prepareUsable_7 (fun h1 hS1 hF1 => ?_)
  obtain ⟨S1, eS1⟩ : ∃ z, z = su S 1 0 (rz_u (S 1 0) (p : Int) 16) := ⟨_, rfl⟩
  rw [← eS1] at hS1
  refine rz_iconst d_Se_prepareUsable_8 ?_
  refine rz_istore [(4, vi 0), (0, .ref se), (1, vi (p : Int)), (2, .ref (A 0 (p : Int))), (3, .ref hv)] d_Se_prepareUsable_9 (by decide) rfl ?_
  refine rz_loop (α := Nat × rz_H × (Nat → Int → Int → Int)) 0 0 11 (fun (i, hA, SA) => 4 - i) (fun (i, hA, SA) => (i : Int) ≤ M 2 p ∧ SeAt Γ hA se B SA ∧ rz_fr SR h hA ∧ (∀ c r, c ≠ 1 → SA c r = S c r) ∧ (∀ q : Int, q ≠ p → SA 1 0 q = S 1 0 q) ∧ Bt 5 (SA 1 0 p) (usT M i p)) (fun (i, hA, SA) => [(4, vi (i : Int)), (0, .ref se), (1, vi (p : Int)), (2, .ref (A 0 (p : Int))), (3, .ref hv)]) (fun (i, hA, SA) => []) (fun (i, hA, SA) => hA) (fun y hy ih11 => ?_) (fun LP => ?_)
  · obtain ⟨i, hA, SA⟩ := y
    try dsimp only at hy ih11 ⊢
    obtain ⟨hi, hSA, hFA, KA, KQ, bU⟩ := hy
    refine rz_iload 0 d_Se_prepareUsable_11 rfl ?_
    refine rz_aload_n 3 d_Se_prepareUsable_13 rfl rfl ?_
    refine rz_callV (As := []) (c_Pl_size ((hPs.fr hFA SRok).2 (p : Int) (by omega) (by omega)) hBg.wf (by omega)) m_Se_52 ((hPs.fr hFA SRok).2 (p : Int) (by omega) (by omega)).ob rfl rfl rfl rfl (Nat.le_of_ble_eq_true rfl) ⟨by decide, by decide⟩ ⟨by decide, by decide⟩ d_Se_prepareUsable_14 (kE (h := hA) ?_)
    refine rz_icmp_ge 86 d_Se_prepareUsable_17 (by decide) (by omega) (by omega) (fun c17 => ?_) (fun c17 => ?_)
    · exact rz_return (st := []) rfl d_Se_prepareUsable_86 ⟨by decide, by decide⟩ ⟨rfl, SA, hSA, KA, KQ, (bU.c (fun x hx => usT_all (by omega))), hFA⟩
    · have HT : ∀ p x q : Nat, p < 6 → x < 5 → q < 6 → Bt 5 (SA 2 (p * 5 + x) q) (bsM M p x q) := fun p x q a b c => by rw [KA 2 _ (by decide)]; exact hT p x q a b c
      refine rz_aload_n 3 d_Se_prepareUsable_20 rfl rfl ?_
      refine rz_iload 0 d_Se_prepareUsable_21 rfl ?_
      refine rz_callV (As := [vi (i : Int)]) (c_Pl_at ((hPs.fr hFA SRok).2 (p : Int) (by omega) (by omega)) hBg.wf (by omega) (r := (i : Int)) (by omega)) m_Se_87 ((hPs.fr hFA SRok).2 (p : Int) (by omega) (by omega)).ob rfl rfl rfl rfl (Nat.le_of_ble_eq_true rfl) ⟨by decide, by decide⟩ ⟨by decide, by decide⟩ d_Se_prepareUsable_23 (kO (h := hA) (fun h2 q2 => absurd q2.1 (by rw [if_pos (by omega)]; simp)) fun a2 h2 q2 => ?_)
      rw [if_pos (by omega)] at q2
      rw [Option.some.inj q2.1, q2.2]
      refine rz_astore [(5, .ref (A 3 (4 * (p : Int) + (i : Int)))), (4, vi (i : Int)), (0, .ref se), (1, vi (p : Int)), (2, .ref (A 0 (p : Int))), (3, .ref hv)] d_Se_prepareUsable_26 (by decide) rfl ?_
      refine rz_aload_n 2 d_Se_prepareUsable_28 rfl rfl ?_
      refine rz_getf f_Se_20 hSA.1 rfl d_Se_prepareUsable_29 ?_
      refine rz_iload_n 3 d_Se_prepareUsable_32 rfl rfl ?_
      refine rz_iload 1 d_Se_prepareUsable_33 rfl ?_
      refine rz_callS (As := [vi (p : Int), vi (i : Int)]) c_Se_row m_Se_121 rfl rfl (Nat.le_of_ble_eq_true rfl) ⟨by decide, by decide⟩ ⟨by decide, by decide⟩ d_Se_prepareUsable_35 (kE (h := hA) ?_)
      obtain ⟨f3, fo3, fe3⟩ := hSA.2.1 (2, 30) (by decide)
      refine rz_aaloadA fo3 (show 60 + 2 ≠ 0 by decide) (by omega) d_Se_prepareUsable_38 ?_
      refine rz_Seq [.ref (B 2 ((p : Int) * 5 + (i : Int)))] (by rw [fe3 ((p : Int) * 5 + (i : Int)) (by omega) (by omega)]; rfl) ?_
      refine rz_iload_n 3 d_Se_prepareUsable_39 rfl rfl ?_
      refine rz_iaload (se_r2 hSA (i := ((p : Int) * 5 + (i : Int))) (by omega)) (show 52 ≠ 0 by decide) (by omega) d_Se_prepareUsable_40 ?_
      refine rz_iload 1 d_Se_prepareUsable_41 rfl ?_
      refine rz_callS (As := [vi (SA 2 ((p : Int) * 5 + (i : Int)) (p : Int)), vi (i : Int)]) (c_Rs_hasBit (HT p i p hp (by omega) hp) (by decide) (by omega)) m_Se_70 rfl rfl (Nat.le_of_ble_eq_true rfl) ⟨by decide, by decide⟩ ⟨by decide, by decide⟩ d_Se_prepareUsable_43 (kE (h := hA) ?_)
      refine rz_Seq [vi (bi (bsM M p i p i))] rfl ?_
      refine rz_istore [(6, vi (bi (bsM M p i p i))), (5, .ref (A 3 (4 * (p : Int) + (i : Int)))), (4, vi (i : Int)), (0, .ref se), (1, vi (p : Int)), (2, .ref (A 0 (p : Int))), (3, .ref hv)] d_Se_prepareUsable_46 (by decide) rfl ?_
      refine rz_aload 1 d_Se_prepareUsable_48 rfl ?_
      refine rz_ifnullR d_Se_prepareUsable_50 ?_
      refine rz_aload 1 d_Se_prepareUsable_53 rfl ?_
      refine rz_aload_n 6 d_Se_prepareUsable_55 rfl rfl ?_
      refine rz_callV (As := [.ref hv]) (c_Rl_isUsableOn hBg.wf (by omega) (((hPs.fr hFA SRok).2 (p : Int) (by omega) (by omega)).re (i : Int) (by omega) (by omega)) (hHv.s hFA)) m_Se_129 (((hPs.fr hFA SRok).2 (p : Int) (by omega) (by omega)).re (i : Int) (by omega) (by omega)).ob rfl rfl rfl rfl (Nat.le_of_ble_eq_true rfl) ⟨by decide, by decide⟩ ⟨by decide, by decide⟩ d_Se_prepareUsable_56 (kE (h := hA) ?_)
      refine rz_Seq [vi (bi (decide (M 3 (4 * (p : Int) + (i : Int)) = 0) && hstM M (4 * (p : Int) + (i : Int))))] (by rw [hst_ho hBg.val (by omega)]) ?_
      refine rz_if_eqB 80 d_Se_prepareUsable_59 (by decide) (fun c59 => ?_) (fun c59 => ?_)
      · refine rz_iinc ((i : Int) + 1) 2 [(4, vi ((i : Int) + 1)), (6, vi (bi (bsM M p i p i))), (5, .ref (A 3 (4 * (p : Int) + (i : Int)))), (0, .ref se), (1, vi (p : Int)), (2, .ref (A 0 (p : Int))), (3, .ref hv)] d_Se_prepareUsable_80 rfl (by first | rfl | omega) (by decide) rfl ?_
        refine rz_goto 11 d_Se_prepareUsable_83 (by decide) ?_
        refine rz_Lsub [(4, vi ((i : Int) + 1)), (0, .ref se), (1, vi (p : Int)), (2, .ref (A 0 (p : Int))), (3, .ref hv)] [0, 3, 4, 5, 6] rfl ?_
        refine ih11 (i + 1, hA, SA) ?_ ?_
        · try dsimp only
          exact ⟨by omega, hSA, hFA, KA, KQ, (bU.c (fun x hx => by rw [usT_s (by omega), usM_i (by omega) (by omega)]; first | (rw [c59, Bool.false_and, Bool.and_false, Bool.or_false]) | (rw [c64, Bool.and_false, Bool.and_false, Bool.or_false])))⟩
        · exact (by first | omega | (dsimp only; omega))
      · refine rz_iload 0 d_Se_prepareUsable_62 rfl ?_
        refine rz_if_eqB 80 d_Se_prepareUsable_64 (by decide) (fun c64 => ?_) (fun c64 => ?_)
        · refine rz_iinc ((i : Int) + 1) 2 [(4, vi ((i : Int) + 1)), (6, vi (bi (bsM M p i p i))), (5, .ref (A 3 (4 * (p : Int) + (i : Int)))), (0, .ref se), (1, vi (p : Int)), (2, .ref (A 0 (p : Int))), (3, .ref hv)] d_Se_prepareUsable_80 rfl (by first | rfl | omega) (by decide) rfl ?_
          refine rz_goto 11 d_Se_prepareUsable_83 (by decide) ?_
          refine rz_Lsub [(4, vi ((i : Int) + 1)), (0, .ref se), (1, vi (p : Int)), (2, .ref (A 0 (p : Int))), (3, .ref hv)] [0, 3, 4, 5, 6] rfl ?_
          refine ih11 (i + 1, hA, SA) ?_ ?_
          · try dsimp only
            exact ⟨by omega, hSA, hFA, KA, KQ, (bU.c (fun x hx => by rw [usT_s (by omega), usM_i (by omega) (by omega)]; first | (rw [c59, Bool.false_and, Bool.and_false, Bool.or_false]) | (rw [c64, Bool.and_false, Bool.and_false, Bool.or_false])))⟩
          · exact (by first | omega | (dsimp only; omega))
        · refine rz_aload_n 3 d_Se_prepareUsable_67 rfl rfl ?_
          refine rz_getf f_Se_16 hSA.1 rfl d_Se_prepareUsable_68 ?_
          refine rz_iload_n 4 d_Se_prepareUsable_71 rfl rfl ?_
          refine rz_dup2 d_Se_prepareUsable_72 rfl rfl ?_
          refine rz_iaload (se_r1 hSA (i := 0) (by omega)) (show 51 ≠ 0 by decide) (by omega) d_Se_prepareUsable_73 ?_
          obtain ⟨s1, es1, bs1⟩ := Bt.shl (n := 5) (i := (i : Int)) (by decide) (by omega)
          obtain ⟨r2, er2, bu2⟩ := bU.or bs1
          refine rz_iconst d_Se_prepareUsable_74 ?_
          refine rz_iload 2 d_Se_prepareUsable_75 rfl ?_
          refine rz_ishl s1 es1 d_Se_prepareUsable_77 ?_
          refine rz_ior r2 er2 d_Se_prepareUsable_78 ?_
          refine se_st1 hSA hFA (i := 0) (by omega) (by omega) d_Se_prepareUsable_79 (fun h4 hS4 hF4 => ?_)
          obtain ⟨S4, eS4⟩ : ∃ z, z = su SA 1 0 (rz_u (SA 1 0) (p : Int) r2) := ⟨_, rfl⟩
          rw [← eS4] at hS4
          refine rz_iinc ((i : Int) + 1) 2 [(4, vi ((i : Int) + 1)), (6, vi (bi (bsM M p i p i))), (5, .ref (A 3 (4 * (p : Int) + (i : Int)))), (0, .ref se), (1, vi (p : Int)), (2, .ref (A 0 (p : Int))), (3, .ref hv)] d_Se_prepareUsable_80 rfl (by first | rfl | omega) (by decide) rfl ?_
          refine rz_goto 11 d_Se_prepareUsable_83 (by decide) ?_
          refine rz_Lsub [(4, vi ((i : Int) + 1)), (0, .ref se), (1, vi (p : Int)), (2, .ref (A 0 (p : Int))), (3, .ref hv)] [0, 3, 4, 5, 6] rfl ?_
          refine ih11 (i + 1, h4, S4) ?_ ?_
          · try dsimp only
            exact ⟨by omega, hS4, hF4, (fun c r hc => by rw [eS4, su_n (by omega)]; exact KA c r hc), (fun q hq => by rw [eS4, su_s, rz_u_n hq]; exact KQ q hq), (by rw [eS4, su_s, rz_u_s]; exact bu2.c (fun x hx => by rw [usT_s (by omega), usM_i (by omega) (by omega), c59, c64, Bool.true_and, Bool.and_true, show ((i : Int)).toNat = i by omega]))⟩
          · exact (by first | omega | (dsimp only; omega))
  · refine rz_Lsub [(4, vi 0), (0, .ref se), (1, vi (p : Int)), (2, .ref (A 0 (p : Int))), (3, .ref hv)] [0, 1, 2, 3, 4] rfl ?_
    refine LP (0, h1, S1) ?_
    try dsimp only
    exact ⟨by omega, hS1, hF1, (fun c r hc => by rw [eS1, su_n (by omega)]), (fun q hq => by rw [eS1, su_s, rz_u_n hq]), (by rw [eS1, su_s, rz_u_s]; exact Bt.b16.c (fun x hx => (usT_0 M p x).symm))⟩
abbrev rm_Se_prepareAsks : Room := { frames := 4, cells := 0, slots := 0, locals := 87 }
set_option maxRecDepth 100000 in
set_option maxHeartbeats 4000000 in
theorem c_Se_prepareAsks {l : Launch} {Γ : rz_G} {h : rz_H} {se : Nat} {B : Nat → Int → Nat} {S : Nat → Int → Int → Int} (hS : SeAt Γ h se B S) {pa : Nat} {A : Nat → Int → Nat} {M : Nat → Int → Int} {F : Int → Int → Int} (hPs : PsAt Γ h pa A M F) (hBg : Big M F) {al : Nat} (hAs : AsAt Γ h al A M) : Ct l Γ x_Se_prepareAsks y_Se_prepareAsks rm_Se_prepareAsks [.ref se, .ref pa, .ref al] h (pV (fun h' => ∃ S', SeAt Γ h' se B S' ∧ (∀ c r, c ≠ 4 → c ≠ 5 → c ≠ 6 → S' c r = S c r) ∧ S' 6 0 0 = M 8 0 ∧ (∀ a : Nat, (a : Int) < M 8 0 → S' 4 0 a = M 9 a ∧ Bt 5 (S' 5 0 a) (fun x => decide (x < 4) && vIn M (M 9 a) x (2 + a))) ∧ rz_fr SR h h')) := by
  refine rz_met (by decide) rfl rfl (Nat.le_of_ble_eq_true rfl) (fun K _ => ?_)
  refine rz_Leq [(0, .ref se), (1, .ref pa), (2, .ref al)] rfl ?_
  obtain ⟨w2, w5, w6, w8, w9⟩ := M_big hBg.wf
  refine rz_aload_n 0 d_Se_prepareAsks_0 rfl rfl ?_
  refine rz_aload_n 2 d_Se_prepareAsks_1 rfl rfl ?_
  obtain ⟨fso1, so1⟩ := hAs.1.ob
  refine rz_callV (As := []) (c_Al_size hAs.1) m_Se_97 so1 rfl rfl rfl rfl (Nat.le_of_ble_eq_true rfl) ⟨by decide, by decide⟩ ⟨by decide, by decide⟩ d_Se_prepareAsks_2 (kE (h := h) ?_)
  refine rz_Seq [vi (M 8 0), .ref se] (by rw [Int.tn (by omega)]) ?_
  refine rz_iconst d_Se_prepareAsks_5 ?_
  refine rz_mmin (M 8 0) mm_Se_133 (by omega) ⟨by decide, by decide⟩ (by omega) (by decide) (Nat.le_of_ble_eq_true rfl) ⟨by decide, by decide⟩ d_Se_prepareAsks_6 ?_
  refine se_pf 6 (by decide) hS rz_fr.rf (fp_Se_32 _) d_Se_prepareAsks_9 (fun h2 hS2 hF2 => ?_)
  obtain ⟨S2, eS2⟩ : ∃ z, z = su S 6 0 (fun _ => M 8 0) := ⟨_, rfl⟩
  rw [← eS2] at hS2
  refine rz_iconst d_Se_prepareAsks_12 ?_
  refine rz_istore_n [(3, vi 0), (0, .ref se), (1, .ref pa), (2, .ref al)] d_Se_prepareAsks_13 rfl (by decide) rfl ?_
  refine rz_loop (α := Nat × rz_H × (Nat → Int → Int → Int)) 0 0 14 (fun (i, hA, SA) => 4 - i) (fun (i, hA, SA) => (i : Int) ≤ M 8 0 ∧ SeAt Γ hA se B SA ∧ rz_fr SR h hA ∧ (∀ c r, c ≠ 4 → c ≠ 5 → c ≠ 6 → SA c r = S c r) ∧ SA 6 0 0 = M 8 0 ∧ (∀ a : Nat, a < i → SA 4 0 a = M 9 a ∧ Bt 5 (SA 5 0 a) (fun x => decide (x < 4) && vIn M (M 9 a) x (2 + a)))) (fun (i, hA, SA) => [(3, vi (i : Int)), (0, .ref se), (1, .ref pa), (2, .ref al)]) (fun (i, hA, SA) => []) (fun (i, hA, SA) => hA) (fun y hy ih14 => ?_) (fun LP => ?_)
  · obtain ⟨i, hA, SA⟩ := y
    try dsimp only at hy ih14 ⊢
    obtain ⟨hi, hSA, hFA, KA, K6, vA⟩ := hy
    refine rz_iload_n 0 d_Se_prepareAsks_14 rfl rfl ?_
    refine rz_aload_n 1 d_Se_prepareAsks_15 rfl rfl ?_
    refine rz_getf f_Se_32 hSA.1 rfl d_Se_prepareAsks_16 ?_
    refine rz_Seq [vi (M 8 0), vi (i : Int)] (by rw [K6]) ?_
    refine rz_icmp_ge 70 d_Se_prepareAsks_19 (by decide) (by omega) (by omega) (fun c19 => ?_) (fun c19 => ?_)
    · exact rz_return (st := []) rfl d_Se_prepareAsks_70 ⟨by decide, by decide⟩ ⟨rfl, SA, hSA, KA, K6, (fun a ha => vA a (by omega)), hFA⟩
    · have w9i := w9 i (by omega) (by omega)
      have w2i := w2 (M 9 i) (by omega) (by omega)
      refine rz_aload_n 3 d_Se_prepareAsks_22 rfl rfl ?_
      refine rz_iload_n 0 d_Se_prepareAsks_23 rfl rfl ?_
      obtain ⟨fso3, so3⟩ := (hAs.fr hFA SRok).1.ob
      refine rz_callV (As := [vi (i : Int)]) (c_Al_get (hAs.fr hFA SRok).1 (i := (i : Int)) (y := (A 9 (i : Int))) (by omega) (by omega) rfl) m_Se_100 so3 rfl rfl rfl rfl (Nat.le_of_ble_eq_true rfl) ⟨by decide, by decide⟩ ⟨by decide, by decide⟩ d_Se_prepareAsks_24 (kR (h := hA) fun b4 h4 q4 => ?_)
      rw [q4.1, q4.2]
      refine rz_cast ((hAs.fr hFA SRok).2 (i : Int) (by omega) (by omega)).1 rfl cl_Se_138 d_Se_prepareAsks_27 ?_
      refine rz_astore [(4, .ref (A 9 (i : Int))), (3, vi (i : Int)), (0, .ref se), (1, .ref pa), (2, .ref al)] d_Se_prepareAsks_30 (by decide) rfl ?_
      refine rz_aload_n 2 d_Se_prepareAsks_32 rfl rfl ?_
      refine rz_getf f_Se_26 hSA.1 rfl d_Se_prepareAsks_33 ?_
      refine rz_iload_n 1 d_Se_prepareAsks_36 rfl rfl ?_
      refine rz_aload 0 d_Se_prepareAsks_37 rfl ?_
      refine rz_getf f_Se_140 ((hAs.fr hFA SRok).2 (i : Int) (by omega) (by omega)).1 rfl d_Se_prepareAsks_39 ?_
      refine se_st4 hSA hFA (i := 0) (by omega) (by omega) d_Se_prepareAsks_42 (fun h5 hS5 hF5 => ?_)
      obtain ⟨S5, eS5⟩ : ∃ z, z = su SA 4 0 (rz_u (SA 4 0) (i : Int) (M 9 (i : Int))) := ⟨_, rfl⟩
      rw [← eS5] at hS5
      refine rz_aload_n 2 d_Se_prepareAsks_43 rfl rfl ?_
      refine rz_getf f_Se_29 hS5.1 rfl d_Se_prepareAsks_44 ?_
      refine rz_iload_n 1 d_Se_prepareAsks_47 rfl rfl ?_
      refine rz_aload_n 3 d_Se_prepareAsks_48 rfl rfl ?_
      refine rz_aload 0 d_Se_prepareAsks_49 rfl ?_
      refine rz_getf f_Se_140 ((hAs.fr hF5 SRok).2 (i : Int) (by omega) (by omega)).1 rfl d_Se_prepareAsks_51 ?_
      obtain ⟨f6, fo6, fe6⟩ := (hPs.fr hF5 SRok).1
      refine rz_aaload fo6 rfl (show (33 : Nat) ≠ 0 by decide) (by omega) d_Se_prepareAsks_54 ?_
      refine rz_Seq [.ref (A 0 (M 9 (i : Int))), vi (i : Int), .ref (B 5 0)] (by rw [fe6 (M 9 (i : Int)) (by omega) (by omega)]; rfl) ?_
      refine rz_aload 0 d_Se_prepareAsks_55 rfl ?_
      refine rz_getf f_Se_141 ((hAs.fr hF5 SRok).2 (i : Int) (by omega) (by omega)).1 rfl d_Se_prepareAsks_57 ?_
      refine rz_callV (As := [.ref (A 10 (i : Int))]) (c_Pl_releasesIn ((hPs.fr hF5 SRok).2 (M 9 (i : Int)) (by omega) (by omega)) hBg.wf (by omega) ((hAs.fr hF5 SRok).2 (i : Int) (by omega) (by omega)).2) m_Se_113 ((hPs.fr hF5 SRok).2 (M 9 (i : Int)) (by omega) (by omega)).ob rfl rfl rfl rfl (Nat.le_of_ble_eq_true rfl) ⟨by decide, by decide⟩ ⟨by decide, by decide⟩ d_Se_prepareAsks_60 (kI (h := h5) fun b7 h7 q7 => ?_)
      obtain ⟨bt7, eh7⟩ := q7
      rw [eh7]
      have bta := bt7
      refine se_st5 hS5 hF5 (i := 0) (by omega) (by omega) d_Se_prepareAsks_63 (fun h8 hS8 hF8 => ?_)
      obtain ⟨S8, eS8⟩ : ∃ z, z = su S5 5 0 (rz_u (S5 5 0) (i : Int) b7) := ⟨_, rfl⟩
      rw [← eS8] at hS8
      have VV : ∀ a : Nat, a < i + 1 → S8 4 0 a = M 9 a ∧ Bt 5 (S8 5 0 a) (fun x => decide (x < 4) && vIn M (M 9 a) x (2 + a)) := fun a ha => by
        by_cases c : a = i
        · rw [c]
          refine ⟨by rw [eS8, su_n (by omega), eS5, su_s, rz_u_s], ?_⟩
          rw [eS8, su_s, rz_u_s]
          exact bta.c (fun x hx => by
            rw [show inF M (M 9 i) (mAt M (2 + i)) (M 1 (2 + i)) (M 2 (M 9 i)) x = vIn M (M 9 i) x (2 + i) from vIn_ho hBg.val.1 (by omega) (hBg.val.2.2.2.2 i (by omega) (by omega))]
            by_cases d : x < 4
            · rw [decide_eq_true d, Bool.true_and]
            · rw [decide_eq_false d, Bool.false_and, vIn, decide_eq_false (show ¬ (x : Int) < M 2 (M 9 i) by omega), Bool.false_and])
        · have z := vA a (by omega)
          refine ⟨?_, ?_⟩
          · rw [eS8, su_n (by omega), eS5, su_s, rz_u_n (by omega)]; exact z.1
          · rw [eS8, su_s, rz_u_n (by omega), eS5, su_n (by omega)]; exact z.2
      refine rz_iinc ((i : Int) + 1) 1 [(3, vi ((i : Int) + 1)), (4, .ref (A 9 (i : Int))), (0, .ref se), (1, .ref pa), (2, .ref al)] d_Se_prepareAsks_64 rfl (by first | rfl | omega) (by decide) rfl ?_
      refine rz_goto 14 d_Se_prepareAsks_67 (by decide) ?_
      refine rz_Lsub [(3, vi ((i : Int) + 1)), (0, .ref se), (1, .ref pa), (2, .ref al)] [0, 2, 3, 4] rfl ?_
      refine ih14 (i + 1, h8, S8) ?_ ?_
      · try dsimp only
        exact ⟨by omega, hS8, hF8, (fun c r a b d => by rw [eS8, su_n (by omega), eS5, su_n (by omega)]; exact KA c r a b d), (by rw [eS8, su_n (by omega), eS5, su_n (by omega)]; exact K6), VV⟩
      · exact (by first | omega | (dsimp only; omega))
  · refine rz_Lsub [(3, vi 0), (0, .ref se), (1, .ref pa), (2, .ref al)] [0, 1, 2, 3] rfl ?_
    refine LP (0, h2, S2) ?_
    try dsimp only
    exact ⟨by omega, hS2, hF2, (fun c r a b d => by rw [eS2, su_n (by omega)]), (by rw [eS2, su_s]), (fun a ha => absurd ha (by omega))⟩

/-! the class: solve 2 -/
def XR : List Nat := [30, 39, 40, 50, 51, 52, 53, 54, 55, 58]
theorem RsAt.sol {Γ : rz_G} {h h' : rz_H} {x : Nat} {A : Nat → Int → Nat} {B : Nat → Int → Nat} {S S' : Nat → Int → Int → Int} {M : Nat → Int → Int} {F : Int → Int → Int} {bl : Int} {g : Int → Int} (hR : RsAt Γ h x A B S M F) (hw : mWF M) (hf : rz_fr XR h h') (hx : h' x = some ((30, 0), .inr (7, [.ref (A 11 0), .ref (A 12 0), .ref (A 13 0), .ref (A 14 0), .ref (A 15 0), vi (bi (fnd M)), .ref (A 16 0), vi bl]))) (hS : SeAt Γ h' (A 14 0) B S') (hsa : h' (A 16 0) = some ((39, 0), aI Γ 0 6 g)) (hsl : ∀ M', solP M M' → ∀ p : Nat, p < 6 → g p = slN M' p) (hbl : ∀ M', solP M M' → Bt 4 bl (blF4 M')) (M' : Nat → Int → Int) (hs : solP M M') : RsAt Γ h' x A B S' M' F := by
  obtain ⟨-, b, c, d, -, f, -, k⟩ := hR
  have en : ∀ k, k < 10 → M' k = M k := fun k q => hs.1 k (by simp; omega)
  have tx : ∀ t, txE M M' t := fun t => ⟨mAt_n (en 0 (by decide)) (en 1 (by decide)), by rw [en 1 (by decide)]⟩
  refine ⟨⟨bl, by rw [rs_F, hs.2.1]; exact hx, hbl M' hs⟩, ?_, (c.fd hf (by decide)).t hw (fun c hc => en c (by revert hc; simp; omega)) (fun t _ _ => tx t), (d.fd hf (by decide)).t hw (en 8 (by decide)) (en 9 (by decide)) (fun t _ _ => tx t), hS, (f.fr hf (by decide)).t (tx 1), ⟨g, hsa, fun p a b => ?_⟩, k.fr hf (by decide)⟩
  · rw [(tx 0).1, (tx 0).2]; exact b.fd hf (by decide)
  · have := hsl M' hs p.toNat (by omega); rwa [Int.tn a] at this
theorem sol_sl {M M' : Nat → Int → Int} (hs : solP M M') (hw : mWF M) (hg : gtOK M) (hf : fnd M = true) {p : Nat} (hp : p < 6) : (if oM (mAll M) (srch (mAll M)) p = 4 then -4 else (oM (mAll M) (srch (mAll M)) p : Int)) = slN M' p ∧ ((oM (mAll M) (srch (mAll M)) p = 4 ∧ sel M (srch (mAll M)) p = -1) ∨ (oM (mAll M) (srch (mAll M)) p < 4 ∧ sel M (srch (mAll M)) p = oM (mAll M) (srch (mAll M)) p)) := by
  have hk : srch (mAll M) < 15625 := of_decide_eq_true hf
  have ok : okS (mAll M) (srch (mAll M)) = true := srF_ok (M := mAll M) 15625 0 (by show srch (mAll M) < _; omega)
  have oo := opt_ok (M := mAll M) hw (gtOK_m hg _) ok hp
  rw [sel_K (M := M) (M' := mAll M) (fun k hk => mu_n (by omega)) (srch (mAll M)) p] at oo
  refine ⟨?_, oo⟩
  rw [slN, hs.2.1, hf, hs.2.2.2.2.1 hf p (by omega) (by omega)]
  rcases oo with ⟨a, b⟩ | ⟨a, b⟩
  · rw [if_pos a, if_pos (Or.inr (by omega))]
  · rw [if_neg (by omega), if_neg (fun z => by rcases z with z | z
                                               · exact absurd z (by decide)
                                               · omega), b]
theorem sol_b1 {M M' : Nat → Int → Int} (hs : solP M M') (hf : fnd M = true) : Bt 4 0 (blF4 M') := (Bt.zero 4).c (fun i _ => by unfold blF4; rw [hs.2.2.1, hf]; rfl)
theorem sol_b0 {M M' : Nat → Int → Int} {r : Int} (hs : solP M M') (hf : fnd M = false) (hb : Bt 4 r (fun b => blB (mAll M) b)) : Bt 4 r (blF4 M') := hb.c (fun i hi => by
  unfold blF4
  rw [hs.2.2.1, hf, hs.2.2.2.2.2.2 hf i (by omega) (by omega)]
  cases blB (mAll M) i <;> rfl)
theorem sol_n {M M' : Nat → Int → Int} (hs : solP M M') (hf : fnd M = false) (p : Int) : slN M' p = -4 := by rw [slN, hs.2.1, hf]; exact if_pos (Or.inl rfl)
theorem sol_o {M : Nat → Int → Int} (hw : mWF M) (hg : gtOK M) (hf : fnd M = true) {p : Nat} (hp : p < 6) : (oM (mAll M) (srch (mAll M)) p = 4 ∧ sel M (srch (mAll M)) p = -1) ∨ (oM (mAll M) (srch (mAll M)) p < 4 ∧ sel M (srch (mAll M)) p = oM (mAll M) (srch (mAll M)) p) := by
  have hk : srch (mAll M) < 15625 := of_decide_eq_true hf
  have ok : okS (mAll M) (srch (mAll M)) = true := srF_ok (M := mAll M) 15625 0 (by show srch (mAll M) < _; omega)
  have oo := opt_ok (M := mAll M) hw (gtOK_m hg _) ok hp
  rwa [sel_K (M := M) (M' := mAll M) (fun k hk => mu_n (by omega)) (srch (mAll M)) p] at oo
abbrev rm_Rs_solve : Room := { frames := 39, cells := 0, slots := 0, locals := 1668 }
set_option maxRecDepth 100000 in
set_option maxHeartbeats 4000000 in
theorem c_Rs_solve {l : Launch} {Γ : rz_G} {h : rz_H} {x : Nat} {A : Nat → Int → Nat} {B : Nat → Int → Nat} {S : Nat → Int → Int → Int} {M : Nat → Int → Int} {F : Int → Int → Int} (hR : RsAt Γ h x A B S M F) (hBg : Big M F) : Ct l Γ x_Rs_solve y_Rs_solve rm_Rs_solve [.ref x] h (pI (fun r h' => r = solR M ∧ ∃ A' S', (∀ M', solP M M' → RsAt Γ h' x A' B S' M' F) ∧ rz_fr CR h h')) := by
  refine rz_met (by decide) rfl rfl (Nat.le_of_ble_eq_true rfl) (fun K _ => ?_)
  refine rz_Leq [(0, .ref x)] rfl ?_
  have hR0 := hR
  obtain ⟨⟨bl, hx, hbl⟩, hSb, hPs, hAs, hSe, hHv, ⟨gs, hsa, hgs⟩, hk⟩ := hR
  obtain ⟨w2, w5, w6, w8, w9⟩ := M_big hBg.wf
  have w1 := hBg.wf.1 0 (by omega) (by omega)
  have rk := fl_ok hBg.fl
  refine rz_aload_n 0 d_Rs_solve_0 rfl rfl ?_
  refine rz_getf f_Rs_32 hx rfl d_Rs_solve_1 ?_
  refine rz_aload_n 0 d_Rs_solve_4 rfl rfl ?_
  refine rz_getf f_Rs_18 hx rfl d_Rs_solve_5 ?_
  refine rz_aload_n 0 d_Rs_solve_8 rfl rfl ?_
  refine rz_getf f_Rs_43 hx rfl d_Rs_solve_9 ?_
  refine rz_aload_n 0 d_Rs_solve_12 rfl rfl ?_
  refine rz_getf f_Rs_25 hx rfl d_Rs_solve_13 ?_
  refine rz_callV (As := [.ref (A 12 0), .ref (A 15 0), .ref (A 13 0)]) (c_Se_prepare hSe hPs hBg hHv hAs) m_Rs_167 hSe.1 rfl rfl rfl rfl (Nat.le_of_ble_eq_true rfl) ⟨by decide, by decide⟩ ⟨by decide, by decide⟩ d_Rs_solve_16 (kV (h := h) fun h1 q1 => ?_)
  obtain ⟨S1, hSe_1, pr1, G1⟩ := q1
  have FX1 : rz_fr XR h h1 := rz_fr.rf.tr (G1.mono (by decide))
  have fc_2_0 : h1 x = some ((30, 0), .inr (7, [.ref (A 11 0), .ref (A 12 0), .ref (A 13 0), .ref (A 14 0), .ref (A 15 0), vi (M 12 0), .ref (A 16 0), vi bl])) := G1 _ _ _ hx (show 30 ∉ ([40, 50, 51, 52, 53, 54, 55, 58] : List Nat) by decide)
  have fc_2_1 : h1 (A 16 0) = some ((39, 0), aI Γ 0 6 gs) := G1 _ _ _ hsa (show 39 ∉ ([40, 50, 51, 52, 53, 54, 55, 58] : List Nat) by decide)
  have hSb_2 : SbC Γ h1 (A 11 0) (M 1 0).toNat (mAt M 0) 0 := SbC.fd hSb G1 (by decide)
  have hPs_2 : PsAt Γ h1 (A 12 0) A M F := PsAt.fd hPs G1 (by decide)
  have hAs_2 : AsAt Γ h1 (A 13 0) A M := AsAt.fd hAs G1 (by decide)
  have hHv_2 : VeAt Γ h1 (A 15 0) (vRt M 1) (vPt M 1) := VeAt.fr hHv G1 (by decide)
  have hk_2 : KsAt Γ h1 := KsAt.fr hk G1 (by decide)
  refine rz_iconst d_Rs_solve_19 ?_
  refine rz_aload_n 0 d_Rs_solve_20 rfl rfl ?_
  refine rz_getf f_Rs_25 fc_2_0 rfl d_Rs_solve_21 ?_
  obtain ⟨fso3, so3⟩ := hAs_2.1.ob
  refine rz_callV (As := []) (c_Al_size hAs_2.1) m_Rs_121 so3 rfl rfl rfl rfl (Nat.le_of_ble_eq_true rfl) ⟨by decide, by decide⟩ ⟨by decide, by decide⟩ d_Rs_solve_24 (kE (h := h1) ?_)
  refine rz_Seq [vi (M 8 0), vi 1] (by rw [Int.tn (by omega)]) ?_
  have s1 := shlN (M 8 0).toNat (by omega)
  rw [Int.tn w8.1] at s1
  refine rz_ishl ((2 ^ (M 8 0).toNat : Nat) : Int) s1 d_Rs_solve_27 ?_
  refine rz_iconst d_Rs_solve_28 ?_
  refine rz_isub d_Rs_solve_29 ?_
  refine rz_top (fun ev e_ev => ?_)
  replace e_ev := e_ev.symm
  refine rz_istore_n [(1, vi ev), (0, .ref x)] d_Rs_solve_30 rfl (by decide) rfl ?_
  have EV : Bt 4 ev (fun i => decide (i < (M 8 0).toNat)) := by rw [← e_ev]; exact Bt.low (M 8 0).toNat (by omega)
  refine rz_aload_n 1 d_Rs_solve_31 rfl rfl ?_
  refine rz_aload_n 1 d_Rs_solve_32 rfl rfl ?_
  refine rz_getf f_Rs_32 fc_2_0 rfl d_Rs_solve_33 ?_
  refine rz_iload_n 0 d_Rs_solve_36 rfl rfl ?_
  refine rz_callV (As := [vi ev]) (c_Se_finds hSe_1 (M := mAll M) hBg.wf (rkOK_m rk.1 _) (gtOK_m rk.2 _) (pr1.m _) EV (fun a ha => by show decide (a < (M 8 0).toNat) = _; have h2 : (a : Int) < M 8 0 := ha; rw [decide_eq_true (show a < (M 8 0).toNat by omega)]; exact (decide_eq_true (by rw [show mAll M 10 = onF M 4 from mu_s _ _ _, onF, if_pos (by omega)]; decide)).symm)) m_Rs_171 hSe_1.1 rfl rfl rfl rfl (Nat.le_of_ble_eq_true rfl) ⟨by decide, by decide⟩ ⟨by decide, by decide⟩ d_Rs_solve_37 (kI (h := h1) fun r4 h4 q4 => ?_)
  obtain ⟨S4, hSe_4, K4, er4, L4, G4⟩ := q4
  rw [show r4 = bi (fnd M) from er4]
  have FX4 : rz_fr XR h h4 := FX1.tr (G4.mono (by decide))
  have fc_5_0 : h4 x = some ((30, 0), .inr (7, [.ref (A 11 0), .ref (A 12 0), .ref (A 13 0), .ref (A 14 0), .ref (A 15 0), vi (M 12 0), .ref (A 16 0), vi bl])) := G4 _ _ _ fc_2_0 (show 30 ∉ ([40, 50, 51, 52, 53, 54, 55, 58] : List Nat) by decide)
  have fc_5_1 : h4 (A 16 0) = some ((39, 0), aI Γ 0 6 gs) := G4 _ _ _ fc_2_1 (show 39 ∉ ([40, 50, 51, 52, 53, 54, 55, 58] : List Nat) by decide)
  have hSb_5 : SbC Γ h4 (A 11 0) (M 1 0).toNat (mAt M 0) 0 := SbC.fd hSb_2 G4 (by decide)
  have hPs_5 : PsAt Γ h4 (A 12 0) A M F := PsAt.fd hPs_2 G4 (by decide)
  have hAs_5 : AsAt Γ h4 (A 13 0) A M := AsAt.fd hAs_2 G4 (by decide)
  have hHv_5 : VeAt Γ h4 (A 15 0) (vRt M 1) (vPt M 1) := VeAt.fr hHv_2 G4 (by decide)
  have hk_5 : KsAt Γ h4 := KsAt.fr hk_2 G4 (by decide)
  refine rz_putf (fp_Rs_47 _) fc_5_0 (show (30 : Nat) ≠ 0 by decide) (nz_b _) (fz_b _) (show 5 < 8 by decide) d_Rs_solve_40 ?_
  refine rz_nm fun h6 eh6 => ?_
  have g6 : rz_fr [30] h4 h6 := by rw [eh6]; exact rz_fr.one fc_5_0
  have fc_7_0 : h6 (A 16 0) = some ((39, 0), aI Γ 0 6 gs) := g6 _ _ _ fc_5_1 (show 39 ∉ ([30] : List Nat) by decide)
  have hSb_7 : SbC Γ h6 (A 11 0) (M 1 0).toNat (mAt M 0) 0 := SbC.fd hSb_5 g6 (by decide)
  have hPs_7 : PsAt Γ h6 (A 12 0) A M F := PsAt.fd hPs_5 g6 (by decide)
  have hAs_7 : AsAt Γ h6 (A 13 0) A M := AsAt.fd hAs_5 g6 (by decide)
  have hHv_7 : VeAt Γ h6 (A 15 0) (vRt M 1) (vPt M 1) := VeAt.fr hHv_5 g6 (by decide)
  have hk_7 : KsAt Γ h6 := KsAt.fr hk_5 g6 (by decide)
  have hSe_7 : SeAt Γ h6 (A 14 0) B S4 := SeAt.fr hSe_4 g6 (by decide)
  have fu_6 : h6 x = some ((30, 0), .inr (7, [.ref (A 11 0), .ref (A 12 0), .ref (A 13 0), .ref (A 14 0), .ref (A 15 0), vi (bi (fnd M)), .ref (A 16 0), vi bl])) := by rw [eh6]; exact rz_up_s _ _ _
  have FX6 : rz_fr XR h h6 := FX4.tr (g6.mono (by decide))
  refine rz_aload_n 1 d_Rs_solve_43 rfl rfl ?_
  refine rz_getf f_Rs_47 fu_6 rfl d_Rs_solve_44 ?_
  refine rz_if_eqB 60 d_Rs_solve_47 (by decide) (fun c47 => ?_) (fun c47 => ?_)
  · refine rz_aload_n 1 d_Rs_solve_60 rfl rfl ?_
    refine rz_getf f_Rs_51 fu_6 rfl d_Rs_solve_61 ?_
    refine rz_bipush (v := (-4)) d_Rs_solve_64 (by decide) ?_
    refine rz_callS (As := [.ref (A 16 0), vi (-4)]) (c_Ar_fill fc_7_0 (by decide) (by decide) (v := (-4))) m_Rs_60 rfl rfl (Nat.le_of_ble_eq_true rfl) ⟨by decide, by decide⟩ ⟨by decide, by decide⟩ d_Rs_solve_66 (kV (h := h6) fun h8 q8 => ?_)
    obtain ⟨gf, ff, ef, Gf⟩ := q8
    have G8 : rz_fr [39] h6 h8 := rz_fo.fr1 fc_7_0 Gf
    have FX8 : rz_fr XR h h8 := FX6.tr (G8.mono (by decide))
    have fc_9_0 : h8 x = some ((30, 0), .inr (7, [.ref (A 11 0), .ref (A 12 0), .ref (A 13 0), .ref (A 14 0), .ref (A 15 0), vi (bi (fnd M)), .ref (A 16 0), vi bl])) := G8 _ _ _ fu_6 (show 30 ∉ ([39] : List Nat) by decide)
    have hSb_9 : SbC Γ h8 (A 11 0) (M 1 0).toNat (mAt M 0) 0 := SbC.fd hSb_7 G8 (by decide)
    have hPs_9 : PsAt Γ h8 (A 12 0) A M F := PsAt.fd hPs_7 G8 (by decide)
    have hAs_9 : AsAt Γ h8 (A 13 0) A M := AsAt.fd hAs_7 G8 (by decide)
    have hHv_9 : VeAt Γ h8 (A 15 0) (vRt M 1) (vPt M 1) := VeAt.fr hHv_7 G8 (by decide)
    have hk_9 : KsAt Γ h8 := KsAt.fr hk_7 G8 (by decide)
    have hSe_9 : SeAt Γ h8 (A 14 0) B S4 := SeAt.fr hSe_7 G8 (by decide)
    refine rz_aload_n 1 d_Rs_solve_69 rfl rfl ?_
    refine rz_aload_n 1 d_Rs_solve_70 rfl rfl ?_
    refine rz_iload_n 0 d_Rs_solve_71 rfl rfl ?_
    refine rz_callV (As := [vi ev]) (c_Rs_blameAmong fc_9_0 rfl rfl (hAs_9.mv hBg.wf (M' := mAll M) (A' := A) (fun _ _ _ => rfl) rfl (fun _ _ _ => rfl) (fun _ _ _ => ⟨rfl, rfl⟩)) hSe_9 (M := mAll M) hBg.wf (rkOK_m rk.1 _) (gtOK_m rk.2 _) ((pr1.m _).c K4) (fun a a0 a1 => by rw [show mAll M 10 = onF M 4 from mu_s _ _ _, onF, if_pos ⟨a0, a1⟩]) (v := ev) (EV.c (fun a _ => by congr 1; exact propext ⟨fun z => by show (a : Int) < M 8 0; omega, fun z => by have z2 : (a : Int) < M 8 0 := z; omega⟩))) m_Rs_177 fc_9_0 rfl rfl rfl rfl (Nat.le_of_ble_eq_true rfl) ⟨by decide, by decide⟩ ⟨by decide, by decide⟩ d_Rs_solve_72 (kI (h := h8) fun r10 h10 q10 => ?_)
    obtain ⟨bb10, ⟨S10, hSe_10⟩, G10⟩ := q10
    have FX10 : rz_fr XR h h10 := FX8.tr (G10.mono (by decide))
    have fc_11_0 : h10 x = some ((30, 0), .inr (7, [.ref (A 11 0), .ref (A 12 0), .ref (A 13 0), .ref (A 14 0), .ref (A 15 0), vi (bi (fnd M)), .ref (A 16 0), vi bl])) := G10 _ _ _ fc_9_0 (show 30 ∉ ([40, 50, 51, 52, 53, 54, 55, 58] : List Nat) by decide)
    have fc_11_1 : h10 (A 16 0) = some ((39, 0), aI Γ 0 6 gf) := G10 _ _ _ ff (show 39 ∉ ([40, 50, 51, 52, 53, 54, 55, 58] : List Nat) by decide)
    have hSb_11 : SbC Γ h10 (A 11 0) (M 1 0).toNat (mAt M 0) 0 := SbC.fd hSb_9 G10 (by decide)
    have hPs_11 : PsAt Γ h10 (A 12 0) A M F := PsAt.fd hPs_9 G10 (by decide)
    have hAs_11 : AsAt Γ h10 (A 13 0) A M := AsAt.fd hAs_9 G10 (by decide)
    have hHv_11 : VeAt Γ h10 (A 15 0) (vRt M 1) (vPt M 1) := VeAt.fr hHv_9 G10 (by decide)
    have hk_11 : KsAt Γ h10 := KsAt.fr hk_9 G10 (by decide)
    refine rz_putf (fp_Rs_55 _) fc_11_0 (show (30 : Nat) ≠ 0 by decide) rfl rfl (show 7 < 8 by decide) d_Rs_solve_75 ?_
    refine rz_nm fun h12 eh12 => ?_
    have g12 : rz_fr [30] h10 h12 := by rw [eh12]; exact rz_fr.one fc_11_0
    have fc_13_0 : h12 (A 16 0) = some ((39, 0), aI Γ 0 6 gf) := g12 _ _ _ fc_11_1 (show 39 ∉ ([30] : List Nat) by decide)
    have hSb_13 : SbC Γ h12 (A 11 0) (M 1 0).toNat (mAt M 0) 0 := SbC.fd hSb_11 g12 (by decide)
    have hPs_13 : PsAt Γ h12 (A 12 0) A M F := PsAt.fd hPs_11 g12 (by decide)
    have hAs_13 : AsAt Γ h12 (A 13 0) A M := AsAt.fd hAs_11 g12 (by decide)
    have hHv_13 : VeAt Γ h12 (A 15 0) (vRt M 1) (vPt M 1) := VeAt.fr hHv_11 g12 (by decide)
    have hk_13 : KsAt Γ h12 := KsAt.fr hk_11 g12 (by decide)
    have hSe_13 : SeAt Γ h12 (A 14 0) B S10 := SeAt.fr hSe_10 g12 (by decide)
    have fu_12 : h12 x = some ((30, 0), .inr (7, [.ref (A 11 0), .ref (A 12 0), .ref (A 13 0), .ref (A 14 0), .ref (A 15 0), vi (bi (fnd M)), .ref (A 16 0), vi r10])) := by rw [eh12]; exact rz_up_s _ _ _
    have FX12 : rz_fr XR h h12 := FX10.tr (g12.mono (by decide))
    refine rz_bipush (v := (-4)) d_Rs_solve_78 (by decide) ?_
    exact rz_ireturn (st := []) rfl d_Rs_solve_80 ⟨by decide, by decide⟩ ⟨_, rfl, (by rw [solR, if_neg (by rw [c47]; decide)]), A, S10, (fun M' hs => RsAt.sol hR0 hBg.wf FX12 fu_12 hSe_13 fc_13_0 (fun M' hs p hp => by rw [ef p (by omega) (by omega), sol_n hs c47]) (fun M' hs => sol_b0 hs c47 bb10) M' hs), FX12.mono (by decide)⟩
  · have SO : ∀ p : Nat, p < 6 → (oM (mAll M) (srch (mAll M)) p = 4 ∧ sel M (srch (mAll M)) p = -1) ∨ (oM (mAll M) (srch (mAll M)) p < 4 ∧ sel M (srch (mAll M)) p = oM (mAll M) (srch (mAll M)) p) := fun p hp => sol_o hBg.wf rk.2 c47 hp
    refine rz_aload_n 1 d_Rs_solve_50 rfl rfl ?_
    refine rz_iconst d_Rs_solve_51 ?_
    refine rz_putf (fp_Rs_55 _) fu_6 (show (30 : Nat) ≠ 0 by decide) rfl rfl (show 7 < 8 by decide) d_Rs_solve_52 ?_
    refine rz_nm fun h14 eh14 => ?_
    have g14 : rz_fr [30] h6 h14 := by rw [eh14]; exact rz_fr.one fu_6
    have fc_15_0 : h14 (A 16 0) = some ((39, 0), aI Γ 0 6 gs) := g14 _ _ _ fc_7_0 (show 39 ∉ ([30] : List Nat) by decide)
    have hSb_15 : SbC Γ h14 (A 11 0) (M 1 0).toNat (mAt M 0) 0 := SbC.fd hSb_7 g14 (by decide)
    have hPs_15 : PsAt Γ h14 (A 12 0) A M F := PsAt.fd hPs_7 g14 (by decide)
    have hAs_15 : AsAt Γ h14 (A 13 0) A M := AsAt.fd hAs_7 g14 (by decide)
    have hHv_15 : VeAt Γ h14 (A 15 0) (vRt M 1) (vPt M 1) := VeAt.fr hHv_7 g14 (by decide)
    have hk_15 : KsAt Γ h14 := KsAt.fr hk_7 g14 (by decide)
    have hSe_15 : SeAt Γ h14 (A 14 0) B S4 := SeAt.fr hSe_7 g14 (by decide)
    have fu_14 : h14 x = some ((30, 0), .inr (7, [.ref (A 11 0), .ref (A 12 0), .ref (A 13 0), .ref (A 14 0), .ref (A 15 0), vi (bi (fnd M)), .ref (A 16 0), vi 0])) := by rw [eh14]; exact rz_up_s _ _ _
    have FX14 : rz_fr XR h h14 := FX6.tr (g14.mono (by decide))
    refine rz_aload_n 1 d_Rs_solve_55 rfl rfl ?_
    refine rz_callV (As := []) (c_Rs_keepSelection fu_14 rfl rfl hSe_15 fc_15_0 (o := oM (mAll M) (srch (mAll M))) (fun p hp => oM_5 (M := mAll M) hBg.wf _ hp) (L4 (of_decide_eq_true c47))) m_Rs_174 fu_14 rfl rfl rfl rfl (Nat.le_of_ble_eq_true rfl) ⟨by decide, by decide⟩ ⟨by decide, by decide⟩ d_Rs_solve_56 (kI (h := h14) fun r16 h16 q16 => ?_)
    obtain ⟨er16, ⟨gk, fk, ek⟩, G16⟩ := q16
    have FX16 : rz_fr XR h h16 := FX14.tr (G16.mono (by decide))
    have fxk : h16 x = some ((30, 0), .inr (7, [.ref (A 11 0), .ref (A 12 0), .ref (A 13 0), .ref (A 14 0), .ref (A 15 0), vi (bi (fnd M)), .ref (A 16 0), vi 0])) := G16 _ _ _ fu_14 (by decide)
    have hSk := hSe_15.fr G16 (by decide)
    exact rz_ireturn (st := []) rfl d_Rs_solve_59 ⟨by decide, by decide⟩ ⟨_, rfl, (by rw [er16, solR, if_pos c47]; exact kc_cn (fun p hp => SO p hp) 6 (Nat.le_refl _)), A, S4, (fun M' hs => RsAt.sol hR0 hBg.wf FX16 fxk hSk fk (fun M' hs p hp => by rw [ek p hp]; exact (sol_sl hs hBg.wf rk.2 c47 hp).1) (fun M' hs => sol_b1 hs c47) M' hs), FX16.mono (by decide)⟩

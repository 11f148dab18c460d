/-! the reference: releaseGood, allLed -/
theorem metP_S2 {M M' : Nat → Int → Int} (h : mS2 M M') (p t : Int) : metP M' p t = metP M p t := by
  unfold metP
  rw [h 11 (by decide) (by decide), h 1 (by decide) (by decide), mS2_at h, mS2_at h]
def rgF (M : Nat → Int → Int) : Nat → Int → Bool
  | 0, _ => true
  | n + 1, i => if ¬ M 7 i = 0 ∧ M 11 (M 6 i) < 0 then rgF M n (i + 1) else if metP M (M 6 i) (54 + i) = true then rgF M n (i + 1) else false
theorem rgF_e (M : Nat → Int → Int) {n : Nat} {i : Int} (hn : 0 < n) : rgF M n i = if ¬ M 7 i = 0 ∧ M 11 (M 6 i) < 0 then rgF M (n - 1) (i + 1) else if metP M (M 6 i) (54 + i) = true then rgF M (n - 1) (i + 1) else false := by
  cases n with
  | zero => omega
  | succ n => rfl
/-- the chosen release of p is good: not withdrawn, the host, its needs -/
def rgP (M : Nat → Int → Int) (p : Int) : Bool := if ¬ M 3 (4 * p + M 11 p) = 0 ∨ (¬ M 4 (4 * p + M 11 p) = 0 ∧ inR (mAt M 1) (M 1 1) (mAt M (30 + (4 * p + M 11 p))) (M 1 (30 + (4 * p + M 11 p))) = false) then false else rgF M (M 5 (4 * p + M 11 p)).toNat (3 * (4 * p + M 11 p))
theorem rgF_S2 {M M' : Nat → Int → Int} (h : mS2 M M') : ∀ (n : Nat) (i : Int), rgF M' n i = rgF M n i
  | 0, _ => rfl
  | n + 1, i => by
    simp only [rgF, metP_S2 h, rgF_S2 h n, h 7 (by decide) (by decide), h 6 (by decide) (by decide), h 11 (by decide) (by decide)]
theorem rgP_S2 {M M' : Nat → Int → Int} (h : mS2 M M') (p : Int) : rgP M' p = rgP M p := by
  unfold rgP
  simp only [rgF_S2 h, h 3 (by decide) (by decide), h 4 (by decide) (by decide), h 5 (by decide) (by decide), h 11 (by decide) (by decide), h 1 (by decide) (by decide), mS2_at h]
abbrev rm_Md_releaseGood : Room := { frames := 8, cells := 0, slots := 0, locals := 206 }
set_option maxRecDepth 100000 in
set_option maxHeartbeats 4000000 in
theorem c_Md_releaseGood {l : Launch} {Γ : rz_G} {h : rz_H} {x : Nat} {ad : Nat → Nat} {M : Nat → Int → Int} (hM : MdAt Γ h x ad M) (hw : mWF M) (hval : mVal M) (hno : nowOK M) {p : Int} (hp : 0 ≤ p ∧ p < 6) (h11 : 0 ≤ M 11 p) : Ct l Γ x_Md_releaseGood y_Md_releaseGood rm_Md_releaseGood [.ref x, vi p] h (pI (fun r' h' => r' = bi (rgP M p) ∧ ∃ M', MdAt Γ h' x ad M' ∧ mS2 M M' ∧ rz_fr [10, 11] h h')) := by
  refine rz_met (by decide) rfl rfl (Nat.le_of_ble_eq_true rfl) (fun K _ => ?_)
  refine rz_Leq [(0, .ref x), (1, vi p)] rfl ?_
  have l2 := hw.2.2.1 p hp.1 hp.2
  have l11 := hno p hp.1 hp.2
  refine rz_aload_n 0 d_Md_releaseGood_0 rfl rfl ?_
  refine rz_iload_n 1 d_Md_releaseGood_1 rfl rfl ?_
  refine rz_callV (As := [vi p]) (c_Md_slot hM (by omega)) m_Md_176 hM.1 rfl rfl rfl rfl (Nat.le_of_ble_eq_true rfl) ⟨by decide, by decide⟩ ⟨by decide, by decide⟩ d_Md_releaseGood_2 (kE (h := h) ?_)
  refine rz_top (fun k e_k => ?_)
  replace e_k := e_k.symm
  refine rz_istore_n [(2, vi k), (0, .ref x), (1, vi p)] d_Md_releaseGood_5 rfl (by decide) rfl ?_
  have l3 := hw.2.2.2.2.2.2.2.1 k (by omega) (by omega)
  have l4 := hw.2.2.2.2.2.2.2.2.1 k (by omega) (by omega)
  have l5 := hw.2.2.2.1 k (by omega) (by omega)
  refine rz_aload_n 1 d_Md_releaseGood_6 rfl rfl ?_
  refine rz_getf f_Md_19 hM.1 rfl d_Md_releaseGood_7 ?_
  refine rz_iload_n 0 d_Md_releaseGood_10 rfl rfl ?_
  refine rz_zaload (md_a3 hM) (by decide) (by omega) d_Md_releaseGood_11 ?_
  refine rz_if_ne 36 d_Md_releaseGood_12 (by decide) (by omega) (fun c12 => ?_) (fun c12 => ?_)
  · refine rz_iconst d_Md_releaseGood_36 ?_
    exact rz_zreturn (st := []) (ty := .boolean) rfl rfl d_Md_releaseGood_37 ⟨by decide, by decide⟩ ⟨_, rfl, bi0 (by rw [rgP, e_k, if_pos (by first | exact Or.inl c12 | exact Or.inr ⟨c21, c33⟩)]), M, hM, (mS2.rf (M := M)), (rz_fr.rf (rs := [10, 11]) (h := h))⟩
  · refine rz_aload_n 1 d_Md_releaseGood_15 rfl rfl ?_
    refine rz_getf f_Md_23 hM.1 rfl d_Md_releaseGood_16 ?_
    refine rz_iload_n 0 d_Md_releaseGood_19 rfl rfl ?_
    refine rz_zaload (md_a4 hM) (by decide) (by omega) d_Md_releaseGood_20 ?_
    refine rz_if_eq 38 d_Md_releaseGood_21 (by decide) (by omega) (fun c21 => ?_) (fun c21 => ?_)
    · refine rz_iconst d_Md_releaseGood_38 ?_
      refine rz_iload_n 0 d_Md_releaseGood_39 rfl rfl ?_
      refine rz_imul d_Md_releaseGood_40 ?_
      refine rz_istore_n [(3, vi (3 * k)), (2, vi k), (0, .ref x), (1, vi p)] d_Md_releaseGood_41 rfl (by decide) rfl ?_
      refine rz_loop (α := Int × rz_H × (Nat → Int → Int)) 0 0 42 (fun (i, hA, MA) => (3 * k + M 5 k - i).toNat) (fun (i, hA, MA) => 3 * k ≤ i ∧ i ≤ 3 * k + M 5 k ∧ MdAt Γ hA x ad MA ∧ mS2 M MA ∧ rz_fr [10, 11] h hA ∧ rgF M (M 5 k).toNat (3 * k) = rgF M (3 * k + M 5 k - i).toNat i) (fun (i, hA, MA) => [(3, vi i), (2, vi k), (0, .ref x), (1, vi p)]) (fun (i, hA, MA) => []) (fun (i, hA, MA) => hA) (fun y hy ih42 => ?_) (fun LP => ?_)
      · obtain ⟨i, hA, MA⟩ := y
        try dsimp only at hy ih42 ⊢
        obtain ⟨hi0, hi1, hMA, hSA, hFA, hv⟩ := hy
        have hwA := mS2_wf hSA hw
        refine rz_iload_n 0 d_Md_releaseGood_42 rfl rfl ?_
        refine rz_iconst d_Md_releaseGood_43 ?_
        refine rz_iload_n 1 d_Md_releaseGood_44 rfl rfl ?_
        refine rz_imul d_Md_releaseGood_45 ?_
        refine rz_aload_n 2 d_Md_releaseGood_46 rfl rfl ?_
        refine rz_getf f_Md_26 hMA.1 rfl d_Md_releaseGood_47 ?_
        refine rz_iload_n 1 d_Md_releaseGood_50 rfl rfl ?_
        refine rz_iaload (md_a5 hMA) (by decide) (by omega) d_Md_releaseGood_51 ?_
        rw [hSA 5 (by decide) (by decide)]
        refine rz_iadd d_Md_releaseGood_52 ?_
        refine rz_icmp_ge 107 d_Md_releaseGood_53 (by decide) (by omega) (by omega) (fun c53 => ?_) (fun c53 => ?_)
        · refine rz_iconst d_Md_releaseGood_107 ?_
          exact rz_zreturn (st := []) (ty := .boolean) rfl rfl d_Md_releaseGood_108 ⟨by decide, by decide⟩ ⟨_, rfl, bi1 (by rw [rgP, e_k, if_neg (by first | (intro q; rcases q with q | q; exact q c12; exact q.1 c21) | (intro q; rcases q with q | q; exact q c12; rw [c33] at q; exact absurd q.2 (by decide))), hv, show (3 * k + M 5 k - i).toNat = 0 by omega]; rfl), MA, hMA, hSA, hFA⟩
        · have l6 := hw.2.2.2.2.1 i (by omega) (by omega)
          have l7 := hw.2.2.2.2.2.2.2.2.2.1 i (by omega) (by omega)
          refine rz_aload_n 2 d_Md_releaseGood_56 rfl rfl ?_
          refine rz_getf f_Md_29 hMA.1 rfl d_Md_releaseGood_57 ?_
          refine rz_iload_n 0 d_Md_releaseGood_60 rfl rfl ?_
          refine rz_iaload (md_a6 hMA) (by decide) (by omega) d_Md_releaseGood_61 ?_
          rw [hSA 6 (by decide) (by decide)]
          refine rz_top (fun o e_o => ?_)
          replace e_o := e_o.symm
          refine rz_istore [(4, vi o), (3, vi i), (2, vi k), (0, .ref x), (1, vi p)] d_Md_releaseGood_62 (by decide) rfl ?_
          have n11 := hno o (by omega) (by omega)
          have nl2 := hw.2.2.1 o (by omega) (by omega)
          refine rz_aload_n 3 d_Md_releaseGood_64 rfl rfl ?_
          refine rz_getf f_Md_32 hMA.1 rfl d_Md_releaseGood_65 ?_
          refine rz_iload_n 1 d_Md_releaseGood_68 rfl rfl ?_
          refine rz_zaload (md_a7 hMA) (by decide) (by omega) d_Md_releaseGood_69 ?_
          rw [hSA 7 (by decide) (by decide)]
          refine rz_if_eq 86 d_Md_releaseGood_70 (by decide) (by omega) (fun c70 => ?_) (fun c70 => ?_)
          · refine rz_aload_n 3 d_Md_releaseGood_86 rfl rfl ?_
            refine rz_iload 0 d_Md_releaseGood_87 rfl ?_
            refine rz_bipush (v := 54) d_Md_releaseGood_89 (by decide) ?_
            refine rz_iload_n 1 d_Md_releaseGood_91 rfl rfl ?_
            refine rz_iadd d_Md_releaseGood_92 ?_
            refine rz_callV (As := [vi o, vi (54 + i)]) (c_Md_meets hMA hwA (vOK_S2 hSA hval.1) (nowOK_S2 hSA hno) (by omega) (by omega) (by rw [mS2_at hSA, hSA 1 (by decide) (by decide)]; exact (by have q := hval.2.2.2.1 k (i - 3 * k) (by omega) (by omega) (by omega) (by omega); rw [show 3 * k + (i - 3 * k) = i by omega] at q; exact q))) m_Md_179 hMA.1 rfl rfl rfl rfl (Nat.le_of_ble_eq_true rfl) ⟨by decide, by decide⟩ ⟨by decide, by decide⟩ d_Md_releaseGood_93 (kI (h := hA) fun r1 h1 q1 => ?_)
            obtain ⟨rfl, M1, hM1, hT1, hF1⟩ := q1
            rw [metP_S2 hSA]
            have hS1 := hSA.tr hT1
            have hw1 := mS2_wf hS1 hw
            have hG1 := hFA.tr hF1
            refine rz_if_neB 101 d_Md_releaseGood_96 (by decide) (fun c96 => ?_) (fun c96 => ?_)
            · refine rz_iinc (i + 1) 1 [(3, vi (i + 1)), (4, vi o), (2, vi k), (0, .ref x), (1, vi p)] d_Md_releaseGood_101 rfl (by first | rfl | omega) (by decide) rfl ?_
              refine rz_goto 42 d_Md_releaseGood_104 (by decide) ?_
              refine rz_Lsub [(3, vi (i + 1)), (2, vi k), (0, .ref x), (1, vi p)] [0, 2, 3, 4] rfl ?_
              refine ih42 (i + 1, h1, M1) ?_ ?_
              · try dsimp only
                exact ⟨by omega, by omega, hM1, hS1, hG1, (by rw [hv, rgF_e _ (by omega)]; first | (rw [if_pos (by rw [e_o]; exact ⟨c70, by omega⟩)]; congr 1; omega) | (rw [if_neg (by rw [e_o]; first | (intro q; exact q.1 c70) | (intro q; omega)), e_o, if_pos c96]; congr 1; omega))⟩
              · exact (by first | omega | (dsimp only; omega))
            · refine rz_iconst d_Md_releaseGood_99 ?_
              exact rz_zreturn (st := []) (ty := .boolean) rfl rfl d_Md_releaseGood_100 ⟨by decide, by decide⟩ ⟨_, rfl, bi0 (by rw [rgP, e_k, if_neg (by first | (intro q; rcases q with q | q; exact q c12; exact q.1 c21) | (intro q; rcases q with q | q; exact q c12; rw [c33] at q; exact absurd q.2 (by decide))), hv, rgF_e _ (by omega), if_neg (by rw [e_o]; first | (intro q; exact q.1 c70) | (intro q; omega)), if_neg (by rw [e_o, c96]; decide)]), M1, hM1, hS1, hG1⟩
          · refine rz_aload_n 3 d_Md_releaseGood_73 rfl rfl ?_
            refine rz_getf f_Md_41 hMA.1 rfl d_Md_releaseGood_74 ?_
            refine rz_iload 0 d_Md_releaseGood_77 rfl ?_
            refine rz_iaload (md_a11 hMA) (by decide) (by omega) d_Md_releaseGood_79 ?_
            rw [hSA 11 (by decide) (by decide)]
            refine rz_if_ge 86 d_Md_releaseGood_80 (by decide) (by omega) (fun c80 => ?_) (fun c80 => ?_)
            · refine rz_aload_n 3 d_Md_releaseGood_86 rfl rfl ?_
              refine rz_iload 0 d_Md_releaseGood_87 rfl ?_
              refine rz_bipush (v := 54) d_Md_releaseGood_89 (by decide) ?_
              refine rz_iload_n 1 d_Md_releaseGood_91 rfl rfl ?_
              refine rz_iadd d_Md_releaseGood_92 ?_
              refine rz_callV (As := [vi o, vi (54 + i)]) (c_Md_meets hMA hwA (vOK_S2 hSA hval.1) (nowOK_S2 hSA hno) (by omega) (by omega) (by rw [mS2_at hSA, hSA 1 (by decide) (by decide)]; exact (by have q := hval.2.2.2.1 k (i - 3 * k) (by omega) (by omega) (by omega) (by omega); rw [show 3 * k + (i - 3 * k) = i by omega] at q; exact q))) m_Md_179 hMA.1 rfl rfl rfl rfl (Nat.le_of_ble_eq_true rfl) ⟨by decide, by decide⟩ ⟨by decide, by decide⟩ d_Md_releaseGood_93 (kI (h := hA) fun r2 h2 q2 => ?_)
              obtain ⟨rfl, M2, hM2, hT2, hF2⟩ := q2
              rw [metP_S2 hSA]
              have hS2 := hSA.tr hT2
              have hw2 := mS2_wf hS2 hw
              have hG2 := hFA.tr hF2
              refine rz_if_neB 101 d_Md_releaseGood_96 (by decide) (fun c96 => ?_) (fun c96 => ?_)
              · refine rz_iinc (i + 1) 1 [(3, vi (i + 1)), (4, vi o), (2, vi k), (0, .ref x), (1, vi p)] d_Md_releaseGood_101 rfl (by first | rfl | omega) (by decide) rfl ?_
                refine rz_goto 42 d_Md_releaseGood_104 (by decide) ?_
                refine rz_Lsub [(3, vi (i + 1)), (2, vi k), (0, .ref x), (1, vi p)] [0, 2, 3, 4] rfl ?_
                refine ih42 (i + 1, h2, M2) ?_ ?_
                · try dsimp only
                  exact ⟨by omega, by omega, hM2, hS2, hG2, (by rw [hv, rgF_e _ (by omega)]; first | (rw [if_pos (by rw [e_o]; exact ⟨c70, by omega⟩)]; congr 1; omega) | (rw [if_neg (by rw [e_o]; first | (intro q; exact q.1 c70) | (intro q; omega)), e_o, if_pos c96]; congr 1; omega))⟩
                · exact (by first | omega | (dsimp only; omega))
              · refine rz_iconst d_Md_releaseGood_99 ?_
                exact rz_zreturn (st := []) (ty := .boolean) rfl rfl d_Md_releaseGood_100 ⟨by decide, by decide⟩ ⟨_, rfl, bi0 (by rw [rgP, e_k, if_neg (by first | (intro q; rcases q with q | q; exact q c12; exact q.1 c21) | (intro q; rcases q with q | q; exact q c12; rw [c33] at q; exact absurd q.2 (by decide))), hv, rgF_e _ (by omega), if_neg (by rw [e_o]; first | (intro q; exact q.1 c70) | (intro q; omega)), if_neg (by rw [e_o, c96]; decide)]), M2, hM2, hS2, hG2⟩
            · refine rz_goto 101 d_Md_releaseGood_83 (by decide) ?_
              refine rz_iinc (i + 1) 1 [(3, vi (i + 1)), (4, vi o), (2, vi k), (0, .ref x), (1, vi p)] d_Md_releaseGood_101 rfl (by first | rfl | omega) (by decide) rfl ?_
              refine rz_goto 42 d_Md_releaseGood_104 (by decide) ?_
              refine rz_Lsub [(3, vi (i + 1)), (2, vi k), (0, .ref x), (1, vi p)] [0, 2, 3, 4] rfl ?_
              refine ih42 (i + 1, hA, MA) ?_ ?_
              · try dsimp only
                exact ⟨by omega, by omega, hMA, hSA, hFA, (by rw [hv, rgF_e _ (by omega)]; first | (rw [if_pos (by rw [e_o]; exact ⟨c70, by omega⟩)]; congr 1; omega) | (rw [if_neg (by rw [e_o]; first | (intro q; exact q.1 c70) | (intro q; omega)), e_o, if_pos c96]; congr 1; omega))⟩
              · exact (by first | omega | (dsimp only; omega))
      · refine rz_Lsub [(3, vi (3 * k)), (2, vi k), (0, .ref x), (1, vi p)] [0, 1, 2, 3] rfl ?_
        refine LP ((3 * k), h, M) ?_
        try dsimp only
        exact ⟨by omega, by omega, hM, (mS2.rf (M := M)), (rz_fr.rf (rs := [10, 11]) (h := h)), (by congr 1; omega)⟩
    · refine rz_aload_n 1 d_Md_releaseGood_24 rfl rfl ?_
      refine rz_iconst d_Md_releaseGood_25 ?_
      refine rz_bipush (v := 30) d_Md_releaseGood_26 (by decide) ?_
      refine rz_iload_n 0 d_Md_releaseGood_28 rfl rfl ?_
      refine rz_iadd d_Md_releaseGood_29 ?_
      refine rz_callV (As := [vi 1, vi (30 + k)]) (c_Md_inside hM hw (by omega) (by omega) (by exact hval.2.1) (by exact hval.2.2.1 k (by omega) (by omega) c21)) m_Md_173 hM.1 rfl rfl rfl rfl (Nat.le_of_ble_eq_true rfl) ⟨by decide, by decide⟩ ⟨by decide, by decide⟩ d_Md_releaseGood_30 (kI (h := h) fun r3 h3 q3 => ?_)
      obtain ⟨rfl, M3, hM3, hT3, hF3⟩ := q3
      have hS3 := (mS2.rf (M := M)).tr hT3
      have hw3 := mS2_wf hS3 hw
      have hG3 := (rz_fr.rf (rs := [10, 11]) (h := h)).tr hF3
      refine rz_if_neB 38 d_Md_releaseGood_33 (by decide) (fun c33 => ?_) (fun c33 => ?_)
      · refine rz_iconst d_Md_releaseGood_38 ?_
        refine rz_iload_n 0 d_Md_releaseGood_39 rfl rfl ?_
        refine rz_imul d_Md_releaseGood_40 ?_
        refine rz_istore_n [(3, vi (3 * k)), (2, vi k), (0, .ref x), (1, vi p)] d_Md_releaseGood_41 rfl (by decide) rfl ?_
        refine rz_loop (α := Int × rz_H × (Nat → Int → Int)) 0 0 42 (fun (i, hA, MA) => (3 * k + M 5 k - i).toNat) (fun (i, hA, MA) => 3 * k ≤ i ∧ i ≤ 3 * k + M 5 k ∧ MdAt Γ hA x ad MA ∧ mS2 M MA ∧ rz_fr [10, 11] h hA ∧ rgF M (M 5 k).toNat (3 * k) = rgF M (3 * k + M 5 k - i).toNat i) (fun (i, hA, MA) => [(3, vi i), (2, vi k), (0, .ref x), (1, vi p)]) (fun (i, hA, MA) => []) (fun (i, hA, MA) => hA) (fun y hy ih42 => ?_) (fun LP => ?_)
        · obtain ⟨i, hA, MA⟩ := y
          try dsimp only at hy ih42 ⊢
          obtain ⟨hi0, hi1, hMA, hSA, hFA, hv⟩ := hy
          have hwA := mS2_wf hSA hw
          refine rz_iload_n 0 d_Md_releaseGood_42 rfl rfl ?_
          refine rz_iconst d_Md_releaseGood_43 ?_
          refine rz_iload_n 1 d_Md_releaseGood_44 rfl rfl ?_
          refine rz_imul d_Md_releaseGood_45 ?_
          refine rz_aload_n 2 d_Md_releaseGood_46 rfl rfl ?_
          refine rz_getf f_Md_26 hMA.1 rfl d_Md_releaseGood_47 ?_
          refine rz_iload_n 1 d_Md_releaseGood_50 rfl rfl ?_
          refine rz_iaload (md_a5 hMA) (by decide) (by omega) d_Md_releaseGood_51 ?_
          rw [hSA 5 (by decide) (by decide)]
          refine rz_iadd d_Md_releaseGood_52 ?_
          refine rz_icmp_ge 107 d_Md_releaseGood_53 (by decide) (by omega) (by omega) (fun c53 => ?_) (fun c53 => ?_)
          · refine rz_iconst d_Md_releaseGood_107 ?_
            exact rz_zreturn (st := []) (ty := .boolean) rfl rfl d_Md_releaseGood_108 ⟨by decide, by decide⟩ ⟨_, rfl, bi1 (by rw [rgP, e_k, if_neg (by first | (intro q; rcases q with q | q; exact q c12; exact q.1 c21) | (intro q; rcases q with q | q; exact q c12; rw [c33] at q; exact absurd q.2 (by decide))), hv, show (3 * k + M 5 k - i).toNat = 0 by omega]; rfl), MA, hMA, hSA, hFA⟩
          · have l6 := hw.2.2.2.2.1 i (by omega) (by omega)
            have l7 := hw.2.2.2.2.2.2.2.2.2.1 i (by omega) (by omega)
            refine rz_aload_n 2 d_Md_releaseGood_56 rfl rfl ?_
            refine rz_getf f_Md_29 hMA.1 rfl d_Md_releaseGood_57 ?_
            refine rz_iload_n 0 d_Md_releaseGood_60 rfl rfl ?_
            refine rz_iaload (md_a6 hMA) (by decide) (by omega) d_Md_releaseGood_61 ?_
            rw [hSA 6 (by decide) (by decide)]
            refine rz_top (fun o e_o => ?_)
            replace e_o := e_o.symm
            refine rz_istore [(4, vi o), (3, vi i), (2, vi k), (0, .ref x), (1, vi p)] d_Md_releaseGood_62 (by decide) rfl ?_
            have n11 := hno o (by omega) (by omega)
            have nl2 := hw.2.2.1 o (by omega) (by omega)
            refine rz_aload_n 3 d_Md_releaseGood_64 rfl rfl ?_
            refine rz_getf f_Md_32 hMA.1 rfl d_Md_releaseGood_65 ?_
            refine rz_iload_n 1 d_Md_releaseGood_68 rfl rfl ?_
            refine rz_zaload (md_a7 hMA) (by decide) (by omega) d_Md_releaseGood_69 ?_
            rw [hSA 7 (by decide) (by decide)]
            refine rz_if_eq 86 d_Md_releaseGood_70 (by decide) (by omega) (fun c70 => ?_) (fun c70 => ?_)
            · refine rz_aload_n 3 d_Md_releaseGood_86 rfl rfl ?_
              refine rz_iload 0 d_Md_releaseGood_87 rfl ?_
              refine rz_bipush (v := 54) d_Md_releaseGood_89 (by decide) ?_
              refine rz_iload_n 1 d_Md_releaseGood_91 rfl rfl ?_
              refine rz_iadd d_Md_releaseGood_92 ?_
              refine rz_callV (As := [vi o, vi (54 + i)]) (c_Md_meets hMA hwA (vOK_S2 hSA hval.1) (nowOK_S2 hSA hno) (by omega) (by omega) (by rw [mS2_at hSA, hSA 1 (by decide) (by decide)]; exact (by have q := hval.2.2.2.1 k (i - 3 * k) (by omega) (by omega) (by omega) (by omega); rw [show 3 * k + (i - 3 * k) = i by omega] at q; exact q))) m_Md_179 hMA.1 rfl rfl rfl rfl (Nat.le_of_ble_eq_true rfl) ⟨by decide, by decide⟩ ⟨by decide, by decide⟩ d_Md_releaseGood_93 (kI (h := hA) fun r4 h4 q4 => ?_)
              obtain ⟨rfl, M4, hM4, hT4, hF4⟩ := q4
              rw [metP_S2 hSA]
              have hS4 := hSA.tr hT4
              have hw4 := mS2_wf hS4 hw
              have hG4 := hFA.tr hF4
              refine rz_if_neB 101 d_Md_releaseGood_96 (by decide) (fun c96 => ?_) (fun c96 => ?_)
              · refine rz_iinc (i + 1) 1 [(3, vi (i + 1)), (4, vi o), (2, vi k), (0, .ref x), (1, vi p)] d_Md_releaseGood_101 rfl (by first | rfl | omega) (by decide) rfl ?_
                refine rz_goto 42 d_Md_releaseGood_104 (by decide) ?_
                refine rz_Lsub [(3, vi (i + 1)), (2, vi k), (0, .ref x), (1, vi p)] [0, 2, 3, 4] rfl ?_
                refine ih42 (i + 1, h4, M4) ?_ ?_
                · try dsimp only
                  exact ⟨by omega, by omega, hM4, hS4, hG4, (by rw [hv, rgF_e _ (by omega)]; first | (rw [if_pos (by rw [e_o]; exact ⟨c70, by omega⟩)]; congr 1; omega) | (rw [if_neg (by rw [e_o]; first | (intro q; exact q.1 c70) | (intro q; omega)), e_o, if_pos c96]; congr 1; omega))⟩
                · exact (by first | omega | (dsimp only; omega))
              · refine rz_iconst d_Md_releaseGood_99 ?_
                exact rz_zreturn (st := []) (ty := .boolean) rfl rfl d_Md_releaseGood_100 ⟨by decide, by decide⟩ ⟨_, rfl, bi0 (by rw [rgP, e_k, if_neg (by first | (intro q; rcases q with q | q; exact q c12; exact q.1 c21) | (intro q; rcases q with q | q; exact q c12; rw [c33] at q; exact absurd q.2 (by decide))), hv, rgF_e _ (by omega), if_neg (by rw [e_o]; first | (intro q; exact q.1 c70) | (intro q; omega)), if_neg (by rw [e_o, c96]; decide)]), M4, hM4, hS4, hG4⟩
            · refine rz_aload_n 3 d_Md_releaseGood_73 rfl rfl ?_
              refine rz_getf f_Md_41 hMA.1 rfl d_Md_releaseGood_74 ?_
              refine rz_iload 0 d_Md_releaseGood_77 rfl ?_
              refine rz_iaload (md_a11 hMA) (by decide) (by omega) d_Md_releaseGood_79 ?_
              rw [hSA 11 (by decide) (by decide)]
              refine rz_if_ge 86 d_Md_releaseGood_80 (by decide) (by omega) (fun c80 => ?_) (fun c80 => ?_)
              · refine rz_aload_n 3 d_Md_releaseGood_86 rfl rfl ?_
                refine rz_iload 0 d_Md_releaseGood_87 rfl ?_
                refine rz_bipush (v := 54) d_Md_releaseGood_89 (by decide) ?_
                refine rz_iload_n 1 d_Md_releaseGood_91 rfl rfl ?_
                refine rz_iadd d_Md_releaseGood_92 ?_
                refine rz_callV (As := [vi o, vi (54 + i)]) (c_Md_meets hMA hwA (vOK_S2 hSA hval.1) (nowOK_S2 hSA hno) (by omega) (by omega) (by rw [mS2_at hSA, hSA 1 (by decide) (by decide)]; exact (by have q := hval.2.2.2.1 k (i - 3 * k) (by omega) (by omega) (by omega) (by omega); rw [show 3 * k + (i - 3 * k) = i by omega] at q; exact q))) m_Md_179 hMA.1 rfl rfl rfl rfl (Nat.le_of_ble_eq_true rfl) ⟨by decide, by decide⟩ ⟨by decide, by decide⟩ d_Md_releaseGood_93 (kI (h := hA) fun r5 h5 q5 => ?_)
                obtain ⟨rfl, M5, hM5, hT5, hF5⟩ := q5
                rw [metP_S2 hSA]
                have hS5 := hSA.tr hT5
                have hw5 := mS2_wf hS5 hw
                have hG5 := hFA.tr hF5
                refine rz_if_neB 101 d_Md_releaseGood_96 (by decide) (fun c96 => ?_) (fun c96 => ?_)
                · refine rz_iinc (i + 1) 1 [(3, vi (i + 1)), (4, vi o), (2, vi k), (0, .ref x), (1, vi p)] d_Md_releaseGood_101 rfl (by first | rfl | omega) (by decide) rfl ?_
                  refine rz_goto 42 d_Md_releaseGood_104 (by decide) ?_
                  refine rz_Lsub [(3, vi (i + 1)), (2, vi k), (0, .ref x), (1, vi p)] [0, 2, 3, 4] rfl ?_
                  refine ih42 (i + 1, h5, M5) ?_ ?_
                  · try dsimp only
                    exact ⟨by omega, by omega, hM5, hS5, hG5, (by rw [hv, rgF_e _ (by omega)]; first | (rw [if_pos (by rw [e_o]; exact ⟨c70, by omega⟩)]; congr 1; omega) | (rw [if_neg (by rw [e_o]; first | (intro q; exact q.1 c70) | (intro q; omega)), e_o, if_pos c96]; congr 1; omega))⟩
                  · exact (by first | omega | (dsimp only; omega))
                · refine rz_iconst d_Md_releaseGood_99 ?_
                  exact rz_zreturn (st := []) (ty := .boolean) rfl rfl d_Md_releaseGood_100 ⟨by decide, by decide⟩ ⟨_, rfl, bi0 (by rw [rgP, e_k, if_neg (by first | (intro q; rcases q with q | q; exact q c12; exact q.1 c21) | (intro q; rcases q with q | q; exact q c12; rw [c33] at q; exact absurd q.2 (by decide))), hv, rgF_e _ (by omega), if_neg (by rw [e_o]; first | (intro q; exact q.1 c70) | (intro q; omega)), if_neg (by rw [e_o, c96]; decide)]), M5, hM5, hS5, hG5⟩
              · refine rz_goto 101 d_Md_releaseGood_83 (by decide) ?_
                refine rz_iinc (i + 1) 1 [(3, vi (i + 1)), (4, vi o), (2, vi k), (0, .ref x), (1, vi p)] d_Md_releaseGood_101 rfl (by first | rfl | omega) (by decide) rfl ?_
                refine rz_goto 42 d_Md_releaseGood_104 (by decide) ?_
                refine rz_Lsub [(3, vi (i + 1)), (2, vi k), (0, .ref x), (1, vi p)] [0, 2, 3, 4] rfl ?_
                refine ih42 (i + 1, hA, MA) ?_ ?_
                · try dsimp only
                  exact ⟨by omega, by omega, hMA, hSA, hFA, (by rw [hv, rgF_e _ (by omega)]; first | (rw [if_pos (by rw [e_o]; exact ⟨c70, by omega⟩)]; congr 1; omega) | (rw [if_neg (by rw [e_o]; first | (intro q; exact q.1 c70) | (intro q; omega)), e_o, if_pos c96]; congr 1; omega))⟩
                · exact (by first | omega | (dsimp only; omega))
        · refine rz_Lsub [(3, vi (3 * k)), (2, vi k), (0, .ref x), (1, vi p)] [0, 1, 2, 3] rfl ?_
          refine LP ((3 * k), h3, M3) ?_
          try dsimp only
          exact ⟨by omega, by omega, hM3, hS3, hG3, (by congr 1; omega)⟩
      · refine rz_iconst d_Md_releaseGood_36 ?_
        exact rz_zreturn (st := []) (ty := .boolean) rfl rfl d_Md_releaseGood_37 ⟨by decide, by decide⟩ ⟨_, rfl, bi0 (by rw [rgP, e_k, if_pos (by first | exact Or.inl c12 | exact Or.inr ⟨c21, c33⟩)]), M3, hM3, hS3, hG3⟩
/-- only what the search scribbles on may differ -/
def mSk (ks : List Nat) (M M' : Nat → Int → Int) : Prop := ∀ k, k ∉ ks → M' k = M k
theorem mSk.rf {ks : List Nat} {M : Nat → Int → Int} : mSk ks M M := fun _ _ => rfl
theorem mSk.tr {ks : List Nat} {M M1 M2 : Nat → Int → Int} (h1 : mSk ks M M1) (h2 : mSk ks M1 M2) : mSk ks M M2 := fun k a => (h2 k a).trans (h1 k a)
theorem mSk.mono {ks ks' : List Nat} {M M1 : Nat → Int → Int} (h1 : mSk ks M M1) (hs : ∀ k ∈ ks, k ∈ ks') : mSk ks' M M1 := fun k a => h1 k (fun q => a (hs k q))
theorem mSk.mu {ks : List Nat} {M M1 : Nat → Int → Int} (h1 : mSk ks M M1) {k : Nat} (hk : k ∈ ks) (g : Int → Int) : mSk ks M (mu M1 k g) := fun j a => by
  rw [mu_n (fun e => a (by rw [e]; exact hk))]
  exact h1 j a
theorem mSk.of2 {ks : List Nat} {M M1 : Nat → Int → Int} (h : mS2 M M1) (h1 : 17 ∈ ks) (h2 : 18 ∈ ks) : mSk ks M M1 := fun k a => h k (fun e => a (by rw [e]; exact h1)) (fun e => a (by rw [e]; exact h2))
/-- which plugins are led to: by the asks that count; then need by need, 108 steps -/
def ldA (M : Nat → Int → Int) : Nat → Int → Int
  | 0 => fun _ => 0
  | n + 1 => if M 10 n = 0 then ldA M n else rz_u (ldA M n) (M 9 n) 1
def ldC (M : Nat → Int → Int) (l : Int → Int) (j : Int) : Prop := l (j / 3 % 6) = 0 ∨ M 11 (j / 3 % 6) < 0 ∨ M 5 (4 * (j / 3 % 6) + M 11 (j / 3 % 6)) ≤ j % 3 ∨ ¬ M 7 (3 * (4 * (j / 3 % 6) + M 11 (j / 3 % 6)) + j % 3) = 0
def ldB (M : Nat → Int → Int) (l0 : Int → Int) : Nat → Int → Int
  | 0 => l0
  | n + 1 => if ldB M l0 n (n / 3 % 6) = 0 ∨ M 11 (n / 3 % 6) < 0 ∨ M 5 (4 * (n / 3 % 6) + M 11 (n / 3 % 6)) ≤ n % 3 ∨ ¬ M 7 (3 * (4 * (n / 3 % 6) + M 11 (n / 3 % 6)) + n % 3) = 0 then ldB M l0 n else rz_u (ldB M l0 n) (M 6 (3 * (4 * (n / 3 % 6) + M 11 (n / 3 % 6)) + n % 3)) 1
def ldE (M : Nat → Int → Int) : Int → Int := ldB M (ldA M (M 8 0).toNat) 108
def ldF (M : Nat → Int → Int) (l : Int → Int) : Nat → Int → Bool
  | 0, _ => true
  | n + 1, p => if 0 ≤ M 11 p ∧ l p = 0 then false else ldF M l n (p + 1)
/-- every plugin that has a release is led to -/
def ledP (M : Nat → Int → Int) : Bool := ldF M (ldE M) 6 0
theorem ldF_e (M : Nat → Int → Int) (l : Int → Int) {n : Nat} {p : Int} (hn : 0 < n) : ldF M l n p = if 0 ≤ M 11 p ∧ l p = 0 then false else ldF M l (n - 1) (p + 1) := by
  cases n with
  | zero => omega
  | succ n => rfl
theorem ldF_c (M : Nat → Int → Int) {l l' : Int → Int} : ∀ (n : Nat) (p : Int), 0 ≤ p → p + n ≤ 6 → (∀ q, 0 ≤ q → q < 6 → l q = l' q) → ldF M l n p = ldF M l' n p
  | 0, _, _, _, _ => rfl
  | n + 1, p, h0, h, hl => by
    simp only [ldF, hl p h0 (by omega), ldF_c M n (p + 1) (by omega) (by omega) hl]

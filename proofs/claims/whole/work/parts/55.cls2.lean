/-! the class: a version's making -/
theorem it_e {f : Int → Int} {n p a j : Int} (hp : p ≤ n) (ha : itS f p n = a) (han : a < n) (hj : ruF (itP f a) f (n - (a + 1)).toNat (a + 1) = ruF (itP f a) f (n - j).toNat j) (h : j = n ∨ j < n ∧ itP f a (f j) = false) : itE f p n = j := by
  rw [itE_a hp ha han, hj]
  rcases h with e | e
  · rw [e, show (n - n).toNat = 0 by omega]; rfl
  · exact ruF_hit e.2
theorem num_b {f : Int → Int} {n p a j : Int} {nu : Int} (hn : n ≤ 12) (ha : itS f p n = a) (ej : itE f p n = j) (h0 : 0 ≤ a ∧ j ≤ n) (cD : isD (f a) = true) (e : numF (fun j => f (a + j)) (j - a).toNat 0 0 = nu) : 0 ≤ nu ∧ nu ≤ 1000000000000 := by
  rw [num_sub] at e
  have := numF_b (f := f) (j - a).toNat a 0 (fun q x y => by have := itE_all (f := f) (p := p) (hi := n) (j := q) (by omega) (by omega); rwa [ha, itP_d cD] at this) (by decide)
  have h12 : (10 : Int) ^ (j - a).toNat ≤ 10 ^ 12 := by
    have := Nat.pow_le_pow_right (n := 10) (by decide) (show (j - a).toNat ≤ 12 by omega)
    exact_mod_cast this
  have e2 : (10 : Int) ^ 12 = 1000000000000 := by decide
  omega
abbrev rm_Ve_readItem : Room := { frames := 5, cells := 2, slots := 38, locals := 132 }
set_option maxRecDepth 100000 in
set_option maxHeartbeats 4000000 in
theorem c_Ve_readItem {l : Launch} {Γ : rz_G} {h : rz_H} {v ra pa : Nat} {R P : Int → Int} (a1 : h v = some ((3, 0), .inr (5, [.ref ra, .ref pa]))) (a2 : h ra = some ((4, 0), aI Γ 0 12 R)) (a3 : h pa = some ((5, 0), aL Γ 12 P)) {s n : Nat} {f : Int → Int} (hs : StrAt Γ h s n f 1) (hk : KsAt Γ h) (hn : n ≤ 12) {k a p e : Int} (hkk : 0 ≤ k ∧ k < 12) (hp : p ≤ n) (hi : 0 ≤ a ∧ a < (n : Int)) (ha : itS f p n = a) (he : itE f p n = e) : Ct l Γ x_Ve_readItem y_Ve_readItem rm_Ve_readItem [.ref v, vi k, .ref s, vi a] h (pV (fun h' => h' ra = some ((4, 0), aI Γ 0 12 (rz_u R k (rkC f a e n))) ∧ h' pa = some ((5, 0), aL Γ 12 (rz_u P k (plC f a e n))) ∧ rz_f2 ra pa h h')) := by
  refine rz_met (by decide) rfl rfl (Nat.le_of_ble_eq_true rfl) (fun K _ => ?_)
  refine rz_Leq [(0, .ref v), (1, vi k), (2, .ref s), (3, vi a)] rfl ?_
  have hdl : (isD (f a) || isL (f a)) = true := by rw [← ha]; exact itS_dl hp (by omega)
  have hok := hs.ok
  refine rz_iload_n 3 d_Ve_readItem_0 rfl rfl ?_
  refine rz_iconst d_Ve_readItem_1 ?_
  refine rz_iadd d_Ve_readItem_2 ?_
  refine rz_istore [(4, vi (a + 1)), (0, .ref v), (1, vi k), (2, .ref s), (3, vi a)] d_Ve_readItem_3 (by decide) rfl ?_
  refine rz_loop (α := Int) 0 0 5 (fun j => ((n : Int) - j).toNat) (fun j => a + 1 ≤ j ∧ j ≤ n ∧ ruF (itP f a) f ((n : Int) - (a + 1)).toNat (a + 1) = ruF (itP f a) f ((n : Int) - j).toNat j) (fun j => [(4, vi j), (0, .ref v), (1, vi k), (2, .ref s), (3, vi a)]) (fun j => []) (fun j => h) (fun y hy ih5 => ?_) (fun LP => ?_)
  · obtain ⟨j, rfl⟩ : ∃ z, z = y := ⟨_, rfl⟩
    try dsimp only at hy ih5 ⊢
    obtain ⟨hj0, hj1, hj⟩ := hy
    refine rz_iload 0 d_Ve_readItem_5 rfl ?_
    refine rz_cut (α := Unit) 0 0 37 (fun _ => itE f p n = j) (fun _ => [(4, vi j), (0, .ref v), (1, vi k), (2, .ref s), (3, vi a)]) (fun _ => []) (fun _ => h) (fun _ ej => ?_) (fun J37 => ?_)
    · have EE : e = j := he.symm.trans ej
      refine rz_aload_n 3 d_Ve_readItem_37 rfl rfl ?_
      refine rz_iload_n 4 d_Ve_readItem_38 rfl rfl ?_
      refine rz_iload 0 d_Ve_readItem_39 rfl ?_
      obtain ⟨tso4, fso4, so4⟩ := hs.ob
      refine rz_callV (As := [vi a, vi j]) (c_St_substring hs (i := a) (e := j) (N := ((j - a).toNat)) (by omega) (by omega) (by omega) (by omega) hk.2.1) m_Ve_68 so4 rfl rfl rfl rfl (Nat.le_of_ble_eq_true rfl) ⟨by decide, by decide⟩ ⟨by decide, by decide⟩ d_Ve_readItem_41 (kR (h := h) fun s1 h1 q1 => ?_)
      obtain ⟨hs1, G1⟩ := q1
      have F2 : rz_f2 ra pa h h1 := rz_f2.rf.fr G1
      have fc_3_0 : h1 v = some ((3, 0), .inr (5, [.ref ra, .ref pa])) := G1 _ _ _ a1 (by simp)
      have fc_3_1 : h1 ra = some ((4, 0), aI Γ 0 12 R) := G1 _ _ _ a2 (by simp)
      have fc_3_2 : h1 pa = some ((5, 0), aL Γ 12 P) := G1 _ _ _ a3 (by simp)
      have hs_3 : StrAt Γ h1 s n f 1 := StrAt.fr hs G1 (by decide)
      have hk_3 : KsAt Γ h1 := KsAt.fr hk G1 (by decide)
      refine rz_astore [(5, .ref s1), (4, vi j), (0, .ref v), (1, vi k), (2, .ref s), (3, vi a)] d_Ve_readItem_44 (by decide) rfl ?_
      refine rz_aload_n 4 d_Ve_readItem_46 rfl rfl ?_
      refine rz_iload_n 5 d_Ve_readItem_47 rfl rfl ?_
      obtain ⟨tso5, fso5, so5⟩ := hs_3.ob
      refine rz_callV (As := [vi a]) (c_St_charAt hs_3 (by omega)) m_Ve_48 so5 rfl rfl rfl rfl (Nat.le_of_ble_eq_true rfl) ⟨by decide, by decide⟩ ⟨by decide, by decide⟩ d_Ve_readItem_48 (kE (h := h1) ?_)
      refine rz_callS (As := [vi (f a)]) (c_Rs_isDigit (by have := hs.ok.2 a (by omega) (by omega); omega)) m_Ve_58 rfl rfl (Nat.le_of_ble_eq_true rfl) ⟨by decide, by decide⟩ ⟨by decide, by decide⟩ d_Ve_readItem_51 (kE (h := h1) ?_)
      refine rz_if_eqB 95 d_Ve_readItem_54 (by decide) (fun c54 => ?_) (fun c54 => ?_)
      · refine rz_cut (α := Unit) 2 38 121 (fun _ => True) (fun _ => [(5, .ref s1), (4, vi j), (0, .ref v), (1, vi k), (2, .ref s), (3, vi a)]) (fun _ => [vi (bi (decide (j < (n : Int)) && isD (f j)))]) (fun _ => h1) (fun _ _ => ?_) (fun J121 => ?_)
        · refine rz_istore [(6, vi (bi (decide (j < (n : Int)) && isD (f j)))), (5, .ref s1), (4, vi j), (0, .ref v), (1, vi k), (2, .ref s), (3, vi a)] d_Ve_readItem_121 (by decide) rfl ?_
          have hL : isL (f a) = true := by rw [isDL hdl, c54]; rfl
          refine rz_aload_n 3 d_Ve_readItem_123 rfl rfl ?_
          refine rz_getf f_Ve_9 fc_3_0 rfl d_Ve_readItem_124 ?_
          refine rz_iload_n 4 d_Ve_readItem_127 rfl rfl ?_
          refine rz_aload 1 d_Ve_readItem_128 rfl ?_
          refine rz_iload 0 d_Ve_readItem_130 rfl ?_
          refine rz_callS (As := [.ref s1, vi (bi (decide (j < (n : Int)) && isD (f j)))]) (c_Ve_rankOfWord (db := decide (j < (n : Int)) && isD (f j)) hs1 hk_3) m_Ve_76 rfl rfl (Nat.le_of_ble_eq_true rfl) ⟨by decide, by decide⟩ ⟨by decide, by decide⟩ d_Ve_readItem_132 (kE (h := h1) ?_)
          refine rz_top (fun rw e_rw => ?_)
          replace e_rw := e_rw.symm
          have ER : rw = rkC f a j n := by rw [← e_rw]; exact rW_rkC hp ha ej (by omega) hi.2 hL
          have rb : 1 ≤ rw ∧ rw ≤ 8 := by rw [ER, rkC, if_pos hL]; exact wrR_i _ _
          refine rz_iastore fc_3_1 (show (4 : Nat) ≠ 0 by decide) (by omega) d_Ve_readItem_135 ?_
          refine rz_nm fun h6 eh6 => ?_
          have g6 : rz_fr [4] h1 h6 := by rw [eh6]; exact rz_fr.one fc_3_1
          have F7 : rz_f2 ra pa h h6 := by rw [eh6]; exact F2.upa
          have fc_8_0 : h6 v = some ((3, 0), .inr (5, [.ref ra, .ref pa])) := g6 _ _ _ fc_3_0 (show 3 ∉ ([4] : List Nat) by decide)
          have fc_8_1 : h6 pa = some ((5, 0), aL Γ 12 P) := g6 _ _ _ fc_3_2 (show 5 ∉ ([4] : List Nat) by decide)
          have hs_8 : StrAt Γ h6 s n f 1 := StrAt.fr hs_3 g6 (by decide)
          have hk_8 : KsAt Γ h6 := KsAt.fr hk_3 g6 (by decide)
          have hs1_8 : StrAt Γ h6 s1 ((j - a).toNat) (fun j => f (a + j)) 1 := StrAt.fr hs1 g6 (by decide)
          have fu_6 : h6 ra = some ((4, 0), aI Γ 0 12 (rz_u R k rw)) := by rw [eh6]; exact rz_up_s _ _ _
          refine rz_aload_n 3 d_Ve_readItem_136 rfl rfl ?_
          refine rz_getf f_Ve_13 fc_8_0 rfl d_Ve_readItem_137 ?_
          refine rz_iload_n 4 d_Ve_readItem_140 rfl rfl ?_
          refine rz_aload_n 3 d_Ve_readItem_141 rfl rfl ?_
          refine rz_getf f_Ve_9 fc_8_0 rfl d_Ve_readItem_142 ?_
          refine rz_iload_n 4 d_Ve_readItem_145 rfl rfl ?_
          refine rz_iaload fu_6 (show (4 : Nat) ≠ 0 by decide) (by omega) d_Ve_readItem_146 ?_
          refine rz_bipush (v := 8) d_Ve_readItem_147 (by decide) ?_
          refine rz_icmp_ne 160 d_Ve_readItem_149 (by decide) (by rw [rz_u_s]; omega) ⟨by decide, by decide⟩ (fun c149 => ?_) (fun c149 => ?_)
          · refine rz_lconst (v := 0) d_Ve_readItem_160 (by decide) ?_
            refine rz_lastore fc_8_1 (show (5 : Nat) ≠ 0 by decide) (by omega) d_Ve_readItem_161 ?_
            refine rz_nm fun h9 eh9 => ?_
            have g9 : rz_fr [5] h6 h9 := by rw [eh9]; exact rz_fr.one fc_8_1
            have F10 : rz_f2 ra pa h h9 := by rw [eh9]; exact F7.upb
            have fc_11_0 : h9 v = some ((3, 0), .inr (5, [.ref ra, .ref pa])) := g9 _ _ _ fc_8_0 (show 3 ∉ ([5] : List Nat) by decide)
            have fc_11_1 : h9 ra = some ((4, 0), aI Γ 0 12 (rz_u R k rw)) := g9 _ _ _ fu_6 (show 4 ∉ ([5] : List Nat) by decide)
            have hs_11 : StrAt Γ h9 s n f 1 := StrAt.fr hs_8 g9 (by decide)
            have hk_11 : KsAt Γ h9 := KsAt.fr hk_8 g9 (by decide)
            have hs1_11 : StrAt Γ h9 s1 ((j - a).toNat) (fun j => f (a + j)) 1 := StrAt.fr hs1_8 g9 (by decide)
            have fu_9 : h9 pa = some ((5, 0), aL Γ 12 (rz_u P k 0)) := by rw [eh9]; exact rz_up_s _ _ _
            exact rz_return (st := []) rfl d_Ve_readItem_162 ⟨by decide, by decide⟩ ⟨rfl, (by rw [EE, show rkC f a j n = rw from ER.symm]; exact fc_11_1), (by rw [EE, show plC f a j n = 0 from by rw [plC, if_pos hL]; exact if_neg (by have z := c149; rw [rz_u_s] at z; rw [← ER]; exact z)]; exact fu_9), F10⟩
          · refine rz_aload 1 d_Ve_readItem_152 rfl ?_
            refine rz_callS (As := [.ref s1]) (c_Ve_dictionaryPlace hs1_8) m_Ve_80 rfl rfl (Nat.le_of_ble_eq_true rfl) ⟨by decide, by decide⟩ ⟨by decide, by decide⟩ d_Ve_readItem_154 (kEL (h := h6) ?_)
            refine rz_goto 161 d_Ve_readItem_157 (by decide) ?_
            refine rz_lastore fc_8_1 (show (5 : Nat) ≠ 0 by decide) (by omega) d_Ve_readItem_161 ?_
            refine rz_nm fun h12 eh12 => ?_
            have g12 : rz_fr [5] h6 h12 := by rw [eh12]; exact rz_fr.one fc_8_1
            have F13 : rz_f2 ra pa h h12 := by rw [eh12]; exact F7.upb
            have fc_14_0 : h12 v = some ((3, 0), .inr (5, [.ref ra, .ref pa])) := g12 _ _ _ fc_8_0 (show 3 ∉ ([5] : List Nat) by decide)
            have fc_14_1 : h12 ra = some ((4, 0), aI Γ 0 12 (rz_u R k rw)) := g12 _ _ _ fu_6 (show 4 ∉ ([5] : List Nat) by decide)
            have hs_14 : StrAt Γ h12 s n f 1 := StrAt.fr hs_8 g12 (by decide)
            have hk_14 : KsAt Γ h12 := KsAt.fr hk_8 g12 (by decide)
            have hs1_14 : StrAt Γ h12 s1 ((j - a).toNat) (fun j => f (a + j)) 1 := StrAt.fr hs1_8 g12 (by decide)
            have fu_12 : h12 pa = some ((5, 0), aL Γ 12 (rz_u P k (dic (fun j => f (a + j)) 0 (((j - a).toNat) : Nat)))) := by rw [eh12]; exact rz_up_s _ _ _
            exact rz_return (st := []) rfl d_Ve_readItem_162 ⟨by decide, by decide⟩ ⟨rfl, (by rw [EE, show rkC f a j n = rw from ER.symm]; exact fc_14_1), (by rw [EE, show plC f a j n = (dic (fun j => f (a + j)) 0 (((j - a).toNat) : Nat)) from by rw [plC, if_pos hL]; exact (if_pos (by have z := c149; rw [rz_u_s] at z; rw [← ER]; exact z)).trans (dic_sub f (by omega)).symm]; exact fu_12), F13⟩
        · refine rz_iload 1 d_Ve_readItem_95 rfl ?_
          refine rz_aload_n 4 d_Ve_readItem_97 rfl rfl ?_
          obtain ⟨tso15, fso15, so15⟩ := hs_3.ob
          refine rz_callV (As := []) (c_St_length hs_3) m_Ve_23 so15 rfl rfl rfl rfl (Nat.le_of_ble_eq_true rfl) ⟨by decide, by decide⟩ ⟨by decide, by decide⟩ d_Ve_readItem_98 (kE (h := h1) ?_)
          refine rz_icmp_ge 120 d_Ve_readItem_101 (by decide) (by omega) (by omega) (fun c101 => ?_) (fun c101 => ?_)
          · refine rz_iconst d_Ve_readItem_120 ?_
            refine rz_Seq [vi (bi (decide (j < (n : Int)) && isD (f j)))] (by first | (rw [c113, Bool.and_false]; rfl) | (rw [decide_eq_false (show ¬ j < (n : Int) by omega)]; rfl)) ?_
            exact J121 () trivial
          · refine rz_aload_n 4 d_Ve_readItem_104 rfl rfl ?_
            refine rz_iload 1 d_Ve_readItem_105 rfl ?_
            obtain ⟨tso16, fso16, so16⟩ := hs_3.ob
            refine rz_callV (As := [vi j]) (c_St_charAt hs_3 (by omega)) m_Ve_48 so16 rfl rfl rfl rfl (Nat.le_of_ble_eq_true rfl) ⟨by decide, by decide⟩ ⟨by decide, by decide⟩ d_Ve_readItem_107 (kE (h := h1) ?_)
            refine rz_callS (As := [vi (f j)]) (c_Rs_isDigit (by have := hs.ok.2 j (by omega) (by omega); omega)) m_Ve_58 rfl rfl (Nat.le_of_ble_eq_true rfl) ⟨by decide, by decide⟩ ⟨by decide, by decide⟩ d_Ve_readItem_110 (kE (h := h1) ?_)
            refine rz_if_eqB 120 d_Ve_readItem_113 (by decide) (fun c113 => ?_) (fun c113 => ?_)
            · refine rz_iconst d_Ve_readItem_120 ?_
              refine rz_Seq [vi (bi (decide (j < (n : Int)) && isD (f j)))] (by first | (rw [c113, Bool.and_false]; rfl) | (rw [decide_eq_false (show ¬ j < (n : Int) by omega)]; rfl)) ?_
              exact J121 () trivial
            · refine rz_iconst d_Ve_readItem_116 ?_
              refine rz_goto 121 d_Ve_readItem_117 (by decide) ?_
              refine rz_Seq [vi (bi (decide (j < (n : Int)) && isD (f j)))] (by rw [decide_eq_true (show j < (n : Int) by omega), c113]; rfl) ?_
              exact J121 () trivial
      · have cD := c54
        have hnl : ¬ isL (f a) = true := by rw [isDL hdl, cD]; decide
        refine rz_aload_n 2 d_Ve_readItem_57 rfl rfl ?_
        refine rz_getf f_Ve_13 fc_3_0 rfl d_Ve_readItem_58 ?_
        refine rz_iload_n 3 d_Ve_readItem_61 rfl rfl ?_
        refine rz_aload 0 d_Ve_readItem_62 rfl ?_
        refine rz_callS (As := [.ref s1]) (c_Ve_numberOf hs1) m_Ve_72 rfl rfl (Nat.le_of_ble_eq_true rfl) ⟨by decide, by decide⟩ ⟨by decide, by decide⟩ d_Ve_readItem_64 (kEL (h := h1) ?_)
        refine rz_topl (fun nu e_nu => ?_)
        replace e_nu := e_nu.symm
        have nb := num_b (by omega) ha ej (by omega) cD e_nu
        refine rz_lastore fc_3_2 (show (5 : Nat) ≠ 0 by decide) (by omega) d_Ve_readItem_67 ?_
        refine rz_nm fun h17 eh17 => ?_
        have g17 : rz_fr [5] h1 h17 := by rw [eh17]; exact rz_fr.one fc_3_2
        have F18 : rz_f2 ra pa h h17 := by rw [eh17]; exact F2.upb
        have fc_19_0 : h17 v = some ((3, 0), .inr (5, [.ref ra, .ref pa])) := g17 _ _ _ fc_3_0 (show 3 ∉ ([5] : List Nat) by decide)
        have fc_19_1 : h17 ra = some ((4, 0), aI Γ 0 12 R) := g17 _ _ _ fc_3_1 (show 4 ∉ ([5] : List Nat) by decide)
        have hs_19 : StrAt Γ h17 s n f 1 := StrAt.fr hs_3 g17 (by decide)
        have hk_19 : KsAt Γ h17 := KsAt.fr hk_3 g17 (by decide)
        have hs1_19 : StrAt Γ h17 s1 ((j - a).toNat) (fun j => f (a + j)) 1 := StrAt.fr hs1 g17 (by decide)
        have fu_17 : h17 pa = some ((5, 0), aL Γ 12 (rz_u P k nu)) := by rw [eh17]; exact rz_up_s _ _ _
        refine rz_aload_n 2 d_Ve_readItem_68 rfl rfl ?_
        refine rz_getf f_Ve_9 fc_19_0 rfl d_Ve_readItem_69 ?_
        refine rz_iload_n 3 d_Ve_readItem_72 rfl rfl ?_
        refine rz_aload_n 2 d_Ve_readItem_73 rfl rfl ?_
        refine rz_getf f_Ve_13 fc_19_0 rfl d_Ve_readItem_74 ?_
        refine rz_iload_n 3 d_Ve_readItem_77 rfl rfl ?_
        refine rz_laload fu_17 (show (5 : Nat) ≠ 0 by decide) (by omega) d_Ve_readItem_78 ?_
        refine rz_lconst (v := 0) d_Ve_readItem_79 (by decide) ?_
        refine rz_lcmp (by rw [rz_u_s]; omega) (by decide) d_Ve_readItem_80 ?_
        refine rz_if_neC 89 d_Ve_readItem_81 (by decide) (fun c81 => ?_) (fun c81 => ?_)
        · refine rz_bipush (v := 9) d_Ve_readItem_89 (by decide) ?_
          refine rz_iastore fc_19_1 (show (4 : Nat) ≠ 0 by decide) (by omega) d_Ve_readItem_91 ?_
          refine rz_nm fun h20 eh20 => ?_
          have g20 : rz_fr [4] h17 h20 := by rw [eh20]; exact rz_fr.one fc_19_1
          have F21 : rz_f2 ra pa h h20 := by rw [eh20]; exact F18.upa
          have fc_22_0 : h20 v = some ((3, 0), .inr (5, [.ref ra, .ref pa])) := g20 _ _ _ fc_19_0 (show 3 ∉ ([4] : List Nat) by decide)
          have fc_22_1 : h20 pa = some ((5, 0), aL Γ 12 (rz_u P k nu)) := g20 _ _ _ fu_17 (show 5 ∉ ([4] : List Nat) by decide)
          have hs_22 : StrAt Γ h20 s n f 1 := StrAt.fr hs_19 g20 (by decide)
          have hk_22 : KsAt Γ h20 := KsAt.fr hk_19 g20 (by decide)
          have hs1_22 : StrAt Γ h20 s1 ((j - a).toNat) (fun j => f (a + j)) 1 := StrAt.fr hs1_19 g20 (by decide)
          have fu_20 : h20 ra = some ((4, 0), aI Γ 0 12 (rz_u R k 9)) := by rw [eh20]; exact rz_up_s _ _ _
          refine rz_goto 162 d_Ve_readItem_92 (by decide) ?_
          exact rz_return (st := []) rfl d_Ve_readItem_162 ⟨by decide, by decide⟩ ⟨rfl, (by rw [EE, show rkC f a j n = 9 from by rw [rkC, if_neg hnl]; exact if_neg (by rw [← num_sub, e_nu]; have z := c81; rw [rz_u_s] at z; exact z)]; exact fu_20), (by rw [EE, show plC f a j n = nu from by rw [plC, if_neg hnl, ← num_sub]; exact e_nu]; exact fc_22_1), F21⟩
        · refine rz_bipush (v := 6) d_Ve_readItem_84 (by decide) ?_
          refine rz_goto 91 d_Ve_readItem_86 (by decide) ?_
          refine rz_iastore fc_19_1 (show (4 : Nat) ≠ 0 by decide) (by omega) d_Ve_readItem_91 ?_
          refine rz_nm fun h23 eh23 => ?_
          have g23 : rz_fr [4] h17 h23 := by rw [eh23]; exact rz_fr.one fc_19_1
          have F24 : rz_f2 ra pa h h23 := by rw [eh23]; exact F18.upa
          have fc_25_0 : h23 v = some ((3, 0), .inr (5, [.ref ra, .ref pa])) := g23 _ _ _ fc_19_0 (show 3 ∉ ([4] : List Nat) by decide)
          have fc_25_1 : h23 pa = some ((5, 0), aL Γ 12 (rz_u P k nu)) := g23 _ _ _ fu_17 (show 5 ∉ ([4] : List Nat) by decide)
          have hs_25 : StrAt Γ h23 s n f 1 := StrAt.fr hs_19 g23 (by decide)
          have hk_25 : KsAt Γ h23 := KsAt.fr hk_19 g23 (by decide)
          have hs1_25 : StrAt Γ h23 s1 ((j - a).toNat) (fun j => f (a + j)) 1 := StrAt.fr hs1_19 g23 (by decide)
          have fu_23 : h23 ra = some ((4, 0), aI Γ 0 12 (rz_u R k 6)) := by rw [eh23]; exact rz_up_s _ _ _
          refine rz_goto 162 d_Ve_readItem_92 (by decide) ?_
          exact rz_return (st := []) rfl d_Ve_readItem_162 ⟨by decide, by decide⟩ ⟨rfl, (by rw [EE, show rkC f a j n = 6 from by rw [rkC, if_neg hnl]; exact if_pos (by rw [← num_sub, e_nu]; have z := c81; rw [rz_u_s] at z; exact z)]; exact fu_23), (by rw [EE, show plC f a j n = nu from by rw [plC, if_neg hnl, ← num_sub]; exact e_nu]; exact fc_25_1), F24⟩
    · refine rz_aload_n 3 d_Ve_readItem_7 rfl rfl ?_
      obtain ⟨tso26, fso26, so26⟩ := hs.ob
      refine rz_callV (As := []) (c_St_length hs) m_Ve_23 so26 rfl rfl rfl rfl (Nat.le_of_ble_eq_true rfl) ⟨by decide, by decide⟩ ⟨by decide, by decide⟩ d_Ve_readItem_8 (kE (h := h) ?_)
      refine rz_icmp_ge 37 d_Ve_readItem_11 (by decide) (by omega) (by omega) (fun c11 => ?_) (fun c11 => ?_)
      · exact J37 () (it_e hp ha hi.2 hj (by first | exact Or.inl (by omega) | exact Or.inr ⟨by omega, by rw [← isO_e hdl]; exact c28⟩))
      · refine rz_aload_n 3 d_Ve_readItem_14 rfl rfl ?_
        refine rz_iload_n 4 d_Ve_readItem_15 rfl rfl ?_
        obtain ⟨tso27, fso27, so27⟩ := hs.ob
        refine rz_callV (As := [vi a]) (c_St_charAt hs (by omega)) m_Ve_48 so27 rfl rfl rfl rfl (Nat.le_of_ble_eq_true rfl) ⟨by decide, by decide⟩ ⟨by decide, by decide⟩ d_Ve_readItem_16 (kE (h := h) ?_)
        refine rz_aload_n 3 d_Ve_readItem_19 rfl rfl ?_
        refine rz_iload 0 d_Ve_readItem_20 rfl ?_
        obtain ⟨tso28, fso28, so28⟩ := hs.ob
        refine rz_callV (As := [vi j]) (c_St_charAt hs (by omega)) m_Ve_48 so28 rfl rfl rfl rfl (Nat.le_of_ble_eq_true rfl) ⟨by decide, by decide⟩ ⟨by decide, by decide⟩ d_Ve_readItem_22 (kE (h := h) ?_)
        refine rz_callS (As := [vi (f a), vi (f j)]) (c_Ve_isOneKind (by have := hs.ok.2 a (by omega) (by omega); omega) (by have := hs.ok.2 j (by omega) (by omega); omega)) m_Ve_64 rfl rfl (Nat.le_of_ble_eq_true rfl) ⟨by decide, by decide⟩ ⟨by decide, by decide⟩ d_Ve_readItem_25 (kE (h := h) ?_)
        refine rz_if_eqB 37 d_Ve_readItem_28 (by decide) (fun c28 => ?_) (fun c28 => ?_)
        · exact J37 () (it_e hp ha hi.2 hj (by first | exact Or.inl (by omega) | exact Or.inr ⟨by omega, by rw [← isO_e hdl]; exact c28⟩))
        · refine rz_iinc (j + 1) 0 [(4, vi (j + 1)), (0, .ref v), (1, vi k), (2, .ref s), (3, vi a)] d_Ve_readItem_31 rfl (by first | rfl | omega) (by decide) rfl ?_
          refine rz_goto 5 d_Ve_readItem_34 (by decide) ?_
          refine rz_Lsub [(4, vi (j + 1)), (0, .ref v), (1, vi k), (2, .ref s), (3, vi a)] [0, 1, 2, 3, 4] rfl ?_
          refine ih5 (j + 1) ?_ ?_
          · try dsimp only
            exact ⟨by omega, by omega, (by rw [hj, ruF_go (by omega) (by rw [← isO_e hdl]; exact c28)]; congr 1; omega)⟩
          · exact (by first | omega | (dsimp only; omega))
  · refine rz_Lsub [(4, vi (a + 1)), (0, .ref v), (1, vi k), (2, .ref s), (3, vi a)] [0, 1, 2, 3, 4] rfl ?_
    refine LP (a + 1) ?_
    try dsimp only
    exact ⟨by omega, by omega, rfl⟩
theorem rz_f2.st {Γ : rz_G} {ra pa : Nat} {h h' : rz_H} {g k : Int → Int} {s n m : Nat} {f : Int → Int} (hf : rz_f2 ra pa h h') (h1 : h ra = some ((4, 0), aI Γ 0 12 g)) (h2 : h pa = some ((5, 0), aL Γ 12 k)) (hs : StrAt Γ h s n f m) : StrAt Γ h' s n f m := hs.fr (hf.ro h1 h2) (by decide)
theorem rz_f2.ks {Γ : rz_G} {ra pa : Nat} {h h' : rz_H} {g k : Int → Int} (hf : rz_f2 ra pa h h') (h1 : h ra = some ((4, 0), aI Γ 0 12 g)) (h2 : h pa = some ((5, 0), aL Γ 12 k)) (hs : KsAt Γ h) : KsAt Γ h' := hs.fr (hf.ro h1 h2) (by decide)
abbrev rm_Ve_init : Room := { frames := 6, cells := 26, slots := 480, locals := 158 }
set_option maxRecDepth 100000 in
set_option maxHeartbeats 4000000 in
theorem c_Ve_init {l : Launch} {Γ : rz_G} {h : rz_H} {v s n : Nat} {f : Int → Int} (hv : h v = some ((3, 0), .inr (5, [.null, .null]))) (hs : StrAt Γ h s n f 1) (hk : KsAt Γ h) (hn : ver f 0 n = true) : Ct l Γ x_Ve_init y_Ve_init rm_Ve_init [.ref v, .ref s] h (pV (fun h' => VeAt Γ h' v (vR f 0 n) (vP f 0 n) ∧ rz_fo v h h')) := by
  refine rz_met (by decide) rfl rfl (Nat.le_of_ble_eq_true rfl) (fun K _ => ?_)
  refine rz_Leq [(0, .ref v), (1, .ref s)] rfl ?_
  have hvn := (ver_ch hn).1
  have hvc : vch f n := (ver_ch hn).2
  have hn12 : n ≤ 12 := by omega
  refine rz_aload_n 0 d_Ve_init_0 rfl rfl ?_
  refine rz_objInit oi_Ve oi_i oi_c (Nat.le_of_ble_eq_true rfl) (by decide) d_Ve_init_1 ?_
  refine rz_aload_n 0 d_Ve_init_4 rfl rfl ?_
  refine rz_bipush (v := 12) d_Ve_init_5 (by decide) ?_
  refine rz_newI 12 (4, 0) (show (4 : Nat) ≠ 0 by decide) aw_int rfl (by decide) ⟨by decide, by decide⟩ d_Ve_init_7 (fun q1 zq1 => ?_)
  refine rz_nm fun h2 eh2 => ?_
  have g2 : rz_fr [] h h2 := by rw [eh2]; exact rz_fr.nw zq1
  have z2 : h q1 = none := rz_fo.rf.nn zq1 (rz_ne zq1 hv)
  have F3 : rz_fo v h h2 := rz_fo.rf.fr g2
  have fc_4_0 : h2 v = some ((3, 0), .inr (5, [.null, .null])) := g2 _ _ _ hv (by simp)
  have hs_4 : StrAt Γ h2 s n f 1 := StrAt.fr hs g2 (by decide)
  have hk_4 : KsAt Γ h2 := KsAt.fr hk g2 (by decide)
  have fn_2 : h2 q1 = some ((4, 0), aI Γ 0 12 (fun _ => 0)) := by rw [eh2]; exact rz_up_s _ _ _
  refine rz_putf (fp_Ve_9) fc_4_0 (show (3 : Nat) ≠ 0 by decide) rfl rfl (show 0 < 2 by decide) d_Ve_init_9 ?_
  refine rz_nm fun h5 eh5 => ?_
  have g5 : rz_fr [3] h2 h5 := by rw [eh5]; exact rz_fr.one fc_4_0
  have F6 : rz_fo v h h5 := by rw [eh5]; exact F3.up
  have fc_7_0 : h5 q1 = some ((4, 0), aI Γ 0 12 (fun _ => 0)) := g5 _ _ _ fn_2 (show 4 ∉ ([3] : List Nat) by decide)
  have hs_7 : StrAt Γ h5 s n f 1 := StrAt.fr hs_4 g5 (by decide)
  have hk_7 : KsAt Γ h5 := KsAt.fr hk_4 g5 (by decide)
  have fu_5 : h5 v = some ((3, 0), .inr (5, [.ref q1, .null])) := by rw [eh5]; exact rz_up_s _ _ _
  refine rz_aload_n 0 d_Ve_init_12 rfl rfl ?_
  refine rz_bipush (v := 12) d_Ve_init_13 (by decide) ?_
  refine rz_newL 12 (5, 0) (show (5 : Nat) ≠ 0 by decide) aw_long rfl (by decide) ⟨by decide, by decide⟩ d_Ve_init_15 (fun q8 zq8 => ?_)
  refine rz_nm fun h9 eh9 => ?_
  have g9 : rz_fr [] h5 h9 := by rw [eh9]; exact rz_fr.nw zq8
  have z9 : h q8 = none := F6.nn zq8 (rz_ne zq8 fu_5)
  have F10 : rz_fo v h h9 := F6.fr g9
  have fc_11_0 : h9 q1 = some ((4, 0), aI Γ 0 12 (fun _ => 0)) := g9 _ _ _ fc_7_0 (by simp)
  have fc_11_1 : h9 v = some ((3, 0), .inr (5, [.ref q1, .null])) := g9 _ _ _ fu_5 (by simp)
  have hs_11 : StrAt Γ h9 s n f 1 := StrAt.fr hs_7 g9 (by decide)
  have hk_11 : KsAt Γ h9 := KsAt.fr hk_7 g9 (by decide)
  have fn_9 : h9 q8 = some ((5, 0), aL Γ 12 (fun _ => 0)) := by rw [eh9]; exact rz_up_s _ _ _
  refine rz_putf (fp_Ve_13) fc_11_1 (show (3 : Nat) ≠ 0 by decide) rfl rfl (show 1 < 2 by decide) d_Ve_init_17 ?_
  refine rz_nm fun h12 eh12 => ?_
  have g12 : rz_fr [3] h9 h12 := by rw [eh12]; exact rz_fr.one fc_11_1
  have F13 : rz_fo v h h12 := by rw [eh12]; exact F10.up
  have fc_14_0 : h12 q1 = some ((4, 0), aI Γ 0 12 (fun _ => 0)) := g12 _ _ _ fc_11_0 (show 4 ∉ ([3] : List Nat) by decide)
  have fc_14_1 : h12 q8 = some ((5, 0), aL Γ 12 (fun _ => 0)) := g12 _ _ _ fn_9 (show 5 ∉ ([3] : List Nat) by decide)
  have hs_14 : StrAt Γ h12 s n f 1 := StrAt.fr hs_11 g12 (by decide)
  have hk_14 : KsAt Γ h12 := KsAt.fr hk_11 g12 (by decide)
  have fu_12 : h12 v = some ((3, 0), .inr (5, [.ref q1, .ref q8])) := by rw [eh12]; exact rz_up_s _ _ _
  refine rz_aload_n 0 d_Ve_init_20 rfl rfl ?_
  refine rz_getf f_Ve_9 fu_12 rfl d_Ve_init_21 ?_
  refine rz_bipush (v := 6) d_Ve_init_24 (by decide) ?_
  refine rz_callS (As := [.ref q1, vi 6]) (c_Ar_fill fc_14_0 (by decide) (by decide) (v := 6)) m_Ve_17 rfl rfl (Nat.le_of_ble_eq_true rfl) ⟨by decide, by decide⟩ ⟨by decide, by decide⟩ d_Ve_init_26 (kV (h := h12) fun h15 q15 => ?_)
  obtain ⟨g15, fa15, ea15, G15⟩ := q15
  have R15 := rz_fo.fr1 fc_14_0 G15
  have F15 : rz_fo v h h15 := fun q x p r => G15 q x (fun z => by rw [z, z2] at r; cases r) (F13 q x p r)
  have fq815 : h15 q8 = some ((5, 0), aL Γ 12 (fun _ => 0)) := G15 _ _ (fun z => by have y := fc_14_1; rw [z, fc_14_0] at y; cases y) fc_14_1
  have fv15 : h15 v = some ((3, 0), .inr (5, [.ref q1, .ref q8])) := G15 _ _ (fun z => by have y := fu_12; rw [z, fc_14_0] at y; cases y) fu_12
  have hs_15 : StrAt Γ h15 s n f 1 := StrAt.fr hs_14 R15 (by decide)
  have hk_15 : KsAt Γ h15 := KsAt.fr hk_14 R15 (by decide)
  refine rz_iconst d_Ve_init_29 ?_
  refine rz_istore_n [(2, vi 0), (0, .ref v), (1, .ref s)] d_Ve_init_30 rfl (by decide) rfl ?_
  refine rz_iconst d_Ve_init_31 ?_
  refine rz_istore_n [(3, vi 0), (2, vi 0), (0, .ref v), (1, .ref s)] d_Ve_init_32 rfl (by decide) rfl ?_
  obtain ⟨ra, era⟩ : ∃ z, z = q1 := ⟨_, rfl⟩
  obtain ⟨pa, epa⟩ : ∃ z, z = q8 := ⟨_, rfl⟩
  have nra : h ra = none := by rw [era]; exact z2
  have npa : h pa = none := by rw [epa]; exact z9
  refine rz_loopA (α := Int × Nat × rz_H × (Int → Int) × (Int → Int)) (fun (i, k, hA, gR, gP) => 2 + 2 * k) (fun (i, k, hA, gR, gP) => 24 + 38 * k) 33 (fun (i, k, hA, gR, gP) => ((n : Int) - i).toNat) (fun (i, k, hA, gR, gP) => 0 ≤ i ∧ i ≤ n ∧ (k : Int) ≤ i ∧ hA v = some ((3, 0), .inr (5, [.ref ra, .ref pa])) ∧ hA ra = some ((4, 0), aI Γ 0 12 gR) ∧ hA pa = some ((5, 0), aL Γ 12 gP) ∧ StrAt Γ hA s n f 1 ∧ KsAt Γ hA ∧ rz_fo v h hA ∧ nsF f ((n : Int) - i).toNat i = itS f (rkL f 0 n k) n ∧ (∀ j, 0 ≤ j → j < 12 → gR j = tbR f n k j) ∧ (∀ j, 0 ≤ j → j < 12 → gP j = tbP f n k j)) (fun (i, k, hA, gR, gP) => [(3, vi i), (2, vi (k : Int)), (0, .ref v), (1, .ref s)]) (fun (i, k, hA, gR, gP) => []) (fun (i, k, hA, gR, gP) => hA) (fun y hy ih33 => ?_) (fun LP => ?_)
  · obtain ⟨i, k, hA, gR, gP⟩ := y
    try dsimp only at hy ih33 ⊢
    obtain ⟨hi0, hi1, hki, fv, fra, fpa, hsA, hkA, FA, hns, eR, eP⟩ := hy
    have hrk := rkL_in (f := f) (lo := 0) (hi := (n : Int)) (by omega) k
    refine rz_iload_n 0 d_Ve_init_33 rfl rfl ?_
    refine rz_aload_n 3 d_Ve_init_34 rfl rfl ?_
    obtain ⟨tso16, fso16, so16⟩ := hsA.ob
    refine rz_callV (As := []) (c_St_length hsA) m_Ve_23 so16 rfl rfl rfl rfl (Nat.le_of_ble_eq_true rfl) ⟨by decide, by decide⟩ ⟨by simp only [rm_Ar_fill, rm_St_length, rm_Ve_init, rm_Ve_readItem, rm_Ve_startsItem]; omega, by simp only [rm_Ar_fill, rm_St_length, rm_Ve_init, rm_Ve_readItem, rm_Ve_startsItem]; omega⟩ d_Ve_init_35 (kE (h := hA) ?_)
    refine rz_icmp_ge 71 d_Ve_init_38 (by decide) (by omega) (by omega) (fun c38 => ?_) (fun c38 => ?_)
    · have hE : nsF f ((n : Int) - (n : Int)).toNat n = itS f (rkL f 0 n k) n := by have z := hns; rw [show i = (n : Int) by omega] at z; exact z
      exact rz_return (st := []) rfl d_Ve_init_71 ⟨by simp only [rm_Ar_fill, rm_St_length, rm_Ve_init, rm_Ve_readItem, rm_Ve_startsItem]; omega, by simp only [rm_Ar_fill, rm_St_length, rm_Ve_init, rm_Ve_readItem, rm_Ve_startsItem]; omega⟩ ⟨rfl, ⟨ra, pa, gR, gP, fv, fra, fpa, fun j p q => by have b := vRP_b (f := f) (n := n) (by omega) j; rw [eR j p q, eP j p q, (tb_end hE j).1, (tb_end hE j).2]; exact ⟨rfl, rfl, b.1.1, b.1.2, b.2.1, b.2.2⟩⟩, FA⟩
    · refine rz_iload_n 1 d_Ve_init_41 rfl rfl ?_
      refine rz_bipush (v := 12) d_Ve_init_42 (by decide) ?_
      refine rz_icmp_ge 71 d_Ve_init_44 (by decide) (by omega) ⟨by decide, by decide⟩ (fun c44 => absurd c44 (by omega)) (fun c44 => ?_)
      have hin : i < (n : Int) := by omega
      refine rz_aload_n 3 d_Ve_init_47 rfl rfl ?_
      refine rz_iload_n 0 d_Ve_init_48 rfl rfl ?_
      refine rz_callS (As := [.ref s, vi i]) (c_Ve_startsItem hsA (by omega)) m_Ve_29 rfl rfl (Nat.le_of_ble_eq_true rfl) ⟨by decide, by decide⟩ ⟨by simp only [rm_Ar_fill, rm_St_length, rm_Ve_init, rm_Ve_readItem, rm_Ve_startsItem]; omega, by simp only [rm_Ar_fill, rm_St_length, rm_Ve_init, rm_Ve_readItem, rm_Ve_startsItem]; omega⟩ d_Ve_init_49 (kE (h := hA) ?_)
      refine rz_if_eqB 65 d_Ve_init_52 (by decide) (fun c52 => ?_) (fun c52 => ?_)
      · refine rz_iinc (i + 1) 0 [(3, vi (i + 1)), (2, vi (k : Int)), (0, .ref v), (1, .ref s)] d_Ve_init_65 rfl (by first | rfl | omega) (by decide) rfl ?_
        refine rz_goto 33 d_Ve_init_68 (by decide) ?_
        refine rz_Lsub [(3, vi (i + 1)), (2, vi (k : Int)), (0, .ref v), (1, .ref s)] [0, 1, 2, 3] rfl ?_
        have IH := ih33 (i + 1, k, hA, gR, gP) ?_ ?_
        · exact Wk.widen (by first | omega | (dsimp only; omega)) (by first | omega | (dsimp only; omega)) IH
        · try dsimp only
          exact ⟨by omega, by omega, by omega, fv, fra, fpa, hsA, hkA, FA, loop_go (by omega) hns c52, eR, eP⟩
        · first | omega | (dsimp only; omega)
      · have LH := loop_hit hvc (by omega) (by omega) hns c52
        refine rz_aload_n 2 d_Ve_init_55 rfl rfl ?_
        refine rz_iload_n 1 d_Ve_init_56 rfl rfl ?_
        refine rz_aload_n 3 d_Ve_init_57 rfl rfl ?_
        refine rz_iload_n 0 d_Ve_init_58 rfl rfl ?_
        refine rz_callV (As := [vi (k : Int), .ref s, vi i]) (c_Ve_readItem fv fra fpa hsA hkA hn12 (k := (k : Int)) (a := i) (p := rkL f 0 n k) (by omega) hrk.2 (by omega) LH.1 rfl) m_Ve_33 fv rfl rfl rfl rfl (Nat.le_of_ble_eq_true rfl) ⟨by decide, by decide⟩ ⟨by simp only [rm_Ar_fill, rm_St_length, rm_Ve_init, rm_Ve_readItem, rm_Ve_startsItem]; omega, by simp only [rm_Ar_fill, rm_St_length, rm_Ve_init, rm_Ve_readItem, rm_Ve_startsItem]; omega⟩ d_Ve_init_59 (kV (h := hA) fun h17 q17 => ?_)
        obtain ⟨fr17, fp17, G17⟩ := q17
        have fv17 := G17 _ _ (fun z => by have y := fv; rw [z, fra] at y; cases y) (fun z => by have y := fv; rw [z, fpa] at y; cases y) fv
        have hs_17 := G17.st fra fpa hsA
        have hk_17 := G17.ks fra fpa hkA
        have F17 := FA.f2 G17 nra npa
        refine rz_iinc ((k : Int) + 1) 1 [(2, vi ((k : Int) + 1)), (3, vi i), (0, .ref v), (1, .ref s)] d_Ve_init_62 rfl (by first | rfl | omega) (by decide) rfl ?_
        refine rz_iinc (i + 1) 1 [(3, vi (i + 1)), (2, vi ((k : Int) + 1)), (0, .ref v), (1, .ref s)] d_Ve_init_65 rfl (by first | rfl | omega) (by decide) rfl ?_
        refine rz_goto 33 d_Ve_init_68 (by decide) ?_
        refine rz_Lsub [(3, vi (i + 1)), (2, vi ((k : Int) + 1)), (0, .ref v), (1, .ref s)] [0, 1, 2, 3] rfl ?_
        have IH := ih33 (i + 1, k + 1, h17, (rz_u gR k (rkC f i (itE f (rkL f 0 n k) n) n)), (rz_u gP k (plC f i (itE f (rkL f 0 n k) n) n))) ?_ ?_
        · exact Wk.widen (by first | omega | (dsimp only; omega)) (by first | omega | (dsimp only; omega)) IH
        · try dsimp only
          exact ⟨by omega, by omega, by omega, fv17, fr17, fp17, hs_17, hk_17, F17, LH.2, (by rw [← (vR_hit LH.1 (by omega)).1]; exact (tb_s eR eP).1), (by rw [← (vR_hit LH.1 (by omega)).2]; exact (tb_s eR eP).2)⟩
        · first | omega | (dsimp only; omega)
  · subst era epa
    refine rz_Lsub [(3, vi 0), (2, vi 0), (0, .ref v), (1, .ref s)] [0, 1, 2, 3] rfl ?_
    have IH := LP (0, 0, h15, g15, (fun _ => 0)) ?_
    · exact Wk.widen (by first | omega | (dsimp only; omega)) (by first | omega | (dsimp only; omega)) IH
    · try dsimp only
      exact ⟨by omega, by omega, by omega, fv15, fa15, fq815, hs_15, hk_15, F15, (by rw [show ((n : Int) - 0).toNat = ((n : Int)).toNat by omega]; exact ns_first hvc (by omega)), (fun j p q => by rw [ea15 j p q, tbR, if_neg (by omega)]), (fun j p q => by rw [tbP, if_neg (by omega)])⟩

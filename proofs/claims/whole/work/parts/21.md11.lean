/-! the reference: what callers call, second group -/
def sp_ask (M : Nat → Int → Int) (p : Int) : Int × (Nat → Int → Int) := if mIn p 0 5 = true then (if rng (mAt M 0) (M 1 0) = true then (if M 8 0 = 4 then (-2, mUse M) else (M 8 0, mUse (mu (mu (mKeep M (2 + M 8 0)) 9 (rz_u (M 9) (M 8 0) p)) 8 (fun _ => M 8 0 + 1)))) else (-3, mUse M)) else (-1, M)
abbrev rm_Md_ask : Room := { frames := 4, cells := 0, slots := 0, locals := 97 }
set_option maxRecDepth 100000 in
set_option maxHeartbeats 4000000 in
theorem c_Md_ask {l : Launch} {Γ : rz_G} {h : rz_H} {x : Nat} {ad : Nat → Nat} {M : Nat → Int → Int} (hM : MdAt Γ h x ad M) (hw : mWF M) {p : Int} (rp : -2147483648 ≤ p ∧ p ≤ 2147483647) : Ct l Γ x_Md_ask y_Md_ask rm_Md_ask [.ref x, vi p] h (pI (fun r' h' => r' = (sp_ask M p).1 ∧ ∃ M', MdAt Γ h' x ad M' ∧ mS2 (sp_ask M p).2 M' ∧ rz_fr [10, 11] h h')) := by
  refine rz_met (by decide) rfl rfl (Nat.le_of_ble_eq_true rfl) (fun K _ => ?_)
  refine rz_Leq [(0, .ref x), (1, vi p)] rfl ?_
  have l8 := hw.2.2.2.2.2.1
  refine rz_iload_n 1 d_Md_ask_0 rfl rfl ?_
  refine rz_iconst d_Md_ask_1 ?_
  refine rz_iconst d_Md_ask_2 ?_
  refine rz_callS (As := [vi p, vi 0, vi 5]) (c_Md_in (by omega) ⟨by decide, by decide⟩ ⟨by decide, by decide⟩) m_Md_56 rfl rfl (Nat.le_of_ble_eq_true rfl) ⟨by decide, by decide⟩ ⟨by decide, by decide⟩ d_Md_ask_3 (kE (h := h) ?_)
  refine rz_if_neB 11 d_Md_ask_6 (by decide) (fun c6 => ?_) (fun c6 => ?_)
  · refine rz_aload_n 0 d_Md_ask_11 rfl rfl ?_
    refine rz_iconst d_Md_ask_12 ?_
    refine rz_callV (As := [vi 0]) (c_Md_range hM hw (by omega)) m_Md_164 hM.1 rfl rfl rfl rfl (Nat.le_of_ble_eq_true rfl) ⟨by decide, by decide⟩ ⟨by decide, by decide⟩ d_Md_ask_13 (kE (h := h) ?_)
    refine rz_if_neB 26 d_Md_ask_16 (by decide) (fun c16 => ?_) (fun c16 => ?_)
    · refine rz_aload_n 0 d_Md_ask_26 rfl rfl ?_
      refine rz_getf f_Md_167 hM.1 rfl d_Md_ask_27 ?_
      refine rz_iconst d_Md_ask_30 ?_
      refine rz_icmp_ne 41 d_Md_ask_31 (by decide) (by omega) ⟨by decide, by decide⟩ (fun c31 => ?_) (fun c31 => ?_)
      · refine rz_aload_n 0 d_Md_ask_41 rfl rfl ?_
        refine rz_iconst d_Md_ask_42 ?_
        refine rz_aload_n 0 d_Md_ask_43 rfl rfl ?_
        refine rz_getf f_Md_167 hM.1 rfl d_Md_ask_44 ?_
        refine rz_iadd d_Md_ask_47 ?_
        refine rz_callV (As := [vi (2 + (M 8 0))]) (c_Md_keep hM (by omega)) m_Md_156 hM.1 rfl rfl rfl rfl (Nat.le_of_ble_eq_true rfl) ⟨by decide, by decide⟩ ⟨by decide, by decide⟩ d_Md_ask_48 (kV (h := h) fun h1 q1 => ?_)
        obtain ⟨hM1, hF1⟩ := q1
        obtain ⟨M1, eM1⟩ : ∃ z, z = mKeep M (2 + (M 8 0)) := ⟨_, rfl⟩
        rw [← eM1] at hM1
        have hS1 : mS2 (mKeep M (2 + (M 8 0))) M1 := by rw [eM1]; exact mS2_keep (mS2.rf (M := M)) (2 + (M 8 0))
        have hG1 := (rz_fr.rf (rs := [10, 11]) (h := h)).tr hF1
        refine rz_aload_n 0 d_Md_ask_51 rfl rfl ?_
        refine rz_getf f_Md_35 hM1.1 rfl d_Md_ask_52 ?_
        refine rz_aload_n 0 d_Md_ask_55 rfl rfl ?_
        refine rz_getf f_Md_167 hM1.1 rfl d_Md_ask_56 ?_
        rw [hS1 8 (by decide) (by decide)]
        refine rz_Seq [vi (M 8 0), .ref (ad 9)] rfl ?_
        refine rz_iload_n 1 d_Md_ask_59 rfl rfl ?_
        refine md_st9 hM1 hG1 (by omega) d_Md_ask_60 (fun h2 hM2 hF2 => ?_)
        obtain ⟨M2, eM2⟩ : ∃ z, z = mu M1 9 (rz_u (M1 9) (M 8 0) p) := ⟨_, rfl⟩
        rw [← eM2] at hM2
        have hS2 : mS2 (mu (mKeep M (2 + (M 8 0))) 9 (rz_u ((mKeep M (2 + (M 8 0))) 9) (M 8 0) p)) M2 := by rw [eM2]; exact mS2_st hS1 (by decide) (by decide) _ _
        refine rz_aload_n 0 d_Md_ask_61 rfl rfl ?_
        refine rz_dup d_Md_ask_62 rfl ?_
        refine rz_getf f_Md_167 hM2.1 rfl d_Md_ask_63 ?_
        rw [hS2 8 (by decide) (by decide)]
        refine rz_Seq [vi (M 8 0), .ref x] rfl ?_
        refine rz_iconst d_Md_ask_66 ?_
        refine rz_iadd d_Md_ask_67 ?_
        refine md_ps8 hM2 hF2 (fp_Md_167 _) d_Md_ask_68 (fun h3 hM3 hF3 => ?_)
        obtain ⟨M3, eM3⟩ : ∃ z, z = mu M2 8 (fun _ => (M 8 0) + 1) := ⟨_, rfl⟩
        rw [← eM3] at hM3
        have hS3 : mS2 (mu (mu (mKeep M (2 + (M 8 0))) 9 (rz_u ((mKeep M (2 + (M 8 0))) 9) (M 8 0) p)) 8 (fun _ => (M 8 0) + 1)) M3 := by rw [eM3]; exact mS2_sc hS2 _ _
        refine rz_aload_n 0 d_Md_ask_71 rfl rfl ?_
        refine rz_aload_n 0 d_Md_ask_72 rfl rfl ?_
        refine rz_getf f_Md_167 hM3.1 rfl d_Md_ask_73 ?_
        rw [hS3 8 (by decide) (by decide)]
        refine rz_Seq [vi ((M 8 0) + 1), .ref x] rfl ?_
        refine rz_iconst d_Md_ask_76 ?_
        refine rz_isub d_Md_ask_77 ?_
        refine rz_callV (As := [vi (((M 8 0) + 1) - 1)]) (c_Md_used hM3) m_Md_153 hM3.1 rfl rfl rfl rfl (Nat.le_of_ble_eq_true rfl) ⟨by decide, by decide⟩ ⟨by decide, by decide⟩ d_Md_ask_78 (kI (h := h3) fun r4 h4 q4 => ?_)
        obtain ⟨rfl, hM4, hF4⟩ := q4
        have hS4 := mS2_use hS3
        have hG4 := hF3.tr hF4
        exact rz_ireturn (st := []) rfl d_Md_ask_81 ⟨by decide, by decide⟩ ⟨_, rfl, (by rw [sp_ask, if_pos c6, if_pos c16, if_neg c31]; show _ = M 8 0; omega), (mu M3 1 (rz_u (M3 1) 0 0)), hM4, (by rw [sp_ask, if_pos c6, if_pos c16, if_neg c31]; exact hS4), hG4⟩
      · refine rz_aload_n 0 d_Md_ask_34 rfl rfl ?_
        refine rz_bipush (v := (-2)) d_Md_ask_35 (by decide) ?_
        refine rz_callV (As := [vi (-2)]) (c_Md_used hM) m_Md_153 hM.1 rfl rfl rfl rfl (Nat.le_of_ble_eq_true rfl) ⟨by decide, by decide⟩ ⟨by decide, by decide⟩ d_Md_ask_37 (kI (h := h) fun r5 h5 q5 => ?_)
        obtain ⟨rfl, hM5, hF5⟩ := q5
        have hS5 := mS2_use (mS2.rf (M := M))
        have hG5 := (rz_fr.rf (rs := [10, 11]) (h := h)).tr hF5
        exact rz_ireturn (st := []) rfl d_Md_ask_40 ⟨by decide, by decide⟩ ⟨_, rfl, (by rw [sp_ask, if_pos c6, if_pos c16, if_pos c31]), (mu M 1 (rz_u (M 1) 0 0)), hM5, (by rw [sp_ask, if_pos c6, if_pos c16, if_pos c31]; exact hS5), hG5⟩
    · refine rz_aload_n 0 d_Md_ask_19 rfl rfl ?_
      refine rz_bipush (v := (-3)) d_Md_ask_20 (by decide) ?_
      refine rz_callV (As := [vi (-3)]) (c_Md_used hM) m_Md_153 hM.1 rfl rfl rfl rfl (Nat.le_of_ble_eq_true rfl) ⟨by decide, by decide⟩ ⟨by decide, by decide⟩ d_Md_ask_22 (kI (h := h) fun r6 h6 q6 => ?_)
      obtain ⟨rfl, hM6, hF6⟩ := q6
      have hS6 := mS2_use (mS2.rf (M := M))
      have hG6 := (rz_fr.rf (rs := [10, 11]) (h := h)).tr hF6
      exact rz_ireturn (st := []) rfl d_Md_ask_25 ⟨by decide, by decide⟩ ⟨_, rfl, (by rw [sp_ask, if_pos c6, if_neg (by simp [*])]), (mu M 1 (rz_u (M 1) 0 0)), hM6, (by rw [sp_ask, if_pos c6, if_neg (by simp [*])]; exact hS6), hG6⟩
  · refine rz_iconst d_Md_ask_9 ?_
    exact rz_ireturn (st := []) rfl d_Md_ask_10 ⟨by decide, by decide⟩ ⟨_, rfl, (by rw [sp_ask, if_neg (by simp [*])]), M, hM, (by rw [sp_ask, if_neg (by simp [*])]; exact (mS2.rf (M := M))), (rz_fr.rf (rs := [10, 11]) (h := h))⟩
def sp_need (M : Nat → Int → Int) (p r o : Int) (opt : Bool) : Int × (Nat → Int → Int) := if (mNone M p r || !mIn o 0 5) = true then (-1, M) else if rng (mAt M 0) (M 1 0) = true then (if M 5 (4 * p + r) = 3 then (-2, mUse M) else (M 5 (4 * p + r) + 1, mUse (mu (mu (mu (mKeep M (54 + (3 * (4 * p + r) + M 5 (4 * p + r)))) 6 (rz_u (M 6) (3 * (4 * p + r) + M 5 (4 * p + r)) o)) 7 (rz_u (M 7) (3 * (4 * p + r) + M 5 (4 * p + r)) (bi opt))) 5 (rz_u (M 5) (4 * p + r) (M 5 (4 * p + r) + 1))))) else (-3, mUse M)
abbrev rm_Md_need : Room := { frames := 4, cells := 0, slots := 0, locals := 97 }
set_option maxRecDepth 100000 in
set_option maxHeartbeats 4000000 in
theorem c_Md_need {l : Launch} {Γ : rz_G} {h : rz_H} {x : Nat} {ad : Nat → Nat} {M : Nat → Int → Int} (hM : MdAt Γ h x ad M) (hw : mWF M) {p r o : Int} {opt : Bool} (rp : -2147483648 ≤ p ∧ p ≤ 2147483647) (rr : -2147483648 ≤ r ∧ r ≤ 2147483647) (ro : -2147483648 ≤ o ∧ o ≤ 2147483647) : Ct l Γ x_Md_need y_Md_need rm_Md_need [.ref x, vi p, vi r, vi o, vi (bi opt)] h (pI (fun r' h' => r' = (sp_need M p r o opt).1 ∧ ∃ M', MdAt Γ h' x ad M' ∧ mS2 (sp_need M p r o opt).2 M' ∧ rz_fr [10, 11] h h')) := by
  refine rz_met (by decide) rfl rfl (Nat.le_of_ble_eq_true rfl) (fun K _ => ?_)
  refine rz_Leq [(0, .ref x), (1, vi p), (2, vi r), (3, vi o), (4, vi (bi opt))] rfl ?_
  refine rz_aload_n 0 d_Md_need_0 rfl rfl ?_
  refine rz_iload_n 1 d_Md_need_1 rfl rfl ?_
  refine rz_iload_n 2 d_Md_need_2 rfl rfl ?_
  refine rz_callV (As := [vi p, vi r]) (c_Md_none hM hw (by omega) (by omega)) m_Md_160 hM.1 rfl rfl rfl rfl (Nat.le_of_ble_eq_true rfl) ⟨by decide, by decide⟩ ⟨by decide, by decide⟩ d_Md_need_3 (kE (h := h) ?_)
  refine rz_if_neB 18 d_Md_need_6 (by decide) (fun c6 => ?_) (fun c6 => ?_)
  · refine rz_iconst d_Md_need_18 ?_
    exact rz_ireturn (st := []) rfl d_Md_need_19 ⟨by decide, by decide⟩ ⟨_, rfl, (by rw [sp_need, if_pos (by simp [*])]), M, hM, (by rw [sp_need, if_pos (by simp [*])]; exact (mS2.rf (M := M))), (rz_fr.rf (rs := [10, 11]) (h := h))⟩
  · refine rz_iload_n 3 d_Md_need_9 rfl rfl ?_
    refine rz_iconst d_Md_need_10 ?_
    refine rz_iconst d_Md_need_11 ?_
    refine rz_callS (As := [vi o, vi 0, vi 5]) (c_Md_in (by omega) ⟨by decide, by decide⟩ ⟨by decide, by decide⟩) m_Md_56 rfl rfl (Nat.le_of_ble_eq_true rfl) ⟨by decide, by decide⟩ ⟨by decide, by decide⟩ d_Md_need_12 (kE (h := h) ?_)
    refine rz_if_neB 20 d_Md_need_15 (by decide) (fun c15 => ?_) (fun c15 => ?_)
    · have n1 := mNone_f c6
      have n2 := mIn_t.mp c15
      have l1 := hw.2.2.1 p (by omega) (by omega)
      have l5 := hw.2.2.2.1 (4 * p + r) (by omega) (by omega)
      refine rz_iconst d_Md_need_20 ?_
      refine rz_iload_n 1 d_Md_need_21 rfl rfl ?_
      refine rz_imul d_Md_need_22 ?_
      refine rz_iload_n 2 d_Md_need_23 rfl rfl ?_
      refine rz_iadd d_Md_need_24 ?_
      refine rz_istore [(5, vi ((4 * p) + r)), (0, .ref x), (1, vi p), (2, vi r), (3, vi o), (4, vi (bi opt))] d_Md_need_25 (by decide) rfl ?_
      refine rz_aload_n 1 d_Md_need_27 rfl rfl ?_
      refine rz_iconst d_Md_need_28 ?_
      refine rz_callV (As := [vi 0]) (c_Md_range hM hw (by omega)) m_Md_164 hM.1 rfl rfl rfl rfl (Nat.le_of_ble_eq_true rfl) ⟨by decide, by decide⟩ ⟨by decide, by decide⟩ d_Md_need_29 (kE (h := h) ?_)
      refine rz_if_neB 42 d_Md_need_32 (by decide) (fun c32 => ?_) (fun c32 => ?_)
      · refine rz_aload_n 1 d_Md_need_42 rfl rfl ?_
        refine rz_getf f_Md_26 hM.1 rfl d_Md_need_43 ?_
        refine rz_iload 0 d_Md_need_46 rfl ?_
        refine rz_iaload (md_a5 hM) (by decide) (by omega) d_Md_need_48 ?_
        refine rz_iconst d_Md_need_49 ?_
        refine rz_icmp_ne 60 d_Md_need_50 (by decide) (by omega) ⟨by decide, by decide⟩ (fun c50 => ?_) (fun c50 => ?_)
        · refine rz_iconst d_Md_need_60 ?_
          refine rz_iload 0 d_Md_need_61 rfl ?_
          refine rz_imul d_Md_need_63 ?_
          refine rz_aload_n 1 d_Md_need_64 rfl rfl ?_
          refine rz_getf f_Md_26 hM.1 rfl d_Md_need_65 ?_
          refine rz_iload 0 d_Md_need_68 rfl ?_
          refine rz_iaload (md_a5 hM) (by decide) (by omega) d_Md_need_70 ?_
          refine rz_iadd d_Md_need_71 ?_
          refine rz_istore [(6, vi ((3 * ((4 * p) + r)) + (M 5 ((4 * p) + r)))), (5, vi ((4 * p) + r)), (0, .ref x), (1, vi p), (2, vi r), (3, vi o), (4, vi (bi opt))] d_Md_need_72 (by decide) rfl ?_
          refine rz_aload_n 2 d_Md_need_74 rfl rfl ?_
          refine rz_bipush (v := 54) d_Md_need_75 (by decide) ?_
          refine rz_iload 0 d_Md_need_77 rfl ?_
          refine rz_iadd d_Md_need_79 ?_
          refine rz_callV (As := [vi (54 + ((3 * ((4 * p) + r)) + (M 5 ((4 * p) + r))))]) (c_Md_keep hM (by omega)) m_Md_156 hM.1 rfl rfl rfl rfl (Nat.le_of_ble_eq_true rfl) ⟨by decide, by decide⟩ ⟨by decide, by decide⟩ d_Md_need_80 (kV (h := h) fun h1 q1 => ?_)
          obtain ⟨hM1, hF1⟩ := q1
          obtain ⟨M1, eM1⟩ : ∃ z, z = mKeep M (54 + ((3 * ((4 * p) + r)) + (M 5 ((4 * p) + r)))) := ⟨_, rfl⟩
          rw [← eM1] at hM1
          have hS1 : mS2 (mKeep M (54 + ((3 * ((4 * p) + r)) + (M 5 ((4 * p) + r))))) M1 := by rw [eM1]; exact mS2_keep (mS2.rf (M := M)) (54 + ((3 * ((4 * p) + r)) + (M 5 ((4 * p) + r))))
          have hG1 := (rz_fr.rf (rs := [10, 11]) (h := h)).tr hF1
          refine rz_aload_n 2 d_Md_need_83 rfl rfl ?_
          refine rz_getf f_Md_29 hM1.1 rfl d_Md_need_84 ?_
          refine rz_iload 0 d_Md_need_87 rfl ?_
          refine rz_iload_n 5 d_Md_need_89 rfl rfl ?_
          refine md_st6 hM1 hG1 (by omega) d_Md_need_90 (fun h2 hM2 hF2 => ?_)
          obtain ⟨M2, eM2⟩ : ∃ z, z = mu M1 6 (rz_u (M1 6) ((3 * ((4 * p) + r)) + (M 5 ((4 * p) + r))) o) := ⟨_, rfl⟩
          rw [← eM2] at hM2
          have hS2 : mS2 (mu (mKeep M (54 + ((3 * ((4 * p) + r)) + (M 5 ((4 * p) + r))))) 6 (rz_u ((mKeep M (54 + ((3 * ((4 * p) + r)) + (M 5 ((4 * p) + r))))) 6) ((3 * ((4 * p) + r)) + (M 5 ((4 * p) + r))) o)) M2 := by rw [eM2]; exact mS2_st hS1 (by decide) (by decide) _ _
          refine rz_aload_n 2 d_Md_need_91 rfl rfl ?_
          refine rz_getf f_Md_32 hM2.1 rfl d_Md_need_92 ?_
          refine rz_iload 0 d_Md_need_95 rfl ?_
          refine rz_iload 6 d_Md_need_97 rfl ?_
          refine md_st7 hM2 hF2 (by omega) (bi01 _) d_Md_need_99 (fun h3 hM3 hF3 => ?_)
          obtain ⟨M3, eM3⟩ : ∃ z, z = mu M2 7 (rz_u (M2 7) ((3 * ((4 * p) + r)) + (M 5 ((4 * p) + r))) (bi opt)) := ⟨_, rfl⟩
          rw [← eM3] at hM3
          have hS3 : mS2 (mu (mu (mKeep M (54 + ((3 * ((4 * p) + r)) + (M 5 ((4 * p) + r))))) 6 (rz_u ((mKeep M (54 + ((3 * ((4 * p) + r)) + (M 5 ((4 * p) + r))))) 6) ((3 * ((4 * p) + r)) + (M 5 ((4 * p) + r))) o)) 7 (rz_u ((mu (mKeep M (54 + ((3 * ((4 * p) + r)) + (M 5 ((4 * p) + r))))) 6 (rz_u ((mKeep M (54 + ((3 * ((4 * p) + r)) + (M 5 ((4 * p) + r))))) 6) ((3 * ((4 * p) + r)) + (M 5 ((4 * p) + r))) o)) 7) ((3 * ((4 * p) + r)) + (M 5 ((4 * p) + r))) (bi opt))) M3 := by rw [eM3]; exact mS2_st hS2 (by decide) (by decide) _ _
          refine rz_aload_n 2 d_Md_need_100 rfl rfl ?_
          refine rz_getf f_Md_26 hM3.1 rfl d_Md_need_101 ?_
          refine rz_iload 1 d_Md_need_104 rfl ?_
          refine rz_dup2 d_Md_need_106 rfl rfl ?_
          refine rz_iaload (md_a5 hM3) (by decide) (by omega) d_Md_need_107 ?_
          rw [hS3 5 (by decide) (by decide)]
          refine rz_Seq [vi (M 5 ((4 * p) + r)), vi ((4 * p) + r), .ref (ad 5)] rfl ?_
          refine rz_iconst d_Md_need_108 ?_
          refine rz_iadd d_Md_need_109 ?_
          refine md_st5 hM3 hF3 (by omega) d_Md_need_110 (fun h4 hM4 hF4 => ?_)
          obtain ⟨M4, eM4⟩ : ∃ z, z = mu M3 5 (rz_u (M3 5) ((4 * p) + r) ((M 5 ((4 * p) + r)) + 1)) := ⟨_, rfl⟩
          rw [← eM4] at hM4
          have hS4 : mS2 (mu (mu (mu (mKeep M (54 + ((3 * ((4 * p) + r)) + (M 5 ((4 * p) + r))))) 6 (rz_u ((mKeep M (54 + ((3 * ((4 * p) + r)) + (M 5 ((4 * p) + r))))) 6) ((3 * ((4 * p) + r)) + (M 5 ((4 * p) + r))) o)) 7 (rz_u ((mu (mKeep M (54 + ((3 * ((4 * p) + r)) + (M 5 ((4 * p) + r))))) 6 (rz_u ((mKeep M (54 + ((3 * ((4 * p) + r)) + (M 5 ((4 * p) + r))))) 6) ((3 * ((4 * p) + r)) + (M 5 ((4 * p) + r))) o)) 7) ((3 * ((4 * p) + r)) + (M 5 ((4 * p) + r))) (bi opt))) 5 (rz_u ((mu (mu (mKeep M (54 + ((3 * ((4 * p) + r)) + (M 5 ((4 * p) + r))))) 6 (rz_u ((mKeep M (54 + ((3 * ((4 * p) + r)) + (M 5 ((4 * p) + r))))) 6) ((3 * ((4 * p) + r)) + (M 5 ((4 * p) + r))) o)) 7 (rz_u ((mu (mKeep M (54 + ((3 * ((4 * p) + r)) + (M 5 ((4 * p) + r))))) 6 (rz_u ((mKeep M (54 + ((3 * ((4 * p) + r)) + (M 5 ((4 * p) + r))))) 6) ((3 * ((4 * p) + r)) + (M 5 ((4 * p) + r))) o)) 7) ((3 * ((4 * p) + r)) + (M 5 ((4 * p) + r))) (bi opt))) 5) ((4 * p) + r) ((M 5 ((4 * p) + r)) + 1))) M4 := by rw [eM4]; exact mS2_st hS3 (by decide) (by decide) _ _
          refine rz_aload_n 2 d_Md_need_111 rfl rfl ?_
          refine rz_aload_n 2 d_Md_need_112 rfl rfl ?_
          refine rz_getf f_Md_26 hM4.1 rfl d_Md_need_113 ?_
          refine rz_iload 1 d_Md_need_116 rfl ?_
          refine rz_iaload (md_a5 hM4) (by decide) (by omega) d_Md_need_118 ?_
          rw [hS4 5 (by decide) (by decide)]
          refine rz_Seq [vi ((M 5 ((4 * p) + r)) + 1), .ref x] (by simp only [mu_s, rz_u_s]) ?_
          refine rz_callV (As := [vi ((M 5 ((4 * p) + r)) + 1)]) (c_Md_used hM4) m_Md_153 hM4.1 rfl rfl rfl rfl (Nat.le_of_ble_eq_true rfl) ⟨by decide, by decide⟩ ⟨by decide, by decide⟩ d_Md_need_119 (kI (h := h4) fun r5 h5 q5 => ?_)
          obtain ⟨rfl, hM5, hF5⟩ := q5
          have hS5 := mS2_use hS4
          have hG5 := hF4.tr hF5
          exact rz_ireturn (st := []) rfl d_Md_need_122 ⟨by decide, by decide⟩ ⟨_, rfl, (by rw [sp_need, if_neg (by simp [*]), if_pos c32, if_neg c50]), (mu M4 1 (rz_u (M4 1) 0 0)), hM5, (by rw [sp_need, if_neg (by simp [*]), if_pos c32, if_neg c50]; exact hS5), hG5⟩
        · refine rz_aload_n 1 d_Md_need_53 rfl rfl ?_
          refine rz_bipush (v := (-2)) d_Md_need_54 (by decide) ?_
          refine rz_callV (As := [vi (-2)]) (c_Md_used hM) m_Md_153 hM.1 rfl rfl rfl rfl (Nat.le_of_ble_eq_true rfl) ⟨by decide, by decide⟩ ⟨by decide, by decide⟩ d_Md_need_56 (kI (h := h) fun r6 h6 q6 => ?_)
          obtain ⟨rfl, hM6, hF6⟩ := q6
          have hS6 := mS2_use (mS2.rf (M := M))
          have hG6 := (rz_fr.rf (rs := [10, 11]) (h := h)).tr hF6
          exact rz_ireturn (st := []) rfl d_Md_need_59 ⟨by decide, by decide⟩ ⟨_, rfl, (by rw [sp_need, if_neg (by simp [*]), if_pos c32, if_pos c50]), (mu M 1 (rz_u (M 1) 0 0)), hM6, (by rw [sp_need, if_neg (by simp [*]), if_pos c32, if_pos c50]; exact hS6), hG6⟩
      · refine rz_aload_n 1 d_Md_need_35 rfl rfl ?_
        refine rz_bipush (v := (-3)) d_Md_need_36 (by decide) ?_
        refine rz_callV (As := [vi (-3)]) (c_Md_used hM) m_Md_153 hM.1 rfl rfl rfl rfl (Nat.le_of_ble_eq_true rfl) ⟨by decide, by decide⟩ ⟨by decide, by decide⟩ d_Md_need_38 (kI (h := h) fun r7 h7 q7 => ?_)
        obtain ⟨rfl, hM7, hF7⟩ := q7
        have hS7 := mS2_use (mS2.rf (M := M))
        have hG7 := (rz_fr.rf (rs := [10, 11]) (h := h)).tr hF7
        exact rz_ireturn (st := []) rfl d_Md_need_41 ⟨by decide, by decide⟩ ⟨_, rfl, (by rw [sp_need, if_neg (by simp [*]), if_neg (by simp [*])]), (mu M 1 (rz_u (M 1) 0 0)), hM7, (by rw [sp_need, if_neg (by simp [*]), if_neg (by simp [*])]; exact hS7), hG7⟩
    · refine rz_iconst d_Md_need_18 ?_
      exact rz_ireturn (st := []) rfl d_Md_need_19 ⟨by decide, by decide⟩ ⟨_, rfl, (by rw [sp_need, if_pos (by simp [*])]), M, hM, (by rw [sp_need, if_pos (by simp [*])]; exact (mS2.rf (M := M))), (rz_fr.rf (rs := [10, 11]) (h := h))⟩
def sp_needHost (M : Nat → Int → Int) (p r : Int) : Int × (Nat → Int → Int) := if mNone M p r = true then (-1, M) else if M 1 0 ≤ 0 ∨ rng (mAt M 0) (M 1 0) = true then (0, mUse (mKeep (mu M 4 (rz_u (M 4) (4 * p + r) (bi (decide (0 < M 1 0))))) (30 + (4 * p + r)))) else (-3, mUse M)
abbrev rm_Md_needHost : Room := { frames := 4, cells := 0, slots := 0, locals := 97 }
set_option maxRecDepth 100000 in
set_option maxHeartbeats 4000000 in
theorem c_Md_needHost {l : Launch} {Γ : rz_G} {h : rz_H} {x : Nat} {ad : Nat → Nat} {M : Nat → Int → Int} (hM : MdAt Γ h x ad M) (hw : mWF M) {p r : Int} (rp : -2147483648 ≤ p ∧ p ≤ 2147483647) (rr : -2147483648 ≤ r ∧ r ≤ 2147483647) : Ct l Γ x_Md_needHost y_Md_needHost rm_Md_needHost [.ref x, vi p, vi r] h (pI (fun r' h' => r' = (sp_needHost M p r).1 ∧ ∃ M', MdAt Γ h' x ad M' ∧ mS2 (sp_needHost M p r).2 M' ∧ rz_fr [10, 11] h h')) := by
  refine rz_met (by decide) rfl rfl (Nat.le_of_ble_eq_true rfl) (fun K _ => ?_)
  refine rz_Leq [(0, .ref x), (1, vi p), (2, vi r)] rfl ?_
  have hlen := hw.1 0 (by omega) (by omega)
  refine rz_aload_n 0 d_Md_needHost_0 rfl rfl ?_
  refine rz_iload_n 1 d_Md_needHost_1 rfl rfl ?_
  refine rz_iload_n 2 d_Md_needHost_2 rfl rfl ?_
  refine rz_callV (As := [vi p, vi r]) (c_Md_none hM hw (by omega) (by omega)) m_Md_160 hM.1 rfl rfl rfl rfl (Nat.le_of_ble_eq_true rfl) ⟨by decide, by decide⟩ ⟨by decide, by decide⟩ d_Md_needHost_3 (kE (h := h) ?_)
  refine rz_if_eqB 11 d_Md_needHost_6 (by decide) (fun c6 => ?_) (fun c6 => ?_)
  · have n1 := mNone_f c6
    have l1 := hw.2.2.1 p (by omega) (by omega)
    refine rz_iconst d_Md_needHost_11 ?_
    refine rz_iload_n 1 d_Md_needHost_12 rfl rfl ?_
    refine rz_imul d_Md_needHost_13 ?_
    refine rz_iload_n 2 d_Md_needHost_14 rfl rfl ?_
    refine rz_iadd d_Md_needHost_15 ?_
    refine rz_istore_n [(3, vi ((4 * p) + r)), (0, .ref x), (1, vi p), (2, vi r)] d_Md_needHost_16 rfl (by decide) rfl ?_
    refine rz_cut (α := Unit) 0 0 41 (fun _ => M 1 0 ≤ 0 ∨ rng (mAt M 0) (M 1 0) = true) (fun _ => [(3, vi ((4 * p) + r)), (0, .ref x), (1, vi p), (2, vi r)]) (fun _ => []) (fun _ => h) (fun _ k41 => ?_) (fun J41 => ?_)
    · refine rz_aload_n 1 d_Md_needHost_41 rfl rfl ?_
      refine rz_getf f_Md_23 hM.1 rfl d_Md_needHost_42 ?_
      refine rz_iload_n 0 d_Md_needHost_45 rfl rfl ?_
      refine rz_cut (α := Unit) 0 0 60 (fun _ => True) (fun _ => [(3, vi ((4 * p) + r)), (0, .ref x), (1, vi p), (2, vi r)]) (fun _ => [vi (bi (decide (0 < M 1 0))), vi ((4 * p) + r), .ref (ad 4)]) (fun _ => h) (fun _ _ => ?_) (fun J60 => ?_)
      · refine md_st4 hM (rz_fr.rf (rs := [10, 11]) (h := h)) (by omega) (bi01 _) d_Md_needHost_60 (fun h1 hM1 hF1 => ?_)
        obtain ⟨M1, eM1⟩ : ∃ z, z = mu M 4 (rz_u (M 4) ((4 * p) + r) (bi (decide (0 < M 1 0)))) := ⟨_, rfl⟩
        rw [← eM1] at hM1
        have hS1 : mS2 (mu M 4 (rz_u (M 4) ((4 * p) + r) (bi (decide (0 < M 1 0))))) M1 := by rw [eM1]; exact mS2_st (mS2.rf (M := M)) (by decide) (by decide) _ _
        refine rz_aload_n 1 d_Md_needHost_61 rfl rfl ?_
        refine rz_bipush (v := 30) d_Md_needHost_62 (by decide) ?_
        refine rz_iload_n 0 d_Md_needHost_64 rfl rfl ?_
        refine rz_iadd d_Md_needHost_65 ?_
        refine rz_callV (As := [vi (30 + ((4 * p) + r))]) (c_Md_keep hM1 (by omega)) m_Md_156 hM1.1 rfl rfl rfl rfl (Nat.le_of_ble_eq_true rfl) ⟨by decide, by decide⟩ ⟨by decide, by decide⟩ d_Md_needHost_66 (kV (h := h1) fun h2 q2 => ?_)
        obtain ⟨hM2, hF2⟩ := q2
        obtain ⟨M2, eM2⟩ : ∃ z, z = mKeep M1 (30 + ((4 * p) + r)) := ⟨_, rfl⟩
        rw [← eM2] at hM2
        have hS2 : mS2 (mKeep (mu M 4 (rz_u (M 4) ((4 * p) + r) (bi (decide (0 < M 1 0))))) (30 + ((4 * p) + r))) M2 := by rw [eM2]; exact mS2_keep hS1 (30 + ((4 * p) + r))
        have hG2 := hF1.tr hF2
        refine rz_aload_n 1 d_Md_needHost_69 rfl rfl ?_
        refine rz_iconst d_Md_needHost_70 ?_
        refine rz_callV (As := [vi 0]) (c_Md_used hM2) m_Md_153 hM2.1 rfl rfl rfl rfl (Nat.le_of_ble_eq_true rfl) ⟨by decide, by decide⟩ ⟨by decide, by decide⟩ d_Md_needHost_71 (kI (h := h2) fun r3 h3 q3 => ?_)
        obtain ⟨rfl, hM3, hF3⟩ := q3
        have hS3 := mS2_use hS2
        have hG3 := hG2.tr hF3
        exact rz_ireturn (st := []) rfl d_Md_needHost_74 ⟨by decide, by decide⟩ ⟨_, rfl, (by rw [sp_needHost, if_neg (by simp [*]), if_pos k41]), (mu M2 1 (rz_u (M2 1) 0 0)), hM3, (by rw [sp_needHost, if_neg (by simp [*]), if_pos k41]; exact hS3), hG3⟩
      · refine rz_aload_n 1 d_Md_needHost_46 rfl rfl ?_
        refine rz_getf f_Md_13 hM.1 rfl d_Md_needHost_47 ?_
        refine rz_iconst d_Md_needHost_50 ?_
        refine rz_iaload (md_a1 hM) (by decide) (by omega) d_Md_needHost_51 ?_
        refine rz_if_le 59 d_Md_needHost_52 (by decide) (by omega) (fun c52 => ?_) (fun c52 => ?_)
        · refine rz_iconst d_Md_needHost_59 ?_
          refine rz_Seq [vi (bi (decide (0 < M 1 0))), vi ((4 * p) + r), .ref (ad 4)] (by rw [show decide (0 < M 1 0) = false from by simp; omega]; rfl) ?_
          exact J60 () trivial
        · refine rz_iconst d_Md_needHost_55 ?_
          refine rz_goto 60 d_Md_needHost_56 (by decide) ?_
          refine rz_Seq [vi (bi (decide (0 < M 1 0))), vi ((4 * p) + r), .ref (ad 4)] (by rw [show decide (0 < M 1 0) = true from by simp; omega]; rfl) ?_
          exact J60 () trivial
    · refine rz_aload_n 1 d_Md_needHost_17 rfl rfl ?_
      refine rz_getf f_Md_13 hM.1 rfl d_Md_needHost_18 ?_
      refine rz_iconst d_Md_needHost_21 ?_
      refine rz_iaload (md_a1 hM) (by decide) (by omega) d_Md_needHost_22 ?_
      refine rz_if_le 41 d_Md_needHost_23 (by decide) (by omega) (fun c23 => ?_) (fun c23 => ?_)
      · exact J41 () (by first | exact Or.inl c23 | exact Or.inr c31)
      · refine rz_aload_n 1 d_Md_needHost_26 rfl rfl ?_
        refine rz_iconst d_Md_needHost_27 ?_
        refine rz_callV (As := [vi 0]) (c_Md_range hM hw (by omega)) m_Md_164 hM.1 rfl rfl rfl rfl (Nat.le_of_ble_eq_true rfl) ⟨by decide, by decide⟩ ⟨by decide, by decide⟩ d_Md_needHost_28 (kE (h := h) ?_)
        refine rz_if_neB 41 d_Md_needHost_31 (by decide) (fun c31 => ?_) (fun c31 => ?_)
        · exact J41 () (by first | exact Or.inl c23 | exact Or.inr c31)
        · refine rz_aload_n 1 d_Md_needHost_34 rfl rfl ?_
          refine rz_bipush (v := (-3)) d_Md_needHost_35 (by decide) ?_
          refine rz_callV (As := [vi (-3)]) (c_Md_used hM) m_Md_153 hM.1 rfl rfl rfl rfl (Nat.le_of_ble_eq_true rfl) ⟨by decide, by decide⟩ ⟨by decide, by decide⟩ d_Md_needHost_37 (kI (h := h) fun r4 h4 q4 => ?_)
          obtain ⟨rfl, hM4, hF4⟩ := q4
          have hS4 := mS2_use (mS2.rf (M := M))
          have hG4 := (rz_fr.rf (rs := [10, 11]) (h := h)).tr hF4
          exact rz_ireturn (st := []) rfl d_Md_needHost_40 ⟨by decide, by decide⟩ ⟨_, rfl, (by rw [sp_needHost, if_neg (by simp [*]), if_neg (by simp [*])]), (mu M 1 (rz_u (M 1) 0 0)), hM4, (by rw [sp_needHost, if_neg (by simp [*]), if_neg (by simp [*])]; exact hS4), hG4⟩
  · refine rz_iconst d_Md_needHost_9 ?_
    exact rz_ireturn (st := []) rfl d_Md_needHost_10 ⟨by decide, by decide⟩ ⟨_, rfl, (by rw [sp_needHost, if_pos c6]), M, hM, (by rw [sp_needHost, if_pos c6]; exact (mS2.rf (M := M))), (rz_fr.rf (rs := [10, 11]) (h := h))⟩
def twF (M : Nat → Int → Int) (p : Int) : Nat → Int → Bool
  | 0, _ => false
  | n + 1, r => if ord (mAt M (6 + 4 * p + r)) (mAt M 0) (M 1 (6 + 4 * p + r)) 0 (M 1 0) = 0 then true else twF M p n (r + 1)
theorem twF_hit {M : Nat → Int → Int} {p r : Int} {n : Nat} (hn : 0 < n) (h : ord (mAt M (6 + 4 * p + r)) (mAt M 0) (M 1 (6 + 4 * p + r)) 0 (M 1 0) = 0) : twF M p n r = true := by
  cases n with
  | zero => omega
  | succ n => simp only [twF]; rw [if_pos h]
theorem twF_go {M : Nat → Int → Int} {p r : Int} {n : Nat} (hn : 0 < n) (h : ¬ ord (mAt M (6 + 4 * p + r)) (mAt M 0) (M 1 (6 + 4 * p + r)) 0 (M 1 0) = 0) : twF M p n r = twF M p (n - 1) (r + 1) := by
  cases n with
  | zero => omega
  | succ n => simp only [twF]; rw [if_neg h]; rfl
/-- there is a release of p with a version equal to the text's -/
def tw (M : Nat → Int → Int) (p : Int) : Bool := twF M p (M 2 p).toNat 0
def sp_release (M : Nat → Int → Int) (p : Int) : Int × (Nat → Int → Int) := if mIn p 0 5 = true then (if ver (mAt M 0) 0 (M 1 0) = true then (if tw M p = true then (-5, mUse M) else if M 2 p = 4 then (-2, mUse M) else (M 2 p, mUse (mu (mKeep M (6 + 4 * p + M 2 p)) 2 (rz_u (M 2) p (M 2 p + 1))))) else (-3, mUse M)) else (-1, M)
abbrev rm_Md_release : Room := { frames := 6, cells := 0, slots := 0, locals := 157 }
set_option maxRecDepth 100000 in
set_option maxHeartbeats 4000000 in
theorem c_Md_release {l : Launch} {Γ : rz_G} {h : rz_H} {x : Nat} {ad : Nat → Nat} {M : Nat → Int → Int} (hM : MdAt Γ h x ad M) (hw : mWF M) (hvo : vOK M) {p : Int} (rp : -2147483648 ≤ p ∧ p ≤ 2147483647) : Ct l Γ x_Md_release y_Md_release rm_Md_release [.ref x, vi p] h (pI (fun r' h' => r' = (sp_release M p).1 ∧ ∃ M', MdAt Γ h' x ad M' ∧ mS2 (sp_release M p).2 M' ∧ rz_fr [10, 11] h h')) := by
  refine rz_met (by decide) rfl rfl (Nat.le_of_ble_eq_true rfl) (fun K _ => ?_)
  refine rz_Leq [(0, .ref x), (1, vi p)] rfl ?_
  have hlen := hw.1 0 (by omega) (by omega)
  refine rz_iload_n 1 d_Md_release_0 rfl rfl ?_
  refine rz_iconst d_Md_release_1 ?_
  refine rz_iconst d_Md_release_2 ?_
  refine rz_callS (As := [vi p, vi 0, vi 5]) (c_Md_in (by omega) ⟨by decide, by decide⟩ ⟨by decide, by decide⟩) m_Md_56 rfl rfl (Nat.le_of_ble_eq_true rfl) ⟨by decide, by decide⟩ ⟨by decide, by decide⟩ d_Md_release_3 (kE (h := h) ?_)
  refine rz_if_neB 11 d_Md_release_6 (by decide) (fun c6 => ?_) (fun c6 => ?_)
  · have n1 := mIn_t.mp c6
    have l2 := hw.2.2.1 p (by omega) (by omega)
    refine rz_aload_n 0 d_Md_release_11 rfl rfl ?_
    refine rz_iconst d_Md_release_12 ?_
    refine rz_iconst d_Md_release_13 ?_
    refine rz_aload_n 0 d_Md_release_14 rfl rfl ?_
    refine rz_getf f_Md_13 hM.1 rfl d_Md_release_15 ?_
    refine rz_iconst d_Md_release_18 ?_
    refine rz_iaload (md_a1 hM) (by decide) (by omega) d_Md_release_19 ?_
    refine rz_callV (As := [vi 0, vi 0, vi (M 1 0)]) (c_Md_version hM hw (by omega) (by omega) (by omega)) m_Md_143 hM.1 rfl rfl rfl rfl (Nat.le_of_ble_eq_true rfl) ⟨by decide, by decide⟩ ⟨by decide, by decide⟩ d_Md_release_20 (kE (h := h) ?_)
    refine rz_if_neB 33 d_Md_release_23 (by decide) (fun c23 => ?_) (fun c23 => ?_)
    · refine rz_iconst d_Md_release_33 ?_
      refine rz_istore_n [(2, vi 0), (0, .ref x), (1, vi p)] d_Md_release_34 rfl (by decide) rfl ?_
      refine rz_loop (α := Int × rz_H × (Nat → Int → Int)) 0 0 35 (fun (r, hA, MA) => (M 2 p - r).toNat) (fun (r, hA, MA) => 0 ≤ r ∧ r ≤ M 2 p ∧ MdAt Γ hA x ad MA ∧ mS2 M MA ∧ rz_fr [10, 11] h hA ∧ twF M p (M 2 p).toNat 0 = twF M p (M 2 p - r).toNat r) (fun (r, hA, MA) => [(2, vi r), (0, .ref x), (1, vi p)]) (fun (r, hA, MA) => []) (fun (r, hA, MA) => hA) (fun y hy ih35 => ?_) (fun LP => ?_)
      · obtain ⟨r, hA, MA⟩ := y
        try dsimp only at hy ih35 ⊢
        obtain ⟨hr0, hr1, hMA, hSA, hFA, hv⟩ := hy
        have hwA := mS2_wf hSA hw
        refine rz_iload_n 0 d_Md_release_35 rfl rfl ?_
        refine rz_aload_n 1 d_Md_release_36 rfl rfl ?_
        refine rz_getf f_Md_16 hMA.1 rfl d_Md_release_37 ?_
        refine rz_iload_n 2 d_Md_release_40 rfl rfl ?_
        refine rz_iaload (md_a2 hMA) (by decide) (by omega) d_Md_release_41 ?_
        rw [hSA 2 (by decide) (by decide)]
        refine rz_icmp_ge 81 d_Md_release_42 (by decide) (by omega) (by omega) (fun c42 => ?_) (fun c42 => ?_)
        · refine rz_aload_n 1 d_Md_release_81 rfl rfl ?_
          refine rz_getf f_Md_16 hMA.1 rfl d_Md_release_82 ?_
          refine rz_iload_n 2 d_Md_release_85 rfl rfl ?_
          refine rz_iaload (md_a2 hMA) (by decide) (by omega) d_Md_release_86 ?_
          rw [hSA 2 (by decide) (by decide)]
          refine rz_iconst d_Md_release_87 ?_
          refine rz_icmp_ne 98 d_Md_release_88 (by decide) (by omega) ⟨by decide, by decide⟩ (fun c88 => ?_) (fun c88 => ?_)
          · refine rz_aload_n 1 d_Md_release_98 rfl rfl ?_
            refine rz_bipush (v := 6) d_Md_release_99 (by decide) ?_
            refine rz_iconst d_Md_release_101 ?_
            refine rz_iload_n 2 d_Md_release_102 rfl rfl ?_
            refine rz_imul d_Md_release_103 ?_
            refine rz_iadd d_Md_release_104 ?_
            refine rz_aload_n 1 d_Md_release_105 rfl rfl ?_
            refine rz_getf f_Md_16 hMA.1 rfl d_Md_release_106 ?_
            refine rz_iload_n 2 d_Md_release_109 rfl rfl ?_
            refine rz_iaload (md_a2 hMA) (by decide) (by omega) d_Md_release_110 ?_
            rw [hSA 2 (by decide) (by decide)]
            refine rz_iadd d_Md_release_111 ?_
            refine rz_callV (As := [vi ((6 + (4 * p)) + (M 2 p))]) (c_Md_keep hMA (by omega)) m_Md_156 hMA.1 rfl rfl rfl rfl (Nat.le_of_ble_eq_true rfl) ⟨by decide, by decide⟩ ⟨by decide, by decide⟩ d_Md_release_112 (kV (h := hA) fun h1 q1 => ?_)
            obtain ⟨hM1, hF1⟩ := q1
            obtain ⟨M1, eM1⟩ : ∃ z, z = mKeep MA ((6 + (4 * p)) + (M 2 p)) := ⟨_, rfl⟩
            rw [← eM1] at hM1
            have hS1 : mS2 (mKeep M ((6 + (4 * p)) + (M 2 p))) M1 := by rw [eM1]; exact mS2_keep hSA ((6 + (4 * p)) + (M 2 p))
            have hG1 := hFA.tr hF1
            refine rz_aload_n 1 d_Md_release_115 rfl rfl ?_
            refine rz_getf f_Md_16 hM1.1 rfl d_Md_release_116 ?_
            refine rz_iload_n 2 d_Md_release_119 rfl rfl ?_
            refine rz_dup2 d_Md_release_120 rfl rfl ?_
            refine rz_iaload (md_a2 hM1) (by decide) (by omega) d_Md_release_121 ?_
            rw [hS1 2 (by decide) (by decide)]
            refine rz_Seq [vi (M 2 p), vi p, .ref (ad 2)] rfl ?_
            refine rz_iconst d_Md_release_122 ?_
            refine rz_iadd d_Md_release_123 ?_
            refine md_st2 hM1 hG1 (by omega) d_Md_release_124 (fun h2 hM2 hF2 => ?_)
            obtain ⟨M2, eM2⟩ : ∃ z, z = mu M1 2 (rz_u (M1 2) p ((M 2 p) + 1)) := ⟨_, rfl⟩
            rw [← eM2] at hM2
            have hS2 : mS2 (mu (mKeep M ((6 + (4 * p)) + (M 2 p))) 2 (rz_u ((mKeep M ((6 + (4 * p)) + (M 2 p))) 2) p ((M 2 p) + 1))) M2 := by rw [eM2]; exact mS2_st hS1 (by decide) (by decide) _ _
            refine rz_aload_n 1 d_Md_release_125 rfl rfl ?_
            refine rz_aload_n 1 d_Md_release_126 rfl rfl ?_
            refine rz_getf f_Md_16 hM2.1 rfl d_Md_release_127 ?_
            refine rz_iload_n 2 d_Md_release_130 rfl rfl ?_
            refine rz_iaload (md_a2 hM2) (by decide) (by omega) d_Md_release_131 ?_
            rw [hS2 2 (by decide) (by decide)]
            refine rz_Seq [vi ((M 2 p) + 1), .ref x] (by simp only [mu_s, rz_u_s]) ?_
            refine rz_iconst d_Md_release_132 ?_
            refine rz_isub d_Md_release_133 ?_
            refine rz_callV (As := [vi (((M 2 p) + 1) - 1)]) (c_Md_used hM2) m_Md_153 hM2.1 rfl rfl rfl rfl (Nat.le_of_ble_eq_true rfl) ⟨by decide, by decide⟩ ⟨by decide, by decide⟩ d_Md_release_134 (kI (h := h2) fun r3 h3 q3 => ?_)
            obtain ⟨rfl, hM3, hF3⟩ := q3
            have hS3 := mS2_use hS2
            have hG3 := hF2.tr hF3
            exact rz_ireturn (st := []) rfl d_Md_release_137 ⟨by decide, by decide⟩ ⟨_, rfl, (by rw [sp_release, if_pos c6, if_pos c23, if_neg (by rw [tw, hv, show (M 2 p - r).toNat = 0 by omega]; simp [twF]), if_neg c88]; show _ = M 2 p; omega), (mu M2 1 (rz_u (M2 1) 0 0)), hM3, (by rw [sp_release, if_pos c6, if_pos c23, if_neg (by rw [tw, hv, show (M 2 p - r).toNat = 0 by omega]; simp [twF]), if_neg c88]; exact hS3), hG3⟩
          · refine rz_aload_n 1 d_Md_release_91 rfl rfl ?_
            refine rz_bipush (v := (-2)) d_Md_release_92 (by decide) ?_
            refine rz_callV (As := [vi (-2)]) (c_Md_used hMA) m_Md_153 hMA.1 rfl rfl rfl rfl (Nat.le_of_ble_eq_true rfl) ⟨by decide, by decide⟩ ⟨by decide, by decide⟩ d_Md_release_94 (kI (h := hA) fun r4 h4 q4 => ?_)
            obtain ⟨rfl, hM4, hF4⟩ := q4
            have hS4 := mS2_use hSA
            have hG4 := hFA.tr hF4
            exact rz_ireturn (st := []) rfl d_Md_release_97 ⟨by decide, by decide⟩ ⟨_, rfl, (by rw [sp_release, if_pos c6, if_pos c23, if_neg (by rw [tw, hv, show (M 2 p - r).toNat = 0 by omega]; simp [twF]), if_pos c88]), (mu MA 1 (rz_u (MA 1) 0 0)), hM4, (by rw [sp_release, if_pos c6, if_pos c23, if_neg (by rw [tw, hv, show (M 2 p - r).toNat = 0 by omega]; simp [twF]), if_pos c88]; exact hS4), hG4⟩
        · refine rz_aload_n 1 d_Md_release_45 rfl rfl ?_
          refine rz_bipush (v := 6) d_Md_release_46 (by decide) ?_
          refine rz_iconst d_Md_release_48 ?_
          refine rz_iload_n 2 d_Md_release_49 rfl rfl ?_
          refine rz_imul d_Md_release_50 ?_
          refine rz_iadd d_Md_release_51 ?_
          refine rz_iload_n 0 d_Md_release_52 rfl rfl ?_
          refine rz_iadd d_Md_release_53 ?_
          refine rz_iconst d_Md_release_54 ?_
          refine rz_iconst d_Md_release_55 ?_
          refine rz_aload_n 1 d_Md_release_56 rfl rfl ?_
          refine rz_getf f_Md_13 hMA.1 rfl d_Md_release_57 ?_
          refine rz_iconst d_Md_release_60 ?_
          refine rz_iaload (md_a1 hMA) (by decide) (by omega) d_Md_release_61 ?_
          rw [hSA 1 (by decide) (by decide)]
          refine rz_callV (As := [vi ((6 + (4 * p)) + r), vi 0, vi 0, vi (M 1 0)]) (c_Md_ordered hMA hwA (by omega) (by omega) (by omega) (by omega) (by rw [mS2_at hSA, hSA 1 (by decide) (by decide)]; exact ver_nok (hvo p r (by omega) (by omega) (by omega) (by omega))) (by rw [mS2_at hSA]; exact ver_nok c23)) m_Md_149 hMA.1 rfl rfl rfl rfl (Nat.le_of_ble_eq_true rfl) ⟨by decide, by decide⟩ ⟨by decide, by decide⟩ d_Md_release_62 (kI (h := hA) fun r5 h5 q5 => ?_)
          obtain ⟨rfl, M5, hM5, hT5, hF5⟩ := q5
          simp only [mS2_at hSA, hSA 1 (by decide) (by decide)]
          have hS5 := hSA.tr hT5
          have hw5 := mS2_wf hS5 hw
          have hG5 := hFA.tr hF5
          refine rz_if_ne 75 d_Md_release_65 (by decide) (by have := ordF_in (mAt M (6 + 4 * p + r)) (mAt M 0) (M 1 (6 + 4 * p + r)) (M 1 0) 13 0 0; have e : ordF (mAt M (6 + 4 * p + r)) (mAt M 0) (M 1 (6 + 4 * p + r)) (M 1 0) 13 0 0 = ord (mAt M (6 + 4 * p + r)) (mAt M 0) (M 1 (6 + 4 * p + r)) 0 (M 1 0) := rfl; omega) (fun c65 => ?_) (fun c65 => ?_)
          · refine rz_iinc (r + 1) 0 [(2, vi (r + 1)), (0, .ref x), (1, vi p)] d_Md_release_75 rfl (by first | rfl | omega) (by decide) rfl ?_
            refine rz_goto 35 d_Md_release_78 (by decide) ?_
            refine rz_Lsub [(2, vi (r + 1)), (0, .ref x), (1, vi p)] [0, 1, 2] rfl ?_
            refine ih35 (r + 1, h5, M5) ?_ ?_
            · try dsimp only
              exact ⟨by omega, by omega, hM5, hS5, hG5, (by rw [hv, twF_go (by omega) (by omega)]; congr 1; omega)⟩
            · exact (by first | omega | (dsimp only; omega))
          · refine rz_aload_n 1 d_Md_release_68 rfl rfl ?_
            refine rz_bipush (v := (-5)) d_Md_release_69 (by decide) ?_
            refine rz_callV (As := [vi (-5)]) (c_Md_used hM5) m_Md_153 hM5.1 rfl rfl rfl rfl (Nat.le_of_ble_eq_true rfl) ⟨by decide, by decide⟩ ⟨by decide, by decide⟩ d_Md_release_71 (kI (h := h5) fun r6 h6 q6 => ?_)
            obtain ⟨rfl, hM6, hF6⟩ := q6
            have hS6 := mS2_use hS5
            have hG6 := hG5.tr hF6
            exact rz_ireturn (st := []) rfl d_Md_release_74 ⟨by decide, by decide⟩ ⟨_, rfl, (by rw [sp_release, if_pos c6, if_pos c23, if_pos (by rw [tw, hv]; exact twF_hit (by omega) (by omega))]), (mu M5 1 (rz_u (M5 1) 0 0)), hM6, (by rw [sp_release, if_pos c6, if_pos c23, if_pos (by rw [tw, hv]; exact twF_hit (by omega) (by omega))]; exact hS6), hG6⟩
      · refine rz_Lsub [(2, vi 0), (0, .ref x), (1, vi p)] [0, 1, 2] rfl ?_
        refine LP (0, h, M) ?_
        try dsimp only
        exact ⟨by omega, by omega, hM, mS2.rf, rz_fr.rf, (by congr 1; omega)⟩
    · refine rz_aload_n 0 d_Md_release_26 rfl rfl ?_
      refine rz_bipush (v := (-3)) d_Md_release_27 (by decide) ?_
      refine rz_callV (As := [vi (-3)]) (c_Md_used hM) m_Md_153 hM.1 rfl rfl rfl rfl (Nat.le_of_ble_eq_true rfl) ⟨by decide, by decide⟩ ⟨by decide, by decide⟩ d_Md_release_29 (kI (h := h) fun r7 h7 q7 => ?_)
      obtain ⟨rfl, hM7, hF7⟩ := q7
      have hS7 := mS2_use (mS2.rf (M := M))
      have hG7 := (rz_fr.rf (rs := [10, 11]) (h := h)).tr hF7
      exact rz_ireturn (st := []) rfl d_Md_release_32 ⟨by decide, by decide⟩ ⟨_, rfl, (by rw [sp_release, if_pos c6, if_neg (by simp [*])]), (mu M 1 (rz_u (M 1) 0 0)), hM7, (by rw [sp_release, if_pos c6, if_neg (by simp [*])]; exact hS7), hG7⟩
  · refine rz_iconst d_Md_release_9 ?_
    exact rz_ireturn (st := []) rfl d_Md_release_10 ⟨by decide, by decide⟩ ⟨_, rfl, (by rw [sp_release, if_neg (by simp [*])]), M, hM, (by rw [sp_release, if_neg (by simp [*])]; exact (mS2.rf (M := M))), (rz_fr.rf (rs := [10, 11]) (h := h))⟩

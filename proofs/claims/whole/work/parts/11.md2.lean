/-! the reference: write, keep, version -/
def mPut (M : Nat → Int → Int) (c : Int) : Nat → Int → Int := if c = 0 then M else mu (mu M 0 (rz_u (M 0) (M 1 0) c)) 1 (rz_u (M 1) 0 (M 1 0 + 1))
def mOk (c : Int) : Bool := decide (c = 0) || mMay c
def mOne (c : Int) : Int := if c = 0 then 0 else 1
theorem mOne_in (c : Int) : 0 ≤ mOne c ∧ mOne c ≤ 1 := by unfold mOne; split <;> omega
theorem mPut_len (M : Nat → Int → Int) (c : Int) : mPut M c 1 0 = M 1 0 + mOne c := by
  unfold mPut mOne
  split
  · omega
  · rw [mu_s, rz_u_s]
theorem mMay_in {c : Int} (h : mMay c = true) : 0 ≤ c ∧ c ≤ 127 := by
  simp only [mMay, isD, isL, Bool.or_eq_true, mIn_t, decide_eq_true_eq] at h
  omega
theorem mPut_wf {M : Nat → Int → Int} {c : Int} (hw : mWF M) (hc : mOk c = true) (hl : M 1 0 + mOne c ≤ 24) : mWF (mPut M c) := by
  unfold mPut
  split
  · exact hw
  · rename_i h0
    have hm : mMay c = true := by simpa [mOk, h0] using hc
    have hcr := mMay_in hm
    have h1 := hw.1 0 (by omega) (by omega)
    have e1 : mOne c = 1 := if_neg h0
    refine ⟨fun t ht1 ht2 => ?_, fun j hj1 hj2 => ?_, hw.2.2⟩
    · rw [mu_s]
      by_cases e : t = 0
      · subst e
        rw [rz_u_s]
        omega
      · rw [rz_u_n e]
        exact hw.1 t ht1 ht2
    · rw [mu_n (by decide), mu_s]
      by_cases e : j = M 1 0
      · rw [e, rz_u_s]
        exact hcr
      · rw [rz_u_n e]
        exact hw.2.1 j hj1 hj2
abbrev rm_Md_put : Room := { frames := 0, cells := 0, slots := 0, locals := 0 }
set_option maxRecDepth 100000 in
set_option maxHeartbeats 4000000 in
theorem c_Md_put {l : Launch} {Γ : rz_G} {h : rz_H} {x : Nat} {ad : Nat → Nat} {M : Nat → Int → Int} (hM : MdAt Γ h x ad M) (hw : mWF M) {c : Int} (rc : -2147483648 ≤ c ∧ c ≤ 2147483647) (hl : M 1 0 + mOne c ≤ 24) : Ct l Γ x_Md_put y_Md_put rm_Md_put [.ref x, vi c] h (pI (fun r h' => r = mOne c ∧ MdAt Γ h' x ad (mPut M c) ∧ rz_fr [10, 11] h h')) := by
  refine rz_met (by decide) rfl rfl (Nat.le_of_ble_eq_true rfl) (fun K _ => ?_)
  refine rz_Leq [(0, .ref x), (1, vi c)] rfl ?_
  have hlen := hw.1 0 (by omega) (by omega)
  have h1 := mOne_in c
  refine rz_iload_n 1 d_Md_put_0 rfl rfl ?_
  refine rz_if_ne 6 d_Md_put_1 (by decide) (by omega) (fun c1 => ?_) (fun c1 => ?_)
  · have c1 : ¬ c = 0 := c1
    have hl1 : M 1 0 ≤ 23 := by have : mOne c = 1 := if_neg c1; omega
    refine rz_aload_n 0 d_Md_put_6 rfl rfl ?_
    refine rz_getf f_Md_7 hM.1 rfl d_Md_put_7 ?_
    refine rz_aload_n 0 d_Md_put_10 rfl rfl ?_
    refine rz_getf f_Md_13 hM.1 rfl d_Md_put_11 ?_
    refine rz_iconst d_Md_put_14 ?_
    refine rz_iaload (md_a1 hM) (by decide) (by omega) d_Md_put_15 ?_
    refine rz_iload_n 1 d_Md_put_16 rfl rfl ?_
    refine md_st0 hM rz_fr.rf (by have : mOne c = 1 := if_neg c1; omega) d_Md_put_17 (fun h1 hM1 hF1 => ?_)
    obtain ⟨M1, eM1⟩ : ∃ z, z = mu M 0 (rz_u (M 0) (M 1 0) c) := ⟨_, rfl⟩
    rw [← eM1] at hM1
    refine rz_aload_n 0 d_Md_put_18 rfl rfl ?_
    refine rz_getf f_Md_13 hM1.1 rfl d_Md_put_19 ?_
    refine rz_iconst d_Md_put_22 ?_
    refine rz_dup2 d_Md_put_23 rfl rfl ?_
    refine rz_iaload (md_a1 hM1) (by decide) (by omega) d_Md_put_24 ?_
    refine rz_iconst d_Md_put_25 ?_
    refine rz_iadd d_Md_put_26 ?_
    refine md_st1 hM1 hF1 (by omega) d_Md_put_27 (fun h2 hM2 hF2 => ?_)
    obtain ⟨M2, eM2⟩ : ∃ z, z = mu M1 1 (rz_u (M1 1) 0 ((M1 1 0) + 1)) := ⟨_, rfl⟩
    rw [← eM2] at hM2
    refine rz_iconst d_Md_put_28 ?_
    exact rz_ireturn (st := []) rfl d_Md_put_29 ⟨by decide, by decide⟩ ⟨_, rfl, (by rw [mOne, if_neg c1]), (by rw [mPut, if_neg c1]; subst eM2; subst eM1; exact hM2), hF2⟩
  · refine rz_iconst d_Md_put_4 ?_
    exact rz_ireturn (st := []) rfl d_Md_put_5 ⟨by decide, by decide⟩ ⟨_, rfl, (by rw [mOne, if_pos c1]), (by rw [mPut, if_pos c1]; exact hM), rz_fr.rf⟩
def mWrite (M : Nat → Int → Int) (a b c d : Int) : Int × (Nat → Int → Int) :=
  if (mOk a && mOk b && mOk c && mOk d) = true then (if M 1 0 + (mOne a + mOne b + mOne c + mOne d) ≤ 24 then (mPut (mPut (mPut (mPut M a) b) c) d 1 0, mPut (mPut (mPut (mPut M a) b) c) d) else (-2, M)) else (-1, M)
abbrev rm_Md_write : Room := { frames := 3, cells := 0, slots := 0, locals := 62 }
set_option maxRecDepth 100000 in
set_option maxHeartbeats 4000000 in
theorem c_Md_write {l : Launch} {Γ : rz_G} {h : rz_H} {x : Nat} {ad : Nat → Nat} {M : Nat → Int → Int} (hM : MdAt Γ h x ad M) (hw : mWF M) {a b c d : Int} (ra : -2147483648 ≤ a ∧ a ≤ 2147483647) (rb : -2147483648 ≤ b ∧ b ≤ 2147483647) (rc : -2147483648 ≤ c ∧ c ≤ 2147483647) (rd : -2147483648 ≤ d ∧ d ≤ 2147483647) : Ct l Γ x_Md_write y_Md_write rm_Md_write [.ref x, vi a, vi b, vi c, vi d] h (pI (fun r h' => r = (mWrite M a b c d).1 ∧ MdAt Γ h' x ad (mWrite M a b c d).2 ∧ rz_fr [10, 11] h h')) := by
  refine rz_met (by decide) rfl rfl (Nat.le_of_ble_eq_true rfl) (fun K _ => ?_)
  refine rz_Leq [(0, .ref x), (1, vi a), (2, vi b), (3, vi c), (4, vi d)] rfl ?_
  have hlen := hw.1 0 (by omega) (by omega)
  have ha1 := mOne_in a
  have hb1 := mOne_in b
  have hc1 := mOne_in c
  have hd1 := mOne_in d
  refine rz_cut (α := Unit) 0 0 11 (fun _ => mOk a = true) (fun _ => [(0, .ref x), (1, vi a), (2, vi b), (3, vi c), (4, vi d)]) (fun _ => []) (fun _ => h) (fun _ ka => ?_) (fun J11 => ?_)
  · refine rz_cut (α := Unit) 0 0 22 (fun _ => mOk b = true) (fun _ => [(0, .ref x), (1, vi a), (2, vi b), (3, vi c), (4, vi d)]) (fun _ => []) (fun _ => h) (fun _ kb => ?_) (fun J22 => ?_)
    · refine rz_cut (α := Unit) 0 0 33 (fun _ => mOk c = true) (fun _ => [(0, .ref x), (1, vi a), (2, vi b), (3, vi c), (4, vi d)]) (fun _ => []) (fun _ => h) (fun _ kc => ?_) (fun J33 => ?_)
      · refine rz_cut (α := Unit) 0 0 48 (fun _ => mOk d = true) (fun _ => [(0, .ref x), (1, vi a), (2, vi b), (3, vi c), (4, vi d)]) (fun _ => []) (fun _ => h) (fun _ kd => ?_) (fun J48 => ?_)
        · refine rz_cut (α := Unit) 0 0 57 (fun _ => True) (fun _ => [(0, .ref x), (1, vi a), (2, vi b), (3, vi c), (4, vi d)]) (fun _ => [vi (mOne a)]) (fun _ => h) (fun _ _ => ?_) (fun J57 => ?_)
          · refine rz_cut (α := Unit) 0 0 66 (fun _ => True) (fun _ => [(0, .ref x), (1, vi a), (2, vi b), (3, vi c), (4, vi d)]) (fun _ => [vi (mOne b), vi (mOne a)]) (fun _ => h) (fun _ _ => ?_) (fun J66 => ?_)
            · refine rz_iadd d_Md_write_66 ?_
              refine rz_cut (α := Unit) 0 0 76 (fun _ => True) (fun _ => [(0, .ref x), (1, vi a), (2, vi b), (3, vi c), (4, vi d)]) (fun _ => [vi (mOne c), vi ((mOne a) + (mOne b))]) (fun _ => h) (fun _ _ => ?_) (fun J76 => ?_)
              · refine rz_iadd d_Md_write_76 ?_
                refine rz_cut (α := Unit) 0 0 87 (fun _ => True) (fun _ => [(0, .ref x), (1, vi a), (2, vi b), (3, vi c), (4, vi d)]) (fun _ => [vi (mOne d), vi (((mOne a) + (mOne b)) + (mOne c))]) (fun _ => h) (fun _ _ => ?_) (fun J87 => ?_)
                · refine rz_iadd d_Md_write_87 ?_
                  refine rz_istore [(5, vi ((((mOne a) + (mOne b)) + (mOne c)) + (mOne d))), (0, .ref x), (1, vi a), (2, vi b), (3, vi c), (4, vi d)] d_Md_write_88 (by decide) rfl ?_
                  refine rz_aload_n 1 d_Md_write_90 rfl rfl ?_
                  refine rz_getf f_Md_13 hM.1 rfl d_Md_write_91 ?_
                  refine rz_iconst d_Md_write_94 ?_
                  refine rz_iaload (md_a1 hM) (by decide) (by omega) d_Md_write_95 ?_
                  refine rz_iload 0 d_Md_write_96 rfl ?_
                  refine rz_iadd d_Md_write_98 ?_
                  refine rz_bipush (v := 24) d_Md_write_99 (by decide) ?_
                  refine rz_icmp_le 107 d_Md_write_101 (by decide) (by omega) ⟨by decide, by decide⟩ (fun c101 => ?_) (fun c101 => ?_)
                  · refine rz_aload_n 1 d_Md_write_107 rfl rfl ?_
                    refine rz_iload_n 2 d_Md_write_108 rfl rfl ?_
                    refine rz_callV (As := [vi a]) (c_Md_put hM hw (by omega) (by omega)) m_Md_70 hM.1 rfl rfl rfl rfl (Nat.le_of_ble_eq_true rfl) ⟨by decide, by decide⟩ ⟨by decide, by decide⟩ d_Md_write_109 (kI (h := h) fun r1 h1 q1 => ?_)
                    obtain ⟨rfl, hM1, hF1⟩ := q1
                    have hw1 := mPut_wf hw ka (by omega)
                    have hG1 := (rz_fr.rf (rs := [10, 11]) (h := h)).tr hF1
                    have hs1 := mPut_len M a
                    refine rz_istore [(5, vi (mOne a)), (0, .ref x), (1, vi a), (2, vi b), (3, vi c), (4, vi d)] d_Md_write_112 (by decide) rfl ?_
                    refine rz_aload_n 1 d_Md_write_114 rfl rfl ?_
                    refine rz_iload_n 3 d_Md_write_115 rfl rfl ?_
                    refine rz_callV (As := [vi b]) (c_Md_put hM1 hw1 (by omega) (by omega)) m_Md_70 hM1.1 rfl rfl rfl rfl (Nat.le_of_ble_eq_true rfl) ⟨by decide, by decide⟩ ⟨by decide, by decide⟩ d_Md_write_116 (kI (h := h1) fun r2 h2 q2 => ?_)
                    obtain ⟨rfl, hM2, hF2⟩ := q2
                    have hw2 := mPut_wf hw1 kb (by omega)
                    have hG2 := hG1.tr hF2
                    have hs2 := mPut_len (mPut M a) b
                    refine rz_istore [(5, vi (mOne b)), (0, .ref x), (1, vi a), (2, vi b), (3, vi c), (4, vi d)] d_Md_write_119 (by decide) rfl ?_
                    refine rz_aload_n 1 d_Md_write_121 rfl rfl ?_
                    refine rz_iload_n 4 d_Md_write_122 rfl rfl ?_
                    refine rz_callV (As := [vi c]) (c_Md_put hM2 hw2 (by omega) (by omega)) m_Md_70 hM2.1 rfl rfl rfl rfl (Nat.le_of_ble_eq_true rfl) ⟨by decide, by decide⟩ ⟨by decide, by decide⟩ d_Md_write_123 (kI (h := h2) fun r3 h3 q3 => ?_)
                    obtain ⟨rfl, hM3, hF3⟩ := q3
                    have hw3 := mPut_wf hw2 kc (by omega)
                    have hG3 := hG2.tr hF3
                    have hs3 := mPut_len (mPut (mPut M a) b) c
                    refine rz_istore [(5, vi (mOne c)), (0, .ref x), (1, vi a), (2, vi b), (3, vi c), (4, vi d)] d_Md_write_126 (by decide) rfl ?_
                    refine rz_aload_n 1 d_Md_write_128 rfl rfl ?_
                    refine rz_iload 5 d_Md_write_129 rfl ?_
                    refine rz_callV (As := [vi d]) (c_Md_put hM3 hw3 (by omega) (by omega)) m_Md_70 hM3.1 rfl rfl rfl rfl (Nat.le_of_ble_eq_true rfl) ⟨by decide, by decide⟩ ⟨by decide, by decide⟩ d_Md_write_131 (kI (h := h3) fun r4 h4 q4 => ?_)
                    obtain ⟨rfl, hM4, hF4⟩ := q4
                    have hw4 := mPut_wf hw3 kd (by omega)
                    have hG4 := hG3.tr hF4
                    have hs4 := mPut_len (mPut (mPut (mPut M a) b) c) d
                    refine rz_istore [(5, vi (mOne d)), (0, .ref x), (1, vi a), (2, vi b), (3, vi c), (4, vi d)] d_Md_write_134 (by decide) rfl ?_
                    refine rz_aload_n 1 d_Md_write_136 rfl rfl ?_
                    refine rz_getf f_Md_13 hM4.1 rfl d_Md_write_137 ?_
                    refine rz_iconst d_Md_write_140 ?_
                    refine rz_iaload (md_a1 hM4) (by decide) (by omega) d_Md_write_141 ?_
                    exact rz_ireturn (st := []) rfl d_Md_write_142 ⟨by decide, by decide⟩ ⟨_, rfl, (by rw [mWrite, if_pos (by simp [*]), if_pos c101]), (by rw [mWrite, if_pos (by simp [*]), if_pos c101]; exact hM4), hG4⟩
                  · refine rz_bipush (v := (-2)) d_Md_write_104 (by decide) ?_
                    exact rz_ireturn (st := []) rfl d_Md_write_106 ⟨by decide, by decide⟩ ⟨_, rfl, (by rw [mWrite, if_pos (by simp [*]), if_neg c101]), (by rw [mWrite, if_pos (by simp [*]), if_neg c101]; exact hM), rz_fr.rf⟩
                · refine rz_iload 4 d_Md_write_77 rfl ?_
                  refine rz_if_ne 86 d_Md_write_79 (by decide) (by omega) (fun c79 => ?_) (fun c79 => ?_)
                  · refine rz_iconst d_Md_write_86 ?_
                    refine rz_Seq [vi (mOne d), vi (((mOne a) + (mOne b)) + (mOne c))] (by rw [show mOne d = 1 from if_neg c79]) ?_
                    exact J87 () trivial
                  · refine rz_iconst d_Md_write_82 ?_
                    refine rz_goto 87 d_Md_write_83 (by decide) ?_
                    refine rz_Seq [vi (mOne d), vi (((mOne a) + (mOne b)) + (mOne c))] (by rw [show mOne d = 0 from if_pos c79]) ?_
                    exact J87 () trivial
              · refine rz_iload_n 3 d_Md_write_67 rfl rfl ?_
                refine rz_if_ne 75 d_Md_write_68 (by decide) (by omega) (fun c68 => ?_) (fun c68 => ?_)
                · refine rz_iconst d_Md_write_75 ?_
                  refine rz_Seq [vi (mOne c), vi ((mOne a) + (mOne b))] (by rw [show mOne c = 1 from if_neg c68]) ?_
                  exact J76 () trivial
                · refine rz_iconst d_Md_write_71 ?_
                  refine rz_goto 76 d_Md_write_72 (by decide) ?_
                  refine rz_Seq [vi (mOne c), vi ((mOne a) + (mOne b))] (by rw [show mOne c = 0 from if_pos c68]) ?_
                  exact J76 () trivial
            · refine rz_iload_n 2 d_Md_write_57 rfl rfl ?_
              refine rz_if_ne 65 d_Md_write_58 (by decide) (by omega) (fun c58 => ?_) (fun c58 => ?_)
              · refine rz_iconst d_Md_write_65 ?_
                refine rz_Seq [vi (mOne b), vi (mOne a)] (by rw [show mOne b = 1 from if_neg c58]) ?_
                exact J66 () trivial
              · refine rz_iconst d_Md_write_61 ?_
                refine rz_goto 66 d_Md_write_62 (by decide) ?_
                refine rz_Seq [vi (mOne b), vi (mOne a)] (by rw [show mOne b = 0 from if_pos c58]) ?_
                exact J66 () trivial
          · refine rz_iload_n 1 d_Md_write_48 rfl rfl ?_
            refine rz_if_ne 56 d_Md_write_49 (by decide) (by omega) (fun c49 => ?_) (fun c49 => ?_)
            · refine rz_iconst d_Md_write_56 ?_
              refine rz_Seq [vi (mOne a)] (by rw [show mOne a = 1 from if_neg c49]) ?_
              exact J57 () trivial
            · refine rz_iconst d_Md_write_52 ?_
              refine rz_goto 57 d_Md_write_53 (by decide) ?_
              refine rz_Seq [vi (mOne a)] (by rw [show mOne a = 0 from if_pos c49]) ?_
              exact J57 () trivial
        · refine rz_iload 4 d_Md_write_33 rfl ?_
          refine rz_if_eq 48 d_Md_write_35 (by decide) (by omega) (fun c35 => ?_) (fun c35 => ?_)
          · exact J48 () (by simp [mOk, *])
          · refine rz_iload 4 d_Md_write_38 rfl ?_
            refine rz_callS (As := [vi d]) (c_Md_may (by omega)) m_Md_67 rfl rfl (Nat.le_of_ble_eq_true rfl) ⟨by decide, by decide⟩ ⟨by decide, by decide⟩ d_Md_write_40 (kE (h := h) ?_)
            refine rz_if_neB 48 d_Md_write_43 (by decide) (fun c43 => ?_) (fun c43 => ?_)
            · exact J48 () (by simp [mOk, *])
            · refine rz_iconst d_Md_write_46 ?_
              exact rz_ireturn (st := []) rfl d_Md_write_47 ⟨by decide, by decide⟩ ⟨_, rfl, (by rw [mWrite, if_neg (by simp [mOk, *])]), (by rw [mWrite, if_neg (by simp [mOk, *])]; exact hM), rz_fr.rf⟩
      · refine rz_iload_n 3 d_Md_write_22 rfl rfl ?_
        refine rz_if_eq 33 d_Md_write_23 (by decide) (by omega) (fun c23 => ?_) (fun c23 => ?_)
        · exact J33 () (by simp [mOk, *])
        · refine rz_iload_n 3 d_Md_write_26 rfl rfl ?_
          refine rz_callS (As := [vi c]) (c_Md_may (by omega)) m_Md_67 rfl rfl (Nat.le_of_ble_eq_true rfl) ⟨by decide, by decide⟩ ⟨by decide, by decide⟩ d_Md_write_27 (kE (h := h) ?_)
          refine rz_if_eqB 46 d_Md_write_30 (by decide) (fun c30 => ?_) (fun c30 => ?_)
          · refine rz_iconst d_Md_write_46 ?_
            exact rz_ireturn (st := []) rfl d_Md_write_47 ⟨by decide, by decide⟩ ⟨_, rfl, (by rw [mWrite, if_neg (by simp [mOk, *])]), (by rw [mWrite, if_neg (by simp [mOk, *])]; exact hM), rz_fr.rf⟩
          · exact J33 () (by simp [mOk, *])
    · refine rz_iload_n 2 d_Md_write_11 rfl rfl ?_
      refine rz_if_eq 22 d_Md_write_12 (by decide) (by omega) (fun c12 => ?_) (fun c12 => ?_)
      · exact J22 () (by simp [mOk, *])
      · refine rz_iload_n 2 d_Md_write_15 rfl rfl ?_
        refine rz_callS (As := [vi b]) (c_Md_may (by omega)) m_Md_67 rfl rfl (Nat.le_of_ble_eq_true rfl) ⟨by decide, by decide⟩ ⟨by decide, by decide⟩ d_Md_write_16 (kE (h := h) ?_)
        refine rz_if_eqB 46 d_Md_write_19 (by decide) (fun c19 => ?_) (fun c19 => ?_)
        · refine rz_iconst d_Md_write_46 ?_
          exact rz_ireturn (st := []) rfl d_Md_write_47 ⟨by decide, by decide⟩ ⟨_, rfl, (by rw [mWrite, if_neg (by simp [mOk, *])]), (by rw [mWrite, if_neg (by simp [mOk, *])]; exact hM), rz_fr.rf⟩
        · exact J22 () (by simp [mOk, *])
  · refine rz_iload_n 1 d_Md_write_0 rfl rfl ?_
    refine rz_if_eq 11 d_Md_write_1 (by decide) (by omega) (fun c1 => ?_) (fun c1 => ?_)
    · exact J11 () (by simp [mOk, *])
    · refine rz_iload_n 1 d_Md_write_4 rfl rfl ?_
      refine rz_callS (As := [vi a]) (c_Md_may (by omega)) m_Md_67 rfl rfl (Nat.le_of_ble_eq_true rfl) ⟨by decide, by decide⟩ ⟨by decide, by decide⟩ d_Md_write_5 (kE (h := h) ?_)
      refine rz_if_eqB 46 d_Md_write_8 (by decide) (fun c8 => ?_) (fun c8 => ?_)
      · refine rz_iconst d_Md_write_46 ?_
        exact rz_ireturn (st := []) rfl d_Md_write_47 ⟨by decide, by decide⟩ ⟨_, rfl, (by rw [mWrite, if_neg (by simp [mOk, *])]), (by rw [mWrite, if_neg (by simp [mOk, *])]; exact hM), rz_fr.rf⟩
      · exact J11 () (by simp [mOk, *])

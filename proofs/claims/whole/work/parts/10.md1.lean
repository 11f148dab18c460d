/-! the reference: small methods -/
abbrev rm_Md_in : Room := { frames := 0, cells := 0, slots := 0, locals := 0 }
set_option maxRecDepth 100000 in
set_option maxHeartbeats 4000000 in
/-- in -/
theorem c_Md_in {l : Launch} {Γ : rz_G} {h : rz_H} {v lo hi : Int} (rv : -2147483648 ≤ v ∧ v ≤ 2147483647) (rlo : -2147483648 ≤ lo ∧ lo ≤ 2147483647) (rhi : -2147483648 ≤ hi ∧ hi ≤ 2147483647) : Ct l Γ x_Md_in y_Md_in rm_Md_in [vi v, vi lo, vi hi] h (pE (bi (mIn v lo hi)) h) := by
  refine rz_met (by decide) rfl rfl (Nat.le_of_ble_eq_true rfl) (fun K _ => ?_)
  refine rz_Leq [(0, vi v), (1, vi lo), (2, vi hi)] rfl ?_
  refine rz_iload_n 0 d_Md_in_0 rfl rfl ?_
  refine rz_iload_n 1 d_Md_in_1 rfl rfl ?_
  refine rz_icmp_lt 14 d_Md_in_2 (by decide) (by omega) (by omega) (fun c2 => ?_) (fun c2 => ?_)
  · refine rz_iconst d_Md_in_14 ?_
    exact rz_zreturn (st := []) (ty := .boolean) rfl rfl d_Md_in_15 ⟨by decide, by decide⟩ ⟨_, rfl, bi0 (by rw [mIn_f]; omega), rfl⟩
  · refine rz_iload_n 0 d_Md_in_5 rfl rfl ?_
    refine rz_iload_n 2 d_Md_in_6 rfl rfl ?_
    refine rz_icmp_gt 14 d_Md_in_7 (by decide) (by omega) (by omega) (fun c7 => ?_) (fun c7 => ?_)
    · refine rz_iconst d_Md_in_14 ?_
      exact rz_zreturn (st := []) (ty := .boolean) rfl rfl d_Md_in_15 ⟨by decide, by decide⟩ ⟨_, rfl, bi0 (by rw [mIn_f]; omega), rfl⟩
    · refine rz_iconst d_Md_in_10 ?_
      refine rz_goto 15 d_Md_in_11 (by decide) ?_
      exact rz_zreturn (st := []) (ty := .boolean) rfl rfl d_Md_in_15 ⟨by decide, by decide⟩ ⟨_, rfl, bi1 (by rw [mIn_t]; omega), rfl⟩
abbrev rm_Md_digit : Room := { frames := 1, cells := 0, slots := 0, locals := 22 }
set_option maxRecDepth 100000 in
set_option maxHeartbeats 4000000 in
theorem c_Md_digit {l : Launch} {Γ : rz_G} {h : rz_H} {c : Int} (rc : -2147483648 ≤ c ∧ c ≤ 2147483647) : Ct l Γ x_Md_digit y_Md_digit rm_Md_digit [vi c] h (pE (bi (isD c)) h) := by
  refine rz_met (by decide) rfl rfl (Nat.le_of_ble_eq_true rfl) (fun K _ => ?_)
  refine rz_Leq [(0, vi c)] rfl ?_
  refine rz_iload_n 0 d_Md_digit_0 rfl rfl ?_
  refine rz_bipush (v := 48) d_Md_digit_1 (by decide) ?_
  refine rz_bipush (v := 57) d_Md_digit_3 (by decide) ?_
  refine rz_callS (As := [vi c, vi 48, vi 57]) (c_Md_in (by omega) ⟨by decide, by decide⟩ ⟨by decide, by decide⟩) m_Md_56 rfl rfl (Nat.le_of_ble_eq_true rfl) ⟨by decide, by decide⟩ ⟨by decide, by decide⟩ d_Md_digit_5 (kE (h := h) ?_)
  exact rz_zreturn (st := []) (ty := .boolean) rfl (nz_b _) d_Md_digit_8 ⟨by decide, by decide⟩ ⟨_, rfl, rfl, rfl⟩
abbrev rm_Md_letter : Room := { frames := 1, cells := 0, slots := 0, locals := 22 }
set_option maxRecDepth 100000 in
set_option maxHeartbeats 4000000 in
theorem c_Md_letter {l : Launch} {Γ : rz_G} {h : rz_H} {c : Int} (rc : -2147483648 ≤ c ∧ c ≤ 2147483647) : Ct l Γ x_Md_letter y_Md_letter rm_Md_letter [vi c] h (pE (bi (isL c)) h) := by
  refine rz_met (by decide) rfl rfl (Nat.le_of_ble_eq_true rfl) (fun K _ => ?_)
  refine rz_Leq [(0, vi c)] rfl ?_
  refine rz_iload_n 0 d_Md_letter_0 rfl rfl ?_
  refine rz_bipush (v := 97) d_Md_letter_1 (by decide) ?_
  refine rz_bipush (v := 122) d_Md_letter_3 (by decide) ?_
  refine rz_callS (As := [vi c, vi 97, vi 122]) (c_Md_in (by omega) ⟨by decide, by decide⟩ ⟨by decide, by decide⟩) m_Md_56 rfl rfl (Nat.le_of_ble_eq_true rfl) ⟨by decide, by decide⟩ ⟨by decide, by decide⟩ d_Md_letter_5 (kE (h := h) ?_)
  exact rz_zreturn (st := []) (ty := .boolean) rfl (nz_b _) d_Md_letter_8 ⟨by decide, by decide⟩ ⟨_, rfl, rfl, rfl⟩
abbrev rm_Md_may : Room := { frames := 2, cells := 0, slots := 0, locals := 42 }
set_option maxRecDepth 100000 in
set_option maxHeartbeats 4000000 in
theorem c_Md_may {l : Launch} {Γ : rz_G} {h : rz_H} {c : Int} (rc : -2147483648 ≤ c ∧ c ≤ 2147483647) : Ct l Γ x_Md_may y_Md_may rm_Md_may [vi c] h (pE (bi (mMay c)) h) := by
  refine rz_met (by decide) rfl rfl (Nat.le_of_ble_eq_true rfl) (fun K _ => ?_)
  refine rz_Leq [(0, vi c)] rfl ?_
  refine rz_iload_n 0 d_Md_may_0 rfl rfl ?_
  refine rz_callS (As := [vi c]) (c_Md_digit (by omega)) m_Md_60 rfl rfl (Nat.le_of_ble_eq_true rfl) ⟨by decide, by decide⟩ ⟨by decide, by decide⟩ d_Md_may_1 (kE (h := h) ?_)
  refine rz_if_neB 48 d_Md_may_4 (by decide) (fun c4 => ?_) (fun c4 => ?_)
  · refine rz_iconst d_Md_may_48 ?_
    refine rz_goto 53 d_Md_may_49 (by decide) ?_
    exact rz_zreturn (st := []) (ty := .boolean) rfl rfl d_Md_may_53 ⟨by decide, by decide⟩ ⟨_, rfl, bi1 (by simp [mMay, *]), rfl⟩
  · refine rz_iload_n 0 d_Md_may_7 rfl rfl ?_
    refine rz_callS (As := [vi c]) (c_Md_letter (by omega)) m_Md_64 rfl rfl (Nat.le_of_ble_eq_true rfl) ⟨by decide, by decide⟩ ⟨by decide, by decide⟩ d_Md_may_8 (kE (h := h) ?_)
    refine rz_if_neB 48 d_Md_may_11 (by decide) (fun c11 => ?_) (fun c11 => ?_)
    · refine rz_iconst d_Md_may_48 ?_
      refine rz_goto 53 d_Md_may_49 (by decide) ?_
      exact rz_zreturn (st := []) (ty := .boolean) rfl rfl d_Md_may_53 ⟨by decide, by decide⟩ ⟨_, rfl, bi1 (by simp [mMay, *]), rfl⟩
    · refine rz_iload_n 0 d_Md_may_14 rfl rfl ?_
      refine rz_bipush (v := 40) d_Md_may_15 (by decide) ?_
      refine rz_bipush (v := 41) d_Md_may_17 (by decide) ?_
      refine rz_callS (As := [vi c, vi 40, vi 41]) (c_Md_in (by omega) ⟨by decide, by decide⟩ ⟨by decide, by decide⟩) m_Md_56 rfl rfl (Nat.le_of_ble_eq_true rfl) ⟨by decide, by decide⟩ ⟨by decide, by decide⟩ d_Md_may_19 (kE (h := h) ?_)
      refine rz_if_neB 48 d_Md_may_22 (by decide) (fun c22 => ?_) (fun c22 => ?_)
      · refine rz_iconst d_Md_may_48 ?_
        refine rz_goto 53 d_Md_may_49 (by decide) ?_
        exact rz_zreturn (st := []) (ty := .boolean) rfl rfl d_Md_may_53 ⟨by decide, by decide⟩ ⟨_, rfl, bi1 (by simp [mMay, *]), rfl⟩
      · refine rz_iload_n 0 d_Md_may_25 rfl rfl ?_
        refine rz_bipush (v := 44) d_Md_may_26 (by decide) ?_
        refine rz_bipush (v := 46) d_Md_may_28 (by decide) ?_
        refine rz_callS (As := [vi c, vi 44, vi 46]) (c_Md_in (by omega) ⟨by decide, by decide⟩ ⟨by decide, by decide⟩) m_Md_56 rfl rfl (Nat.le_of_ble_eq_true rfl) ⟨by decide, by decide⟩ ⟨by decide, by decide⟩ d_Md_may_30 (kE (h := h) ?_)
        refine rz_if_neB 48 d_Md_may_33 (by decide) (fun c33 => ?_) (fun c33 => ?_)
        · refine rz_iconst d_Md_may_48 ?_
          refine rz_goto 53 d_Md_may_49 (by decide) ?_
          exact rz_zreturn (st := []) (ty := .boolean) rfl rfl d_Md_may_53 ⟨by decide, by decide⟩ ⟨_, rfl, bi1 (by simp [mMay, *]), rfl⟩
        · refine rz_iload_n 0 d_Md_may_36 rfl rfl ?_
          refine rz_bipush (v := 91) d_Md_may_37 (by decide) ?_
          refine rz_icmp_eq 48 d_Md_may_39 (by decide) (by omega) ⟨by decide, by decide⟩ (fun c39 => ?_) (fun c39 => ?_)
          · refine rz_iconst d_Md_may_48 ?_
            refine rz_goto 53 d_Md_may_49 (by decide) ?_
            exact rz_zreturn (st := []) (ty := .boolean) rfl rfl d_Md_may_53 ⟨by decide, by decide⟩ ⟨_, rfl, bi1 (by simp [mMay, *]), rfl⟩
          · refine rz_iload_n 0 d_Md_may_42 rfl rfl ?_
            refine rz_bipush (v := 93) d_Md_may_43 (by decide) ?_
            refine rz_icmp_ne 52 d_Md_may_45 (by decide) (by omega) ⟨by decide, by decide⟩ (fun c45 => ?_) (fun c45 => ?_)
            · refine rz_iconst d_Md_may_52 ?_
              exact rz_zreturn (st := []) (ty := .boolean) rfl rfl d_Md_may_53 ⟨by decide, by decide⟩ ⟨_, rfl, bi0 (by simp [mMay, *]), rfl⟩
            · refine rz_iconst d_Md_may_48 ?_
              refine rz_goto 53 d_Md_may_49 (by decide) ?_
              exact rz_zreturn (st := []) (ty := .boolean) rfl rfl d_Md_may_53 ⟨by decide, by decide⟩ ⟨_, rfl, bi1 (by simp [mMay, *]), rfl⟩
abbrev rm_Md_at : Room := { frames := 1, cells := 0, slots := 0, locals := 22 }
set_option maxRecDepth 100000 in
set_option maxHeartbeats 4000000 in
theorem c_Md_at {l : Launch} {Γ : rz_G} {h : rz_H} {x : Nat} {ad : Nat → Nat} {M : Nat → Int → Int} (hM : MdAt Γ h x ad M) (hw : mWF M) {t i : Int} (ht : 0 ≤ t ∧ t < 126) (ri : -2147483648 ≤ i ∧ i ≤ 2147483647) : Ct l Γ x_Md_at y_Md_at rm_Md_at [.ref x, vi t, vi i] h (pE (mAt M t i) h) := by
  refine rz_met (by decide) rfl rfl (Nat.le_of_ble_eq_true rfl) (fun K _ => ?_)
  refine rz_Leq [(0, .ref x), (1, vi t), (2, vi i)] rfl ?_
  have hlen := hw.1 t ht.1 ht.2
  refine rz_iload_n 2 d_Md_at_0 rfl rfl ?_
  refine rz_iconst d_Md_at_1 ?_
  refine rz_aload_n 0 d_Md_at_2 rfl rfl ?_
  refine rz_getf f_Md_13 hM.1 rfl d_Md_at_3 ?_
  refine rz_iload_n 1 d_Md_at_6 rfl rfl ?_
  refine rz_iaload (md_a1 hM) (by decide) (by omega) d_Md_at_7 ?_
  refine rz_iconst d_Md_at_8 ?_
  refine rz_isub d_Md_at_9 ?_
  refine rz_callS (As := [vi i, vi 0, vi ((M 1 t) - 1)]) (c_Md_in (by omega) ⟨by decide, by decide⟩ (by omega)) m_Md_56 rfl rfl (Nat.le_of_ble_eq_true rfl) ⟨by decide, by decide⟩ ⟨by decide, by decide⟩ d_Md_at_10 (kE (h := h) ?_)
  refine rz_if_eqB 30 d_Md_at_13 (by decide) (fun c13 => ?_) (fun c13 => ?_)
  · refine rz_iconst d_Md_at_30 ?_
    exact rz_ireturn (st := []) rfl d_Md_at_31 ⟨by decide, by decide⟩ ⟨_, rfl, (by have := mIn_f.mp c13; unfold mAt; rw [if_neg this]), rfl⟩
  · refine rz_aload_n 0 d_Md_at_16 rfl rfl ?_
    refine rz_getf f_Md_7 hM.1 rfl d_Md_at_17 ?_
    refine rz_bipush (v := 24) d_Md_at_20 (by decide) ?_
    refine rz_iload_n 1 d_Md_at_22 rfl rfl ?_
    refine rz_imul d_Md_at_23 ?_
    refine rz_iload_n 2 d_Md_at_24 rfl rfl ?_
    refine rz_iadd d_Md_at_25 ?_
    refine rz_iaload (md_a0 hM) (by decide) (by have := mIn_t.mp c13; omega) d_Md_at_26 ?_
    refine rz_goto 31 d_Md_at_27 (by decide) ?_
    exact rz_ireturn (st := []) rfl d_Md_at_31 ⟨by decide, by decide⟩ ⟨_, rfl, (by have := mIn_t.mp c13; unfold mAt; rw [if_pos this]), rfl⟩
abbrev rm_Md_used : Room := { frames := 0, cells := 0, slots := 0, locals := 0 }
set_option maxRecDepth 100000 in
set_option maxHeartbeats 4000000 in
theorem c_Md_used {l : Launch} {Γ : rz_G} {h : rz_H} {x : Nat} {ad : Nat → Nat} {M : Nat → Int → Int} (hM : MdAt Γ h x ad M) {a : Int} : Ct l Γ x_Md_used y_Md_used rm_Md_used [.ref x, vi a] h (pI (fun r h' => r = a ∧ MdAt Γ h' x ad (mu M 1 (rz_u (M 1) 0 0)) ∧ rz_fr [10, 11] h h')) := by
  refine rz_met (by decide) rfl rfl (Nat.le_of_ble_eq_true rfl) (fun K _ => ?_)
  refine rz_Leq [(0, .ref x), (1, vi a)] rfl ?_
  refine rz_aload_n 0 d_Md_used_0 rfl rfl ?_
  refine rz_getf f_Md_13 hM.1 rfl d_Md_used_1 ?_
  refine rz_iconst d_Md_used_4 ?_
  refine rz_iconst d_Md_used_5 ?_
  refine md_st1 hM rz_fr.rf (by omega) d_Md_used_6 (fun h1 hM1 hF1 => ?_)
  obtain ⟨M1, eM1⟩ : ∃ z, z = mu M 1 (rz_u (M 1) 0 0) := ⟨_, rfl⟩
  rw [← eM1] at hM1
  refine rz_iload_n 1 d_Md_used_7 rfl rfl ?_
  exact rz_ireturn (st := []) rfl d_Md_used_8 ⟨by decide, by decide⟩ ⟨_, rfl, rfl, eM1 ▸ hM1, hF1⟩
abbrev rm_Md_wipe : Room := { frames := 0, cells := 0, slots := 0, locals := 0 }
set_option maxRecDepth 100000 in
set_option maxHeartbeats 4000000 in
theorem c_Md_wipe {l : Launch} {Γ : rz_G} {h : rz_H} {x : Nat} {ad : Nat → Nat} {M : Nat → Int → Int} (hM : MdAt Γ h x ad M) (hw : mWF M) : Ct l Γ x_Md_wipe y_Md_wipe rm_Md_wipe [.ref x] h (pI (fun r h' => r = M 1 0 ∧ MdAt Γ h' x ad (mu M 1 (rz_u (M 1) 0 0)) ∧ rz_fr [10, 11] h h')) := by
  refine rz_met (by decide) rfl rfl (Nat.le_of_ble_eq_true rfl) (fun K _ => ?_)
  refine rz_Leq [(0, .ref x)] rfl ?_
  refine rz_aload_n 0 d_Md_wipe_0 rfl rfl ?_
  refine rz_getf f_Md_13 hM.1 rfl d_Md_wipe_1 ?_
  refine rz_iconst d_Md_wipe_4 ?_
  refine rz_iaload (md_a1 hM) (by decide) (by omega) d_Md_wipe_5 ?_
  refine rz_istore_n [(1, vi (M 1 0)), (0, .ref x)] d_Md_wipe_6 rfl (by decide) rfl ?_
  refine rz_aload_n 1 d_Md_wipe_7 rfl rfl ?_
  refine rz_getf f_Md_13 hM.1 rfl d_Md_wipe_8 ?_
  refine rz_iconst d_Md_wipe_11 ?_
  refine rz_iconst d_Md_wipe_12 ?_
  refine md_st1 hM rz_fr.rf (by omega) d_Md_wipe_13 (fun h1 hM1 hF1 => ?_)
  obtain ⟨M1, eM1⟩ : ∃ z, z = mu M 1 (rz_u (M 1) 0 0) := ⟨_, rfl⟩
  rw [← eM1] at hM1
  refine rz_iload_n 0 d_Md_wipe_14 rfl rfl ?_
  exact rz_ireturn (st := []) rfl d_Md_wipe_15 ⟨by decide, by decide⟩ ⟨_, rfl, rfl, eM1 ▸ hM1, hF1⟩
abbrev rm_Md_slot : Room := { frames := 0, cells := 0, slots := 0, locals := 0 }
set_option maxRecDepth 100000 in
set_option maxHeartbeats 4000000 in
theorem c_Md_slot {l : Launch} {Γ : rz_G} {h : rz_H} {x : Nat} {ad : Nat → Nat} {M : Nat → Int → Int} (hM : MdAt Γ h x ad M) {p : Int} (rp : 0 ≤ p ∧ p < 6) : Ct l Γ x_Md_slot y_Md_slot rm_Md_slot [.ref x, vi p] h (pE (4 * p + M 11 p) h) := by
  refine rz_met (by decide) rfl rfl (Nat.le_of_ble_eq_true rfl) (fun K _ => ?_)
  refine rz_Leq [(0, .ref x), (1, vi p)] rfl ?_
  refine rz_iconst d_Md_slot_0 ?_
  refine rz_iload_n 1 d_Md_slot_1 rfl rfl ?_
  refine rz_imul d_Md_slot_2 ?_
  refine rz_aload_n 0 d_Md_slot_3 rfl rfl ?_
  refine rz_getf f_Md_41 hM.1 rfl d_Md_slot_4 ?_
  refine rz_iload_n 1 d_Md_slot_7 rfl rfl ?_
  refine rz_iaload (md_a11 hM) (by decide) (by omega) d_Md_slot_8 ?_
  refine rz_iadd d_Md_slot_9 ?_
  exact rz_ireturn (st := []) rfl d_Md_slot_10 ⟨by decide, by decide⟩ ⟨_, rfl, rfl, rfl⟩
def mNone (M : Nat → Int → Int) (p r : Int) : Bool := !mIn p 0 5 || !mIn r 0 (M 2 p - 1)
abbrev rm_Md_none : Room := { frames := 1, cells := 0, slots := 0, locals := 22 }
set_option maxRecDepth 100000 in
set_option maxHeartbeats 4000000 in
theorem c_Md_none {l : Launch} {Γ : rz_G} {h : rz_H} {x : Nat} {ad : Nat → Nat} {M : Nat → Int → Int} (hM : MdAt Γ h x ad M) (hw : mWF M) {p r : Int} (rp : -2147483648 ≤ p ∧ p ≤ 2147483647) (rr : -2147483648 ≤ r ∧ r ≤ 2147483647) : Ct l Γ x_Md_none y_Md_none rm_Md_none [.ref x, vi p, vi r] h (pE (bi (mNone M p r)) h) := by
  refine rz_met (by decide) rfl rfl (Nat.le_of_ble_eq_true rfl) (fun K _ => ?_)
  refine rz_Leq [(0, .ref x), (1, vi p), (2, vi r)] rfl ?_
  refine rz_iload_n 1 d_Md_none_0 rfl rfl ?_
  refine rz_iconst d_Md_none_1 ?_
  refine rz_iconst d_Md_none_2 ?_
  refine rz_callS (As := [vi p, vi 0, vi 5]) (c_Md_in (by omega) ⟨by decide, by decide⟩ ⟨by decide, by decide⟩) m_Md_56 rfl rfl (Nat.le_of_ble_eq_true rfl) ⟨by decide, by decide⟩ ⟨by decide, by decide⟩ d_Md_none_3 (kE (h := h) ?_)
  refine rz_if_eqB 25 d_Md_none_6 (by decide) (fun c6 => ?_) (fun c6 => ?_)
  · refine rz_iconst d_Md_none_25 ?_
    refine rz_goto 30 d_Md_none_26 (by decide) ?_
    exact rz_zreturn (st := []) (ty := .boolean) rfl rfl d_Md_none_30 ⟨by decide, by decide⟩ ⟨_, rfl, bi1 (by simp [mNone, *]), rfl⟩
  · refine rz_iload_n 2 d_Md_none_9 rfl rfl ?_
    refine rz_iconst d_Md_none_10 ?_
    refine rz_aload_n 0 d_Md_none_11 rfl rfl ?_
    refine rz_getf f_Md_16 hM.1 rfl d_Md_none_12 ?_
    refine rz_iload_n 1 d_Md_none_15 rfl rfl ?_
    refine rz_iaload (md_a2 hM) (by decide) (by have := mIn_t.mp c6; omega) d_Md_none_16 ?_
    refine rz_iconst d_Md_none_17 ?_
    refine rz_isub d_Md_none_18 ?_
    refine rz_callS (As := [vi r, vi 0, vi ((M 2 p) - 1)]) (c_Md_in (by omega) ⟨by decide, by decide⟩ (by have h1 := mIn_t.mp c6; have := hw.2.2.1 p (by omega) (by omega); omega)) m_Md_56 rfl rfl (Nat.le_of_ble_eq_true rfl) ⟨by decide, by decide⟩ ⟨by decide, by decide⟩ d_Md_none_19 (kE (h := h) ?_)
    refine rz_if_neB 29 d_Md_none_22 (by decide) (fun c22 => ?_) (fun c22 => ?_)
    · refine rz_iconst d_Md_none_29 ?_
      exact rz_zreturn (st := []) (ty := .boolean) rfl rfl d_Md_none_30 ⟨by decide, by decide⟩ ⟨_, rfl, bi0 (by simp [mNone, *]), rfl⟩
    · refine rz_iconst d_Md_none_25 ?_
      refine rz_goto 30 d_Md_none_26 (by decide) ?_
      exact rz_zreturn (st := []) (ty := .boolean) rfl rfl d_Md_none_30 ⟨by decide, by decide⟩ ⟨_, rfl, bi1 (by simp [mNone, *]), rfl⟩

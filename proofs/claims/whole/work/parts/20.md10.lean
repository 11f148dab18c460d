/-! the reference: what callers call, first group -/
def mUse (M : Nat → Int → Int) : Nat → Int → Int := mu M 1 (rz_u (M 1) 0 0)
theorem mS2_st {S M : Nat → Int → Int} (h : mS2 S M) {k : Nat} (h1 : k ≠ 17) (h2 : k ≠ 18) (i v : Int) : mS2 (mu S k (rz_u (S k) i v)) (mu M k (rz_u (M k) i v)) := fun j a b => by
  unfold mu
  split
  · rw [h k h1 h2]
  · exact h j a b
theorem mS2_sc {S M : Nat → Int → Int} (h : mS2 S M) (k : Nat) (g : Int → Int) : mS2 (mu S k g) (mu M k g) := fun j a b => by
  unfold mu
  split
  · rfl
  · exact h j a b
theorem mS2_use {S M : Nat → Int → Int} (h : mS2 S M) : mS2 (mUse S) (mu M 1 (rz_u (M 1) 0 0)) := mS2_st h (by decide) (by decide) 0 0
theorem mS2_keep {S M : Nat → Int → Int} (h : mS2 S M) (t : Int) : mS2 (mKeep S t) (mKeep M t) := by
  unfold mKeep
  have e : kpF M t 24 = kpF S t 24 := by
    funext j
    unfold kpF
    rw [h 0 (by decide) (by decide)]
  rw [e, h 1 (by decide) (by decide)]
  exact mS2_sc (mS2_sc h 0 _) 1 _
/-- every release has a version -/
def vOK (M : Nat → Int → Int) : Prop := ∀ p r, 0 ≤ p → p < 6 → 0 ≤ r → r < M 2 p → ver (mAt M (6 + 4 * p + r)) 0 (M 1 (6 + 4 * p + r)) = true
theorem vOK_S2 {M M' : Nat → Int → Int} (h : mS2 M M') (hv : vOK M) : vOK M' := by
  intro p r h1 h2 h3 h4
  rw [mS2_at h, h 1 (by decide) (by decide)]
  rw [h 2 (by decide) (by decide)] at h4
  exact hv p r h1 h2 h3 h4
theorem mNone_f {M : Nat → Int → Int} {p r : Int} (h : mNone M p r = false) : (0 ≤ p ∧ p ≤ 5) ∧ 0 ≤ r ∧ r ≤ M 2 p - 1 := by
  simp only [mNone, Bool.or_eq_false_iff, Bool.not_eq_false', mIn_t] at h
  exact h
abbrev rm_Md_compareTexts : Room := { frames := 6, cells := 0, slots := 0, locals := 157 }
set_option maxRecDepth 100000 in
set_option maxHeartbeats 4000000 in
theorem c_Md_compareTexts {l : Launch} {Γ : rz_G} {h : rz_H} {x : Nat} {ad : Nat → Nat} {M : Nat → Int → Int} (hM : MdAt Γ h x ad M) (hw : mWF M) {t u : Int} (ht : 0 ≤ t ∧ t < 126) (hu : 0 ≤ u ∧ u < 126) (kt : ver (mAt M t) 0 (M 1 t) = true) (ku : ver (mAt M u) 0 (M 1 u) = true) : Ct l Γ x_Md_compareTexts y_Md_compareTexts rm_Md_compareTexts [.ref x, vi t, vi u] h (pI (fun r' h' => r' = ord (mAt M t) (mAt M u) (M 1 t) 0 (M 1 u) ∧ ∃ M', MdAt Γ h' x ad M' ∧ mS2 M M' ∧ rz_fr [10, 11] h h')) := by
  refine rz_met (by decide) rfl rfl (Nat.le_of_ble_eq_true rfl) (fun K _ => ?_)
  refine rz_Leq [(0, .ref x), (1, vi t), (2, vi u)] rfl ?_
  have hlen := hw.1 u hu.1 hu.2
  refine rz_aload_n 0 d_Md_compareTexts_0 rfl rfl ?_
  refine rz_iload_n 1 d_Md_compareTexts_1 rfl rfl ?_
  refine rz_iload_n 2 d_Md_compareTexts_2 rfl rfl ?_
  refine rz_iconst d_Md_compareTexts_3 ?_
  refine rz_aload_n 0 d_Md_compareTexts_4 rfl rfl ?_
  refine rz_getf f_Md_13 hM.1 rfl d_Md_compareTexts_5 ?_
  refine rz_iload_n 2 d_Md_compareTexts_8 rfl rfl ?_
  refine rz_iaload (md_a1 hM) (by decide) (by omega) d_Md_compareTexts_9 ?_
  refine rz_callV (As := [vi t, vi u, vi 0, vi (M 1 u)]) (c_Md_ordered hM hw ht hu (by omega) (by omega) (by exact ver_nok kt) (by exact ver_nok ku)) m_Md_149 hM.1 rfl rfl rfl rfl (Nat.le_of_ble_eq_true rfl) ⟨by decide, by decide⟩ ⟨by decide, by decide⟩ d_Md_compareTexts_10 (kI (h := h) fun r1 h1 q1 => ?_)
  obtain ⟨rfl, M1, hM1, hT1, hF1⟩ := q1
  have hS1 := (mS2.rf (M := M)).tr hT1
  have hw1 := mS2_wf hS1 hw
  have hG1 := (rz_fr.rf (rs := [10, 11]) (h := h)).tr hF1
  exact rz_ireturn (st := []) rfl d_Md_compareTexts_13 ⟨by decide, by decide⟩ ⟨_, rfl, rfl, M1, hM1, hS1, hG1⟩
def sp_compare (M : Nat → Int → Int) (p r o r2 : Int) : Int := if (mNone M p r || mNone M o r2) = true then -9 else ord (mAt M (6 + 4 * p + r)) (mAt M (6 + 4 * o + r2)) (M 1 (6 + 4 * p + r)) 0 (M 1 (6 + 4 * o + r2))
abbrev rm_Md_compare : Room := { frames := 7, cells := 0, slots := 0, locals := 179 }
set_option maxRecDepth 100000 in
set_option maxHeartbeats 4000000 in
theorem c_Md_compare {l : Launch} {Γ : rz_G} {h : rz_H} {x : Nat} {ad : Nat → Nat} {M : Nat → Int → Int} (hM : MdAt Γ h x ad M) (hw : mWF M) (hv : vOK M) {p r o r2 : Int} (rp : -2147483648 ≤ p ∧ p ≤ 2147483647) (rr : -2147483648 ≤ r ∧ r ≤ 2147483647) (ro : -2147483648 ≤ o ∧ o ≤ 2147483647) (rr2 : -2147483648 ≤ r2 ∧ r2 ≤ 2147483647) : Ct l Γ x_Md_compare y_Md_compare rm_Md_compare [.ref x, vi p, vi r, vi o, vi r2] h (pI (fun r' h' => r' = sp_compare M p r o r2 ∧ ∃ M', MdAt Γ h' x ad M' ∧ mS2 M M' ∧ rz_fr [10, 11] h h')) := by
  refine rz_met (by decide) rfl rfl (Nat.le_of_ble_eq_true rfl) (fun K _ => ?_)
  refine rz_Leq [(0, .ref x), (1, vi p), (2, vi r), (3, vi o), (4, vi r2)] rfl ?_
  refine rz_aload_n 0 d_Md_compare_0 rfl rfl ?_
  refine rz_iload_n 1 d_Md_compare_1 rfl rfl ?_
  refine rz_iload_n 2 d_Md_compare_2 rfl rfl ?_
  refine rz_callV (As := [vi p, vi r]) (c_Md_none hM hw (by omega) (by omega)) m_Md_160 hM.1 rfl rfl rfl rfl (Nat.le_of_ble_eq_true rfl) ⟨by decide, by decide⟩ ⟨by decide, by decide⟩ d_Md_compare_3 (kE (h := h) ?_)
  refine rz_if_neB 19 d_Md_compare_6 (by decide) (fun c6 => ?_) (fun c6 => ?_)
  · refine rz_bipush (v := (-9)) d_Md_compare_19 (by decide) ?_
    exact rz_ireturn (st := []) rfl d_Md_compare_21 ⟨by decide, by decide⟩ ⟨_, rfl, (by rw [sp_compare, if_pos (by simp [*])]), M, hM, (mS2.rf (M := M)), (rz_fr.rf (rs := [10, 11]) (h := h))⟩
  · refine rz_aload_n 0 d_Md_compare_9 rfl rfl ?_
    refine rz_iload_n 3 d_Md_compare_10 rfl rfl ?_
    refine rz_iload 4 d_Md_compare_11 rfl ?_
    refine rz_callV (As := [vi o, vi r2]) (c_Md_none hM hw (by omega) (by omega)) m_Md_160 hM.1 rfl rfl rfl rfl (Nat.le_of_ble_eq_true rfl) ⟨by decide, by decide⟩ ⟨by decide, by decide⟩ d_Md_compare_13 (kE (h := h) ?_)
    refine rz_if_eqB 22 d_Md_compare_16 (by decide) (fun c16 => ?_) (fun c16 => ?_)
    · have n1 := mNone_f c6
      have n2 := mNone_f c16
      have l1 := hw.2.2.1 p (by omega) (by omega)
      have l2 := hw.2.2.1 o (by omega) (by omega)
      refine rz_bipush (v := 6) d_Md_compare_22 (by decide) ?_
      refine rz_iconst d_Md_compare_24 ?_
      refine rz_iload_n 3 d_Md_compare_25 rfl rfl ?_
      refine rz_imul d_Md_compare_26 ?_
      refine rz_iadd d_Md_compare_27 ?_
      refine rz_iload 4 d_Md_compare_28 rfl ?_
      refine rz_iadd d_Md_compare_30 ?_
      refine rz_istore [(5, vi ((6 + (4 * o)) + r2)), (0, .ref x), (1, vi p), (2, vi r), (3, vi o), (4, vi r2)] d_Md_compare_31 (by decide) rfl ?_
      refine rz_aload_n 1 d_Md_compare_33 rfl rfl ?_
      refine rz_bipush (v := 6) d_Md_compare_34 (by decide) ?_
      refine rz_iconst d_Md_compare_36 ?_
      refine rz_iload_n 2 d_Md_compare_37 rfl rfl ?_
      refine rz_imul d_Md_compare_38 ?_
      refine rz_iadd d_Md_compare_39 ?_
      refine rz_iload_n 3 d_Md_compare_40 rfl rfl ?_
      refine rz_iadd d_Md_compare_41 ?_
      refine rz_iload 0 d_Md_compare_42 rfl ?_
      refine rz_callV (As := [vi ((6 + (4 * p)) + r), vi ((6 + (4 * o)) + r2)]) (c_Md_compareTexts hM hw (by omega) (by omega) (by exact hv p r (by omega) (by omega) (by omega) (by omega)) (by exact hv o r2 (by omega) (by omega) (by omega) (by omega))) m_Md_170 hM.1 rfl rfl rfl rfl (Nat.le_of_ble_eq_true rfl) ⟨by decide, by decide⟩ ⟨by decide, by decide⟩ d_Md_compare_44 (kI (h := h) fun r1 h1 q1 => ?_)
      obtain ⟨rfl, M1, hM1, hT1, hF1⟩ := q1
      have hS1 := (mS2.rf (M := M)).tr hT1
      have hw1 := mS2_wf hS1 hw
      have hG1 := (rz_fr.rf (rs := [10, 11]) (h := h)).tr hF1
      exact rz_ireturn (st := []) rfl d_Md_compare_47 ⟨by decide, by decide⟩ ⟨_, rfl, (by rw [sp_compare, if_neg (by simp [*])]), M1, hM1, hS1, hG1⟩
    · refine rz_bipush (v := (-9)) d_Md_compare_19 (by decide) ?_
      exact rz_ireturn (st := []) rfl d_Md_compare_21 ⟨by decide, by decide⟩ ⟨_, rfl, (by rw [sp_compare, if_pos (by simp [*])]), M, hM, (mS2.rf (M := M)), (rz_fr.rf (rs := [10, 11]) (h := h))⟩
def sp_host (M : Nat → Int → Int) : Int × (Nat → Int → Int) := if ver (mAt M 0) 0 (M 1 0) = true then (0, mUse (mKeep M 1)) else (-3, mUse M)
abbrev rm_Md_host : Room := { frames := 3, cells := 0, slots := 0, locals := 72 }
set_option maxRecDepth 100000 in
set_option maxHeartbeats 4000000 in
theorem c_Md_host {l : Launch} {Γ : rz_G} {h : rz_H} {x : Nat} {ad : Nat → Nat} {M : Nat → Int → Int} (hM : MdAt Γ h x ad M) (hw : mWF M) : Ct l Γ x_Md_host y_Md_host rm_Md_host [.ref x] h (pI (fun r' h' => r' = (sp_host M).1 ∧ ∃ M', MdAt Γ h' x ad M' ∧ mS2 (sp_host M).2 M' ∧ rz_fr [10, 11] h h')) := by
  refine rz_met (by decide) rfl rfl (Nat.le_of_ble_eq_true rfl) (fun K _ => ?_)
  refine rz_Leq [(0, .ref x)] rfl ?_
  have hlen := hw.1 0 (by omega) (by omega)
  refine rz_aload_n 0 d_Md_host_0 rfl rfl ?_
  refine rz_iconst d_Md_host_1 ?_
  refine rz_iconst d_Md_host_2 ?_
  refine rz_aload_n 0 d_Md_host_3 rfl rfl ?_
  refine rz_getf f_Md_13 hM.1 rfl d_Md_host_4 ?_
  refine rz_iconst d_Md_host_7 ?_
  refine rz_iaload (md_a1 hM) (by decide) (by omega) d_Md_host_8 ?_
  refine rz_callV (As := [vi 0, vi 0, vi (M 1 0)]) (c_Md_version hM hw (by omega) (by omega) (by omega)) m_Md_143 hM.1 rfl rfl rfl rfl (Nat.le_of_ble_eq_true rfl) ⟨by decide, by decide⟩ ⟨by decide, by decide⟩ d_Md_host_9 (kE (h := h) ?_)
  refine rz_if_neB 22 d_Md_host_12 (by decide) (fun c12 => ?_) (fun c12 => ?_)
  · refine rz_aload_n 0 d_Md_host_22 rfl rfl ?_
    refine rz_iconst d_Md_host_23 ?_
    refine rz_callV (As := [vi 1]) (c_Md_keep hM (by omega)) m_Md_156 hM.1 rfl rfl rfl rfl (Nat.le_of_ble_eq_true rfl) ⟨by decide, by decide⟩ ⟨by decide, by decide⟩ d_Md_host_24 (kV (h := h) fun h1 q1 => ?_)
    obtain ⟨hM1, hF1⟩ := q1
    obtain ⟨M1, eM1⟩ : ∃ z, z = mKeep M 1 := ⟨_, rfl⟩
    rw [← eM1] at hM1
    have hS1 : mS2 (mKeep M 1) M1 := by rw [eM1]; exact mS2_keep (mS2.rf (M := M)) 1
    have hG1 := (rz_fr.rf (rs := [10, 11]) (h := h)).tr hF1
    refine rz_aload_n 0 d_Md_host_27 rfl rfl ?_
    refine rz_iconst d_Md_host_28 ?_
    refine rz_callV (As := [vi 0]) (c_Md_used hM1) m_Md_153 hM1.1 rfl rfl rfl rfl (Nat.le_of_ble_eq_true rfl) ⟨by decide, by decide⟩ ⟨by decide, by decide⟩ d_Md_host_29 (kI (h := h1) fun r2 h2 q2 => ?_)
    obtain ⟨rfl, hM2, hF2⟩ := q2
    have hS2 := mS2_use hS1
    have hG2 := hG1.tr hF2
    exact rz_ireturn (st := []) rfl d_Md_host_32 ⟨by decide, by decide⟩ ⟨_, rfl, (by rw [sp_host, if_pos c12]), (mu M1 1 (rz_u (M1 1) 0 0)), hM2, (by rw [sp_host, if_pos c12]; exact hS2), hG2⟩
  · refine rz_aload_n 0 d_Md_host_15 rfl rfl ?_
    refine rz_bipush (v := (-3)) d_Md_host_16 (by decide) ?_
    refine rz_callV (As := [vi (-3)]) (c_Md_used hM) m_Md_153 hM.1 rfl rfl rfl rfl (Nat.le_of_ble_eq_true rfl) ⟨by decide, by decide⟩ ⟨by decide, by decide⟩ d_Md_host_18 (kI (h := h) fun r3 h3 q3 => ?_)
    obtain ⟨rfl, hM3, hF3⟩ := q3
    have hS3 := mS2_use (mS2.rf (M := M))
    have hG3 := (rz_fr.rf (rs := [10, 11]) (h := h)).tr hF3
    exact rz_ireturn (st := []) rfl d_Md_host_21 ⟨by decide, by decide⟩ ⟨_, rfl, (by rw [sp_host, if_neg (by simp [*])]), (mu M 1 (rz_u (M 1) 0 0)), hM3, (by rw [sp_host, if_neg (by simp [*])]; exact hS3), hG3⟩
def sp_withdraw (M : Nat → Int → Int) (p r : Int) (on : Bool) : Int × (Nat → Int → Int) := if mNone M p r = true then (-1, M) else (0, mu M 3 (rz_u (M 3) (4 * p + r) (bi on)))
abbrev rm_Md_withdraw : Room := { frames := 2, cells := 0, slots := 0, locals := 44 }
set_option maxRecDepth 100000 in
set_option maxHeartbeats 4000000 in
theorem c_Md_withdraw {l : Launch} {Γ : rz_G} {h : rz_H} {x : Nat} {ad : Nat → Nat} {M : Nat → Int → Int} (hM : MdAt Γ h x ad M) (hw : mWF M) {p r : Int} {on : Bool} (rp : -2147483648 ≤ p ∧ p ≤ 2147483647) (rr : -2147483648 ≤ r ∧ r ≤ 2147483647) : Ct l Γ x_Md_withdraw y_Md_withdraw rm_Md_withdraw [.ref x, vi p, vi r, vi (bi on)] h (pI (fun r' h' => r' = (sp_withdraw M p r on).1 ∧ ∃ M', MdAt Γ h' x ad M' ∧ mS2 (sp_withdraw M p r on).2 M' ∧ rz_fr [10, 11] h h')) := by
  refine rz_met (by decide) rfl rfl (Nat.le_of_ble_eq_true rfl) (fun K _ => ?_)
  refine rz_Leq [(0, .ref x), (1, vi p), (2, vi r), (3, vi (bi on))] rfl ?_
  refine rz_aload_n 0 d_Md_withdraw_0 rfl rfl ?_
  refine rz_iload_n 1 d_Md_withdraw_1 rfl rfl ?_
  refine rz_iload_n 2 d_Md_withdraw_2 rfl rfl ?_
  refine rz_callV (As := [vi p, vi r]) (c_Md_none hM hw (by omega) (by omega)) m_Md_160 hM.1 rfl rfl rfl rfl (Nat.le_of_ble_eq_true rfl) ⟨by decide, by decide⟩ ⟨by decide, by decide⟩ d_Md_withdraw_3 (kE (h := h) ?_)
  refine rz_if_eqB 11 d_Md_withdraw_6 (by decide) (fun c6 => ?_) (fun c6 => ?_)
  · have n1 := mNone_f c6
    have l1 := hw.2.2.1 p (by omega) (by omega)
    refine rz_aload_n 0 d_Md_withdraw_11 rfl rfl ?_
    refine rz_getf f_Md_19 hM.1 rfl d_Md_withdraw_12 ?_
    refine rz_iconst d_Md_withdraw_15 ?_
    refine rz_iload_n 1 d_Md_withdraw_16 rfl rfl ?_
    refine rz_imul d_Md_withdraw_17 ?_
    refine rz_iload_n 2 d_Md_withdraw_18 rfl rfl ?_
    refine rz_iadd d_Md_withdraw_19 ?_
    refine rz_iload_n 3 d_Md_withdraw_20 rfl rfl ?_
    refine md_st3 hM (rz_fr.rf (rs := [10, 11]) (h := h)) (by omega) (bi01 _) d_Md_withdraw_21 (fun h1 hM1 hF1 => ?_)
    obtain ⟨M1, eM1⟩ : ∃ z, z = mu M 3 (rz_u (M 3) ((4 * p) + r) (bi on)) := ⟨_, rfl⟩
    rw [← eM1] at hM1
    have hS1 : mS2 (mu M 3 (rz_u (M 3) ((4 * p) + r) (bi on))) M1 := by rw [eM1]; exact mS2_st (mS2.rf (M := M)) (by decide) (by decide) _ _
    refine rz_iconst d_Md_withdraw_22 ?_
    exact rz_ireturn (st := []) rfl d_Md_withdraw_23 ⟨by decide, by decide⟩ ⟨_, rfl, (by rw [sp_withdraw, if_neg (by simp [*])]), M1, hM1, (by rw [sp_withdraw, if_neg (by simp [*])]; exact hS1), hF1⟩
  · refine rz_iconst d_Md_withdraw_9 ?_
    exact rz_ireturn (st := []) rfl d_Md_withdraw_10 ⟨by decide, by decide⟩ ⟨_, rfl, (by rw [sp_withdraw, if_pos c6]), M, hM, (by rw [sp_withdraw, if_pos c6]; exact (mS2.rf (M := M))), (rz_fr.rf (rs := [10, 11]) (h := h))⟩
def sp_within (M : Nat → Int → Int) (p r : Int) : Int × (Nat → Int → Int) := if mNone M p r = true then (-1, M) else if rng (mAt M 0) (M 1 0) = true then (bi (inR (mAt M (6 + 4 * p + r)) (M 1 (6 + 4 * p + r)) (mAt M 0) (M 1 0)), mUse M) else (-3, mUse M)
abbrev rm_Md_within : Room := { frames := 7, cells := 0, slots := 0, locals := 184 }
set_option maxRecDepth 100000 in
set_option maxHeartbeats 4000000 in
theorem c_Md_within {l : Launch} {Γ : rz_G} {h : rz_H} {x : Nat} {ad : Nat → Nat} {M : Nat → Int → Int} (hM : MdAt Γ h x ad M) (hw : mWF M) (hv : vOK M) {p r : Int} (rp : -2147483648 ≤ p ∧ p ≤ 2147483647) (rr : -2147483648 ≤ r ∧ r ≤ 2147483647) : Ct l Γ x_Md_within y_Md_within rm_Md_within [.ref x, vi p, vi r] h (pI (fun r' h' => r' = (sp_within M p r).1 ∧ ∃ M', MdAt Γ h' x ad M' ∧ mS2 (sp_within M p r).2 M' ∧ rz_fr [10, 11] h h')) := by
  refine rz_met (by decide) rfl rfl (Nat.le_of_ble_eq_true rfl) (fun K _ => ?_)
  refine rz_Leq [(0, .ref x), (1, vi p), (2, vi r)] rfl ?_
  refine rz_aload_n 0 d_Md_within_0 rfl rfl ?_
  refine rz_iload_n 1 d_Md_within_1 rfl rfl ?_
  refine rz_iload_n 2 d_Md_within_2 rfl rfl ?_
  refine rz_callV (As := [vi p, vi r]) (c_Md_none hM hw (by omega) (by omega)) m_Md_160 hM.1 rfl rfl rfl rfl (Nat.le_of_ble_eq_true rfl) ⟨by decide, by decide⟩ ⟨by decide, by decide⟩ d_Md_within_3 (kE (h := h) ?_)
  refine rz_if_eqB 11 d_Md_within_6 (by decide) (fun c6 => ?_) (fun c6 => ?_)
  · have n1 := mNone_f c6
    have l1 := hw.2.2.1 p (by omega) (by omega)
    refine rz_aload_n 0 d_Md_within_11 rfl rfl ?_
    refine rz_iconst d_Md_within_12 ?_
    refine rz_callV (As := [vi 0]) (c_Md_range hM hw (by omega)) m_Md_164 hM.1 rfl rfl rfl rfl (Nat.le_of_ble_eq_true rfl) ⟨by decide, by decide⟩ ⟨by decide, by decide⟩ d_Md_within_13 (kE (h := h) ?_)
    refine rz_if_neB 26 d_Md_within_16 (by decide) (fun c16 => ?_) (fun c16 => ?_)
    · refine rz_aload_n 0 d_Md_within_26 rfl rfl ?_
      refine rz_aload_n 0 d_Md_within_27 rfl rfl ?_
      refine rz_bipush (v := 6) d_Md_within_28 (by decide) ?_
      refine rz_iconst d_Md_within_30 ?_
      refine rz_iload_n 1 d_Md_within_31 rfl rfl ?_
      refine rz_imul d_Md_within_32 ?_
      refine rz_iadd d_Md_within_33 ?_
      refine rz_iload_n 2 d_Md_within_34 rfl rfl ?_
      refine rz_iadd d_Md_within_35 ?_
      refine rz_iconst d_Md_within_36 ?_
      refine rz_callV (As := [vi ((6 + (4 * p)) + r), vi 0]) (c_Md_inside hM hw (by omega) (by omega) (by exact hv p r (by omega) (by omega) (by omega) (by omega)) (by exact c16)) m_Md_173 hM.1 rfl rfl rfl rfl (Nat.le_of_ble_eq_true rfl) ⟨by decide, by decide⟩ ⟨by decide, by decide⟩ d_Md_within_37 (kI (h := h) fun r1 h1 q1 => ?_)
      obtain ⟨rfl, M1, hM1, hT1, hF1⟩ := q1
      have hS1 := (mS2.rf (M := M)).tr hT1
      have hw1 := mS2_wf hS1 hw
      have hG1 := (rz_fr.rf (rs := [10, 11]) (h := h)).tr hF1
      refine rz_if_eqB 47 d_Md_within_40 (by decide) (fun c40 => ?_) (fun c40 => ?_)
      · refine rz_iconst d_Md_within_47 ?_
        refine rz_callV (As := [vi 0]) (c_Md_used hM1) m_Md_153 hM1.1 rfl rfl rfl rfl (Nat.le_of_ble_eq_true rfl) ⟨by decide, by decide⟩ ⟨by decide, by decide⟩ d_Md_within_48 (kI (h := h1) fun r2 h2 q2 => ?_)
        obtain ⟨rfl, hM2, hF2⟩ := q2
        have hS2 := mS2_use hS1
        have hG2 := hG1.tr hF2
        exact rz_ireturn (st := []) rfl d_Md_within_51 ⟨by decide, by decide⟩ ⟨_, rfl, (by rw [sp_within, if_neg (by simp [*]), if_pos c16]; show _ = bi (inR _ _ _ _); rw [c40]; rfl), (mu M1 1 (rz_u (M1 1) 0 0)), hM2, (by rw [sp_within, if_neg (by simp [*]), if_pos c16]; exact hS2), hG2⟩
      · refine rz_iconst d_Md_within_43 ?_
        refine rz_goto 48 d_Md_within_44 (by decide) ?_
        refine rz_callV (As := [vi 1]) (c_Md_used hM1) m_Md_153 hM1.1 rfl rfl rfl rfl (Nat.le_of_ble_eq_true rfl) ⟨by decide, by decide⟩ ⟨by decide, by decide⟩ d_Md_within_48 (kI (h := h1) fun r3 h3 q3 => ?_)
        obtain ⟨rfl, hM3, hF3⟩ := q3
        have hS3 := mS2_use hS1
        have hG3 := hG1.tr hF3
        exact rz_ireturn (st := []) rfl d_Md_within_51 ⟨by decide, by decide⟩ ⟨_, rfl, (by rw [sp_within, if_neg (by simp [*]), if_pos c16]; show _ = bi (inR _ _ _ _); rw [c40]; rfl), (mu M1 1 (rz_u (M1 1) 0 0)), hM3, (by rw [sp_within, if_neg (by simp [*]), if_pos c16]; exact hS3), hG3⟩
    · refine rz_aload_n 0 d_Md_within_19 rfl rfl ?_
      refine rz_bipush (v := (-3)) d_Md_within_20 (by decide) ?_
      refine rz_callV (As := [vi (-3)]) (c_Md_used hM) m_Md_153 hM.1 rfl rfl rfl rfl (Nat.le_of_ble_eq_true rfl) ⟨by decide, by decide⟩ ⟨by decide, by decide⟩ d_Md_within_22 (kI (h := h) fun r4 h4 q4 => ?_)
      obtain ⟨rfl, hM4, hF4⟩ := q4
      have hS4 := mS2_use (mS2.rf (M := M))
      have hG4 := (rz_fr.rf (rs := [10, 11]) (h := h)).tr hF4
      exact rz_ireturn (st := []) rfl d_Md_within_25 ⟨by decide, by decide⟩ ⟨_, rfl, (by rw [sp_within, if_neg (by simp [*]), if_neg (by simp [*])]), (mu M 1 (rz_u (M 1) 0 0)), hM4, (by rw [sp_within, if_neg (by simp [*]), if_neg (by simp [*])]; exact hS4), hG4⟩
  · refine rz_iconst d_Md_within_9 ?_
    exact rz_ireturn (st := []) rfl d_Md_within_10 ⟨by decide, by decide⟩ ⟨_, rfl, (by rw [sp_within, if_pos c6]), M, hM, (by rw [sp_within, if_pos c6]; exact (mS2.rf (M := M))), (rz_fr.rf (rs := [10, 11]) (h := h))⟩

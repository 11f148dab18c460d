/-! the reference: item -/
theorem mWF_17 {M : Nat → Int → Int} {g : Int → Int} (h : mWF M) : mWF (mu M 17 g) := h
theorem mWF_18 {M : Nat → Int → Int} {g : Int → Int} (h : mWF M) : mWF (mu M 18 g) := h
theorem skF_hit {f : Int → Int} {n : Nat} {i : Int} (h : (isD (f i) || isL (f i)) = true) : skF f n i = i := by
  cases n with
  | zero => rfl
  | succ n => simp only [skF]; rw [if_pos h]
theorem skF_go {f : Int → Int} {n : Nat} {i : Int} (hn : 0 < n) (h : (isD (f i) || isL (f i)) = false) : skF f n i = skF f (n - 1) (i + 1) := by
  cases n with
  | zero => omega
  | succ n => simp only [skF]; rw [if_neg (by rw [h]; decide)]; rfl
theorem ruF_hit {p : Int → Bool} {f : Int → Int} {n : Nat} {i : Int} (h : p (f i) = false) : ruF p f n i = i := by
  cases n with
  | zero => rfl
  | succ n => simp only [ruF]; rw [if_neg (by rw [h]; decide)]
theorem ruF_go {p : Int → Bool} {f : Int → Int} {n : Nat} {i : Int} (hn : 0 < n) (h : p (f i) = true) : ruF p f n i = ruF p f (n - 1) (i + 1) := by
  cases n with
  | zero => omega
  | succ n => simp only [ruF]; rw [if_pos h]; rfl
theorem itP_d {f : Int → Int} {a : Int} (h : isD (f a) = true) : itP f a = isD := by unfold itP; rw [if_pos h]
theorem itP_l {f : Int → Int} {a : Int} (h : isD (f a) = false) : itP f a = isL := by unfold itP; rw [if_neg (by rw [h]; decide)]
abbrev rm_Md_item : Room := { frames := 2, cells := 0, slots := 0, locals := 44 }
set_option maxRecDepth 100000 in
set_option maxHeartbeats 4000000 in
theorem c_Md_item {l : Launch} {Γ : rz_G} {h : rz_H} {x : Nat} {ad : Nat → Nat} {M : Nat → Int → Int} (hM : MdAt Γ h x ad M) (hw : mWF M) {t p hi : Int} (ht : 0 ≤ t ∧ t < 126) (hp : 0 ≤ p ∧ p ≤ 100) (hhi : -100 ≤ hi ∧ hi ≤ 100) : Ct l Γ x_Md_item y_Md_item rm_Md_item [.ref x, vi t, vi p, vi hi] h (pI (fun r h' => r = bi (decide (itS (mAt M t) p hi < hi)) ∧ MdAt Γ h' x ad (mu (mu M 17 (fun _ => itS (mAt M t) p hi)) 18 (fun _ => itE (mAt M t) p hi)) ∧ rz_fr [10, 11] h h')) := by
  refine rz_met (by decide) rfl rfl (Nat.le_of_ble_eq_true rfl) (fun K _ => ?_)
  refine rz_Leq [(0, .ref x), (1, vi t), (2, vi p), (3, vi hi)] rfl ?_
  refine rz_aload_n 0 d_Md_item_0 rfl rfl ?_
  refine rz_iload_n 2 d_Md_item_1 rfl rfl ?_
  refine md_ps17 hM rz_fr.rf (fp_Md_78 _) d_Md_item_2 (fun h1 hM1 hF1 => ?_)
  refine rz_loop (α := Int × rz_H) 0 0 5 (fun (i, hA) => (hi - i).toNat) (fun (i, hA) => p ≤ i ∧ (i ≤ hi ∨ i = p) ∧ MdAt Γ hA x ad (mu M 17 (fun _ => i)) ∧ rz_fr [10, 11] h hA ∧ skF (mAt M t) (hi - p).toNat p = skF (mAt M t) (hi - i).toNat i) (fun (i, hA) => [(0, .ref x), (1, vi t), (2, vi p), (3, vi hi)]) (fun (i, hA) => []) (fun (i, hA) => hA) (fun y hy ih5 => ?_) (fun LP => ?_)
  · obtain ⟨i, hA⟩ := y
    try dsimp only at hy ih5 ⊢
    obtain ⟨hi0, hi1, hMA, hFA, hv⟩ := hy
    refine rz_aload_n 0 d_Md_item_5 rfl rfl ?_
    refine rz_cut (α := Unit) 0 0 56 (fun _ => itS (mAt M t) p hi = i) (fun _ => [(0, .ref x), (1, vi t), (2, vi p), (3, vi hi)]) (fun _ => []) (fun _ => hA) (fun _ k56 => ?_) (fun J56 => ?_)
    · obtain ⟨a, ea⟩ : ∃ z, z = i := ⟨_, rfl⟩
      rw [← ea] at hMA k56
      have ha0 : p ≤ a ∧ (a ≤ hi ∨ a = p) := by omega
      clear hv ih5
      refine rz_aload_n 0 d_Md_item_56 rfl rfl ?_
      refine rz_aload_n 0 d_Md_item_57 rfl rfl ?_
      refine rz_getf f_Md_78 hMA.1 rfl d_Md_item_58 ?_
      refine rz_Seq [vi a, .ref x] rfl ?_
      refine md_ps18 hMA hFA (fp_Md_82 _) d_Md_item_61 (fun h2 hM2 hF2 => ?_)
      refine rz_loop (α := Int × rz_H) 0 0 64 (fun (j, hB) => (hi - j).toNat) (fun (j, hB) => a ≤ j ∧ (j ≤ hi ∨ j = a) ∧ MdAt Γ hB x ad (mu (mu M 17 (fun _ => a)) 18 (fun _ => j)) ∧ rz_fr [10, 11] h hB ∧ ruF (itP (mAt M t) a) (mAt M t) (hi - a).toNat a = ruF (itP (mAt M t) a) (mAt M t) (hi - j).toNat j) (fun (j, hB) => [(0, .ref x), (1, vi t), (2, vi p), (3, vi hi)]) (fun (j, hB) => []) (fun (j, hB) => hB) (fun y hy ih64 => ?_) (fun LP => ?_)
      · obtain ⟨j, hB⟩ := y
        try dsimp only at hy ih64 ⊢
        obtain ⟨hj0, hj1, hMB, hFB, hu⟩ := hy
        refine rz_aload_n 0 d_Md_item_64 rfl rfl ?_
        refine rz_cut (α := Unit) 0 0 133 (fun _ => itE (mAt M t) p hi = j) (fun _ => [(0, .ref x), (1, vi t), (2, vi p), (3, vi hi)]) (fun _ => []) (fun _ => hB) (fun _ k133 => ?_) (fun J133 => ?_)
        · refine rz_aload_n 0 d_Md_item_133 rfl rfl ?_
          refine rz_getf f_Md_78 hMB.1 rfl d_Md_item_134 ?_
          refine rz_Seq [vi a] rfl ?_
          refine rz_iload_n 3 d_Md_item_137 rfl rfl ?_
          refine rz_icmp_ge 145 d_Md_item_138 (by decide) (by omega) (by omega) (fun c138 => ?_) (fun c138 => ?_)
          · refine rz_iconst d_Md_item_145 ?_
            exact rz_zreturn (st := []) (ty := .boolean) rfl rfl d_Md_item_146 ⟨by decide, by decide⟩ ⟨_, rfl, bi0 (by rw [k56]; simp; omega), (by rw [k56, k133]; exact hMB), hFB⟩
          · refine rz_iconst d_Md_item_141 ?_
            refine rz_goto 146 d_Md_item_142 (by decide) ?_
            exact rz_zreturn (st := []) (ty := .boolean) rfl rfl d_Md_item_146 ⟨by decide, by decide⟩ ⟨_, rfl, bi1 (by rw [k56]; simp; omega), (by rw [k56, k133]; exact hMB), hFB⟩
        · refine rz_getf f_Md_82 hMB.1 rfl d_Md_item_65 ?_
          refine rz_Seq [vi j] rfl ?_
          refine rz_iload_n 3 d_Md_item_68 rfl rfl ?_
          refine rz_icmp_ge 133 d_Md_item_69 (by decide) (by omega) (by omega) (fun c69 => ?_) (fun c69 => ?_)
          · exact J133 () (by first | (rw [itE, k56, hu, show (hi - j).toNat = 0 by omega]; rfl) | (rw [itE, k56, hu]; exact ruF_hit (by first | (rw [itP_d c84]; assumption) | (rw [itP_l c84]; assumption))))
          · refine rz_cut (α := Unit) 0 0 120 (fun _ => itP (mAt M t) a (mAt M t j) = true) (fun _ => [(0, .ref x), (1, vi t), (2, vi p), (3, vi hi)]) (fun _ => []) (fun _ => hB) (fun _ k120 => ?_) (fun J120 => ?_)
            · refine rz_aload_n 0 d_Md_item_120 rfl rfl ?_
              refine rz_dup d_Md_item_121 rfl ?_
              refine rz_getf f_Md_82 hMB.1 rfl d_Md_item_122 ?_
              refine rz_Seq [vi j, .ref x] rfl ?_
              refine rz_iconst d_Md_item_125 ?_
              refine rz_iadd d_Md_item_126 ?_
              refine md_ps18 hMB hFB (fp_Md_82 _) d_Md_item_127 (fun h3 hM3 hF3 => ?_)
              rw [mu_mu] at hM3
              refine rz_goto 64 d_Md_item_130 (by decide) ?_
              refine rz_Lsub [(0, .ref x), (1, vi t), (2, vi p), (3, vi hi)] [0, 1, 2, 3] rfl ?_
              refine ih64 (j + 1, h3) ?_ ?_
              · try dsimp only
                exact ⟨by omega, by omega, hM3, hF3, (by rw [hu, ruF_go (by omega) k120]; congr 1; omega)⟩
              · exact (by first | omega | (dsimp only; omega))
            · refine rz_aload_n 0 d_Md_item_72 rfl rfl ?_
              refine rz_iload_n 1 d_Md_item_73 rfl rfl ?_
              refine rz_aload_n 0 d_Md_item_74 rfl rfl ?_
              refine rz_getf f_Md_78 hMB.1 rfl d_Md_item_75 ?_
              refine rz_Seq [vi a, vi t, .ref x] rfl ?_
              refine rz_callV (As := [vi t, vi a]) (c_Md_at hMB (mWF_18 (mWF_17 hw)) ht (by omega)) m_Md_74 hMB.1 rfl rfl rfl rfl (Nat.le_of_ble_eq_true rfl) ⟨by decide, by decide⟩ ⟨by decide, by decide⟩ d_Md_item_78 (kE (h := hB) ?_)
              refine rz_Seq [vi (mAt M t a)] rfl ?_
              refine rz_callS (As := [vi (mAt M t a)]) (c_Md_digit (by have := mAt_in hw ht a; omega)) m_Md_60 rfl rfl (Nat.le_of_ble_eq_true rfl) ⟨by decide, by decide⟩ ⟨by decide, by decide⟩ d_Md_item_81 (kE (h := hB) ?_)
              refine rz_if_eqB 105 d_Md_item_84 (by decide) (fun c84 => ?_) (fun c84 => ?_)
              · refine rz_aload_n 0 d_Md_item_105 rfl rfl ?_
                refine rz_iload_n 1 d_Md_item_106 rfl rfl ?_
                refine rz_aload_n 0 d_Md_item_107 rfl rfl ?_
                refine rz_getf f_Md_82 hMB.1 rfl d_Md_item_108 ?_
                refine rz_Seq [vi j, vi t, .ref x] rfl ?_
                refine rz_callV (As := [vi t, vi j]) (c_Md_at hMB (mWF_18 (mWF_17 hw)) ht (by omega)) m_Md_74 hMB.1 rfl rfl rfl rfl (Nat.le_of_ble_eq_true rfl) ⟨by decide, by decide⟩ ⟨by decide, by decide⟩ d_Md_item_111 (kE (h := hB) ?_)
                refine rz_Seq [vi (mAt M t j)] rfl ?_
                refine rz_callS (As := [vi (mAt M t j)]) (c_Md_letter (by have := mAt_in hw ht j; omega)) m_Md_64 rfl rfl (Nat.le_of_ble_eq_true rfl) ⟨by decide, by decide⟩ ⟨by decide, by decide⟩ d_Md_item_114 (kE (h := hB) ?_)
                refine rz_if_eqB 133 d_Md_item_117 (by decide) (fun c117 => ?_) (fun c117 => ?_)
                · exact J133 () (by first | (rw [itE, k56, hu, show (hi - j).toNat = 0 by omega]; rfl) | (rw [itE, k56, hu]; exact ruF_hit (by first | (rw [itP_d c84]; assumption) | (rw [itP_l c84]; assumption))))
                · exact J120 () (by first | (rw [itP_d c84]; assumption) | (rw [itP_l c84]; assumption))
              · refine rz_aload_n 0 d_Md_item_87 rfl rfl ?_
                refine rz_iload_n 1 d_Md_item_88 rfl rfl ?_
                refine rz_aload_n 0 d_Md_item_89 rfl rfl ?_
                refine rz_getf f_Md_82 hMB.1 rfl d_Md_item_90 ?_
                refine rz_Seq [vi j, vi t, .ref x] rfl ?_
                refine rz_callV (As := [vi t, vi j]) (c_Md_at hMB (mWF_18 (mWF_17 hw)) ht (by omega)) m_Md_74 hMB.1 rfl rfl rfl rfl (Nat.le_of_ble_eq_true rfl) ⟨by decide, by decide⟩ ⟨by decide, by decide⟩ d_Md_item_93 (kE (h := hB) ?_)
                refine rz_Seq [vi (mAt M t j)] rfl ?_
                refine rz_callS (As := [vi (mAt M t j)]) (c_Md_digit (by have := mAt_in hw ht j; omega)) m_Md_60 rfl rfl (Nat.le_of_ble_eq_true rfl) ⟨by decide, by decide⟩ ⟨by decide, by decide⟩ d_Md_item_96 (kE (h := hB) ?_)
                refine rz_if_eqB 133 d_Md_item_99 (by decide) (fun c99 => ?_) (fun c99 => ?_)
                · exact J133 () (by first | (rw [itE, k56, hu, show (hi - j).toNat = 0 by omega]; rfl) | (rw [itE, k56, hu]; exact ruF_hit (by first | (rw [itP_d c84]; assumption) | (rw [itP_l c84]; assumption))))
                · refine rz_goto 120 d_Md_item_102 (by decide) ?_
                  exact J120 () (by first | (rw [itP_d c84]; assumption) | (rw [itP_l c84]; assumption))
      · refine rz_Lsub [(0, .ref x), (1, vi t), (2, vi p), (3, vi hi)] [0, 1, 2, 3] rfl ?_
        refine LP (a, h2) ?_
        try dsimp only
        exact ⟨by omega, by omega, hM2, hF2, rfl⟩
    · refine rz_getf f_Md_78 hMA.1 rfl d_Md_item_6 ?_
      refine rz_Seq [vi i] rfl ?_
      refine rz_iload_n 3 d_Md_item_9 rfl rfl ?_
      refine rz_icmp_ge 56 d_Md_item_10 (by decide) (by omega) (by omega) (fun c10 => ?_) (fun c10 => ?_)
      · exact J56 () (by first | (rw [itS, hv, show (hi - i).toNat = 0 by omega]; rfl) | (rw [itS, hv]; exact skF_hit (by simp [*])))
      · refine rz_aload_n 0 d_Md_item_13 rfl rfl ?_
        refine rz_iload_n 1 d_Md_item_14 rfl rfl ?_
        refine rz_aload_n 0 d_Md_item_15 rfl rfl ?_
        refine rz_getf f_Md_78 hMA.1 rfl d_Md_item_16 ?_
        refine rz_Seq [vi i, vi t, .ref x] rfl ?_
        refine rz_callV (As := [vi t, vi i]) (c_Md_at hMA (mWF_17 hw) ht (by omega)) m_Md_74 hMA.1 rfl rfl rfl rfl (Nat.le_of_ble_eq_true rfl) ⟨by decide, by decide⟩ ⟨by decide, by decide⟩ d_Md_item_19 (kE (h := hA) ?_)
        refine rz_Seq [vi (mAt M t i)] rfl ?_
        refine rz_callS (As := [vi (mAt M t i)]) (c_Md_digit (by have := mAt_in hw ht i; omega)) m_Md_60 rfl rfl (Nat.le_of_ble_eq_true rfl) ⟨by decide, by decide⟩ ⟨by decide, by decide⟩ d_Md_item_22 (kE (h := hA) ?_)
        refine rz_if_neB 56 d_Md_item_25 (by decide) (fun c25 => ?_) (fun c25 => ?_)
        · exact J56 () (by first | (rw [itS, hv, show (hi - i).toNat = 0 by omega]; rfl) | (rw [itS, hv]; exact skF_hit (by simp [*])))
        · refine rz_aload_n 0 d_Md_item_28 rfl rfl ?_
          refine rz_iload_n 1 d_Md_item_29 rfl rfl ?_
          refine rz_aload_n 0 d_Md_item_30 rfl rfl ?_
          refine rz_getf f_Md_78 hMA.1 rfl d_Md_item_31 ?_
          refine rz_Seq [vi i, vi t, .ref x] rfl ?_
          refine rz_callV (As := [vi t, vi i]) (c_Md_at hMA (mWF_17 hw) ht (by omega)) m_Md_74 hMA.1 rfl rfl rfl rfl (Nat.le_of_ble_eq_true rfl) ⟨by decide, by decide⟩ ⟨by decide, by decide⟩ d_Md_item_34 (kE (h := hA) ?_)
          refine rz_Seq [vi (mAt M t i)] rfl ?_
          refine rz_callS (As := [vi (mAt M t i)]) (c_Md_letter (by have := mAt_in hw ht i; omega)) m_Md_64 rfl rfl (Nat.le_of_ble_eq_true rfl) ⟨by decide, by decide⟩ ⟨by decide, by decide⟩ d_Md_item_37 (kE (h := hA) ?_)
          refine rz_if_neB 56 d_Md_item_40 (by decide) (fun c40 => ?_) (fun c40 => ?_)
          · exact J56 () (by first | (rw [itS, hv, show (hi - i).toNat = 0 by omega]; rfl) | (rw [itS, hv]; exact skF_hit (by simp [*])))
          · refine rz_aload_n 0 d_Md_item_43 rfl rfl ?_
            refine rz_dup d_Md_item_44 rfl ?_
            refine rz_getf f_Md_78 hMA.1 rfl d_Md_item_45 ?_
            refine rz_Seq [vi i, .ref x] rfl ?_
            refine rz_iconst d_Md_item_48 ?_
            refine rz_iadd d_Md_item_49 ?_
            refine md_ps17 hMA hFA (fp_Md_78 _) d_Md_item_50 (fun h4 hM4 hF4 => ?_)
            rw [mu_mu] at hM4
            refine rz_goto 5 d_Md_item_53 (by decide) ?_
            refine rz_Lsub [(0, .ref x), (1, vi t), (2, vi p), (3, vi hi)] [0, 1, 2, 3] rfl ?_
            refine ih5 (i + 1, h4) ?_ ?_
            · try dsimp only
              exact ⟨by omega, by omega, hM4, hF4, (by rw [hv, skF_go (by omega) (by simp [*])]; congr 1; omega)⟩
            · exact (by first | omega | (dsimp only; omega))
  · refine rz_Lsub [(0, .ref x), (1, vi t), (2, vi p), (3, vi hi)] [0, 1, 2, 3] rfl ?_
    refine LP (p, h1) ?_
    try dsimp only
    exact ⟨by omega, by omega, hM1, hF1, rfl⟩

/-! the reference: keep, version -/
def kpF (M : Nat → Int → Int) (t i : Int) : Int → Int := fun j => if 24 * t ≤ j ∧ j < 24 * t + i then M 0 (j - 24 * t) else M 0 j
def mKeep (M : Nat → Int → Int) (t : Int) : Nat → Int → Int := mu (mu M 0 (kpF M t 24)) 1 (rz_u (M 1) t (M 1 0))
theorem kpF_0 (M : Nat → Int → Int) (t : Int) : mu M 0 (kpF M t 0) = M := by
  funext k j
  unfold mu
  split
  · rename_i e
    subst e
    unfold kpF
    rw [if_neg (by omega)]
  · rfl
theorem kpF_s (M : Nat → Int → Int) {t i : Int} (ht : 1 ≤ t) (hi : 0 ≤ i ∧ i < 24) : rz_u (kpF M t i) (24 * t + i) (kpF M t i i) = kpF M t (i + 1) := by
  funext j
  by_cases e : j = 24 * t + i
  · rw [e, rz_u_s]
    unfold kpF
    rw [if_neg (by omega), if_pos (by omega)]
    congr 1
    omega
  · rw [rz_u_n e]
    unfold kpF
    by_cases q : 24 * t ≤ j ∧ j < 24 * t + i
    · rw [if_pos q, if_pos (by omega)]
    · rw [if_neg q, if_neg (by omega)]
abbrev rm_Md_keep : Room := { frames := 0, cells := 0, slots := 0, locals := 0 }
set_option maxRecDepth 100000 in
set_option maxHeartbeats 4000000 in
theorem c_Md_keep {l : Launch} {Γ : rz_G} {h : rz_H} {x : Nat} {ad : Nat → Nat} {M : Nat → Int → Int} (hM : MdAt Γ h x ad M) {t : Int} (ht : 1 ≤ t ∧ t < 126) : Ct l Γ x_Md_keep y_Md_keep rm_Md_keep [.ref x, vi t] h (pV (fun h' => MdAt Γ h' x ad (mKeep M t) ∧ rz_fr [10, 11] h h')) := by
  refine rz_met (by decide) rfl rfl (Nat.le_of_ble_eq_true rfl) (fun K _ => ?_)
  refine rz_Leq [(0, .ref x), (1, vi t)] rfl ?_
  refine rz_iconst d_Md_keep_0 ?_
  refine rz_istore_n [(2, vi 0), (0, .ref x), (1, vi t)] d_Md_keep_1 rfl (by decide) rfl ?_
  refine rz_loop (α := Int × rz_H) 0 0 2 (fun (i, hA) => (24 - i).toNat) (fun (i, hA) => 0 ≤ i ∧ i ≤ 24 ∧ MdAt Γ hA x ad (mu M 0 (kpF M t i)) ∧ rz_fr [10, 11] h hA) (fun (i, hA) => [(2, vi i), (0, .ref x), (1, vi t)]) (fun (i, hA) => []) (fun (i, hA) => hA) (fun y hy ih2 => ?_) (fun LP => ?_)
  · obtain ⟨i, hA⟩ := y
    try dsimp only at hy ih2 ⊢
    obtain ⟨hi0, hi1, hMA, hFA⟩ := hy
    refine rz_iload_n 0 d_Md_keep_2 rfl rfl ?_
    refine rz_bipush (v := 24) d_Md_keep_3 (by decide) ?_
    refine rz_icmp_ge 31 d_Md_keep_5 (by decide) (by omega) ⟨by decide, by decide⟩ (fun c5 => ?_) (fun c5 => ?_)
    · refine rz_aload_n 1 d_Md_keep_31 rfl rfl ?_
      refine rz_getf f_Md_13 hMA.1 rfl d_Md_keep_32 ?_
      refine rz_iload_n 2 d_Md_keep_35 rfl rfl ?_
      refine rz_aload_n 1 d_Md_keep_36 rfl rfl ?_
      refine rz_getf f_Md_13 hMA.1 rfl d_Md_keep_37 ?_
      refine rz_iconst d_Md_keep_40 ?_
      refine rz_iaload (md_a1 hMA) (by decide) (by omega) d_Md_keep_41 ?_
      refine md_st1 hMA hFA (by omega) d_Md_keep_42 (fun h1 hM1 hF1 => ?_)
      obtain ⟨M1, eM1⟩ : ∃ z, z = mu (mu M 0 (kpF M t i)) 1 (rz_u ((mu M 0 (kpF M t i)) 1) t ((mu M 0 (kpF M t i)) 1 0)) := ⟨_, rfl⟩
      rw [← eM1] at hM1
      exact rz_return (st := []) rfl d_Md_keep_43 ⟨by decide, by decide⟩ ⟨rfl, (by have e : i = 24 := (by omega); subst e; subst eM1; exact hM1), hF1⟩
    · refine rz_aload_n 1 d_Md_keep_8 rfl rfl ?_
      refine rz_getf f_Md_7 hMA.1 rfl d_Md_keep_9 ?_
      refine rz_bipush (v := 24) d_Md_keep_12 (by decide) ?_
      refine rz_iload_n 2 d_Md_keep_14 rfl rfl ?_
      refine rz_imul d_Md_keep_15 ?_
      refine rz_iload_n 0 d_Md_keep_16 rfl rfl ?_
      refine rz_iadd d_Md_keep_17 ?_
      refine rz_aload_n 1 d_Md_keep_18 rfl rfl ?_
      refine rz_getf f_Md_7 hMA.1 rfl d_Md_keep_19 ?_
      refine rz_iload_n 0 d_Md_keep_22 rfl rfl ?_
      refine rz_iaload (md_a0 hMA) (by decide) (by omega) d_Md_keep_23 ?_
      refine md_st0 hMA hFA (by omega) d_Md_keep_24 (fun h2 hM2 hF2 => ?_)
      obtain ⟨M2, eM2⟩ : ∃ z, z = mu (mu M 0 (kpF M t i)) 0 (rz_u ((mu M 0 (kpF M t i)) 0) ((24 * t) + i) ((mu M 0 (kpF M t i)) 0 i)) := ⟨_, rfl⟩
      rw [← eM2] at hM2
      refine rz_iinc (i + 1) 0 [(2, vi (i + 1)), (0, .ref x), (1, vi t)] d_Md_keep_25 rfl (by first | rfl | omega) (by decide) rfl ?_
      refine rz_goto 2 d_Md_keep_28 (by decide) ?_
      refine rz_Lsub [(2, vi (i + 1)), (0, .ref x), (1, vi t)] [0, 1, 2] rfl ?_
      refine ih2 (i + 1, h2) ?_ ?_
      · try dsimp only
        exact ⟨by omega, by omega, (by have := hM2; rw [eM2, mu_s, mu_mu, kpF_s M ht.1 (by omega)] at this; exact this), hF2⟩
      · exact (by first | omega | (dsimp only; omega))
  · refine rz_Lsub [(2, vi 0), (0, .ref x), (1, vi t)] [0, 1, 2] rfl ?_
    refine LP (0, h) ?_
    try dsimp only
    exact ⟨by decide, by decide, (by rw [kpF_0]; exact hM), rz_fr.rf⟩
theorem vc_ok {s d l g : Bool} (h1 : (s || d || l) = true) (h2 : (s && g) = false) : ((!s && !d && !l) || (s && g)) = false := by revert h1 h2; cases s <;> cases d <;> cases l <;> cases g <;> decide
theorem verF_bad {f : Int → Int} {n : Nat} {i run : Int} {gap : Bool} (hn : 0 < n) (h : ((!isS (f i) && !isD (f i) && !isL (f i)) || (isS (f i) && gap)) = true) : verF f n i run gap = false := by
  cases n with
  | zero => omega
  | succ n => simp only [verF]; rw [if_pos h]
theorem verF_run {f : Int → Int} {n : Nat} {i run : Int} {gap : Bool} (hn : 0 < n) (h9 : 9 < (if isD (f i) = true then run + 1 else 0)) : verF f n i run gap = false := by
  cases n with
  | zero => omega
  | succ n =>
    simp only [verF]
    by_cases q : ((!isS (f i) && !isD (f i) && !isL (f i)) || (isS (f i) && gap)) = true
    · rw [if_pos q]
    · rw [if_neg q, if_pos h9]
theorem verF_go {f : Int → Int} {n : Nat} {i run : Int} {gap : Bool} (hn : 0 < n) (h : ((!isS (f i) && !isD (f i) && !isL (f i)) || (isS (f i) && gap)) = false) (h9 : ¬ 9 < (if isD (f i) = true then run + 1 else 0)) : verF f n i run gap = verF f (n - 1) (i + 1) (if isD (f i) = true then run + 1 else 0) (isS (f i)) := by
  cases n with
  | zero => omega
  | succ n =>
    simp only [verF]
    rw [if_neg (by rw [h]; decide), if_neg h9]
    rfl
abbrev rm_Md_version : Room := { frames := 2, cells := 0, slots := 0, locals := 44 }
set_option maxRecDepth 100000 in
set_option maxHeartbeats 4000000 in
theorem c_Md_version {l : Launch} {Γ : rz_G} {h : rz_H} {x : Nat} {ad : Nat → Nat} {M : Nat → Int → Int} (hM : MdAt Γ h x ad M) (hw : mWF M) {t lo hi : Int} (ht : 0 ≤ t ∧ t < 126) (hlo : 0 ≤ lo ∧ lo ≤ 100) (hhi : -100 ≤ hi ∧ hi ≤ 100) : Ct l Γ x_Md_version y_Md_version rm_Md_version [.ref x, vi t, vi lo, vi hi] h (pE (bi (ver (mAt M t) lo hi)) h) := by
  refine rz_met (by decide) rfl rfl (Nat.le_of_ble_eq_true rfl) (fun K _ => ?_)
  refine rz_Leq [(0, .ref x), (1, vi t), (2, vi lo), (3, vi hi)] rfl ?_
  refine rz_iload_n 3 d_Md_version_0 rfl rfl ?_
  refine rz_iload_n 2 d_Md_version_1 rfl rfl ?_
  refine rz_isub d_Md_version_2 ?_
  refine rz_iconst d_Md_version_3 ?_
  refine rz_bipush (v := 12) d_Md_version_4 (by decide) ?_
  refine rz_callS (As := [vi (hi - lo), vi 1, vi 12]) (c_Md_in (by omega) ⟨by decide, by decide⟩ ⟨by decide, by decide⟩) m_Md_56 rfl rfl (Nat.le_of_ble_eq_true rfl) ⟨by decide, by decide⟩ ⟨by decide, by decide⟩ d_Md_version_6 (kE (h := h) ?_)
  refine rz_if_neB 14 d_Md_version_9 (by decide) (fun c9 => ?_) (fun c9 => ?_)
  · refine rz_iconst d_Md_version_14 ?_
    refine rz_istore [(4, vi 0), (0, .ref x), (1, vi t), (2, vi lo), (3, vi hi)] d_Md_version_15 (by decide) rfl ?_
    refine rz_iconst d_Md_version_17 ?_
    refine rz_istore [(5, vi 1), (4, vi 0), (0, .ref x), (1, vi t), (2, vi lo), (3, vi hi)] d_Md_version_18 (by decide) rfl ?_
    refine rz_iload_n 4 d_Md_version_20 rfl rfl ?_
    refine rz_istore [(6, vi lo), (5, vi 1), (4, vi 0), (0, .ref x), (1, vi t), (2, vi lo), (3, vi hi)] d_Md_version_21 (by decide) rfl ?_
    refine rz_loop (α := Int × Int × Bool) 0 0 23 (fun (i, run, gap) => (hi - i).toNat) (fun (i, run, gap) => lo ≤ i ∧ i ≤ hi ∧ 0 ≤ run ∧ run ≤ 9 ∧ verF (mAt M t) (hi - lo).toNat lo 0 true = verF (mAt M t) (hi - i).toNat i run gap) (fun (i, run, gap) => [(6, vi i), (5, vi (bi gap)), (4, vi run), (0, .ref x), (1, vi t), (2, vi lo), (3, vi hi)]) (fun (i, run, gap) => []) (fun (i, run, gap) => h) (fun y hy ih23 => ?_) (fun LP => ?_)
    · obtain ⟨i, run, gap⟩ := y
      try dsimp only at hy ih23 ⊢
      obtain ⟨hi0, hi1, hr0, hr1, hv⟩ := hy
      refine rz_iload 0 d_Md_version_23 rfl ?_
      refine rz_iload_n 6 d_Md_version_25 rfl rfl ?_
      refine rz_icmp_ge 129 d_Md_version_26 (by decide) (by omega) (by omega) (fun c26 => ?_) (fun c26 => ?_)
      · refine rz_iload 1 d_Md_version_129 rfl ?_
        refine rz_if_neB 138 d_Md_version_131 (by decide) (fun c131 => ?_) (fun c131 => ?_)
        · refine rz_iconst d_Md_version_138 ?_
          exact rz_zreturn (st := []) (ty := .boolean) rfl rfl d_Md_version_139 ⟨by decide, by decide⟩ ⟨_, rfl, bi0 (by rw [ver, hv, show (hi - i).toNat = 0 by omega]; simp [verF, *]), rfl⟩
        · refine rz_iconst d_Md_version_134 ?_
          refine rz_goto 139 d_Md_version_135 (by decide) ?_
          exact rz_zreturn (st := []) (ty := .boolean) rfl rfl d_Md_version_139 ⟨by decide, by decide⟩ ⟨_, rfl, bi1 (by rw [ver, hv, show (hi - i).toNat = 0 by omega]; simp [verF, *]), rfl⟩
      · refine rz_aload_n 3 d_Md_version_29 rfl rfl ?_
        refine rz_iload_n 4 d_Md_version_30 rfl rfl ?_
        refine rz_iload 0 d_Md_version_31 rfl ?_
        refine rz_callV (As := [vi t, vi i]) (c_Md_at hM hw ht (by omega)) m_Md_74 hM.1 rfl rfl rfl rfl (Nat.le_of_ble_eq_true rfl) ⟨by decide, by decide⟩ ⟨by decide, by decide⟩ d_Md_version_33 (kE (h := h) ?_)
        refine rz_top (fun c e_c => ?_)
        replace e_c := e_c.symm
        refine rz_istore [(7, vi c), (6, vi i), (5, vi (bi gap)), (4, vi run), (0, .ref x), (1, vi t), (2, vi lo), (3, vi hi)] d_Md_version_36 (by decide) rfl ?_
        refine rz_cut (α := Unit) 0 0 57 (fun _ => True) (fun _ => [(7, vi c), (6, vi i), (5, vi (bi gap)), (4, vi run), (0, .ref x), (1, vi t), (2, vi lo), (3, vi hi)]) (fun _ => [vi (bi (isS c))]) (fun _ => h) (fun _ _ => ?_) (fun J57 => ?_)
        · refine rz_istore [(8, vi (bi (isS c))), (7, vi c), (6, vi i), (5, vi (bi gap)), (4, vi run), (0, .ref x), (1, vi t), (2, vi lo), (3, vi hi)] d_Md_version_57 (by decide) rfl ?_
          refine rz_cut (α := Unit) 0 0 80 (fun _ => (isS c || isD c || isL c) = true) (fun _ => [(8, vi (bi (isS c))), (7, vi c), (6, vi i), (5, vi (bi gap)), (4, vi run), (0, .ref x), (1, vi t), (2, vi lo), (3, vi hi)]) (fun _ => []) (fun _ => h) (fun _ k80 => ?_) (fun J80 => ?_)
          · refine rz_cut (α := Unit) 0 0 92 (fun _ => (isS c && gap) = false) (fun _ => [(8, vi (bi (isS c))), (7, vi c), (6, vi i), (5, vi (bi gap)), (4, vi run), (0, .ref x), (1, vi t), (2, vi lo), (3, vi hi)]) (fun _ => []) (fun _ => h) (fun _ k92 => ?_) (fun J92 => ?_)
            · refine rz_iload 0 d_Md_version_92 rfl ?_
              refine rz_istore [(5, vi (bi (isS c))), (8, vi (bi (isS c))), (7, vi c), (6, vi i), (4, vi run), (0, .ref x), (1, vi t), (2, vi lo), (3, vi hi)] d_Md_version_94 (by decide) rfl ?_
              refine rz_cut (α := Unit) 0 0 112 (fun _ => True) (fun _ => [(5, vi (bi (isS c))), (8, vi (bi (isS c))), (7, vi c), (6, vi i), (4, vi run), (0, .ref x), (1, vi t), (2, vi lo), (3, vi hi)]) (fun _ => [vi (if isD c = true then run + 1 else 0)]) (fun _ => h) (fun _ _ => ?_) (fun J112 => ?_)
              · refine rz_top (fun rn e_rn => ?_)
                replace e_rn := e_rn.symm
                refine rz_istore [(4, vi rn), (5, vi (bi (isS c))), (8, vi (bi (isS c))), (7, vi c), (6, vi i), (0, .ref x), (1, vi t), (2, vi lo), (3, vi hi)] d_Md_version_112 (by decide) rfl ?_
                refine rz_iload 0 d_Md_version_114 rfl ?_
                refine rz_bipush (v := 9) d_Md_version_116 (by decide) ?_
                refine rz_icmp_le 123 d_Md_version_118 (by decide) (by rw [← e_rn]; split <;> omega) ⟨by decide, by decide⟩ (fun c118 => ?_) (fun c118 => ?_)
                · refine rz_iinc (i + 1) 4 [(6, vi (i + 1)), (4, vi rn), (5, vi (bi (isS c))), (8, vi (bi (isS c))), (7, vi c), (0, .ref x), (1, vi t), (2, vi lo), (3, vi hi)] d_Md_version_123 rfl (by first | rfl | omega) (by decide) rfl ?_
                  refine rz_goto 23 d_Md_version_126 (by decide) ?_
                  refine rz_Lsub [(6, vi (i + 1)), (5, vi (bi (isS c))), (4, vi rn), (0, .ref x), (1, vi t), (2, vi lo), (3, vi hi)] [0, 2, 1, 5, 6, 7, 8] rfl ?_
                  refine ih23 (i + 1, rn, isS c) ?_ ?_
                  · try dsimp only
                    exact ⟨by omega, by omega, (by rw [← e_rn]; split <;> omega), by omega, (by rw [hv, verF_go (by omega) (by rw [e_c]; exact vc_ok k80 k92) (by rw [e_c, e_rn]; omega), e_c, e_rn]; congr 1; omega)⟩
                  · exact (by first | omega | (dsimp only; omega))
                · refine rz_iconst d_Md_version_121 ?_
                  exact rz_zreturn (st := []) (ty := .boolean) rfl rfl d_Md_version_122 ⟨by decide, by decide⟩ ⟨_, rfl, bi0 (by rw [ver, hv, verF_run (by omega) (by rw [e_c, e_rn]; omega)]; simp), rfl⟩
              · refine rz_iload 2 d_Md_version_96 rfl ?_
                refine rz_callS (As := [vi c]) (c_Md_digit (by have := mAt_in hw ht i; omega)) m_Md_60 rfl rfl (Nat.le_of_ble_eq_true rfl) ⟨by decide, by decide⟩ ⟨by decide, by decide⟩ d_Md_version_98 (kE (h := h) ?_)
                refine rz_if_eqB 111 d_Md_version_101 (by decide) (fun c101 => ?_) (fun c101 => ?_)
                · refine rz_iconst d_Md_version_111 ?_
                  refine rz_Seq [vi (if isD c = true then run + 1 else 0)] (by rw [if_neg (by simp [*])]) ?_
                  exact J112 () trivial
                · refine rz_iload 4 d_Md_version_104 rfl ?_
                  refine rz_iconst d_Md_version_106 ?_
                  refine rz_iadd d_Md_version_107 ?_
                  refine rz_goto 112 d_Md_version_108 (by decide) ?_
                  refine rz_Seq [vi (if isD c = true then run + 1 else 0)] (by rw [if_pos (by simp [*])]) ?_
                  exact J112 () trivial
            · refine rz_iload 0 d_Md_version_80 rfl ?_
              refine rz_if_eqB 92 d_Md_version_82 (by decide) (fun c82 => ?_) (fun c82 => ?_)
              · exact J92 () (by simp [*])
              · refine rz_iload 3 d_Md_version_85 rfl ?_
                refine rz_if_eqB 92 d_Md_version_87 (by decide) (fun c87 => ?_) (fun c87 => ?_)
                · exact J92 () (by simp [*])
                · refine rz_iconst d_Md_version_90 ?_
                  exact rz_zreturn (st := []) (ty := .boolean) rfl rfl d_Md_version_91 ⟨by decide, by decide⟩ ⟨_, rfl, bi0 (by rw [ver, hv, verF_bad (by omega) (by rw [e_c]; simp [*])]; simp), rfl⟩
          · refine rz_iload 0 d_Md_version_59 rfl ?_
            refine rz_if_neB 80 d_Md_version_61 (by decide) (fun c61 => ?_) (fun c61 => ?_)
            · exact J80 () (by simp [*])
            · refine rz_iload 1 d_Md_version_64 rfl ?_
              refine rz_callS (As := [vi c]) (c_Md_digit (by have := mAt_in hw ht i; omega)) m_Md_60 rfl rfl (Nat.le_of_ble_eq_true rfl) ⟨by decide, by decide⟩ ⟨by decide, by decide⟩ d_Md_version_66 (kE (h := h) ?_)
              refine rz_if_neB 80 d_Md_version_69 (by decide) (fun c69 => ?_) (fun c69 => ?_)
              · exact J80 () (by simp [*])
              · refine rz_iload 1 d_Md_version_72 rfl ?_
                refine rz_callS (As := [vi c]) (c_Md_letter (by have := mAt_in hw ht i; omega)) m_Md_64 rfl rfl (Nat.le_of_ble_eq_true rfl) ⟨by decide, by decide⟩ ⟨by decide, by decide⟩ d_Md_version_74 (kE (h := h) ?_)
                refine rz_if_eqB 90 d_Md_version_77 (by decide) (fun c77 => ?_) (fun c77 => ?_)
                · refine rz_iconst d_Md_version_90 ?_
                  exact rz_zreturn (st := []) (ty := .boolean) rfl rfl d_Md_version_91 ⟨by decide, by decide⟩ ⟨_, rfl, bi0 (by rw [ver, hv, verF_bad (by omega) (by rw [e_c]; simp [*])]; simp), rfl⟩
                · exact J80 () (by simp [*])
        · refine rz_iload 0 d_Md_version_38 rfl ?_
          refine rz_bipush (v := 46) d_Md_version_40 (by decide) ?_
          refine rz_icmp_eq 52 d_Md_version_42 (by decide) (by have := mAt_in hw ht i; omega) ⟨by decide, by decide⟩ (fun c42 => ?_) (fun c42 => ?_)
          · refine rz_iconst d_Md_version_52 ?_
            refine rz_goto 57 d_Md_version_53 (by decide) ?_
            refine rz_Seq [vi (bi (isS c))] (by rw [show isS c = true from by simp [isS, *]]; rfl) ?_
            exact J57 () trivial
          · refine rz_iload 0 d_Md_version_45 rfl ?_
            refine rz_bipush (v := 45) d_Md_version_47 (by decide) ?_
            refine rz_icmp_ne 56 d_Md_version_49 (by decide) (by have := mAt_in hw ht i; omega) ⟨by decide, by decide⟩ (fun c49 => ?_) (fun c49 => ?_)
            · refine rz_iconst d_Md_version_56 ?_
              refine rz_Seq [vi (bi (isS c))] (by rw [show isS c = false from by simp [isS, *]]; rfl) ?_
              exact J57 () trivial
            · refine rz_iconst d_Md_version_52 ?_
              refine rz_goto 57 d_Md_version_53 (by decide) ?_
              refine rz_Seq [vi (bi (isS c))] (by rw [show isS c = true from by simp [isS, *]]; rfl) ?_
              exact J57 () trivial
    · refine rz_Lsub [(6, vi lo), (5, vi 1), (4, vi 0), (0, .ref x), (1, vi t), (2, vi lo), (3, vi hi)] [0, 1, 2, 3, 4, 5, 6] rfl ?_
      refine LP (lo, 0, true) ?_
      try dsimp only
      exact ⟨by omega, (by have := mIn_t.mp c9; omega), by decide, by decide, rfl⟩
  · refine rz_iconst d_Md_version_12 ?_
    exact rz_zreturn (st := []) (ty := .boolean) rfl rfl d_Md_version_13 ⟨by decide, by decide⟩ ⟨_, rfl, bi0 (by simp [ver, c9]), rfl⟩

/-! the reference: rank, unask -/
/-- where the k-th item is looked for -/
def rkP (f : Int → Int) (n : Int) : Nat → Int
  | 0 => 0
  | k + 1 => if itS f (rkP f n k) n < n then itE f (rkP f n k) n else n
theorem rkP_in (f : Int → Int) {n : Int} (hn : 0 ≤ n) : ∀ k, 0 ≤ rkP f n k ∧ rkP f n k ≤ n
  | 0 => by simp [rkP]; omega
  | k + 1 => by
    have ih := rkP_in f hn k
    have h1 := itS_in f (rkP f n k) n
    have h2 := itE_in f (rkP f n k) n
    simp only [rkP]
    split <;> omega
def sp_rankR (f : Int → Int) (n i : Int) : Int := if i < 0 ∨ 12 < i then 6 else ordR f (rkP f n i.toNat) n
def sp_rank (M : Nat → Int → Int) (i : Int) : Int × (Nat → Int → Int) := if ver (mAt M 0) 0 (M 1 0) = true then (sp_rankR (mAt M 0) (M 1 0) i, mUse M) else (-3, mUse M)
abbrev rm_Md_rank : Room := { frames := 5, cells := 0, slots := 0, locals := 119 }
set_option maxRecDepth 100000 in
set_option maxHeartbeats 4000000 in
theorem c_Md_rank {l : Launch} {Γ : rz_G} {h : rz_H} {x : Nat} {ad : Nat → Nat} {M : Nat → Int → Int} (hM : MdAt Γ h x ad M) (hw : mWF M) {i : Int} (ri : -2147483648 ≤ i ∧ i ≤ 2147483647) : Ct l Γ x_Md_rank y_Md_rank rm_Md_rank [.ref x, vi i] h (pI (fun r' h' => r' = (sp_rank M i).1 ∧ ∃ M', MdAt Γ h' x ad M' ∧ mS2 (sp_rank M i).2 M' ∧ rz_fr [10, 11] h h')) := by
  refine rz_met (by decide) rfl rfl (Nat.le_of_ble_eq_true rfl) (fun K _ => ?_)
  refine rz_Leq [(0, .ref x), (1, vi i)] rfl ?_
  have hlen := hw.1 0 (by omega) (by omega)
  refine rz_aload_n 0 d_Md_rank_0 rfl rfl ?_
  refine rz_iconst d_Md_rank_1 ?_
  refine rz_iconst d_Md_rank_2 ?_
  refine rz_aload_n 0 d_Md_rank_3 rfl rfl ?_
  refine rz_getf f_Md_13 hM.1 rfl d_Md_rank_4 ?_
  refine rz_iconst d_Md_rank_7 ?_
  refine rz_iaload (md_a1 hM) (by decide) (by omega) d_Md_rank_8 ?_
  refine rz_callV (As := [vi 0, vi 0, vi (M 1 0)]) (c_Md_version hM hw (by omega) (by omega) (by omega)) m_Md_143 hM.1 rfl rfl rfl rfl (Nat.le_of_ble_eq_true rfl) ⟨by decide, by decide⟩ ⟨by decide, by decide⟩ d_Md_rank_9 (kE (h := h) ?_)
  refine rz_if_neB 22 d_Md_rank_12 (by decide) (fun c12 => ?_) (fun c12 => ?_)
  · refine rz_iconst d_Md_rank_22 ?_
    refine rz_istore_n [(2, vi 0), (0, .ref x), (1, vi i)] d_Md_rank_23 rfl (by decide) rfl ?_
    refine rz_iconst d_Md_rank_24 ?_
    refine rz_istore_n [(3, vi 1), (2, vi 0), (0, .ref x), (1, vi i)] d_Md_rank_25 rfl (by decide) rfl ?_
    refine rz_iconst d_Md_rank_26 ?_
    refine rz_istore [(4, vi 0), (3, vi 1), (2, vi 0), (0, .ref x), (1, vi i)] d_Md_rank_27 (by decide) rfl ?_
    refine rz_loop (α := Int × Int × Bool × rz_H × (Nat → Int → Int)) 0 0 29 (fun (k, p, th, hA, MA) => (13 - k).toNat) (fun (k, p, th, hA, MA) => 0 ≤ k ∧ k ≤ 13 ∧ (k ≤ i + 1 ∨ k = 0) ∧ p = rkP (mAt M 0) (M 1 0) k.toNat ∧ MdAt Γ hA x ad MA ∧ mS2 M MA ∧ rz_fr [10, 11] h hA ∧ (0 < k → MA 17 0 = itS (mAt M 0) (rkP (mAt M 0) (M 1 0) (k - 1).toNat) (M 1 0) ∧ MA 18 0 = itE (mAt M 0) (rkP (mAt M 0) (M 1 0) (k - 1).toNat) (M 1 0) ∧ th = decide (itS (mAt M 0) (rkP (mAt M 0) (M 1 0) (k - 1).toNat) (M 1 0) < M 1 0))) (fun (k, p, th, hA, MA) => [(4, vi k), (3, vi (bi th)), (2, vi p), (0, .ref x), (1, vi i)]) (fun (k, p, th, hA, MA) => []) (fun (k, p, th, hA, MA) => hA) (fun y hy ih29 => ?_) (fun LP => ?_)
    · obtain ⟨k, p, th, hA, MA⟩ := y
      try dsimp only at hy ih29 ⊢
      obtain ⟨hk0, hk1, hki, hp, hMA, hSA, hFA, ht1⟩ := hy
      have hwA := mS2_wf hSA hw
      have ip := rkP_in (mAt M 0) (n := M 1 0) (by omega) k.toNat
      rw [← hp] at ip
      refine rz_iload 0 d_Md_rank_29 rfl ?_
      refine rz_cut (α := Unit) 0 0 79 (fun _ => 12 < k ∨ i < k) (fun _ => [(4, vi k), (3, vi (bi th)), (2, vi p), (0, .ref x), (1, vi i)]) (fun _ => []) (fun _ => hA) (fun _ k79 => ?_) (fun J79 => ?_)
      · refine rz_aload_n 3 d_Md_rank_79 rfl rfl ?_
        refine rz_iload_n 4 d_Md_rank_80 rfl rfl ?_
        refine rz_if_lt 90 d_Md_rank_81 (by decide) (by omega) (fun c81 => ?_) (fun c81 => ?_)
        · refine rz_bipush (v := 6) d_Md_rank_90 (by decide) ?_
          refine rz_goto 101 d_Md_rank_92 (by decide) ?_
          refine rz_callV (As := [vi 6]) (c_Md_used hMA) m_Md_153 hMA.1 rfl rfl rfl rfl (Nat.le_of_ble_eq_true rfl) ⟨by decide, by decide⟩ ⟨by decide, by decide⟩ d_Md_rank_101 (kI (h := hA) fun r1 h1 q1 => ?_)
          obtain ⟨rfl, hM1, hF1⟩ := q1
          have hS1 := mS2_use hSA
          have hG1 := hFA.tr hF1
          exact rz_ireturn (st := []) rfl d_Md_rank_104 ⟨by decide, by decide⟩ ⟨_, rfl, (by rw [sp_rank, if_pos c12]; show _ = sp_rankR _ _ _; rw [sp_rankR, if_pos (by omega)]), (mu MA 1 (rz_u (MA 1) 0 0)), hM1, (by rw [sp_rank, if_pos c12]; exact hS1), hG1⟩
        · refine rz_iload_n 4 d_Md_rank_84 rfl rfl ?_
          refine rz_bipush (v := 12) d_Md_rank_85 (by decide) ?_
          refine rz_icmp_le 95 d_Md_rank_87 (by decide) (by omega) ⟨by decide, by decide⟩ (fun c87 => ?_) (fun c87 => ?_)
          · have kp : 0 < k := by omega
            obtain ⟨s17, s18, eth⟩ := ht1 kp
            obtain ⟨aa, eaa⟩ : ∃ z, z = itS (mAt M 0) (rkP (mAt M 0) (M 1 0) (k - 1).toNat) (M 1 0) := ⟨_, rfl⟩
            obtain ⟨ee, eee⟩ : ∃ z, z = itE (mAt M 0) (rkP (mAt M 0) (M 1 0) (k - 1).toNat) (M 1 0) := ⟨_, rfl⟩
            have i0 := rkP_in (mAt M 0) (n := M 1 0) (by omega) (k - 1).toNat
            have i1 := itS_in (mAt M 0) (rkP (mAt M 0) (M 1 0) (k - 1).toNat) (M 1 0)
            have i2 := itE_in (mAt M 0) (rkP (mAt M 0) (M 1 0) (k - 1).toNat) (M 1 0)
            rw [← eaa] at s17 i1 i2 eth
            rw [← eee] at s18 i2
            refine rz_aload_n 3 d_Md_rank_95 rfl rfl ?_
            refine rz_iconst d_Md_rank_96 ?_
            refine rz_iload_n 1 d_Md_rank_97 rfl rfl ?_
            refine rz_callV (As := [vi 0, vi (bi th)]) (c_Md_rankOf hMA hwA (by omega) (by rw [s17]; omega) (by rw [s18]; omega)) m_Md_132 hMA.1 rfl rfl rfl rfl (Nat.le_of_ble_eq_true rfl) ⟨by decide, by decide⟩ ⟨by decide, by decide⟩ d_Md_rank_98 (kE (h := hA) ?_)
            rw [mS2_at hSA, s17, s18]
            refine rz_callV (As := [vi (if th = true then rkI (mAt M 0) aa ee else 6)]) (c_Md_used hMA) m_Md_153 hMA.1 rfl rfl rfl rfl (Nat.le_of_ble_eq_true rfl) ⟨by decide, by decide⟩ ⟨by decide, by decide⟩ d_Md_rank_101 (kI (h := hA) fun r2 h2 q2 => ?_)
            obtain ⟨rfl, hM2, hF2⟩ := q2
            have hS2 := mS2_use hSA
            have hG2 := hFA.tr hF2
            exact rz_ireturn (st := []) rfl d_Md_rank_104 ⟨by decide, by decide⟩ ⟨_, rfl, (by rw [sp_rank, if_pos c12]; show _ = sp_rankR _ _ _; rw [sp_rankR, if_neg (show ¬ (i < 0 ∨ 12 < i) by omega), ordR, ← show k - 1 = i by omega, eth, ← eaa, ← eee]; simp), (mu MA 1 (rz_u (MA 1) 0 0)), hM2, (by rw [sp_rank, if_pos c12]; exact hS2), hG2⟩
          · refine rz_bipush (v := 6) d_Md_rank_90 (by decide) ?_
            refine rz_goto 101 d_Md_rank_92 (by decide) ?_
            refine rz_callV (As := [vi 6]) (c_Md_used hMA) m_Md_153 hMA.1 rfl rfl rfl rfl (Nat.le_of_ble_eq_true rfl) ⟨by decide, by decide⟩ ⟨by decide, by decide⟩ d_Md_rank_101 (kI (h := hA) fun r3 h3 q3 => ?_)
            obtain ⟨rfl, hM3, hF3⟩ := q3
            have hS3 := mS2_use hSA
            have hG3 := hFA.tr hF3
            exact rz_ireturn (st := []) rfl d_Md_rank_104 ⟨by decide, by decide⟩ ⟨_, rfl, (by rw [sp_rank, if_pos c12]; show _ = sp_rankR _ _ _; rw [sp_rankR, if_pos (by omega)]), (mu MA 1 (rz_u (MA 1) 0 0)), hM3, (by rw [sp_rank, if_pos c12]; exact hS3), hG3⟩
      · refine rz_bipush (v := 12) d_Md_rank_31 (by decide) ?_
        refine rz_icmp_gt 79 d_Md_rank_33 (by decide) (by omega) ⟨by decide, by decide⟩ (fun c33 => ?_) (fun c33 => ?_)
        · exact J79 () (by omega)
        · refine rz_iload 0 d_Md_rank_36 rfl ?_
          refine rz_iload_n 4 d_Md_rank_38 rfl rfl ?_
          refine rz_icmp_gt 79 d_Md_rank_39 (by decide) (by omega) (by omega) (fun c39 => ?_) (fun c39 => ?_)
          · exact J79 () (by omega)
          · refine rz_aload_n 3 d_Md_rank_42 rfl rfl ?_
            refine rz_iconst d_Md_rank_43 ?_
            refine rz_iload_n 2 d_Md_rank_44 rfl rfl ?_
            refine rz_aload_n 3 d_Md_rank_45 rfl rfl ?_
            refine rz_getf f_Md_13 hMA.1 rfl d_Md_rank_46 ?_
            refine rz_iconst d_Md_rank_49 ?_
            refine rz_iaload (md_a1 hMA) (by decide) (by omega) d_Md_rank_50 ?_
            rw [hSA 1 (by decide) (by decide)]
            refine rz_callV (As := [vi 0, vi p, vi (M 1 0)]) (c_Md_item hMA hwA (by omega) (by omega) (by omega)) m_Md_129 hMA.1 rfl rfl rfl rfl (Nat.le_of_ble_eq_true rfl) ⟨by decide, by decide⟩ ⟨by decide, by decide⟩ d_Md_rank_51 (kI (h := hA) fun r4 h4 q4 => ?_)
            obtain ⟨rfl, hM4, hF4⟩ := q4
            obtain ⟨a, ea⟩ : ∃ z, z = itS (mAt M 0) p (M 1 0) := ⟨_, rfl⟩
            obtain ⟨ae, eae⟩ : ∃ z, z = itE (mAt M 0) p (M 1 0) := ⟨_, rfl⟩
            have ia := itS_in (mAt M 0) p (M 1 0)
            have iae := itE_in (mAt M 0) p (M 1 0)
            rw [mS2_at hSA, ← ea, ← eae] at hM4
            rw [← ea] at ia
            rw [← ea, ← eae] at iae
            rw [mS2_at hSA, ← ea]
            obtain ⟨xb, exb⟩ : ∃ z, z = decide (a < M 1 0) := ⟨_, rfl⟩
            rw [← exb]
            obtain ⟨M4, eM4⟩ : ∃ z, z = mu (mu MA 17 (fun _ => a)) 18 (fun _ => ae) := ⟨_, rfl⟩
            rw [← eM4] at hM4
            have hS4 : mS2 M M4 := by rw [eM4]; exact mS2_it hSA _ _
            have s174 : M4 17 0 = a := by rw [eM4]; rfl
            have s184 : M4 18 0 = ae := by rw [eM4]; rfl
            have hw4 := mS2_wf hS4 hw
            have hG4 := hFA.tr hF4
            refine rz_istore_n [(3, vi (bi xb)), (4, vi k), (2, vi p), (0, .ref x), (1, vi i)] d_Md_rank_54 rfl (by decide) rfl ?_
            refine rz_cut (α := Unit) 0 0 72 (fun _ => True) (fun _ => [(3, vi (bi xb)), (4, vi k), (2, vi p), (0, .ref x), (1, vi i)]) (fun _ => [vi (if a < M 1 0 then ae else M 1 0)]) (fun _ => h4) (fun _ _ => ?_) (fun J72 => ?_)
            · refine rz_istore_n [(2, vi (if a < M 1 0 then ae else M 1 0)), (3, vi (bi xb)), (4, vi k), (0, .ref x), (1, vi i)] d_Md_rank_72 rfl (by decide) rfl ?_
              refine rz_iinc (k + 1) 2 [(4, vi (k + 1)), (2, vi (if a < M 1 0 then ae else M 1 0)), (3, vi (bi xb)), (0, .ref x), (1, vi i)] d_Md_rank_73 rfl (by first | rfl | omega) (by decide) rfl ?_
              refine rz_goto 29 d_Md_rank_76 (by decide) ?_
              refine rz_Lsub [(4, vi (k + 1)), (3, vi (bi xb)), (2, vi (if a < M 1 0 then ae else M 1 0)), (0, .ref x), (1, vi i)] [0, 2, 1, 3, 4] rfl ?_
              refine ih29 (k + 1, if a < M 1 0 then ae else M 1 0, xb, h4, M4) ?_ ?_
              · try dsimp only
                exact ⟨by omega, by omega, by omega, (by rw [show (k + 1).toNat = k.toNat + 1 by omega, rkP, ← hp, ← ea, ← eae]), hM4, hS4, hG4, (fun _ => by rw [show k + 1 - 1 = k by omega, ← hp, ← ea, ← eae]; exact ⟨s174, s184, exb⟩)⟩
              · exact (by first | omega | (dsimp only; omega))
            · refine rz_iload_n 0 d_Md_rank_55 rfl rfl ?_
              refine rz_if_eqB 66 d_Md_rank_56 (by decide) (fun c56 => ?_) (fun c56 => ?_)
              · refine rz_aload_n 3 d_Md_rank_66 rfl rfl ?_
                refine rz_getf f_Md_13 hM4.1 rfl d_Md_rank_67 ?_
                refine rz_iconst d_Md_rank_70 ?_
                refine rz_iaload (md_a1 hM4) (by decide) (by omega) d_Md_rank_71 ?_
                rw [hS4 1 (by decide) (by decide)]
                refine rz_Seq [vi (if a < M 1 0 then ae else M 1 0)] (by rw [if_neg (by simpa [c56] using exb)]) ?_
                exact J72 () trivial
              · refine rz_aload_n 3 d_Md_rank_59 rfl rfl ?_
                refine rz_getf f_Md_82 hM4.1 rfl d_Md_rank_60 ?_
                refine rz_Seq [vi ae] (by rw [← s184]) ?_
                refine rz_goto 72 d_Md_rank_63 (by decide) ?_
                refine rz_Seq [vi (if a < M 1 0 then ae else M 1 0)] (by rw [if_pos (by simpa [c56] using exb)]) ?_
                exact J72 () trivial
    · refine rz_Lsub [(4, vi 0), (3, vi 1), (2, vi 0), (0, .ref x), (1, vi i)] [0, 1, 2, 3, 4] rfl ?_
      refine LP (0, 0, true, h, M) ?_
      try dsimp only
      exact ⟨by omega, by omega, by omega, rfl, hM, mS2.rf, rz_fr.rf, (fun q => absurd q (by omega))⟩
  · refine rz_aload_n 0 d_Md_rank_15 rfl rfl ?_
    refine rz_bipush (v := (-3)) d_Md_rank_16 (by decide) ?_
    refine rz_callV (As := [vi (-3)]) (c_Md_used hM) m_Md_153 hM.1 rfl rfl rfl rfl (Nat.le_of_ble_eq_true rfl) ⟨by decide, by decide⟩ ⟨by decide, by decide⟩ d_Md_rank_18 (kI (h := h) fun r5 h5 q5 => ?_)
    obtain ⟨rfl, hM5, hF5⟩ := q5
    have hS5 := mS2_use (mS2.rf (M := M))
    have hG5 := (rz_fr.rf (rs := [10, 11]) (h := h)).tr hF5
    exact rz_ireturn (st := []) rfl d_Md_rank_21 ⟨by decide, by decide⟩ ⟨_, rfl, (by rw [sp_rank, if_neg (by simp [*])]), (mu M 1 (rz_u (M 1) 0 0)), hM5, (by rw [sp_rank, if_neg (by simp [*])]; exact hS5), hG5⟩
/-- the asks behind a are moved one place on, up to b -/
def uaS (M : Nat → Int → Int) (a b : Int) : Nat → Int → Int := mu (mu (mu M 9 (fun j => if a ≤ j ∧ j < b then M 9 (j + 1) else M 9 j)) 1 (fun j => if a + 2 ≤ j ∧ j < b + 2 then M 1 (j + 1) else M 1 j)) 0 (fun j => if 48 + 24 * a ≤ j ∧ j < 48 + 24 * b then M 0 (j + 24) else M 0 j)
def sp_unask (M : Nat → Int → Int) (a : Int) : Int × (Nat → Int → Int) := if mIn a 0 (M 8 0 - 1) = true then (M 8 0 - 1, uaS (mu M 8 (fun _ => M 8 0 - 1)) a (M 8 0 - 1)) else (-1, M)
theorem uaS_0 (M : Nat → Int → Int) (a : Int) : uaS M a a = M := by
  funext k j
  unfold uaS mu
  split
  · rename_i e; subst e; exact if_neg (by omega)
  · split
    · rename_i e; subst e; exact if_neg (by omega)
    · split
      · rename_i e; subst e; exact if_neg (by omega)
      · rfl
/-- the row of ask b is half moved: i places of its text -/
def uaT (M : Nat → Int → Int) (a b i : Int) : Nat → Int → Int := mu (mu (mu M 9 (fun j => if a ≤ j ∧ j < b + 1 then M 9 (j + 1) else M 9 j)) 1 (fun j => if a + 2 ≤ j ∧ j < b + 3 then M 1 (j + 1) else M 1 j)) 0 (fun j => if 48 + 24 * a ≤ j ∧ j < 48 + 24 * b + i then M 0 (j + 24) else M 0 j)
theorem uaT_24 (M : Nat → Int → Int) (a b : Int) : uaT M a b 24 = uaS M a (b + 1) := by
  unfold uaT uaS
  rw [show 48 + 24 * b + 24 = 48 + 24 * (b + 1) by omega, show b + 1 + 2 = b + 3 by omega]
theorem uaT_0 (M : Nat → Int → Int) {a b : Int} (hab : a ≤ b) : mu (mu (uaS M a b) 9 (rz_u (uaS M a b 9) b (uaS M a b 9 (b + 1)))) 1 (rz_u (mu (uaS M a b) 9 (rz_u (uaS M a b 9) b (uaS M a b 9 (b + 1))) 1) (2 + b) (mu (uaS M a b) 9 (rz_u (uaS M a b 9) b (uaS M a b 9 (b + 1))) 1 (3 + b))) = uaT M a b 0 := by
  funext k j
  by_cases k1 : k = 1
  · subst k1
    rw [mu_s]
    show rz_u (fun j => if a + 2 ≤ j ∧ j < b + 2 then M 1 (j + 1) else M 1 j) (2 + b) (if a + 2 ≤ 3 + b ∧ 3 + b < b + 2 then M 1 (3 + b + 1) else M 1 (3 + b)) j = (if a + 2 ≤ j ∧ j < b + 3 then M 1 (j + 1) else M 1 j)
    by_cases e : j = 2 + b
    · subst e
      rw [rz_u_s, if_neg (by omega), if_pos (by omega)]
      congr 1
      omega
    · rw [rz_u_n e]
      by_cases q : a + 2 ≤ j ∧ j < b + 2
      · rw [if_pos q, if_pos (by omega)]
      · rw [if_neg q, if_neg (by omega)]
  · rw [mu_n k1]
    by_cases k9 : k = 9
    · subst k9
      rw [mu_s]
      show rz_u (fun j => if a ≤ j ∧ j < b then M 9 (j + 1) else M 9 j) b (if a ≤ b + 1 ∧ b + 1 < b then M 9 (b + 1 + 1) else M 9 (b + 1)) j = (if a ≤ j ∧ j < b + 1 then M 9 (j + 1) else M 9 j)
      by_cases e : j = b
      · subst e
        rw [rz_u_s, if_neg (by omega), if_pos (by omega)]
      · rw [rz_u_n e]
        by_cases q : a ≤ j ∧ j < b
        · rw [if_pos q, if_pos (by omega)]
        · rw [if_neg q, if_neg (by omega)]
    · rw [mu_n k9]
      by_cases k0 : k = 0
      · subst k0
        show (if 48 + 24 * a ≤ j ∧ j < 48 + 24 * b then M 0 (j + 24) else M 0 j) = (if 48 + 24 * a ≤ j ∧ j < 48 + 24 * b + 0 then M 0 (j + 24) else M 0 j)
        rw [show 48 + 24 * b + 0 = 48 + 24 * b by omega]
      · unfold uaS uaT
        rw [mu_n k0, mu_n k1, mu_n k9, mu_n k0, mu_n k1, mu_n k9]
theorem uaT_s (M : Nat → Int → Int) {a b i : Int} (hab : a ≤ b) (hi : 0 ≤ i ∧ i < 24) : mu (uaT M a b i) 0 (rz_u (uaT M a b i 0) (48 + 24 * b + i) (uaT M a b i 0 (72 + 24 * b + i))) = uaT M a b (i + 1) := by
  unfold uaT
  rw [mu_mu, mu_s]
  congr 1
  funext j
  by_cases e : j = 48 + 24 * b + i
  · subst e
    rw [rz_u_s, if_neg (by omega), if_pos (by omega)]
    congr 1
    omega
  · rw [rz_u_n e]
    by_cases q : 48 + 24 * a ≤ j ∧ j < 48 + 24 * b + i
    · rw [if_pos q, if_pos (by omega)]
    · rw [if_neg q, if_neg (by omega)]
abbrev rm_Md_unask : Room := { frames := 1, cells := 0, slots := 0, locals := 22 }
set_option maxRecDepth 100000 in
set_option maxHeartbeats 4000000 in
theorem c_Md_unask {l : Launch} {Γ : rz_G} {h : rz_H} {x : Nat} {ad : Nat → Nat} {M : Nat → Int → Int} (hM : MdAt Γ h x ad M) (hw : mWF M) {a : Int} (ra : -2147483648 ≤ a ∧ a ≤ 2147483647) : Ct l Γ x_Md_unask y_Md_unask rm_Md_unask [.ref x, vi a] h (pI (fun r' h' => r' = (sp_unask M a).1 ∧ ∃ M', MdAt Γ h' x ad M' ∧ mS2 (sp_unask M a).2 M' ∧ rz_fr [10, 11] h h')) := by
  refine rz_met (by decide) rfl rfl (Nat.le_of_ble_eq_true rfl) (fun K _ => ?_)
  refine rz_Leq [(0, .ref x), (1, vi a)] rfl ?_
  have l8 := hw.2.2.2.2.2.1
  refine rz_iload_n 1 d_Md_unask_0 rfl rfl ?_
  refine rz_iconst d_Md_unask_1 ?_
  refine rz_aload_n 0 d_Md_unask_2 rfl rfl ?_
  refine rz_getf f_Md_167 hM.1 rfl d_Md_unask_3 ?_
  refine rz_iconst d_Md_unask_6 ?_
  refine rz_isub d_Md_unask_7 ?_
  refine rz_callS (As := [vi a, vi 0, vi ((M 8 0) - 1)]) (c_Md_in (by omega) ⟨by decide, by decide⟩ (by omega)) m_Md_56 rfl rfl (Nat.le_of_ble_eq_true rfl) ⟨by decide, by decide⟩ ⟨by decide, by decide⟩ d_Md_unask_8 (kE (h := h) ?_)
  refine rz_if_neB 16 d_Md_unask_11 (by decide) (fun c11 => ?_) (fun c11 => ?_)
  · have n1 := mIn_t.mp c11
    refine rz_aload_n 0 d_Md_unask_16 rfl rfl ?_
    refine rz_dup d_Md_unask_17 rfl ?_
    refine rz_getf f_Md_167 hM.1 rfl d_Md_unask_18 ?_
    refine rz_iconst d_Md_unask_21 ?_
    refine rz_isub d_Md_unask_22 ?_
    refine md_ps8 hM rz_fr.rf (fp_Md_167 _) d_Md_unask_23 (fun h1 hM1 hF1 => ?_)
    refine rz_iload_n 1 d_Md_unask_26 rfl rfl ?_
    refine rz_istore_n [(2, vi a), (0, .ref x), (1, vi a)] d_Md_unask_27 rfl (by decide) rfl ?_
    refine rz_loop (α := Int × rz_H) 0 0 28 (fun (b, hA) => (M 8 0 - 1 - b).toNat) (fun (b, hA) => a ≤ b ∧ b ≤ M 8 0 - 1 ∧ MdAt Γ hA x ad (uaS (mu M 8 (fun _ => M 8 0 - 1)) a b) ∧ rz_fr [10, 11] h hA) (fun (b, hA) => [(2, vi b), (0, .ref x), (1, vi a)]) (fun (b, hA) => []) (fun (b, hA) => hA) (fun y hy ih28 => ?_) (fun LP => ?_)
    · obtain ⟨b, hA⟩ := y
      try dsimp only at hy ih28 ⊢
      obtain ⟨hb0, hb1, hMA, hFA⟩ := hy
      refine rz_iload_n 0 d_Md_unask_28 rfl rfl ?_
      refine rz_aload_n 1 d_Md_unask_29 rfl rfl ?_
      refine rz_getf f_Md_167 hMA.1 rfl d_Md_unask_30 ?_
      refine rz_Seq [vi (M 8 0 - 1), vi b] rfl ?_
      refine rz_icmp_ge 114 d_Md_unask_33 (by decide) (by omega) (by omega) (fun c33 => ?_) (fun c33 => ?_)
      · refine rz_aload_n 1 d_Md_unask_114 rfl rfl ?_
        refine rz_getf f_Md_167 hMA.1 rfl d_Md_unask_115 ?_
        refine rz_Seq [vi (M 8 0 - 1)] rfl ?_
        exact rz_ireturn (st := []) rfl d_Md_unask_118 ⟨by decide, by decide⟩ ⟨_, rfl, (by rw [sp_unask, if_pos c11]), _, hMA, (by rw [sp_unask, if_pos c11, show b = M 8 0 - 1 by omega]; exact mS2.rf), hFA⟩
      · refine rz_aload_n 1 d_Md_unask_36 rfl rfl ?_
        refine rz_getf f_Md_35 hMA.1 rfl d_Md_unask_37 ?_
        refine rz_iload_n 0 d_Md_unask_40 rfl rfl ?_
        refine rz_aload_n 1 d_Md_unask_41 rfl rfl ?_
        refine rz_getf f_Md_35 hMA.1 rfl d_Md_unask_42 ?_
        refine rz_iload_n 0 d_Md_unask_45 rfl rfl ?_
        refine rz_iconst d_Md_unask_46 ?_
        refine rz_iadd d_Md_unask_47 ?_
        refine rz_iaload (md_a9 hMA) (by decide) (by omega) d_Md_unask_48 ?_
        refine md_st9 hMA hFA (by omega) d_Md_unask_49 (fun h2 hM2 hF2 => ?_)
        refine rz_aload_n 1 d_Md_unask_50 rfl rfl ?_
        refine rz_getf f_Md_13 hM2.1 rfl d_Md_unask_51 ?_
        refine rz_iconst d_Md_unask_54 ?_
        refine rz_iload_n 0 d_Md_unask_55 rfl rfl ?_
        refine rz_iadd d_Md_unask_56 ?_
        refine rz_aload_n 1 d_Md_unask_57 rfl rfl ?_
        refine rz_getf f_Md_13 hM2.1 rfl d_Md_unask_58 ?_
        refine rz_iconst d_Md_unask_61 ?_
        refine rz_iload_n 0 d_Md_unask_62 rfl rfl ?_
        refine rz_iadd d_Md_unask_63 ?_
        refine rz_iaload (md_a1 hM2) (by decide) (by omega) d_Md_unask_64 ?_
        refine md_st1 hM2 hF2 (by omega) d_Md_unask_65 (fun h3 hM3 hF3 => ?_)
        refine rz_iconst d_Md_unask_66 ?_
        refine rz_istore_n [(3, vi 0), (2, vi b), (0, .ref x), (1, vi a)] d_Md_unask_67 rfl (by decide) rfl ?_
        refine rz_loop (α := Int × rz_H) 0 0 68 (fun (i, hB) => (24 - i).toNat) (fun (i, hB) => 0 ≤ i ∧ i ≤ 24 ∧ MdAt Γ hB x ad (uaT (mu M 8 (fun _ => M 8 0 - 1)) a b i) ∧ rz_fr [10, 11] h hB) (fun (i, hB) => [(3, vi i), (2, vi b), (0, .ref x), (1, vi a)]) (fun (i, hB) => []) (fun (i, hB) => hB) (fun y hy ih68 => ?_) (fun LP => ?_)
        · obtain ⟨i, hB⟩ := y
          try dsimp only at hy ih68 ⊢
          obtain ⟨hi0, hi1, hMB, hFB⟩ := hy
          refine rz_iload_n 0 d_Md_unask_68 rfl rfl ?_
          refine rz_bipush (v := 24) d_Md_unask_69 (by decide) ?_
          refine rz_icmp_ge 108 d_Md_unask_71 (by decide) (by omega) ⟨by decide, by decide⟩ (fun c71 => ?_) (fun c71 => ?_)
          · refine rz_iinc (b + 1) 1 [(2, vi (b + 1)), (3, vi i), (0, .ref x), (1, vi a)] d_Md_unask_108 rfl (by first | rfl | omega) (by decide) rfl ?_
            refine rz_goto 28 d_Md_unask_111 (by decide) ?_
            refine rz_Lsub [(2, vi (b + 1)), (0, .ref x), (1, vi a)] [0, 2, 3] rfl ?_
            refine ih28 (b + 1, hB) ?_ ?_
            · try dsimp only
              exact ⟨by omega, by omega, (by have q := hMB; rw [show i = 24 by omega, uaT_24] at q; exact q), hFB⟩
            · exact (by first | omega | (dsimp only; omega))
          · refine rz_aload_n 2 d_Md_unask_74 rfl rfl ?_
            refine rz_getf f_Md_7 hMB.1 rfl d_Md_unask_75 ?_
            refine rz_bipush (v := 48) d_Md_unask_78 (by decide) ?_
            refine rz_bipush (v := 24) d_Md_unask_80 (by decide) ?_
            refine rz_iload_n 1 d_Md_unask_82 rfl rfl ?_
            refine rz_imul d_Md_unask_83 ?_
            refine rz_iadd d_Md_unask_84 ?_
            refine rz_iload_n 0 d_Md_unask_85 rfl rfl ?_
            refine rz_iadd d_Md_unask_86 ?_
            refine rz_aload_n 2 d_Md_unask_87 rfl rfl ?_
            refine rz_getf f_Md_7 hMB.1 rfl d_Md_unask_88 ?_
            refine rz_bipush (v := 72) d_Md_unask_91 (by decide) ?_
            refine rz_bipush (v := 24) d_Md_unask_93 (by decide) ?_
            refine rz_iload_n 1 d_Md_unask_95 rfl rfl ?_
            refine rz_imul d_Md_unask_96 ?_
            refine rz_iadd d_Md_unask_97 ?_
            refine rz_iload_n 0 d_Md_unask_98 rfl rfl ?_
            refine rz_iadd d_Md_unask_99 ?_
            refine rz_iaload (md_a0 hMB) (by decide) (by omega) d_Md_unask_100 ?_
            refine md_st0 hMB hFB (by omega) d_Md_unask_101 (fun h4 hM4 hF4 => ?_)
            refine rz_iinc (i + 1) 0 [(3, vi (i + 1)), (2, vi b), (0, .ref x), (1, vi a)] d_Md_unask_102 rfl (by first | rfl | omega) (by decide) rfl ?_
            refine rz_goto 68 d_Md_unask_105 (by decide) ?_
            refine rz_Lsub [(3, vi (i + 1)), (2, vi b), (0, .ref x), (1, vi a)] [0, 1, 2, 3] rfl ?_
            refine ih68 (i + 1, h4) ?_ ?_
            · try dsimp only
              exact ⟨by omega, by omega, (by have q := hM4; rw [uaT_s _ (by omega) (by omega)] at q; exact q), hF4⟩
            · exact (by first | omega | (dsimp only; omega))
        · refine rz_Lsub [(3, vi 0), (2, vi b), (0, .ref x), (1, vi a)] [0, 1, 2, 3] rfl ?_
          refine LP (0, h3) ?_
          try dsimp only
          exact ⟨by decide, by decide, (by have q := hM3; rw [uaT_0 _ (by omega)] at q; exact q), hF3⟩
    · refine rz_Lsub [(2, vi a), (0, .ref x), (1, vi a)] [0, 1, 2] rfl ?_
      refine LP (a, h1) ?_
      try dsimp only
      exact ⟨by omega, (by have := mIn_t.mp c11; omega), (by rw [uaS_0]; exact hM1), hF1⟩
  · refine rz_iconst d_Md_unask_14 ?_
    exact rz_ireturn (st := []) rfl d_Md_unask_15 ⟨by decide, by decide⟩ ⟨_, rfl, (by rw [sp_unask, if_neg (by simp [*])]), M, hM, (by rw [sp_unask, if_neg (by simp [*])]; exact mS2.rf), rz_fr.rf⟩

/-! the reference: ordered -/
/-- only the item's two numbers may differ -/
def mS2 (M M' : Nat → Int → Int) : Prop := ∀ k, k ≠ 17 → k ≠ 18 → M' k = M k
theorem mS2.rf {M : Nat → Int → Int} : mS2 M M := fun _ _ _ => rfl
theorem mS2.tr {M M1 M2 : Nat → Int → Int} (h1 : mS2 M M1) (h2 : mS2 M1 M2) : mS2 M M2 := fun k a b => (h2 k a b).trans (h1 k a b)
theorem mS2_at {M M' : Nat → Int → Int} (h : mS2 M M') (t : Int) : mAt M' t = mAt M t := by
  funext i
  unfold mAt
  rw [h 0 (by decide) (by decide), h 1 (by decide) (by decide)]
theorem mS2_it {M M' : Nat → Int → Int} (h : mS2 M M') (g g' : Int → Int) : mS2 M (mu (mu M' 17 g) 18 g') := fun k a b => by
  rw [mu_n b, mu_n a]
  exact h k a b
theorem mS2_wf {M M' : Nat → Int → Int} (h : mS2 M M') (hw : mWF M) : mWF M' := by
  unfold mWF
  rw [h 0 (by decide) (by decide), h 1 (by decide) (by decide), h 2 (by decide) (by decide), h 3 (by decide) (by decide), h 4 (by decide) (by decide), h 5 (by decide) (by decide), h 6 (by decide) (by decide), h 7 (by decide) (by decide), h 8 (by decide) (by decide), h 9 (by decide) (by decide), h 12 (by decide) (by decide), h 13 (by decide) (by decide), h 14 (by decide) (by decide), h 15 (by decide) (by decide)]
  exact hw
theorem itS_in (f : Int → Int) (p hi : Int) : p ≤ itS f p hi ∧ (itS f p hi ≤ hi ∨ itS f p hi = p) := by
  have := skF_in f (hi - p).toNat p
  unfold itS
  omega
theorem itE_in (f : Int → Int) (p hi : Int) : itS f p hi ≤ itE f p hi ∧ (itE f p hi ≤ hi ∨ itE f p hi = itS f p hi) := by
  have := ruF_in (itP f (itS f p hi)) f (hi - itS f p hi).toNat (itS f p hi)
  unfold itE
  omega
theorem numF_in {f : Int → Int} (hf : ∀ j, 0 ≤ f j ∧ f j ≤ 127) : ∀ (n : Nat) (i v b : Int), 0 ≤ b → -b ≤ v ∧ v ≤ b → -((b + 9) * 10 ^ n) ≤ numF f n i v ∧ numF f n i v ≤ (b + 9) * 10 ^ n
  | 0, i, v, b, hb, hv => by
    simp only [numF, Int.pow_zero, Int.mul_one]
    omega
  | n + 1, i, v, b, hb, hv => by
    have hc := hf i
    have ih := numF_in hf n (i + 1) (10 * v + f i - 48) (10 * b + 81) (by omega) (by omega)
    have e : (10 * b + 81 + 9) * (10 : Int) ^ n = (b + 9) * 10 ^ (n + 1) := by
      rw [Int.pow_succ, show 10 * b + 81 + 9 = (b + 9) * 10 by omega, Int.mul_assoc, Int.mul_comm 10]
    rw [e] at ih
    exact ih
theorem numF_9 {f : Int → Int} (hf : ∀ j, 0 ≤ f j ∧ f j ≤ 127) (a : Int) {n : Nat} (hn : n ≤ 9) : -100000000000 ≤ numF f n a 0 ∧ numF f n a 0 ≤ 100000000000 := by
  have h := numF_in hf n a 0 0 (by omega) (by omega)
  have h2 : (10 : Int) ^ n ≤ 10 ^ 9 := by exact_mod_cast Nat.pow_le_pow_right (n := 10) (by decide) hn
  have h3 : (10 : Int) ^ 9 = 1000000000 := by decide
  rw [h3] at h2
  generalize (10 : Int) ^ n = p at h h2
  omega
def cmp3 (m n : Int) : Int := if m < n then -1 else if n < m then 1 else 0
def ordR (f : Int → Int) (p n : Int) : Int := if itS f p n < n then rkI f (itS f p n) (itE f p n) else 6
def ordD (f g : Int → Int) (a ae b be r : Int) : Int := if r = 9 then cmp3 (numF f (ae - a).toNat a 0) (numF g (be - b).toNat b 0) else if r = 8 then wcp f g a ae b be else 0
def ordF (f g : Int → Int) (n1 hi : Int) : Nat → Int → Int → Int
  | 0, _, _ => 0
  | k + 1, p, q => if ¬ itS f p n1 < n1 ∧ ¬ itS g q hi < hi then 0 else if ordR f p n1 = ordR g q hi then (if ordD f g (itS f p n1) (itE f p n1) (itS g q hi) (itE g q hi) (ordR f p n1) = 0 then ordF f g n1 hi k (if itS f p n1 < n1 then itE f p n1 else n1) (if itS g q hi < hi then itE g q hi else hi) else ordD f g (itS f p n1) (itE f p n1) (itS g q hi) (itE g q hi) (ordR f p n1)) else if ordR f p n1 < ordR g q hi then -1 else 1
theorem ordF_e (f g : Int → Int) (n1 hi p q : Int) {n : Nat} (hn : 0 < n) : ordF f g n1 hi n p q = if ¬ itS f p n1 < n1 ∧ ¬ itS g q hi < hi then 0 else if ordR f p n1 = ordR g q hi then (if ordD f g (itS f p n1) (itE f p n1) (itS g q hi) (itE g q hi) (ordR f p n1) = 0 then ordF f g n1 hi (n - 1) (if itS f p n1 < n1 then itE f p n1 else n1) (if itS g q hi < hi then itE g q hi else hi) else ordD f g (itS f p n1) (itE f p n1) (itS g q hi) (itE g q hi) (ordR f p n1)) else if ordR f p n1 < ordR g q hi then -1 else 1 := by
  cases n with
  | zero => omega
  | succ n => rfl
/-- two texts compared: all of the first, lo .. hi of the second -/
def ord (f g : Int → Int) (n1 lo hi : Int) : Int := ordF f g n1 hi 13 0 lo
theorem ordD_in (f g : Int → Int) (a ae b be r : Int) : -1 ≤ ordD f g a ae b be r ∧ ordD f g a ae b be r ≤ 1 := by
  unfold ordD cmp3
  have := wcF_in f g a ae b be 101 0
  unfold wcp
  repeat' split
  all_goals omega
theorem ordF_in (f g : Int → Int) (n1 hi : Int) : ∀ (k : Nat) (p q : Int), -1 ≤ ordF f g n1 hi k p q ∧ ordF f g n1 hi k p q ≤ 1
  | 0, _, _ => by simp [ordF]
  | k + 1, p, q => by
    simp only [ordF]
    have h1 := ordD_in f g (itS f p n1) (itE f p n1) (itS g q hi) (itE g q hi) (ordR f p n1)
    by_cases q1 : ¬ itS f p n1 < n1 ∧ ¬ itS g q hi < hi
    · rw [if_pos q1]
      omega
    · rw [if_neg q1]
      by_cases q2 : ordR f p n1 = ordR g q hi
      · rw [if_pos q2]
        by_cases q3 : ordD f g (itS f p n1) (itE f p n1) (itS g q hi) (itE g q hi) (ordR f p n1) = 0
        · rw [if_pos q3]
          exact ordF_in f g n1 hi k _ _
        · rw [if_neg q3]
          exact h1
      · rw [if_neg q2]
        split <;> omega
abbrev rm_Md_ordered : Room := { frames := 5, cells := 0, slots := 0, locals := 119 }
set_option maxRecDepth 100000 in
set_option maxHeartbeats 4000000 in
theorem c_Md_ordered {l : Launch} {Γ : rz_G} {h : rz_H} {x : Nat} {ad : Nat → Nat} {M : Nat → Int → Int} (hM : MdAt Γ h x ad M) (hw : mWF M) {t u lo hi : Int} (ht : 0 ≤ t ∧ t < 126) (hu : 0 ≤ u ∧ u < 126) (hlo : 0 ≤ lo ∧ lo ≤ hi) (hhi : hi ≤ 100)
    (hN1 : ∀ p, 0 ≤ p → itS (mAt M t) p (M 1 t) < M 1 t → rkI (mAt M t) (itS (mAt M t) p (M 1 t)) (itE (mAt M t) p (M 1 t)) = 9 → itE (mAt M t) p (M 1 t) - itS (mAt M t) p (M 1 t) ≤ 9)
    (hN2 : ∀ p, lo ≤ p → itS (mAt M u) p hi < hi → rkI (mAt M u) (itS (mAt M u) p hi) (itE (mAt M u) p hi) = 9 → itE (mAt M u) p hi - itS (mAt M u) p hi ≤ 9) : Ct l Γ x_Md_ordered y_Md_ordered rm_Md_ordered [.ref x, vi t, vi u, vi lo, vi hi] h (pI (fun r h' => r = ord (mAt M t) (mAt M u) (M 1 t) lo hi ∧ ∃ M', MdAt Γ h' x ad M' ∧ mS2 M M' ∧ rz_fr [10, 11] h h')) := by
  refine rz_met (by decide) rfl rfl (Nat.le_of_ble_eq_true rfl) (fun K _ => ?_)
  refine rz_Leq [(0, .ref x), (1, vi t), (2, vi u), (3, vi lo), (4, vi hi)] rfl ?_
  have hlen := hw.1 t ht.1 ht.2
  refine rz_iconst d_Md_ordered_0 ?_
  refine rz_istore [(5, vi 0), (0, .ref x), (1, vi t), (2, vi u), (3, vi lo), (4, vi hi)] d_Md_ordered_1 (by decide) rfl ?_
  refine rz_iload_n 4 d_Md_ordered_3 rfl rfl ?_
  refine rz_istore [(6, vi lo), (5, vi 0), (0, .ref x), (1, vi t), (2, vi u), (3, vi lo), (4, vi hi)] d_Md_ordered_4 (by decide) rfl ?_
  refine rz_iconst d_Md_ordered_6 ?_
  refine rz_istore [(7, vi 0), (6, vi lo), (5, vi 0), (0, .ref x), (1, vi t), (2, vi u), (3, vi lo), (4, vi hi)] d_Md_ordered_7 (by decide) rfl ?_
  refine rz_loop (α := Int × Int × Int × rz_H × (Nat → Int → Int)) 0 0 9 (fun (k, p, q, hA, MA) => (13 - k).toNat) (fun (k, p, q, hA, MA) => 0 ≤ k ∧ k ≤ 13 ∧ (0 ≤ p ∧ p ≤ 100) ∧ lo ≤ q ∧ q ≤ 100 ∧ MdAt Γ hA x ad MA ∧ mS2 M MA ∧ rz_fr [10, 11] h hA ∧ ordF (mAt M t) (mAt M u) (M 1 t) hi 13 0 lo = ordF (mAt M t) (mAt M u) (M 1 t) hi (13 - k).toNat p q) (fun (k, p, q, hA, MA) => [(7, vi k), (5, vi p), (6, vi q), (0, .ref x), (1, vi t), (2, vi u), (3, vi lo), (4, vi hi)]) (fun (k, p, q, hA, MA) => []) (fun (k, p, q, hA, MA) => hA) (fun y hy ih9 => ?_) (fun LP => ?_)
  · obtain ⟨k, p, q, hA, MA⟩ := y
    try dsimp only at hy ih9 ⊢
    obtain ⟨hk0, hk1, hp0, hq0, hq1, hMA, hSA, hFA, hv⟩ := hy
    have hwA := mS2_wf hSA hw
    refine rz_iload 0 d_Md_ordered_9 rfl ?_
    refine rz_bipush (v := 13) d_Md_ordered_11 (by decide) ?_
    refine rz_icmp_ge 243 d_Md_ordered_13 (by decide) (by omega) ⟨by decide, by decide⟩ (fun c13 => ?_) (fun c13 => ?_)
    · refine rz_iconst d_Md_ordered_243 ?_
      exact rz_ireturn (st := []) rfl d_Md_ordered_244 ⟨by decide, by decide⟩ ⟨_, rfl, (by rw [ord, hv, show (13 - k).toNat = 0 by omega]; rfl), MA, hMA, hSA, hFA⟩
    · refine rz_aload_n 3 d_Md_ordered_16 rfl rfl ?_
      refine rz_iload_n 4 d_Md_ordered_17 rfl rfl ?_
      refine rz_iload 1 d_Md_ordered_18 rfl ?_
      refine rz_aload_n 3 d_Md_ordered_20 rfl rfl ?_
      refine rz_getf f_Md_13 hMA.1 rfl d_Md_ordered_21 ?_
      refine rz_iload_n 4 d_Md_ordered_24 rfl rfl ?_
      refine rz_iaload (md_a1 hMA) (by decide) (by omega) d_Md_ordered_25 ?_
      rw [hSA 1 (by decide) (by decide)]
      refine rz_callV (As := [vi t, vi p, vi (M 1 t)]) (c_Md_item hMA hwA ht (by omega) (by omega)) m_Md_129 hMA.1 rfl rfl rfl rfl (Nat.le_of_ble_eq_true rfl) ⟨by decide, by decide⟩ ⟨by decide, by decide⟩ d_Md_ordered_26 (kI (h := hA) fun r1 h1 q1 => ?_)
      obtain ⟨rfl, hM1, hF1⟩ := q1
      obtain ⟨a, ea⟩ : ∃ z, z = itS (mAt M t) p (M 1 t) := ⟨_, rfl⟩
      obtain ⟨ae, eae⟩ : ∃ z, z = itE (mAt M t) p (M 1 t) := ⟨_, rfl⟩
      have ia := itS_in (mAt M t) p (M 1 t)
      have iae := itE_in (mAt M t) p (M 1 t)
      rw [mS2_at hSA, ← ea, ← eae] at hM1
      rw [← ea] at ia
      rw [← ea, ← eae] at iae
      rw [mS2_at hSA, ← ea]
      obtain ⟨xb, exb⟩ : ∃ z, z = decide (a < M 1 t) := ⟨_, rfl⟩
      rw [← exb]
      obtain ⟨M1, eM1⟩ : ∃ z, z = mu (mu MA 17 (fun _ => a)) 18 (fun _ => ae) := ⟨_, rfl⟩
      rw [← eM1] at hM1
      have hS1 : mS2 M M1 := by rw [eM1]; exact mS2_it hSA _ _
      have s171 : M1 17 0 = a := by rw [eM1]; rfl
      have s181 : M1 18 0 = ae := by rw [eM1]; rfl
      have hw1 := mS2_wf hS1 hw
      have hG1 := hFA.tr hF1
      refine rz_istore [(8, vi (bi xb)), (7, vi k), (5, vi p), (6, vi q), (0, .ref x), (1, vi t), (2, vi u), (3, vi lo), (4, vi hi)] d_Md_ordered_29 (by decide) rfl ?_
      refine rz_aload_n 4 d_Md_ordered_31 rfl rfl ?_
      refine rz_getf f_Md_78 hM1.1 rfl d_Md_ordered_32 ?_
      refine rz_Seq [vi a] (by rw [← s171]) ?_
      refine rz_istore [(9, vi a), (8, vi (bi xb)), (7, vi k), (5, vi p), (6, vi q), (0, .ref x), (1, vi t), (2, vi u), (3, vi lo), (4, vi hi)] d_Md_ordered_35 (by decide) rfl ?_
      refine rz_aload_n 5 d_Md_ordered_37 rfl rfl ?_
      refine rz_getf f_Md_82 hM1.1 rfl d_Md_ordered_38 ?_
      refine rz_Seq [vi ae] (by rw [← s181]) ?_
      refine rz_istore [(10, vi ae), (9, vi a), (8, vi (bi xb)), (7, vi k), (5, vi p), (6, vi q), (0, .ref x), (1, vi t), (2, vi u), (3, vi lo), (4, vi hi)] d_Md_ordered_41 (by decide) rfl ?_
      refine rz_aload_n 6 d_Md_ordered_43 rfl rfl ?_
      refine rz_iload_n 7 d_Md_ordered_44 rfl rfl ?_
      refine rz_iload 2 d_Md_ordered_45 rfl ?_
      refine rz_callV (As := [vi t, vi (bi xb)]) (c_Md_rankOf hM1 hw1 ht (by rw [s171]; omega) (by rw [s181]; omega)) m_Md_132 hM1.1 rfl rfl rfl rfl (Nat.le_of_ble_eq_true rfl) ⟨by decide, by decide⟩ ⟨by decide, by decide⟩ d_Md_ordered_47 (kE (h := h1) ?_)
      rw [mS2_at hS1, s171, s181]
      refine rz_top (fun r e_r => ?_)
      replace e_r := e_r.symm
      refine rz_istore [(11, vi r), (10, vi ae), (9, vi a), (8, vi (bi xb)), (7, vi k), (5, vi p), (6, vi q), (0, .ref x), (1, vi t), (2, vi u), (3, vi lo), (4, vi hi)] d_Md_ordered_50 (by decide) rfl ?_
      refine rz_aload_n 7 d_Md_ordered_52 rfl rfl ?_
      refine rz_iload_n 9 d_Md_ordered_53 rfl rfl ?_
      refine rz_iload 6 d_Md_ordered_54 rfl ?_
      refine rz_iload 11 d_Md_ordered_56 rfl ?_
      refine rz_callV (As := [vi u, vi q, vi hi]) (c_Md_item hM1 hw1 hu (by omega) (by omega)) m_Md_129 hM1.1 rfl rfl rfl rfl (Nat.le_of_ble_eq_true rfl) ⟨by decide, by decide⟩ ⟨by decide, by decide⟩ d_Md_ordered_58 (kI (h := h1) fun r2 h2 q2 => ?_)
      obtain ⟨rfl, hM2, hF2⟩ := q2
      obtain ⟨b, eb⟩ : ∃ z, z = itS (mAt M u) q hi := ⟨_, rfl⟩
      obtain ⟨be, ebe⟩ : ∃ z, z = itE (mAt M u) q hi := ⟨_, rfl⟩
      have ib := itS_in (mAt M u) q hi
      have ibe := itE_in (mAt M u) q hi
      rw [mS2_at hS1, ← eb, ← ebe] at hM2
      rw [← eb] at ib
      rw [← eb, ← ebe] at ibe
      rw [mS2_at hS1, ← eb]
      obtain ⟨yb, eyb⟩ : ∃ z, z = decide (b < hi) := ⟨_, rfl⟩
      rw [← eyb]
      obtain ⟨M2, eM2⟩ : ∃ z, z = mu (mu M1 17 (fun _ => b)) 18 (fun _ => be) := ⟨_, rfl⟩
      rw [← eM2] at hM2
      have hS2 : mS2 M M2 := by rw [eM2]; exact mS2_it hS1 _ _
      have s172 : M2 17 0 = b := by rw [eM2]; rfl
      have s182 : M2 18 0 = be := by rw [eM2]; rfl
      have hw2 := mS2_wf hS2 hw
      have hG2 := hG1.tr hF2
      refine rz_istore [(12, vi (bi yb)), (11, vi r), (10, vi ae), (9, vi a), (8, vi (bi xb)), (7, vi k), (5, vi p), (6, vi q), (0, .ref x), (1, vi t), (2, vi u), (3, vi lo), (4, vi hi)] d_Md_ordered_61 (by decide) rfl ?_
      refine rz_aload_n 8 d_Md_ordered_63 rfl rfl ?_
      refine rz_iload_n 10 d_Md_ordered_64 rfl rfl ?_
      refine rz_iload 0 d_Md_ordered_65 rfl ?_
      refine rz_callV (As := [vi u, vi (bi yb)]) (c_Md_rankOf hM2 hw2 hu (by rw [s172]; omega) (by rw [s182]; omega)) m_Md_132 hM2.1 rfl rfl rfl rfl (Nat.le_of_ble_eq_true rfl) ⟨by decide, by decide⟩ ⟨by decide, by decide⟩ d_Md_ordered_67 (kE (h := h2) ?_)
      rw [mS2_at hS2, s172, s182]
      refine rz_top (fun s e_s => ?_)
      replace e_s := e_s.symm
      refine rz_istore [(13, vi s), (12, vi (bi yb)), (11, vi r), (10, vi ae), (9, vi a), (8, vi (bi xb)), (7, vi k), (5, vi p), (6, vi q), (0, .ref x), (1, vi t), (2, vi u), (3, vi lo), (4, vi hi)] d_Md_ordered_70 (by decide) rfl ?_
      have hr1 : ordR (mAt M t) p (M 1 t) = r := by rw [ordR, ← ea, ← eae, ← e_r, exb]; simp
      have hr2 : ordR (mAt M u) q hi = s := by rw [ordR, ← eb, ← ebe, ← e_s, eyb]; simp
      have ir : 1 ≤ r ∧ r ≤ 9 := by rw [← e_r]; split; exact rkI_in _ _ _; omega
      have is : 1 ≤ s ∧ s ≤ 9 := by rw [← e_s]; split; exact rkI_in _ _ _; omega
      refine rz_cut (α := Unit) 0 0 84 (fun _ => ¬ (¬ a < M 1 t ∧ ¬ b < hi)) (fun _ => [(13, vi s), (12, vi (bi yb)), (11, vi r), (10, vi ae), (9, vi a), (8, vi (bi xb)), (7, vi k), (5, vi p), (6, vi q), (0, .ref x), (1, vi t), (2, vi u), (3, vi lo), (4, vi hi)]) (fun _ => []) (fun _ => h2) (fun _ k84 => ?_) (fun J84 => ?_)
      · refine rz_iload 2 d_Md_ordered_84 rfl ?_
        refine rz_iload 0 d_Md_ordered_86 rfl ?_
        refine rz_icmp_eq 104 d_Md_ordered_88 (by decide) (by omega) (by omega) (fun c88 => ?_) (fun c88 => ?_)
        · refine rz_cut (α := Unit) 0 0 133 (fun _ => True) (fun _ => [(13, vi s), (12, vi (bi yb)), (11, vi r), (10, vi ae), (9, vi a), (8, vi (bi xb)), (7, vi k), (5, vi p), (6, vi q), (0, .ref x), (1, vi t), (2, vi u), (3, vi lo), (4, vi hi)]) (fun _ => [vi (if r = 8 then wcp (mAt M t) (mAt M u) a ae b be else 0)]) (fun _ => h2) (fun _ _ => ?_) (fun J133 => ?_)
          · refine rz_top (fun d1 e_d1 => ?_)
            replace e_d1 := e_d1.symm
            refine rz_istore [(14, vi d1), (13, vi s), (12, vi (bi yb)), (11, vi r), (10, vi ae), (9, vi a), (8, vi (bi xb)), (7, vi k), (5, vi p), (6, vi q), (0, .ref x), (1, vi t), (2, vi u), (3, vi lo), (4, vi hi)] d_Md_ordered_133 (by decide) rfl ?_
            refine rz_cut (α := Unit) 0 0 195 (fun _ => True) (fun _ => [(14, vi (ordD (mAt M t) (mAt M u) a ae b be r)), (13, vi s), (12, vi (bi yb)), (11, vi r), (10, vi ae), (9, vi a), (8, vi (bi xb)), (7, vi k), (5, vi p), (6, vi q), (0, .ref x), (1, vi t), (2, vi u), (3, vi lo), (4, vi hi)]) (fun _ => []) (fun _ => h2) (fun _ _ => ?_) (fun J195 => ?_)
            · refine rz_iload 0 d_Md_ordered_195 rfl ?_
              refine rz_if_eq 203 d_Md_ordered_197 (by decide) (by have := ordD_in (mAt M t) (mAt M u) a ae b be r; omega) (fun c197 => ?_) (fun c197 => ?_)
              · refine rz_cut (α := Unit) 0 0 219 (fun _ => True) (fun _ => [(14, vi (ordD (mAt M t) (mAt M u) a ae b be r)), (13, vi s), (12, vi (bi yb)), (11, vi r), (10, vi ae), (9, vi a), (8, vi (bi xb)), (7, vi k), (5, vi p), (6, vi q), (0, .ref x), (1, vi t), (2, vi u), (3, vi lo), (4, vi hi)]) (fun _ => [vi (if a < M 1 t then ae else M 1 t)]) (fun _ => h2) (fun _ _ => ?_) (fun J219 => ?_)
                · refine rz_istore [(5, vi (if a < M 1 t then ae else M 1 t)), (14, vi (ordD (mAt M t) (mAt M u) a ae b be r)), (13, vi s), (12, vi (bi yb)), (11, vi r), (10, vi ae), (9, vi a), (8, vi (bi xb)), (7, vi k), (6, vi q), (0, .ref x), (1, vi t), (2, vi u), (3, vi lo), (4, vi hi)] d_Md_ordered_219 (by decide) rfl ?_
                  refine rz_cut (α := Unit) 0 0 235 (fun _ => True) (fun _ => [(5, vi (if a < M 1 t then ae else M 1 t)), (14, vi (ordD (mAt M t) (mAt M u) a ae b be r)), (13, vi s), (12, vi (bi yb)), (11, vi r), (10, vi ae), (9, vi a), (8, vi (bi xb)), (7, vi k), (6, vi q), (0, .ref x), (1, vi t), (2, vi u), (3, vi lo), (4, vi hi)]) (fun _ => [vi (if b < hi then be else hi)]) (fun _ => h2) (fun _ _ => ?_) (fun J235 => ?_)
                  · refine rz_istore [(6, vi (if b < hi then be else hi)), (5, vi (if a < M 1 t then ae else M 1 t)), (14, vi (ordD (mAt M t) (mAt M u) a ae b be r)), (13, vi s), (12, vi (bi yb)), (11, vi r), (10, vi ae), (9, vi a), (8, vi (bi xb)), (7, vi k), (0, .ref x), (1, vi t), (2, vi u), (3, vi lo), (4, vi hi)] d_Md_ordered_235 (by decide) rfl ?_
                    refine rz_iinc (k + 1) 9 [(7, vi (k + 1)), (6, vi (if b < hi then be else hi)), (5, vi (if a < M 1 t then ae else M 1 t)), (14, vi (ordD (mAt M t) (mAt M u) a ae b be r)), (13, vi s), (12, vi (bi yb)), (11, vi r), (10, vi ae), (9, vi a), (8, vi (bi xb)), (0, .ref x), (1, vi t), (2, vi u), (3, vi lo), (4, vi hi)] d_Md_ordered_237 rfl (by first | rfl | omega) (by decide) rfl ?_
                    refine rz_goto 9 d_Md_ordered_240 (by decide) ?_
                    refine rz_Lsub [(7, vi (k + 1)), (5, vi (if a < M 1 t then ae else M 1 t)), (6, vi (if b < hi then be else hi)), (0, .ref x), (1, vi t), (2, vi u), (3, vi lo), (4, vi hi)] [0, 2, 1, 10, 11, 12, 13, 14] rfl ?_
                    refine ih9 (k + 1, (if a < M 1 t then ae else M 1 t), (if b < hi then be else hi), h2, M2) ?_ ?_
                    · try dsimp only
                      exact ⟨by omega, by omega, (by split <;> omega), (by split <;> omega), (by split <;> omega), hM2, hS2, hG2, (by rw [hv, ordF_e _ _ _ _ _ _ (by omega), if_neg (by rw [← ea, ← eb]; exact k84), hr1, hr2, ← ea, ← eae, ← eb, ← ebe, if_pos c88, if_pos c197]; congr 1; omega)⟩
                    · exact (by first | omega | (dsimp only; omega))
                  · refine rz_iload 3 d_Md_ordered_221 rfl ?_
                    refine rz_if_eqB 233 d_Md_ordered_223 (by decide) (fun c223 => ?_) (fun c223 => ?_)
                    · refine rz_iload 14 d_Md_ordered_233 rfl ?_
                      refine rz_Seq [vi (if b < hi then be else hi)] (by rw [if_neg (by simpa [c223] using eyb)]) ?_
                      exact J235 () trivial
                    · refine rz_aload_n 10 d_Md_ordered_226 rfl rfl ?_
                      refine rz_getf f_Md_82 hM2.1 rfl d_Md_ordered_227 ?_
                      refine rz_Seq [vi be] (by rw [← s182]) ?_
                      refine rz_goto 235 d_Md_ordered_230 (by decide) ?_
                      refine rz_Seq [vi (if b < hi then be else hi)] (by rw [if_pos (by simpa [c223] using eyb)]) ?_
                      exact J235 () trivial
                · refine rz_iload 6 d_Md_ordered_203 rfl ?_
                  refine rz_if_eqB 213 d_Md_ordered_205 (by decide) (fun c205 => ?_) (fun c205 => ?_)
                  · refine rz_aload_n 10 d_Md_ordered_213 rfl rfl ?_
                    refine rz_getf f_Md_13 hM2.1 rfl d_Md_ordered_214 ?_
                    refine rz_iload_n 11 d_Md_ordered_217 rfl rfl ?_
                    refine rz_iaload (md_a1 hM2) (by decide) (by omega) d_Md_ordered_218 ?_
                    rw [hS2 1 (by decide) (by decide)]
                    refine rz_Seq [vi (if a < M 1 t then ae else M 1 t)] (by rw [if_neg (by simpa [c205] using exb)]) ?_
                    exact J219 () trivial
                  · refine rz_iload 4 d_Md_ordered_208 rfl ?_
                    refine rz_goto 219 d_Md_ordered_210 (by decide) ?_
                    refine rz_Seq [vi (if a < M 1 t then ae else M 1 t)] (by rw [if_pos (by simpa [c205] using exb)]) ?_
                    exact J219 () trivial
              · refine rz_iload 0 d_Md_ordered_200 rfl ?_
                exact rz_ireturn (st := []) rfl d_Md_ordered_202 ⟨by decide, by decide⟩ ⟨_, rfl, (by rw [ord, hv, ordF_e _ _ _ _ _ _ (by omega), if_neg (by rw [← ea, ← eb]; exact k84), hr1, hr2, ← ea, ← eae, ← eb, ← ebe, if_pos c88, if_neg c197]), M2, hM2, hS2, hG2⟩
            · refine rz_iload 3 d_Md_ordered_135 rfl ?_
              refine rz_bipush (v := 9) d_Md_ordered_137 (by decide) ?_
              refine rz_icmp_ne 195 d_Md_ordered_139 (by decide) (by omega) ⟨by decide, by decide⟩ (fun c139 => ?_) (fun c139 => ?_)
              · refine rz_Lsub [(14, vi d1), (13, vi s), (12, vi (bi yb)), (11, vi r), (10, vi ae), (9, vi a), (8, vi (bi xb)), (7, vi k), (5, vi p), (6, vi q), (0, .ref x), (1, vi t), (2, vi u), (3, vi lo), (4, vi hi)] [0, 1, 2, 3, 4, 5, 6, 7, 8, 9, 10, 11, 12, 13, 14] rfl ?_
                refine rz_Leq [(14, vi (ordD (mAt M t) (mAt M u) a ae b be r)), (13, vi s), (12, vi (bi yb)), (11, vi r), (10, vi ae), (9, vi a), (8, vi (bi xb)), (7, vi k), (5, vi p), (6, vi q), (0, .ref x), (1, vi t), (2, vi u), (3, vi lo), (4, vi hi)] (by rw [ordD, if_neg c139, e_d1]) ?_
                exact J195 () trivial
              · have hxt : xb = true := by cases xb with | true => rfl | false => simp at e_r; omega
                have hyt : yb = true := by cases yb with | true => rfl | false => simp at e_s; omega
                have hl1 : ae - a ≤ 9 := by rw [ea, eae]; refine hN1 p (by omega) (by rw [← ea]; simpa [hxt] using exb) ?_; rw [← ea, ← eae]; rw [hxt] at e_r; simp at e_r; omega
                have hl2 : be - b ≤ 9 := by rw [eb, ebe]; refine hN2 q (by omega) (by rw [← eb]; simpa [hyt] using eyb) ?_; rw [← eb, ← ebe]; rw [hyt] at e_s; simp at e_s; omega
                refine rz_aload_n 10 d_Md_ordered_142 rfl rfl ?_
                refine rz_iload_n 11 d_Md_ordered_143 rfl rfl ?_
                refine rz_iload 5 d_Md_ordered_144 rfl ?_
                refine rz_iload 4 d_Md_ordered_146 rfl ?_
                refine rz_callV (As := [vi t, vi a, vi ae]) (c_Md_number hM2 hw2 ht (by omega) (by omega)) m_Md_140 hM2.1 rfl rfl rfl rfl (Nat.le_of_ble_eq_true rfl) ⟨by decide, by decide⟩ ⟨by decide, by decide⟩ d_Md_ordered_148 (kEL (h := h2) ?_)
                rw [mS2_at hS2]
                refine rz_topl (fun nm e_nm => ?_)
                replace e_nm := e_nm.symm
                refine rz_lstore [(15, vl nm), (14, vi d1), (13, vi s), (12, vi (bi yb)), (11, vi r), (10, vi ae), (9, vi a), (8, vi (bi xb)), (7, vi k), (5, vi p), (6, vi q), (0, .ref x), (1, vi t), (2, vi u), (3, vi lo), (4, vi hi)] d_Md_ordered_151 (by decide) rfl ?_
                refine rz_aload_n 11 d_Md_ordered_153 rfl rfl ?_
                refine rz_iload_n 13 d_Md_ordered_154 rfl rfl ?_
                refine rz_aload_n 11 d_Md_ordered_155 rfl rfl ?_
                refine rz_getf f_Md_78 hM2.1 rfl d_Md_ordered_156 ?_
                refine rz_Seq [vi b, vi u, .ref x] (by rw [← s172]) ?_
                refine rz_aload_n 11 d_Md_ordered_159 rfl rfl ?_
                refine rz_getf f_Md_82 hM2.1 rfl d_Md_ordered_160 ?_
                refine rz_Seq [vi be, vi b, vi u, .ref x] (by rw [← s182]) ?_
                refine rz_callV (As := [vi u, vi b, vi be]) (c_Md_number hM2 hw2 hu (by omega) (by omega)) m_Md_140 hM2.1 rfl rfl rfl rfl (Nat.le_of_ble_eq_true rfl) ⟨by decide, by decide⟩ ⟨by decide, by decide⟩ d_Md_ordered_163 (kEL (h := h2) ?_)
                rw [mS2_at hS2]
                refine rz_topl (fun nn e_nn => ?_)
                replace e_nn := e_nn.symm
                refine rz_lstore [(17, vl nn), (15, vl nm), (14, vi d1), (13, vi s), (12, vi (bi yb)), (11, vi r), (10, vi ae), (9, vi a), (8, vi (bi xb)), (7, vi k), (5, vi p), (6, vi q), (0, .ref x), (1, vi t), (2, vi u), (3, vi lo), (4, vi hi)] d_Md_ordered_166 (by decide) rfl ?_
                have inm := numF_9 (mAt_in hw ht) a (n := (ae - a).toNat) (by omega)
                have inn := numF_9 (mAt_in hw hu) b (n := (be - b).toNat) (by omega)
                rw [e_nm] at inm
                rw [e_nn] at inn
                refine rz_lload 1 d_Md_ordered_168 rfl ?_
                refine rz_lload 0 d_Md_ordered_170 rfl ?_
                refine rz_lcmp (by omega) (by omega) d_Md_ordered_172 ?_
                refine rz_if_geC 180 d_Md_ordered_173 (by decide) (fun c173 => ?_) (fun c173 => ?_)
                · refine rz_lload 1 d_Md_ordered_180 rfl ?_
                  refine rz_lload 0 d_Md_ordered_182 rfl ?_
                  refine rz_lcmp (by omega) (by omega) d_Md_ordered_184 ?_
                  refine rz_if_leC 192 d_Md_ordered_185 (by decide) (fun c185 => ?_) (fun c185 => ?_)
                  · refine rz_iconst d_Md_ordered_192 ?_
                    refine rz_istore [(14, vi 0), (17, vl nn), (15, vl nm), (13, vi s), (12, vi (bi yb)), (11, vi r), (10, vi ae), (9, vi a), (8, vi (bi xb)), (7, vi k), (5, vi p), (6, vi q), (0, .ref x), (1, vi t), (2, vi u), (3, vi lo), (4, vi hi)] d_Md_ordered_193 (by decide) rfl ?_
                    refine rz_Lsub [(14, vi 0), (13, vi s), (12, vi (bi yb)), (11, vi r), (10, vi ae), (9, vi a), (8, vi (bi xb)), (7, vi k), (5, vi p), (6, vi q), (0, .ref x), (1, vi t), (2, vi u), (3, vi lo), (4, vi hi)] [0, 3, 4, 5, 6, 7, 8, 9, 10, 11, 12, 13, 14, 15, 16] rfl ?_
                    refine rz_Leq [(14, vi (ordD (mAt M t) (mAt M u) a ae b be r)), (13, vi s), (12, vi (bi yb)), (11, vi r), (10, vi ae), (9, vi a), (8, vi (bi xb)), (7, vi k), (5, vi p), (6, vi q), (0, .ref x), (1, vi t), (2, vi u), (3, vi lo), (4, vi hi)] (by rw [ordD, if_pos c139, e_nm, e_nn, cmp3, if_neg (by omega), if_neg (by omega)]) ?_
                    exact J195 () trivial
                  · refine rz_iconst d_Md_ordered_188 ?_
                    refine rz_goto 193 d_Md_ordered_189 (by decide) ?_
                    refine rz_istore [(14, vi 1), (17, vl nn), (15, vl nm), (13, vi s), (12, vi (bi yb)), (11, vi r), (10, vi ae), (9, vi a), (8, vi (bi xb)), (7, vi k), (5, vi p), (6, vi q), (0, .ref x), (1, vi t), (2, vi u), (3, vi lo), (4, vi hi)] d_Md_ordered_193 (by decide) rfl ?_
                    refine rz_Lsub [(14, vi 1), (13, vi s), (12, vi (bi yb)), (11, vi r), (10, vi ae), (9, vi a), (8, vi (bi xb)), (7, vi k), (5, vi p), (6, vi q), (0, .ref x), (1, vi t), (2, vi u), (3, vi lo), (4, vi hi)] [0, 3, 4, 5, 6, 7, 8, 9, 10, 11, 12, 13, 14, 15, 16] rfl ?_
                    refine rz_Leq [(14, vi (ordD (mAt M t) (mAt M u) a ae b be r)), (13, vi s), (12, vi (bi yb)), (11, vi r), (10, vi ae), (9, vi a), (8, vi (bi xb)), (7, vi k), (5, vi p), (6, vi q), (0, .ref x), (1, vi t), (2, vi u), (3, vi lo), (4, vi hi)] (by rw [ordD, if_pos c139, e_nm, e_nn, cmp3, if_neg (by omega), if_pos (by omega)]) ?_
                    exact J195 () trivial
                · refine rz_iconst d_Md_ordered_176 ?_
                  refine rz_goto 193 d_Md_ordered_177 (by decide) ?_
                  refine rz_istore [(14, vi (-1)), (17, vl nn), (15, vl nm), (13, vi s), (12, vi (bi yb)), (11, vi r), (10, vi ae), (9, vi a), (8, vi (bi xb)), (7, vi k), (5, vi p), (6, vi q), (0, .ref x), (1, vi t), (2, vi u), (3, vi lo), (4, vi hi)] d_Md_ordered_193 (by decide) rfl ?_
                  refine rz_Lsub [(14, vi (-1)), (13, vi s), (12, vi (bi yb)), (11, vi r), (10, vi ae), (9, vi a), (8, vi (bi xb)), (7, vi k), (5, vi p), (6, vi q), (0, .ref x), (1, vi t), (2, vi u), (3, vi lo), (4, vi hi)] [0, 3, 4, 5, 6, 7, 8, 9, 10, 11, 12, 13, 14, 15, 16] rfl ?_
                  refine rz_Leq [(14, vi (ordD (mAt M t) (mAt M u) a ae b be r)), (13, vi s), (12, vi (bi yb)), (11, vi r), (10, vi ae), (9, vi a), (8, vi (bi xb)), (7, vi k), (5, vi p), (6, vi q), (0, .ref x), (1, vi t), (2, vi u), (3, vi lo), (4, vi hi)] (by rw [ordD, if_pos c139, e_nm, e_nn, cmp3, if_pos (by omega)]) ?_
                  exact J195 () trivial
          · refine rz_iload 2 d_Md_ordered_104 rfl ?_
            refine rz_bipush (v := 8) d_Md_ordered_106 (by decide) ?_
            refine rz_icmp_ne 132 d_Md_ordered_108 (by decide) (by omega) ⟨by decide, by decide⟩ (fun c108 => ?_) (fun c108 => ?_)
            · refine rz_iconst d_Md_ordered_132 ?_
              refine rz_Seq [vi (if r = 8 then wcp (mAt M t) (mAt M u) a ae b be else 0)] (by rw [if_neg c108]) ?_
              exact J133 () trivial
            · refine rz_aload_n 9 d_Md_ordered_111 rfl rfl ?_
              refine rz_iload_n 10 d_Md_ordered_112 rfl rfl ?_
              refine rz_iload 4 d_Md_ordered_113 rfl ?_
              refine rz_iload 3 d_Md_ordered_115 rfl ?_
              refine rz_iload_n 11 d_Md_ordered_117 rfl rfl ?_
              refine rz_aload_n 9 d_Md_ordered_118 rfl rfl ?_
              refine rz_getf f_Md_78 hM2.1 rfl d_Md_ordered_119 ?_
              refine rz_Seq [vi b, vi u, vi ae, vi a, vi t, .ref x] (by rw [← s172]) ?_
              refine rz_aload_n 9 d_Md_ordered_122 rfl rfl ?_
              refine rz_getf f_Md_82 hM2.1 rfl d_Md_ordered_123 ?_
              refine rz_Seq [vi be, vi b, vi u, vi ae, vi a, vi t, .ref x] (by rw [← s182]) ?_
              refine rz_callV (As := [vi t, vi a, vi ae, vi u, vi b, vi be]) (c_Md_words hM2 hw2 ht hu (by omega) (by omega) (by omega) (by omega)) m_Md_136 hM2.1 rfl rfl rfl rfl (Nat.le_of_ble_eq_true rfl) ⟨by decide, by decide⟩ ⟨by decide, by decide⟩ d_Md_ordered_126 (kE (h := h2) ?_)
              rw [mS2_at hS2, mS2_at hS2]
              refine rz_goto 133 d_Md_ordered_129 (by decide) ?_
              refine rz_Seq [vi (if r = 8 then wcp (mAt M t) (mAt M u) a ae b be else 0)] (by rw [if_pos c108]) ?_
              exact J133 () trivial
        · refine rz_iload 2 d_Md_ordered_91 rfl ?_
          refine rz_iload 0 d_Md_ordered_93 rfl ?_
          refine rz_icmp_ge 102 d_Md_ordered_95 (by decide) (by omega) (by omega) (fun c95 => ?_) (fun c95 => ?_)
          · refine rz_iconst d_Md_ordered_102 ?_
            exact rz_ireturn (st := []) rfl d_Md_ordered_103 ⟨by decide, by decide⟩ ⟨_, rfl, (by rw [ord, hv, ordF_e _ _ _ _ _ _ (by omega), if_neg (by rw [← ea, ← eb]; exact k84), hr1, hr2, if_neg c88, if_neg (by omega)]), M2, hM2, hS2, hG2⟩
          · refine rz_iconst d_Md_ordered_98 ?_
            refine rz_goto 103 d_Md_ordered_99 (by decide) ?_
            exact rz_ireturn (st := []) rfl d_Md_ordered_103 ⟨by decide, by decide⟩ ⟨_, rfl, (by rw [ord, hv, ordF_e _ _ _ _ _ _ (by omega), if_neg (by rw [← ea, ← eb]; exact k84), hr1, hr2, if_neg c88, if_pos (by omega)]), M2, hM2, hS2, hG2⟩
      · refine rz_iload 5 d_Md_ordered_72 rfl ?_
        refine rz_if_neB 84 d_Md_ordered_74 (by decide) (fun c74 => ?_) (fun c74 => ?_)
        · exact J84 () (by first | (have q := exb; rw [c74] at q; simp at q; omega) | (have q := eyb; rw [c79] at q; simp at q; omega))
        · refine rz_iload 1 d_Md_ordered_77 rfl ?_
          refine rz_if_neB 84 d_Md_ordered_79 (by decide) (fun c79 => ?_) (fun c79 => ?_)
          · exact J84 () (by first | (have q := exb; rw [c74] at q; simp at q; omega) | (have q := eyb; rw [c79] at q; simp at q; omega))
          · refine rz_iconst d_Md_ordered_82 ?_
            exact rz_ireturn (st := []) rfl d_Md_ordered_83 ⟨by decide, by decide⟩ ⟨_, rfl, (by rw [ord, hv, ordF_e _ _ _ _ _ _ (by omega), if_pos (by rw [← ea, ← eb]; simp [exb, eyb] at c74 c79; omega)]), M2, hM2, hS2, hG2⟩
  · refine rz_Lsub [(7, vi 0), (5, vi 0), (6, vi lo), (0, .ref x), (1, vi t), (2, vi u), (3, vi lo), (4, vi hi)] [0, 2, 1, 3, 4, 5, 6, 7] rfl ?_
    refine LP (0, 0, lo, h, M) ?_
    try dsimp only
    exact ⟨by omega, by omega, by omega, by omega, by omega, hM, mS2.rf, rz_fr.rf, rfl⟩

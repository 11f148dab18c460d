/-! the reference: ranked, meets, releaseGood -/
def mVal (M : Nat → Int → Int) : Prop := vOK M ∧ ver (mAt M 1) 0 (M 1 1) = true ∧ (∀ k, 0 ≤ k → k < 24 → ¬ M 4 k = 0 → rng (mAt M (30 + k)) (M 1 (30 + k)) = true) ∧ (∀ k j, 0 ≤ k → k < 24 → 0 ≤ j → j < M 5 k → rng (mAt M (54 + (3 * k + j))) (M 1 (54 + (3 * k + j))) = true) ∧ (∀ a, 0 ≤ a → a < M 8 0 → rng (mAt M (2 + a)) (M 1 (2 + a)) = true)
def nowOK (M : Nat → Int → Int) : Prop := ∀ p, 0 ≤ p → p < 6 → -1 ≤ M 11 p ∧ M 11 p < M 2 p
theorem mVal_S2 {M M' : Nat → Int → Int} (h : mS2 M M') (hv : mVal M) : mVal M' := by
  refine ⟨vOK_S2 h hv.1, ?_, ?_, ?_, ?_⟩
  · rw [mS2_at h, h 1 (by decide) (by decide)]; exact hv.2.1
  · intro k a b c; rw [mS2_at h, h 1 (by decide) (by decide)]; rw [h 4 (by decide) (by decide)] at c; exact hv.2.2.1 k a b c
  · intro k j a b c d; rw [mS2_at h, h 1 (by decide) (by decide)]; rw [h 5 (by decide) (by decide)] at d; exact hv.2.2.2.1 k j a b c d
  · intro a b c; rw [mS2_at h, h 1 (by decide) (by decide)]; rw [h 8 (by decide) (by decide)] at c; exact hv.2.2.2.2 a b c
theorem nowOK_S2 {M M' : Nat → Int → Int} (h : mS2 M M') (hv : nowOK M) : nowOK M' := by
  intro p a b; rw [h 11 (by decide) (by decide), h 2 (by decide) (by decide)]; exact hv p a b
def cmpR (M : Nat → Int → Int) (p s r : Int) : Int := ord (mAt M (6 + 4 * p + s)) (mAt M (6 + 4 * p + r)) (M 1 (6 + 4 * p + s)) 0 (M 1 (6 + 4 * p + r))
theorem ord_in (f g : Int → Int) (n1 lo hi : Int) : -1 ≤ ord f g n1 lo hi ∧ ord f g n1 lo hi ≤ 1 := ordF_in f g n1 hi 13 0 lo
/-- how many from s on, n of them, are greater than r -/
def gtF (M : Nat → Int → Int) (p r : Int) : Nat → Int → Int
  | 0, _ => 0
  | n + 1, s => (if 0 < cmpR M p s r then 1 else 0) + gtF M p r n (s + 1)
theorem gtF_go {M : Nat → Int → Int} {p r s : Int} {n : Nat} (hn : 0 < n) : gtF M p r n s = (if 0 < cmpR M p s r then 1 else 0) + gtF M p r (n - 1) (s + 1) := by
  cases n with
  | zero => omega
  | succ n => rfl
def gtr (M : Nat → Int → Int) (p r : Int) : Int := gtF M p r (M 2 p).toNat 0
def rdF (M : Nat → Int → Int) (p g : Int) : Nat → Int → Int
  | 0, _ => -1
  | n + 1, r => if gtr M p r = g then r else rdF M p g n (r + 1)
theorem rdF_hit {M : Nat → Int → Int} {p g r : Int} {n : Nat} (hn : 0 < n) (h : gtr M p r = g) : rdF M p g n r = r := by
  cases n with
  | zero => omega
  | succ n => simp only [rdF]; rw [if_pos h]
theorem rdF_go {M : Nat → Int → Int} {p g r : Int} {n : Nat} (hn : 0 < n) (h : ¬ gtr M p r = g) : rdF M p g n r = rdF M p g (n - 1) (r + 1) := by
  cases n with
  | zero => omega
  | succ n => simp only [rdF]; rw [if_neg h]; rfl
/-- the release of p that has just g greater ones, -1 if there is none -/
def rkd (M : Nat → Int → Int) (p g : Int) : Int := rdF M p g (M 2 p).toNat 0
abbrev rm_Md_ranked : Room := { frames := 7, cells := 0, slots := 0, locals := 179 }
set_option maxRecDepth 100000 in
set_option maxHeartbeats 4000000 in
theorem c_Md_ranked {l : Launch} {Γ : rz_G} {h : rz_H} {x : Nat} {ad : Nat → Nat} {M : Nat → Int → Int} (hM : MdAt Γ h x ad M) (hw : mWF M) (hvo : vOK M) {p g : Int} (hp : 0 ≤ p ∧ p < 6) (rg : -2147483648 ≤ g ∧ g ≤ 2147483647) : Ct l Γ x_Md_ranked y_Md_ranked rm_Md_ranked [.ref x, vi p, vi g] h (pI (fun r' h' => r' = rkd M p g ∧ ∃ M', MdAt Γ h' x ad M' ∧ mS2 M M' ∧ rz_fr [10, 11] h h')) := by
  refine rz_met (by decide) rfl rfl (Nat.le_of_ble_eq_true rfl) (fun K _ => ?_)
  refine rz_Leq [(0, .ref x), (1, vi p), (2, vi g)] rfl ?_
  have l2 := hw.2.2.1 p hp.1 hp.2
  refine rz_iconst d_Md_ranked_0 ?_
  refine rz_istore_n [(3, vi 0), (0, .ref x), (1, vi p), (2, vi g)] d_Md_ranked_1 rfl (by decide) rfl ?_
  refine rz_loop (α := Int × rz_H × (Nat → Int → Int)) 0 0 2 (fun (r, hA, MA) => (M 2 p - r).toNat) (fun (r, hA, MA) => 0 ≤ r ∧ r ≤ M 2 p ∧ MdAt Γ hA x ad MA ∧ mS2 M MA ∧ rz_fr [10, 11] h hA ∧ rdF M p g (M 2 p).toNat 0 = rdF M p g (M 2 p - r).toNat r) (fun (r, hA, MA) => [(3, vi r), (0, .ref x), (1, vi p), (2, vi g)]) (fun (r, hA, MA) => []) (fun (r, hA, MA) => hA) (fun y hy ih2 => ?_) (fun LP => ?_)
  · obtain ⟨r, hA, MA⟩ := y
    try dsimp only at hy ih2 ⊢
    obtain ⟨hr0, hr1, hMA, hSA, hFA, hv⟩ := hy
    have hwA := mS2_wf hSA hw
    refine rz_iload_n 0 d_Md_ranked_2 rfl rfl ?_
    refine rz_aload_n 1 d_Md_ranked_3 rfl rfl ?_
    refine rz_getf f_Md_16 hMA.1 rfl d_Md_ranked_4 ?_
    refine rz_iload_n 2 d_Md_ranked_7 rfl rfl ?_
    refine rz_iaload (md_a2 hMA) (by decide) (by omega) d_Md_ranked_8 ?_
    rw [hSA 2 (by decide) (by decide)]
    refine rz_icmp_ge 76 d_Md_ranked_9 (by decide) (by omega) (by omega) (fun c9 => ?_) (fun c9 => ?_)
    · refine rz_iconst d_Md_ranked_76 ?_
      exact rz_ireturn (st := []) rfl d_Md_ranked_77 ⟨by decide, by decide⟩ ⟨_, rfl, (by rw [rkd, hv, show (M 2 p - r).toNat = 0 by omega]; rfl), MA, hMA, hSA, hFA⟩
    · refine rz_iconst d_Md_ranked_12 ?_
      refine rz_istore [(4, vi 0), (3, vi r), (0, .ref x), (1, vi p), (2, vi g)] d_Md_ranked_13 (by decide) rfl ?_
      refine rz_iconst d_Md_ranked_15 ?_
      refine rz_istore [(5, vi 0), (4, vi 0), (3, vi r), (0, .ref x), (1, vi p), (2, vi g)] d_Md_ranked_16 (by decide) rfl ?_
      refine rz_loop (α := Int × Int × rz_H × (Nat → Int → Int)) 0 0 18 (fun (s, n, hB, MB) => (M 2 p - s).toNat) (fun (s, n, hB, MB) => 0 ≤ s ∧ s ≤ M 2 p ∧ (0 ≤ n ∧ n ≤ s) ∧ MdAt Γ hB x ad MB ∧ mS2 M MB ∧ rz_fr [10, 11] h hB ∧ gtF M p r (M 2 p).toNat 0 = n + gtF M p r (M 2 p - s).toNat s) (fun (s, n, hB, MB) => [(5, vi s), (4, vi n), (3, vi r), (0, .ref x), (1, vi p), (2, vi g)]) (fun (s, n, hB, MB) => []) (fun (s, n, hB, MB) => hB) (fun y hy ih18 => ?_) (fun LP => ?_)
      · obtain ⟨s, n, hB, MB⟩ := y
        try dsimp only at hy ih18 ⊢
        obtain ⟨hs0, hs1, hn0, hMB, hSB, hFB, hg⟩ := hy
        have hwB := mS2_wf hSB hw
        refine rz_iload 0 d_Md_ranked_18 rfl ?_
        refine rz_aload_n 3 d_Md_ranked_20 rfl rfl ?_
        refine rz_getf f_Md_16 hMB.1 rfl d_Md_ranked_21 ?_
        refine rz_iload_n 4 d_Md_ranked_24 rfl rfl ?_
        refine rz_iaload (md_a2 hMB) (by decide) (by omega) d_Md_ranked_25 ?_
        rw [hSB 2 (by decide) (by decide)]
        refine rz_icmp_ge 62 d_Md_ranked_26 (by decide) (by omega) (by omega) (fun c26 => ?_) (fun c26 => ?_)
        · refine rz_iload 1 d_Md_ranked_62 rfl ?_
          refine rz_iload_n 5 d_Md_ranked_64 rfl rfl ?_
          refine rz_icmp_ne 70 d_Md_ranked_65 (by decide) (by omega) (by omega) (fun c65 => ?_) (fun c65 => ?_)
          · refine rz_iinc (r + 1) 2 [(3, vi (r + 1)), (5, vi s), (4, vi n), (0, .ref x), (1, vi p), (2, vi g)] d_Md_ranked_70 rfl (by first | rfl | omega) (by decide) rfl ?_
            refine rz_goto 2 d_Md_ranked_73 (by decide) ?_
            refine rz_Lsub [(3, vi (r + 1)), (0, .ref x), (1, vi p), (2, vi g)] [0, 3, 4, 5] rfl ?_
            refine ih2 (r + 1, hB, MB) ?_ ?_
            · try dsimp only
              exact ⟨by omega, by omega, hMB, hSB, hFB, (by rw [hv, rdF_go (by omega) (by rw [gtr, hg, show (M 2 p - s).toNat = 0 by omega]; simp only [gtF]; omega)]; congr 1; omega)⟩
            · exact (by first | omega | (dsimp only; omega))
          · refine rz_iload_n 2 d_Md_ranked_68 rfl rfl ?_
            exact rz_ireturn (st := []) rfl d_Md_ranked_69 ⟨by decide, by decide⟩ ⟨_, rfl, (by rw [rkd, hv, rdF_hit (by omega) (by rw [gtr, hg, show (M 2 p - s).toNat = 0 by omega]; simp only [gtF]; omega)]), MB, hMB, hSB, hFB⟩
        · refine rz_aload_n 3 d_Md_ranked_29 rfl rfl ?_
          refine rz_bipush (v := 6) d_Md_ranked_30 (by decide) ?_
          refine rz_iconst d_Md_ranked_32 ?_
          refine rz_iload_n 4 d_Md_ranked_33 rfl rfl ?_
          refine rz_imul d_Md_ranked_34 ?_
          refine rz_iadd d_Md_ranked_35 ?_
          refine rz_iload 0 d_Md_ranked_36 rfl ?_
          refine rz_iadd d_Md_ranked_38 ?_
          refine rz_bipush (v := 6) d_Md_ranked_39 (by decide) ?_
          refine rz_iconst d_Md_ranked_41 ?_
          refine rz_iload_n 4 d_Md_ranked_42 rfl rfl ?_
          refine rz_imul d_Md_ranked_43 ?_
          refine rz_iadd d_Md_ranked_44 ?_
          refine rz_iload_n 2 d_Md_ranked_45 rfl rfl ?_
          refine rz_iadd d_Md_ranked_46 ?_
          refine rz_callV (As := [vi ((6 + (4 * p)) + s), vi ((6 + (4 * p)) + r)]) (c_Md_compareTexts hMB hwB (by omega) (by omega) (by rw [mS2_at hSB, hSB 1 (by decide) (by decide)]; exact hvo p s (by omega) (by omega) (by omega) (by omega)) (by rw [mS2_at hSB, hSB 1 (by decide) (by decide)]; exact hvo p r (by omega) (by omega) (by omega) (by omega))) m_Md_170 hMB.1 rfl rfl rfl rfl (Nat.le_of_ble_eq_true rfl) ⟨by decide, by decide⟩ ⟨by decide, by decide⟩ d_Md_ranked_47 (kI (h := hB) fun r1 h1 q1 => ?_)
          obtain ⟨rfl, M1, hM1, hT1, hF1⟩ := q1
          simp only [mS2_at hSB, hSB 1 (by decide) (by decide)]
          have hS1 := hSB.tr hT1
          have hw1 := mS2_wf hS1 hw
          have hG1 := hFB.tr hF1
          refine rz_if_le 56 d_Md_ranked_50 (by decide) (by have := ord_in (mAt M (6 + 4 * p + s)) (mAt M (6 + 4 * p + r)) (M 1 (6 + 4 * p + s)) 0 (M 1 (6 + 4 * p + r)); omega) (fun c50 => ?_) (fun c50 => ?_)
          · refine rz_iinc (s + 1) 0 [(5, vi (s + 1)), (4, vi n), (3, vi r), (0, .ref x), (1, vi p), (2, vi g)] d_Md_ranked_56 rfl (by first | rfl | omega) (by decide) rfl ?_
            refine rz_goto 18 d_Md_ranked_59 (by decide) ?_
            refine rz_Lsub [(5, vi (s + 1)), (4, vi n), (3, vi r), (0, .ref x), (1, vi p), (2, vi g)] [0, 1, 2, 3, 4, 5] rfl ?_
            refine ih18 (s + 1, n, h1, M1) ?_ ?_
            · try dsimp only
              exact ⟨by omega, by omega, by omega, hM1, hS1, hG1, (by rw [hg, gtF_go (by omega), cmpR, show (M 2 p - (s + 1)).toNat = (M 2 p - s).toNat - 1 by omega]; split <;> omega)⟩
            · exact (by first | omega | (dsimp only; omega))
          · refine rz_iinc (n + 1) 1 [(4, vi (n + 1)), (5, vi s), (3, vi r), (0, .ref x), (1, vi p), (2, vi g)] d_Md_ranked_53 rfl (by first | rfl | omega) (by decide) rfl ?_
            refine rz_iinc (s + 1) 1 [(5, vi (s + 1)), (4, vi (n + 1)), (3, vi r), (0, .ref x), (1, vi p), (2, vi g)] d_Md_ranked_56 rfl (by first | rfl | omega) (by decide) rfl ?_
            refine rz_goto 18 d_Md_ranked_59 (by decide) ?_
            refine rz_Lsub [(5, vi (s + 1)), (4, vi (n + 1)), (3, vi r), (0, .ref x), (1, vi p), (2, vi g)] [0, 1, 2, 3, 4, 5] rfl ?_
            refine ih18 (s + 1, n + 1, h1, M1) ?_ ?_
            · try dsimp only
              exact ⟨by omega, by omega, by omega, hM1, hS1, hG1, (by rw [hg, gtF_go (by omega), cmpR, show (M 2 p - (s + 1)).toNat = (M 2 p - s).toNat - 1 by omega]; split <;> omega)⟩
            · exact (by first | omega | (dsimp only; omega))
      · refine rz_Lsub [(5, vi 0), (4, vi 0), (3, vi r), (0, .ref x), (1, vi p), (2, vi g)] [0, 1, 2, 3, 4, 5] rfl ?_
        refine LP (0, 0, hA, MA) ?_
        try dsimp only
        exact ⟨by omega, by omega, by omega, hMA, hSA, hFA, (by rw [Int.zero_add]; congr 1; omega)⟩
  · refine rz_Lsub [(3, vi 0), (0, .ref x), (1, vi p), (2, vi g)] [0, 1, 2, 3] rfl ?_
    refine LP (0, h, M) ?_
    try dsimp only
    exact ⟨by omega, by omega, hM, mS2.rf, rz_fr.rf, (by congr 1; omega)⟩
def metP (M : Nat → Int → Int) (p t : Int) : Bool := decide (0 ≤ M 11 p) && inR (mAt M (6 + (4 * p + M 11 p))) (M 1 (6 + (4 * p + M 11 p))) (mAt M t) (M 1 t)
abbrev rm_Md_meets : Room := { frames := 7, cells := 0, slots := 0, locals := 184 }
set_option maxRecDepth 100000 in
set_option maxHeartbeats 4000000 in
theorem c_Md_meets {l : Launch} {Γ : rz_G} {h : rz_H} {x : Nat} {ad : Nat → Nat} {M : Nat → Int → Int} (hM : MdAt Γ h x ad M) (hw : mWF M) (hvo : vOK M) (hno : nowOK M) {p t : Int} (hp : 0 ≤ p ∧ p < 6) (ht : 0 ≤ t ∧ t < 126) (kt : rng (mAt M t) (M 1 t) = true) : Ct l Γ x_Md_meets y_Md_meets rm_Md_meets [.ref x, vi p, vi t] h (pI (fun r' h' => r' = bi (metP M p t) ∧ ∃ M', MdAt Γ h' x ad M' ∧ mS2 M M' ∧ rz_fr [10, 11] h h')) := by
  refine rz_met (by decide) rfl rfl (Nat.le_of_ble_eq_true rfl) (fun K _ => ?_)
  refine rz_Leq [(0, .ref x), (1, vi p), (2, vi t)] rfl ?_
  have l2 := hw.2.2.1 p hp.1 hp.2
  have l11 := hno p hp.1 hp.2
  refine rz_aload_n 0 d_Md_meets_0 rfl rfl ?_
  refine rz_getf f_Md_41 hM.1 rfl d_Md_meets_1 ?_
  refine rz_iload_n 1 d_Md_meets_4 rfl rfl ?_
  refine rz_iaload (md_a11 hM) (by decide) (by omega) d_Md_meets_5 ?_
  refine rz_if_lt 29 d_Md_meets_6 (by decide) (by omega) (fun c6 => ?_) (fun c6 => ?_)
  · refine rz_iconst d_Md_meets_29 ?_
    exact rz_zreturn (st := []) (ty := .boolean) rfl rfl d_Md_meets_30 ⟨by decide, by decide⟩ ⟨_, rfl, bi0 (by unfold metP; first | (rw [c22]; simp; done) | (simp; omega)), M, hM, (mS2.rf (M := M)), (rz_fr.rf (rs := [10, 11]) (h := h))⟩
  · refine rz_aload_n 0 d_Md_meets_9 rfl rfl ?_
    refine rz_bipush (v := 6) d_Md_meets_10 (by decide) ?_
    refine rz_aload_n 0 d_Md_meets_12 rfl rfl ?_
    refine rz_iload_n 1 d_Md_meets_13 rfl rfl ?_
    refine rz_callV (As := [vi p]) (c_Md_slot hM (by omega)) m_Md_176 hM.1 rfl rfl rfl rfl (Nat.le_of_ble_eq_true rfl) ⟨by decide, by decide⟩ ⟨by decide, by decide⟩ d_Md_meets_14 (kE (h := h) ?_)
    refine rz_iadd d_Md_meets_17 ?_
    refine rz_iload_n 2 d_Md_meets_18 rfl rfl ?_
    refine rz_callV (As := [vi (6 + (4 * p + M 11 p)), vi t]) (c_Md_inside hM hw (by omega) ht (by exact (by have q := hvo p (M 11 p) (by omega) (by omega) (by omega) (by omega); rw [show 6 + 4 * p + M 11 p = 6 + (4 * p + M 11 p) by omega] at q; exact q)) (by exact kt)) m_Md_173 hM.1 rfl rfl rfl rfl (Nat.le_of_ble_eq_true rfl) ⟨by decide, by decide⟩ ⟨by decide, by decide⟩ d_Md_meets_19 (kI (h := h) fun r1 h1 q1 => ?_)
    obtain ⟨rfl, M1, hM1, hT1, hF1⟩ := q1
    have hS1 := (mS2.rf (M := M)).tr hT1
    have hw1 := mS2_wf hS1 hw
    have hG1 := (rz_fr.rf (rs := [10, 11]) (h := h)).tr hF1
    refine rz_if_eqB 29 d_Md_meets_22 (by decide) (fun c22 => ?_) (fun c22 => ?_)
    · refine rz_iconst d_Md_meets_29 ?_
      exact rz_zreturn (st := []) (ty := .boolean) rfl rfl d_Md_meets_30 ⟨by decide, by decide⟩ ⟨_, rfl, bi0 (by unfold metP; first | (rw [c22]; simp; done) | (simp; omega)), M1, hM1, hS1, hG1⟩
    · refine rz_iconst d_Md_meets_25 ?_
      refine rz_goto 30 d_Md_meets_26 (by decide) ?_
      exact rz_zreturn (st := []) (ty := .boolean) rfl rfl d_Md_meets_30 ⟨by decide, by decide⟩ ⟨_, rfl, bi1 (by rw [metP, c22]; simp; omega), M1, hM1, hS1, hG1⟩

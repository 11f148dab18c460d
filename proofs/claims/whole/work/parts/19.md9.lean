/-! the reference: range, inside -/
theorem skF_at (f : Int → Int) : ∀ (n : Nat) (i : Int), skF f n i < i + n → (isD (f (skF f n i)) || isL (f (skF f n i))) = true
  | 0, i, h => by simp [skF] at h
  | n + 1, i, h => by
    by_cases q : (isD (f i) || isL (f i)) = true
    · rw [skF_hit q]
      exact q
    · have q' : (isD (f i) || isL (f i)) = false := by simpa using q
      rw [skF_go (by omega) q'] at h ⊢
      exact skF_at f n (i + 1) (by simp at h ⊢; omega)
theorem ruF_at (p : Int → Bool) (f : Int → Int) : ∀ (n : Nat) (i x : Int), i ≤ x → x < ruF p f n i → p (f x) = true
  | 0, i, x, h1, h2 => by simp [ruF] at h2; omega
  | n + 1, i, x, h1, h2 => by
    by_cases q : p (f i) = true
    · by_cases e : x = i
      · rw [e]; exact q
      · rw [ruF_go (by omega) q] at h2
        exact ruF_at p f n (i + 1) x (by omega) h2
    · have q' : p (f i) = false := by simpa using q
      rw [ruF_hit q'] at h2
      omega
theorem verF_digits (f : Int → Int) : ∀ (n : Nat) (i run : Int) (gap : Bool), verF f n i run gap = true → ∀ m : Nat, 1 ≤ m → m ≤ n → (∀ x : Nat, x < m → isD (f (i + x)) = true) → run + m ≤ 9
  | 0, i, run, gap, _, m, h1, h2, _ => by omega
  | n + 1, i, run, gap, h, m, h1, h2, hd => by
    have d0 : isD (f i) = true := by have := hd 0 (by omega); simpa using this
    by_cases h9 : 9 < (if isD (f i) = true then run + 1 else 0)
    · rw [verF_run (by omega) h9] at h
      exact absurd h (by decide)
    · by_cases hb : ((!isS (f i) && !isD (f i) && !isL (f i)) || (isS (f i) && gap)) = true
      · rw [verF_bad (by omega) hb] at h
        exact absurd h (by decide)
      · rw [verF_go (by omega) (by simpa using hb) h9] at h
        rw [if_pos d0] at h h9
        by_cases hm : m = 1
        · omega
        · have := verF_digits f n (i + 1) (run + 1) (isS (f i)) h (m - 1) (by omega) (by omega) (fun x hx => by
            have := hd (x + 1) (by omega)
            rw [show i + ((x + 1 : Nat) : Int) = i + 1 + (x : Int) by omega] at this
            exact this)
          omega
theorem verF_later (f : Int → Int) : ∀ (d n : Nat) (i run : Int) (gap : Bool), d ≤ n → 0 ≤ run → verF f n i run gap = true → ∃ (run' : Int) (gap' : Bool), 0 ≤ run' ∧ verF f (n - d) (i + d) run' gap' = true
  | 0, n, i, run, gap, _, hr, h => ⟨run, gap, hr, by simpa using h⟩
  | d + 1, n, i, run, gap, hd, hr, h => by
    by_cases h9 : 9 < (if isD (f i) = true then run + 1 else 0)
    · rw [verF_run (by omega) h9] at h
      exact absurd h (by decide)
    · by_cases hb : ((!isS (f i) && !isD (f i) && !isL (f i)) || (isS (f i) && gap)) = true
      · rw [verF_bad (by omega) hb] at h
        exact absurd h (by decide)
      · rw [verF_go (by omega) (by simpa using hb) h9] at h
        obtain ⟨r, g, h1, h2⟩ := verF_later f d (n - 1) (i + 1) _ _ (by omega) (by split <;> omega) h
        refine ⟨r, g, h1, ?_⟩
        rw [show n - (d + 1) = n - 1 - d by omega, show i + ((d + 1 : Nat) : Int) = i + 1 + (d : Int) by omega]
        exact h2
/-- in a version a number has at most nine digits -/
theorem ver_nok {f : Int → Int} {lo hi : Int} (hv : ver f lo hi = true) : ∀ p, lo ≤ p → itS f p hi < hi → rkI f (itS f p hi) (itE f p hi) = 9 → itE f p hi - itS f p hi ≤ 9 := by
  intro p hp h1 h2
  have i1 := itS_in f p hi
  have i2 := itE_in f p hi
  have hva := (Bool.and_eq_true _ _).mp (show (mIn (hi - lo) 1 12 && verF f (hi - lo).toNat lo 0 true) = true from hv)
  have ha := skF_at f (hi - p).toNat p (by have : skF f (hi - p).toNat p = itS f p hi := rfl; omega)
  have ha : (isD (f (itS f p hi)) || isL (f (itS f p hi))) = true := ha
  have hL : isL (f (itS f p hi)) = false := by
    cases q : isL (f (itS f p hi)) with
    | false => rfl
    | true =>
      rw [rkI, if_pos q] at h2
      have := wrR_in (wrd f (itS f p hi) (itE f p hi)) (decide (itE f p hi - itS f p hi = 1) && isD (f (itE f p hi)))
      omega
  have hD : isD (f (itS f p hi)) = true := by rw [hL] at ha; simpa using ha
  obtain ⟨r, g, r0, hr⟩ := verF_later f (itS f p hi - lo).toNat (hi - lo).toNat lo 0 true (by omega) (by omega) hva.2
  by_cases hm : itE f p hi = itS f p hi
  · omega
  · have := verF_digits f _ _ r g hr (itE f p hi - itS f p hi).toNat (by omega) (by omega) (fun x hx => by
      have h5 := ruF_at (itP f (itS f p hi)) f (hi - itS f p hi).toNat (itS f p hi) (itS f p hi + x) (by omega) (by have : ruF (itP f (itS f p hi)) f (hi - itS f p hi).toNat (itS f p hi) = itE f p hi := rfl; omega)
      rw [itP_d hD] at h5
      rw [show lo + ((itS f p hi - lo).toNat : Int) + (x : Int) = itS f p hi + x by omega]
      exact h5)
    omega
theorem cmF_at (f : Int → Int) : ∀ (n : Nat) (i : Int), 0 ≤ i → 0 ≤ cmF f n i → f (cmF f n i) = 44
  | 0, i, _, h => by simp [cmF] at h
  | n + 1, i, h0, h => by
    by_cases q : f i = 44
    · rw [cmF_hit (by omega) q]; exact q
    · rw [cmF_go (by omega) q] at h ⊢
      exact cmF_at f n (i + 1) (by omega) h
/-- a text that is a range -/
def rng (f : Int → Int) (n : Int) : Bool := if ver f 0 n = true then true else if n < 3 ∨ ¬ (f 0 = 91 ∨ f 0 = 40) ∨ ¬ (f (n - 1) = 93 ∨ f (n - 1) = 41) then false else if cma f n < 0 then (decide (f 0 = 91) && decide (f (n - 1) = 93) && ver f 1 (n - 1)) else ((decide (cma f n = 1) || ver f 1 (cma f n)) && (decide (cma f n = n - 2) || ver f (cma f n + 1) (n - 1)))
theorem ver_first {f : Int → Int} {n : Int} (h : f 0 = 91 ∨ f 0 = 40) : ver f 0 n = false := by
  unfold ver
  by_cases q : mIn (n - 0) 1 12 = true
  · have := mIn_t.mp q
    rw [verF_bad (by omega) (by rcases h with h | h <;> rw [h] <;> decide)]
    simp
  · have q' : mIn (n - 0) 1 12 = false := by simpa using q
    rw [q']
    rfl
theorem rng_cases {f : Int → Int} {n : Int} (h : rng f n = true) : (¬ (f 0 = 91 ∨ f 0 = 40) ∧ ver f 0 n = true) ∨ ((f 0 = 91 ∨ f 0 = 40) ∧ 3 ≤ n ∧ (f (n - 1) = 93 ∨ f (n - 1) = 41) ∧ (cma f n < 0 → ver f 1 (n - 1) = true) ∧ (0 ≤ cma f n → 1 ≤ cma f n ∧ cma f n ≤ n - 2 ∧ (cma f n = 1 ∨ ver f 1 (cma f n) = true) ∧ (cma f n = n - 2 ∨ ver f (cma f n + 1) (n - 1) = true))) := by
  unfold rng at h
  by_cases q0 : f 0 = 91 ∨ f 0 = 40
  · right
    rw [ver_first q0, if_neg (by decide)] at h
    by_cases q1 : n < 3 ∨ ¬ (f 0 = 91 ∨ f 0 = 40) ∨ ¬ (f (n - 1) = 93 ∨ f (n - 1) = 41)
    · rw [if_pos q1] at h
      exact absurd h (by decide)
    · rw [if_neg q1] at h
      have q2 : f (n - 1) = 93 ∨ f (n - 1) = 41 := by omega
      refine ⟨q0, by omega, q2, fun hc => ?_, fun hc => ?_⟩
      · rw [if_pos hc] at h
        simp at h
        exact h.2
      · rw [if_neg (by omega)] at h
        simp at h
        have h44 := cmF_at f n.toNat 0 (by omega) hc
        have h44 : f (cma f n) = 44 := h44
        have hin := cma_in f (n := n) (by omega)
        have n0 : cma f n ≠ 0 := fun e => by rw [e] at h44; omega
        have n1 : cma f n ≠ n - 1 := fun e => by rw [e] at h44; omega
        exact ⟨by omega, by omega, h.1, h.2⟩
  · left
    refine ⟨q0, ?_⟩
    by_cases q : ver f 0 n = true
    · exact q
    · rw [if_neg q, if_pos (by omega)] at h
      exact absurd h (by decide)
abbrev rm_Md_range : Room := { frames := 3, cells := 0, slots := 0, locals := 72 }
set_option maxRecDepth 100000 in
set_option maxHeartbeats 4000000 in
theorem c_Md_range {l : Launch} {Γ : rz_G} {h : rz_H} {x : Nat} {ad : Nat → Nat} {M : Nat → Int → Int} (hM : MdAt Γ h x ad M) (hw : mWF M) {t : Int} (ht : 0 ≤ t ∧ t < 126) : Ct l Γ x_Md_range y_Md_range rm_Md_range [.ref x, vi t] h (pE (bi (rng (mAt M t) (M 1 t))) h) := by
  refine rz_met (by decide) rfl rfl (Nat.le_of_ble_eq_true rfl) (fun K _ => ?_)
  refine rz_Leq [(0, .ref x), (1, vi t)] rfl ?_
  have hlen := hw.1 t ht.1 ht.2
  refine rz_aload_n 0 d_Md_range_0 rfl rfl ?_
  refine rz_getf f_Md_13 hM.1 rfl d_Md_range_1 ?_
  refine rz_iload_n 1 d_Md_range_4 rfl rfl ?_
  refine rz_iaload (md_a1 hM) (by decide) (by omega) d_Md_range_5 ?_
  refine rz_istore_n [(2, vi (M 1 t)), (0, .ref x), (1, vi t)] d_Md_range_6 rfl (by decide) rfl ?_
  refine rz_aload_n 1 d_Md_range_7 rfl rfl ?_
  refine rz_iload_n 2 d_Md_range_8 rfl rfl ?_
  refine rz_iconst d_Md_range_9 ?_
  refine rz_iload_n 0 d_Md_range_10 rfl rfl ?_
  refine rz_callV (As := [vi t, vi 0, vi (M 1 t)]) (c_Md_version hM hw ht (by omega) (by omega)) m_Md_143 hM.1 rfl rfl rfl rfl (Nat.le_of_ble_eq_true rfl) ⟨by decide, by decide⟩ ⟨by decide, by decide⟩ d_Md_range_11 (kE (h := h) ?_)
  refine rz_if_eqB 19 d_Md_range_14 (by decide) (fun c14 => ?_) (fun c14 => ?_)
  · refine rz_aload_n 1 d_Md_range_19 rfl rfl ?_
    refine rz_iload_n 2 d_Md_range_20 rfl rfl ?_
    refine rz_iconst d_Md_range_21 ?_
    refine rz_callV (As := [vi t, vi 0]) (c_Md_at hM hw ht (by omega)) m_Md_74 hM.1 rfl rfl rfl rfl (Nat.le_of_ble_eq_true rfl) ⟨by decide, by decide⟩ ⟨by decide, by decide⟩ d_Md_range_22 (kE (h := h) ?_)
    refine rz_top (fun av e_av => ?_)
    replace e_av := e_av.symm
    refine rz_istore_n [(3, vi av), (2, vi (M 1 t)), (0, .ref x), (1, vi t)] d_Md_range_25 rfl (by decide) rfl ?_
    refine rz_aload_n 2 d_Md_range_26 rfl rfl ?_
    refine rz_iload_n 3 d_Md_range_27 rfl rfl ?_
    refine rz_iload_n 1 d_Md_range_28 rfl rfl ?_
    refine rz_iconst d_Md_range_29 ?_
    refine rz_isub d_Md_range_30 ?_
    refine rz_callV (As := [vi t, vi ((M 1 t) - 1)]) (c_Md_at hM hw ht (by omega)) m_Md_74 hM.1 rfl rfl rfl rfl (Nat.le_of_ble_eq_true rfl) ⟨by decide, by decide⟩ ⟨by decide, by decide⟩ d_Md_range_31 (kE (h := h) ?_)
    refine rz_top (fun zv e_zv => ?_)
    replace e_zv := e_zv.symm
    refine rz_istore [(4, vi zv), (3, vi av), (2, vi (M 1 t)), (0, .ref x), (1, vi t)] d_Md_range_34 (by decide) rfl ?_
    refine rz_aload_n 3 d_Md_range_36 rfl rfl ?_
    refine rz_iload_n 4 d_Md_range_37 rfl rfl ?_
    refine rz_callV (As := [vi t]) (c_Md_comma hM hw ht) m_Md_146 hM.1 rfl rfl rfl rfl (Nat.le_of_ble_eq_true rfl) ⟨by decide, by decide⟩ ⟨by decide, by decide⟩ d_Md_range_38 (kE (h := h) ?_)
    refine rz_top (fun cv e_cv => ?_)
    replace e_cv := e_cv.symm
    refine rz_istore [(5, vi cv), (4, vi zv), (3, vi av), (2, vi (M 1 t)), (0, .ref x), (1, vi t)] d_Md_range_41 (by decide) rfl ?_
    have ic := cma_in (mAt M t) (n := M 1 t) (by omega)
    have ia := mAt_in hw ht 0
    have iz := mAt_in hw ht (M 1 t - 1)
    rw [e_cv] at ic
    rw [e_av] at ia
    rw [e_zv] at iz
    refine rz_iload_n 3 d_Md_range_43 rfl rfl ?_
    refine rz_iconst d_Md_range_44 ?_
    refine rz_icmp_lt 74 d_Md_range_45 (by decide) (by omega) ⟨by decide, by decide⟩ (fun c45 => ?_) (fun c45 => ?_)
    · refine rz_iconst d_Md_range_74 ?_
      exact rz_zreturn (st := []) (ty := .boolean) rfl rfl d_Md_range_75 ⟨by decide, by decide⟩ ⟨_, rfl, bi0 (by rw [rng, c14, if_neg (by decide), e_av, e_zv, e_cv, if_pos (by omega)]), rfl⟩
    · refine rz_cut (α := Unit) 0 0 60 (fun _ => av = 91 ∨ av = 40) (fun _ => [(5, vi cv), (4, vi zv), (3, vi av), (2, vi (M 1 t)), (0, .ref x), (1, vi t)]) (fun _ => []) (fun _ => h) (fun _ k60 => ?_) (fun J60 => ?_)
      · refine rz_cut (α := Unit) 0 0 76 (fun _ => zv = 93 ∨ zv = 41) (fun _ => [(5, vi cv), (4, vi zv), (3, vi av), (2, vi (M 1 t)), (0, .ref x), (1, vi t)]) (fun _ => []) (fun _ => h) (fun _ k76 => ?_) (fun J76 => ?_)
        · refine rz_iload 0 d_Md_range_76 rfl ?_
          refine rz_if_ge 112 d_Md_range_78 (by decide) (by omega) (fun c78 => ?_) (fun c78 => ?_)
          · refine rz_cut (α := Unit) 0 0 129 (fun _ => (decide (cv = 1) || ver (mAt M t) 1 cv) = true) (fun _ => [(5, vi cv), (4, vi zv), (3, vi av), (2, vi (M 1 t)), (0, .ref x), (1, vi t)]) (fun _ => []) (fun _ => h) (fun _ k129 => ?_) (fun J129 => ?_)
            · refine rz_iload 0 d_Md_range_129 rfl ?_
              refine rz_iload_n 3 d_Md_range_131 rfl rfl ?_
              refine rz_iconst d_Md_range_132 ?_
              refine rz_isub d_Md_range_133 ?_
              refine rz_icmp_eq 152 d_Md_range_134 (by decide) (by omega) (by omega) (fun c134 => ?_) (fun c134 => ?_)
              · refine rz_iconst d_Md_range_152 ?_
                refine rz_goto 157 d_Md_range_153 (by decide) ?_
                exact rz_zreturn (st := []) (ty := .boolean) rfl rfl d_Md_range_157 ⟨by decide, by decide⟩ ⟨_, rfl, bi1 (by rw [rng, c14, if_neg (by decide), e_av, e_zv, e_cv, if_neg (by omega), if_neg (by omega)]; first | (rw [k129]; simp [*]; done) | (simp [*]; done)), rfl⟩
              · refine rz_aload_n 4 d_Md_range_137 rfl rfl ?_
                refine rz_iload_n 5 d_Md_range_138 rfl rfl ?_
                refine rz_iload 0 d_Md_range_139 rfl ?_
                refine rz_iconst d_Md_range_141 ?_
                refine rz_iadd d_Md_range_142 ?_
                refine rz_iload_n 3 d_Md_range_143 rfl rfl ?_
                refine rz_iconst d_Md_range_144 ?_
                refine rz_isub d_Md_range_145 ?_
                refine rz_callV (As := [vi t, vi (cv + 1), vi ((M 1 t) - 1)]) (c_Md_version hM hw ht (by omega) (by omega)) m_Md_143 hM.1 rfl rfl rfl rfl (Nat.le_of_ble_eq_true rfl) ⟨by decide, by decide⟩ ⟨by decide, by decide⟩ d_Md_range_146 (kE (h := h) ?_)
                refine rz_if_eqB 156 d_Md_range_149 (by decide) (fun c149 => ?_) (fun c149 => ?_)
                · refine rz_iconst d_Md_range_156 ?_
                  exact rz_zreturn (st := []) (ty := .boolean) rfl rfl d_Md_range_157 ⟨by decide, by decide⟩ ⟨_, rfl, bi0 (by rw [rng, c14, if_neg (by decide), e_av, e_zv, e_cv, if_neg (by omega), if_neg (by omega)]; first | (rw [k129]; simp [*]; done) | (simp [*]; done)), rfl⟩
                · refine rz_iconst d_Md_range_152 ?_
                  refine rz_goto 157 d_Md_range_153 (by decide) ?_
                  exact rz_zreturn (st := []) (ty := .boolean) rfl rfl d_Md_range_157 ⟨by decide, by decide⟩ ⟨_, rfl, bi1 (by rw [rng, c14, if_neg (by decide), e_av, e_zv, e_cv, if_neg (by omega), if_neg (by omega)]; first | (rw [k129]; simp [*]; done) | (simp [*]; done)), rfl⟩
            · refine rz_iload 0 d_Md_range_112 rfl ?_
              refine rz_iconst d_Md_range_114 ?_
              refine rz_icmp_eq 129 d_Md_range_115 (by decide) (by omega) ⟨by decide, by decide⟩ (fun c115 => ?_) (fun c115 => ?_)
              · exact J129 () (by simp [*])
              · refine rz_aload_n 4 d_Md_range_118 rfl rfl ?_
                refine rz_iload_n 5 d_Md_range_119 rfl rfl ?_
                refine rz_iconst d_Md_range_120 ?_
                refine rz_iload 0 d_Md_range_121 rfl ?_
                refine rz_callV (As := [vi t, vi 1, vi cv]) (c_Md_version hM hw ht (by omega) (by omega)) m_Md_143 hM.1 rfl rfl rfl rfl (Nat.le_of_ble_eq_true rfl) ⟨by decide, by decide⟩ ⟨by decide, by decide⟩ d_Md_range_123 (kE (h := h) ?_)
                refine rz_if_eqB 156 d_Md_range_126 (by decide) (fun c126 => ?_) (fun c126 => ?_)
                · refine rz_iconst d_Md_range_156 ?_
                  exact rz_zreturn (st := []) (ty := .boolean) rfl rfl d_Md_range_157 ⟨by decide, by decide⟩ ⟨_, rfl, bi0 (by rw [rng, c14, if_neg (by decide), e_av, e_zv, e_cv, if_neg (by omega), if_neg (by omega)]; first | (rw [k129]; simp [*]; done) | (simp [*]; done)), rfl⟩
                · exact J129 () (by simp [*])
          · refine rz_iload_n 2 d_Md_range_81 rfl rfl ?_
            refine rz_bipush (v := 91) d_Md_range_82 (by decide) ?_
            refine rz_icmp_ne 110 d_Md_range_84 (by decide) (by omega) ⟨by decide, by decide⟩ (fun c84 => ?_) (fun c84 => ?_)
            · refine rz_iconst d_Md_range_110 ?_
              exact rz_zreturn (st := []) (ty := .boolean) rfl rfl d_Md_range_111 ⟨by decide, by decide⟩ ⟨_, rfl, bi0 (by rw [rng, c14, if_neg (by decide), e_av, e_zv, e_cv, if_neg (by omega), if_pos (by omega)]; simp [*]), rfl⟩
            · refine rz_iload 1 d_Md_range_87 rfl ?_
              refine rz_bipush (v := 93) d_Md_range_89 (by decide) ?_
              refine rz_icmp_ne 110 d_Md_range_91 (by decide) (by omega) ⟨by decide, by decide⟩ (fun c91 => ?_) (fun c91 => ?_)
              · refine rz_iconst d_Md_range_110 ?_
                exact rz_zreturn (st := []) (ty := .boolean) rfl rfl d_Md_range_111 ⟨by decide, by decide⟩ ⟨_, rfl, bi0 (by rw [rng, c14, if_neg (by decide), e_av, e_zv, e_cv, if_neg (by omega), if_pos (by omega)]; simp [*]), rfl⟩
              · refine rz_aload_n 4 d_Md_range_94 rfl rfl ?_
                refine rz_iload_n 5 d_Md_range_95 rfl rfl ?_
                refine rz_iconst d_Md_range_96 ?_
                refine rz_iload_n 3 d_Md_range_97 rfl rfl ?_
                refine rz_iconst d_Md_range_98 ?_
                refine rz_isub d_Md_range_99 ?_
                refine rz_callV (As := [vi t, vi 1, vi ((M 1 t) - 1)]) (c_Md_version hM hw ht (by omega) (by omega)) m_Md_143 hM.1 rfl rfl rfl rfl (Nat.le_of_ble_eq_true rfl) ⟨by decide, by decide⟩ ⟨by decide, by decide⟩ d_Md_range_100 (kE (h := h) ?_)
                refine rz_if_eqB 110 d_Md_range_103 (by decide) (fun c103 => ?_) (fun c103 => ?_)
                · refine rz_iconst d_Md_range_110 ?_
                  exact rz_zreturn (st := []) (ty := .boolean) rfl rfl d_Md_range_111 ⟨by decide, by decide⟩ ⟨_, rfl, bi0 (by rw [rng, c14, if_neg (by decide), e_av, e_zv, e_cv, if_neg (by omega), if_pos (by omega)]; simp [*]), rfl⟩
                · refine rz_iconst d_Md_range_106 ?_
                  refine rz_goto 111 d_Md_range_107 (by decide) ?_
                  exact rz_zreturn (st := []) (ty := .boolean) rfl rfl d_Md_range_111 ⟨by decide, by decide⟩ ⟨_, rfl, bi1 (by rw [rng, c14, if_neg (by decide), e_av, e_zv, e_cv, if_neg (by omega), if_pos (by omega)]; simp [*]), rfl⟩
        · refine rz_iload 1 d_Md_range_60 rfl ?_
          refine rz_bipush (v := 93) d_Md_range_62 (by decide) ?_
          refine rz_icmp_eq 76 d_Md_range_64 (by decide) (by omega) ⟨by decide, by decide⟩ (fun c64 => ?_) (fun c64 => ?_)
          · exact J76 () (by omega)
          · refine rz_iload 1 d_Md_range_67 rfl ?_
            refine rz_bipush (v := 41) d_Md_range_69 (by decide) ?_
            refine rz_icmp_eq 76 d_Md_range_71 (by decide) (by omega) ⟨by decide, by decide⟩ (fun c71 => ?_) (fun c71 => ?_)
            · exact J76 () (by omega)
            · refine rz_iconst d_Md_range_74 ?_
              exact rz_zreturn (st := []) (ty := .boolean) rfl rfl d_Md_range_75 ⟨by decide, by decide⟩ ⟨_, rfl, bi0 (by rw [rng, c14, if_neg (by decide), e_av, e_zv, e_cv, if_pos (by omega)]), rfl⟩
      · refine rz_iload_n 2 d_Md_range_48 rfl rfl ?_
        refine rz_bipush (v := 91) d_Md_range_49 (by decide) ?_
        refine rz_icmp_eq 60 d_Md_range_51 (by decide) (by omega) ⟨by decide, by decide⟩ (fun c51 => ?_) (fun c51 => ?_)
        · exact J60 () (by omega)
        · refine rz_iload_n 2 d_Md_range_54 rfl rfl ?_
          refine rz_bipush (v := 40) d_Md_range_55 (by decide) ?_
          refine rz_icmp_ne 74 d_Md_range_57 (by decide) (by omega) ⟨by decide, by decide⟩ (fun c57 => ?_) (fun c57 => ?_)
          · refine rz_iconst d_Md_range_74 ?_
            exact rz_zreturn (st := []) (ty := .boolean) rfl rfl d_Md_range_75 ⟨by decide, by decide⟩ ⟨_, rfl, bi0 (by rw [rng, c14, if_neg (by decide), e_av, e_zv, e_cv, if_pos (by omega)]), rfl⟩
          · exact J60 () (by omega)
  · refine rz_iconst d_Md_range_17 ?_
    exact rz_zreturn (st := []) (ty := .boolean) rfl rfl d_Md_range_18 ⟨by decide, by decide⟩ ⟨_, rfl, bi1 (by rw [rng, if_pos c14]), rfl⟩
/-- the version f, of n1 places, is in the range g, of n places -/
def inR (f : Int → Int) (n1 : Int) (g : Int → Int) (n : Int) : Bool := if ¬ (g 0 = 91 ∨ g 0 = 40) then decide (0 ≤ ord f g n1 0 n) else if cma g n < 0 then decide (ord f g n1 1 (n - 1) = 0) else (decide ((if g 0 = 40 then 1 else 0) ≤ (if cma g n = 1 then 1 else ord f g n1 1 (cma g n))) && decide ((if cma g n = n - 2 then -1 else ord f g n1 (cma g n + 1) (n - 1)) ≤ (if g (n - 1) = 41 then -1 else 0)))
abbrev rm_Md_inside : Room := { frames := 6, cells := 0, slots := 0, locals := 157 }
set_option maxRecDepth 100000 in
set_option maxHeartbeats 4000000 in
theorem c_Md_inside {l : Launch} {Γ : rz_G} {h : rz_H} {x : Nat} {ad : Nat → Nat} {M : Nat → Int → Int} (hM : MdAt Γ h x ad M) (hw : mWF M) {v t : Int} (hv : 0 ≤ v ∧ v < 126) (ht : 0 ≤ t ∧ t < 126) (kv : ver (mAt M v) 0 (M 1 v) = true) (kt : rng (mAt M t) (M 1 t) = true) : Ct l Γ x_Md_inside y_Md_inside rm_Md_inside [.ref x, vi v, vi t] h (pI (fun r h' => r = bi (inR (mAt M v) (M 1 v) (mAt M t) (M 1 t)) ∧ ∃ M', MdAt Γ h' x ad M' ∧ mS2 M M' ∧ rz_fr [10, 11] h h')) := by
  refine rz_met (by decide) rfl rfl (Nat.le_of_ble_eq_true rfl) (fun K _ => ?_)
  refine rz_Leq [(0, .ref x), (1, vi v), (2, vi t)] rfl ?_
  have hlen := hw.1 t ht.1 ht.2
  have hr := rng_cases kt
  refine rz_aload_n 0 d_Md_inside_0 rfl rfl ?_
  refine rz_getf f_Md_13 hM.1 rfl d_Md_inside_1 ?_
  refine rz_iload_n 2 d_Md_inside_4 rfl rfl ?_
  refine rz_iaload (md_a1 hM) (by decide) (by omega) d_Md_inside_5 ?_
  refine rz_istore_n [(3, vi (M 1 t)), (0, .ref x), (1, vi v), (2, vi t)] d_Md_inside_6 rfl (by decide) rfl ?_
  refine rz_aload_n 1 d_Md_inside_7 rfl rfl ?_
  refine rz_iload_n 3 d_Md_inside_8 rfl rfl ?_
  refine rz_iconst d_Md_inside_9 ?_
  refine rz_callV (As := [vi t, vi 0]) (c_Md_at hM hw ht (by omega)) m_Md_74 hM.1 rfl rfl rfl rfl (Nat.le_of_ble_eq_true rfl) ⟨by decide, by decide⟩ ⟨by decide, by decide⟩ d_Md_inside_10 (kE (h := h) ?_)
  refine rz_top (fun av e_av => ?_)
  replace e_av := e_av.symm
  refine rz_istore [(4, vi av), (3, vi (M 1 t)), (0, .ref x), (1, vi v), (2, vi t)] d_Md_inside_13 (by decide) rfl ?_
  refine rz_aload_n 2 d_Md_inside_15 rfl rfl ?_
  refine rz_iload_n 4 d_Md_inside_16 rfl rfl ?_
  refine rz_callV (As := [vi t]) (c_Md_comma hM hw ht) m_Md_146 hM.1 rfl rfl rfl rfl (Nat.le_of_ble_eq_true rfl) ⟨by decide, by decide⟩ ⟨by decide, by decide⟩ d_Md_inside_17 (kE (h := h) ?_)
  refine rz_top (fun cv e_cv => ?_)
  replace e_cv := e_cv.symm
  refine rz_istore [(5, vi cv), (4, vi av), (3, vi (M 1 t)), (0, .ref x), (1, vi v), (2, vi t)] d_Md_inside_20 (by decide) rfl ?_
  have ic := cma_in (mAt M t) (n := M 1 t) (by omega)
  have ia := mAt_in hw ht 0
  rw [e_cv] at ic hr
  rw [e_av] at ia hr
  refine rz_cut (α := Unit) 0 0 53 (fun _ => av = 91 ∨ av = 40) (fun _ => [(5, vi cv), (4, vi av), (3, vi (M 1 t)), (0, .ref x), (1, vi v), (2, vi t)]) (fun _ => []) (fun _ => h) (fun _ k53 => ?_) (fun J53 => ?_)
  · refine rz_iload 0 d_Md_inside_53 rfl ?_
    refine rz_if_ge 77 d_Md_inside_55 (by decide) (by omega) (fun c55 => ?_) (fun c55 => ?_)
    · have kt4 : 3 ≤ M 1 t ∧ 1 ≤ cv ∧ cv ≤ M 1 t - 2 ∧ (cv = 1 ∨ ver (mAt M t) 1 cv = true) ∧ (cv = M 1 t - 2 ∨ ver (mAt M t) (cv + 1) (M 1 t - 1) = true) := by rcases hr with hr | hr; omega; exact ⟨hr.2.1, hr.2.2.2.2 (by omega)⟩
      refine rz_cut (α := rz_H × (Nat → Int → Int)) 0 0 96 (fun (hJ96, MJ96) => MdAt Γ hJ96 x ad MJ96 ∧ mS2 M MJ96 ∧ rz_fr [10, 11] h hJ96) (fun (hJ96, MJ96) => [(5, vi cv), (4, vi av), (3, vi (M 1 t)), (0, .ref x), (1, vi v), (2, vi t)]) (fun (hJ96, MJ96) => [vi (if cv = 1 then 1 else ord (mAt M v) (mAt M t) (M 1 v) 1 cv)]) (fun (hJ96, MJ96) => hJ96) (fun y hy => ?_) (fun J96 => ?_)
      · obtain ⟨hJ96, MJ96⟩ := y
        dsimp only at hy ⊢
        obtain ⟨hMJ96, hSJ96, hFJ96⟩ := hy
        have hwJ96 := mS2_wf hSJ96 hw
        refine rz_top (fun lw e_lw => ?_)
        replace e_lw := e_lw.symm
        refine rz_istore [(6, vi lw), (5, vi cv), (4, vi av), (3, vi (M 1 t)), (0, .ref x), (1, vi v), (2, vi t)] d_Md_inside_96 (by decide) rfl ?_
        refine rz_cut (α := rz_H × (Nat → Int → Int)) 0 0 123 (fun (hJ123, MJ123) => MdAt Γ hJ123 x ad MJ123 ∧ mS2 M MJ123 ∧ rz_fr [10, 11] h hJ123) (fun (hJ123, MJ123) => [(6, vi lw), (5, vi cv), (4, vi av), (3, vi (M 1 t)), (0, .ref x), (1, vi v), (2, vi t)]) (fun (hJ123, MJ123) => [vi (if cv = M 1 t - 2 then -1 else ord (mAt M v) (mAt M t) (M 1 v) (cv + 1) (M 1 t - 1))]) (fun (hJ123, MJ123) => hJ123) (fun y hy => ?_) (fun J123 => ?_)
        · obtain ⟨hJ123, MJ123⟩ := y
          dsimp only at hy ⊢
          obtain ⟨hMJ123, hSJ123, hFJ123⟩ := hy
          have hwJ123 := mS2_wf hSJ123 hw
          refine rz_top (fun hg e_hg => ?_)
          replace e_hg := e_hg.symm
          refine rz_istore [(7, vi hg), (6, vi lw), (5, vi cv), (4, vi av), (3, vi (M 1 t)), (0, .ref x), (1, vi v), (2, vi t)] d_Md_inside_123 (by decide) rfl ?_
          have il : -1 ≤ lw ∧ lw ≤ 1 := by rw [← e_lw]; split; omega; exact ordF_in _ _ _ _ _ _ _
          have ih2 : -1 ≤ hg ∧ hg ≤ 1 := by rw [← e_hg]; split; omega; exact ordF_in _ _ _ _ _ _ _
          refine rz_iload 1 d_Md_inside_125 rfl ?_
          refine rz_cut (α := Unit) 0 0 139 (fun _ => True) (fun _ => [(7, vi hg), (6, vi lw), (5, vi cv), (4, vi av), (3, vi (M 1 t)), (0, .ref x), (1, vi v), (2, vi t)]) (fun _ => [vi (if av = 40 then 1 else 0), vi lw]) (fun _ => hJ123) (fun _ _ => ?_) (fun J139 => ?_)
          · refine rz_icmp_lt 169 d_Md_inside_139 (by decide) (by omega) (by split <;> omega) (fun c139 => ?_) (fun c139 => ?_)
            · refine rz_iconst d_Md_inside_169 ?_
              exact rz_zreturn (st := []) (ty := .boolean) rfl rfl d_Md_inside_170 ⟨by decide, by decide⟩ ⟨_, rfl, bi0 (by rw [inR, e_av, e_cv, if_neg (by omega), if_neg (by omega), e_lw, e_hg]; simp; omega), MJ123, hMJ123, hSJ123, hFJ123⟩
            · refine rz_iload 0 d_Md_inside_142 rfl ?_
              refine rz_cut (α := Unit) 0 0 162 (fun _ => True) (fun _ => [(7, vi hg), (6, vi lw), (5, vi cv), (4, vi av), (3, vi (M 1 t)), (0, .ref x), (1, vi v), (2, vi t)]) (fun _ => [vi (if (mAt M t) (M 1 t - 1) = 41 then -1 else 0), vi hg]) (fun _ => hJ123) (fun _ _ => ?_) (fun J162 => ?_)
              · refine rz_icmp_gt 169 d_Md_inside_162 (by decide) (by omega) (by split <;> omega) (fun c162 => ?_) (fun c162 => ?_)
                · refine rz_iconst d_Md_inside_169 ?_
                  exact rz_zreturn (st := []) (ty := .boolean) rfl rfl d_Md_inside_170 ⟨by decide, by decide⟩ ⟨_, rfl, bi0 (by rw [inR, e_av, e_cv, if_neg (by omega), if_neg (by omega), e_lw, e_hg]; simp; omega), MJ123, hMJ123, hSJ123, hFJ123⟩
                · refine rz_iconst d_Md_inside_165 ?_
                  refine rz_goto 170 d_Md_inside_166 (by decide) ?_
                  exact rz_zreturn (st := []) (ty := .boolean) rfl rfl d_Md_inside_170 ⟨by decide, by decide⟩ ⟨_, rfl, bi1 (by rw [inR, e_av, e_cv, if_neg (by omega), if_neg (by omega), e_lw, e_hg]; simp; omega), MJ123, hMJ123, hSJ123, hFJ123⟩
              · refine rz_aload_n 5 d_Md_inside_144 rfl rfl ?_
                refine rz_iload_n 7 d_Md_inside_145 rfl rfl ?_
                refine rz_iload_n 4 d_Md_inside_146 rfl rfl ?_
                refine rz_iconst d_Md_inside_147 ?_
                refine rz_isub d_Md_inside_148 ?_
                refine rz_callV (As := [vi t, vi ((M 1 t) - 1)]) (c_Md_at hMJ123 hwJ123 ht (by omega)) m_Md_74 hMJ123.1 rfl rfl rfl rfl (Nat.le_of_ble_eq_true rfl) ⟨by decide, by decide⟩ ⟨by decide, by decide⟩ d_Md_inside_149 (kE (h := hJ123) ?_)
                rw [mS2_at hSJ123]
                refine rz_bipush (v := 41) d_Md_inside_152 (by decide) ?_
                refine rz_icmp_ne 161 d_Md_inside_154 (by decide) (by have := mAt_in hw ht (M 1 t - 1); omega) ⟨by decide, by decide⟩ (fun c154 => ?_) (fun c154 => ?_)
                · refine rz_iconst d_Md_inside_161 ?_
                  refine rz_Seq [vi (if (mAt M t) (M 1 t - 1) = 41 then -1 else 0), vi hg] (by rw [if_neg c154]) ?_
                  exact J162 () trivial
                · refine rz_iconst d_Md_inside_157 ?_
                  refine rz_goto 162 d_Md_inside_158 (by decide) ?_
                  refine rz_Seq [vi (if (mAt M t) (M 1 t - 1) = 41 then -1 else 0), vi hg] (by rw [if_pos c154]) ?_
                  exact J162 () trivial
          · refine rz_iload 3 d_Md_inside_127 rfl ?_
            refine rz_bipush (v := 40) d_Md_inside_129 (by decide) ?_
            refine rz_icmp_ne 138 d_Md_inside_131 (by decide) (by omega) ⟨by decide, by decide⟩ (fun c131 => ?_) (fun c131 => ?_)
            · refine rz_iconst d_Md_inside_138 ?_
              refine rz_Seq [vi (if av = 40 then 1 else 0), vi lw] (by rw [if_neg (by omega)]) ?_
              exact J139 () trivial
            · refine rz_iconst d_Md_inside_134 ?_
              refine rz_goto 139 d_Md_inside_135 (by decide) ?_
              refine rz_Seq [vi (if av = 40 then 1 else 0), vi lw] (by rw [if_pos (by omega)]) ?_
              exact J139 () trivial
        · refine rz_iload 1 d_Md_inside_98 rfl ?_
          refine rz_iload_n 3 d_Md_inside_100 rfl rfl ?_
          refine rz_iconst d_Md_inside_101 ?_
          refine rz_isub d_Md_inside_102 ?_
          refine rz_icmp_ne 110 d_Md_inside_103 (by decide) (by omega) (by omega) (fun c103 => ?_) (fun c103 => ?_)
          · refine rz_aload_n 4 d_Md_inside_110 rfl rfl ?_
            refine rz_iload_n 5 d_Md_inside_111 rfl rfl ?_
            refine rz_iload_n 6 d_Md_inside_112 rfl rfl ?_
            refine rz_iload 1 d_Md_inside_113 rfl ?_
            refine rz_iconst d_Md_inside_115 ?_
            refine rz_iadd d_Md_inside_116 ?_
            refine rz_iload_n 3 d_Md_inside_117 rfl rfl ?_
            refine rz_iconst d_Md_inside_118 ?_
            refine rz_isub d_Md_inside_119 ?_
            refine rz_callV (As := [vi v, vi t, vi (cv + 1), vi ((M 1 t) - 1)]) (c_Md_ordered hMJ96 hwJ96 hv ht (by omega) (by omega) (by rw [mS2_at hSJ96, hSJ96 1 (by decide) (by decide)]; exact ver_nok kv) (by rw [mS2_at hSJ96]; exact ver_nok (kt4.2.2.2.2.resolve_left c103))) m_Md_149 hMJ96.1 rfl rfl rfl rfl (Nat.le_of_ble_eq_true rfl) ⟨by decide, by decide⟩ ⟨by decide, by decide⟩ d_Md_inside_120 (kI (h := hJ96) fun r1 h1 q1 => ?_)
            obtain ⟨rfl, M1, hM1, hT1, hF1⟩ := q1
            rw [mS2_at hSJ96, mS2_at hSJ96, hSJ96 1 (by decide) (by decide)]
            have hS1 := hSJ96.tr hT1
            have hw1 := mS2_wf hS1 hw
            have hG1 := hFJ96.tr hF1
            have io1 := ordF_in (mAt M v) (mAt M t) (M 1 v) ((M 1 t) - 1) 13 0 (cv + 1)
            have io1 : -1 ≤ ord (mAt M v) (mAt M t) (M 1 v) (cv + 1) ((M 1 t) - 1) ∧ ord (mAt M v) (mAt M t) (M 1 v) (cv + 1) ((M 1 t) - 1) ≤ 1 := io1
            refine rz_Seq [vi (if cv = M 1 t - 2 then -1 else ord (mAt M v) (mAt M t) (M 1 v) (cv + 1) (M 1 t - 1))] (by rw [if_neg (by omega)]) ?_
            exact J123 (h1, M1) ⟨hM1, hS1, hG1⟩
          · refine rz_iconst d_Md_inside_106 ?_
            refine rz_goto 123 d_Md_inside_107 (by decide) ?_
            refine rz_Seq [vi (if cv = M 1 t - 2 then -1 else ord (mAt M v) (mAt M t) (M 1 v) (cv + 1) (M 1 t - 1))] (by rw [if_pos (by omega)]) ?_
            exact J123 (hJ96, MJ96) ⟨hMJ96, hSJ96, hFJ96⟩
      · refine rz_iload 0 d_Md_inside_77 rfl ?_
        refine rz_iconst d_Md_inside_79 ?_
        refine rz_icmp_ne 87 d_Md_inside_80 (by decide) (by omega) ⟨by decide, by decide⟩ (fun c80 => ?_) (fun c80 => ?_)
        · refine rz_aload_n 3 d_Md_inside_87 rfl rfl ?_
          refine rz_iload_n 4 d_Md_inside_88 rfl rfl ?_
          refine rz_iload_n 5 d_Md_inside_89 rfl rfl ?_
          refine rz_iconst d_Md_inside_90 ?_
          refine rz_iload 0 d_Md_inside_91 rfl ?_
          refine rz_callV (As := [vi v, vi t, vi 1, vi cv]) (c_Md_ordered hM hw hv ht (by omega) (by omega) (by exact ver_nok kv) (by exact ver_nok (kt4.2.2.2.1.resolve_left c80))) m_Md_149 hM.1 rfl rfl rfl rfl (Nat.le_of_ble_eq_true rfl) ⟨by decide, by decide⟩ ⟨by decide, by decide⟩ d_Md_inside_93 (kI (h := h) fun r2 h2 q2 => ?_)
          obtain ⟨rfl, M2, hM2, hT2, hF2⟩ := q2
          have hS2 := hT2
          have hw2 := mS2_wf hS2 hw
          have hG2 := rz_fr.rf.tr hF2
          have io2 := ordF_in (mAt M v) (mAt M t) (M 1 v) cv 13 0 1
          have io2 : -1 ≤ ord (mAt M v) (mAt M t) (M 1 v) 1 cv ∧ ord (mAt M v) (mAt M t) (M 1 v) 1 cv ≤ 1 := io2
          refine rz_Seq [vi (if cv = 1 then 1 else ord (mAt M v) (mAt M t) (M 1 v) 1 cv)] (by rw [if_neg (by omega)]) ?_
          exact J96 (h2, M2) ⟨hM2, hS2, hG2⟩
        · refine rz_iconst d_Md_inside_83 ?_
          refine rz_goto 96 d_Md_inside_84 (by decide) ?_
          refine rz_Seq [vi (if cv = 1 then 1 else ord (mAt M v) (mAt M t) (M 1 v) 1 cv)] (by rw [if_pos (by omega)]) ?_
          exact J96 (h, M) ⟨hM, mS2.rf, rz_fr.rf⟩
    · have kt3 : 3 ≤ M 1 t ∧ ver (mAt M t) 1 (M 1 t - 1) = true := by rcases hr with hr | hr; omega; exact ⟨hr.2.1, hr.2.2.2.1 (by omega)⟩
      refine rz_aload_n 3 d_Md_inside_58 rfl rfl ?_
      refine rz_iload_n 4 d_Md_inside_59 rfl rfl ?_
      refine rz_iload_n 5 d_Md_inside_60 rfl rfl ?_
      refine rz_iconst d_Md_inside_61 ?_
      refine rz_iload_n 2 d_Md_inside_62 rfl rfl ?_
      refine rz_iconst d_Md_inside_63 ?_
      refine rz_isub d_Md_inside_64 ?_
      refine rz_callV (As := [vi v, vi t, vi 1, vi ((M 1 t) - 1)]) (c_Md_ordered hM hw hv ht (by omega) (by omega) (by exact ver_nok kv) (by exact ver_nok kt3.2)) m_Md_149 hM.1 rfl rfl rfl rfl (Nat.le_of_ble_eq_true rfl) ⟨by decide, by decide⟩ ⟨by decide, by decide⟩ d_Md_inside_65 (kI (h := h) fun r3 h3 q3 => ?_)
      obtain ⟨rfl, M3, hM3, hT3, hF3⟩ := q3
      have hS3 := hT3
      have hw3 := mS2_wf hS3 hw
      have hG3 := rz_fr.rf.tr hF3
      have io3 := ordF_in (mAt M v) (mAt M t) (M 1 v) ((M 1 t) - 1) 13 0 1
      have io3 : -1 ≤ ord (mAt M v) (mAt M t) (M 1 v) 1 ((M 1 t) - 1) ∧ ord (mAt M v) (mAt M t) (M 1 v) 1 ((M 1 t) - 1) ≤ 1 := io3
      refine rz_if_ne 75 d_Md_inside_68 (by decide) (by omega) (fun c68 => ?_) (fun c68 => ?_)
      · refine rz_iconst d_Md_inside_75 ?_
        exact rz_zreturn (st := []) (ty := .boolean) rfl rfl d_Md_inside_76 ⟨by decide, by decide⟩ ⟨_, rfl, bi0 (by rw [inR, e_av, e_cv, if_neg (by omega), if_pos (by omega)]; simp; omega), M3, hM3, hS3, hG3⟩
      · refine rz_iconst d_Md_inside_71 ?_
        refine rz_goto 76 d_Md_inside_72 (by decide) ?_
        exact rz_zreturn (st := []) (ty := .boolean) rfl rfl d_Md_inside_76 ⟨by decide, by decide⟩ ⟨_, rfl, bi1 (by rw [inR, e_av, e_cv, if_neg (by omega), if_pos (by omega)]; simp; omega), M3, hM3, hS3, hG3⟩
  · refine rz_iload 1 d_Md_inside_22 rfl ?_
    refine rz_bipush (v := 91) d_Md_inside_24 (by decide) ?_
    refine rz_icmp_eq 53 d_Md_inside_26 (by decide) (by omega) ⟨by decide, by decide⟩ (fun c26 => ?_) (fun c26 => ?_)
    · exact J53 () (by omega)
    · refine rz_iload 1 d_Md_inside_29 rfl ?_
      refine rz_bipush (v := 40) d_Md_inside_31 (by decide) ?_
      refine rz_icmp_eq 53 d_Md_inside_33 (by decide) (by omega) ⟨by decide, by decide⟩ (fun c33 => ?_) (fun c33 => ?_)
      · exact J53 () (by omega)
      · have kt2 : ver (mAt M t) 0 (M 1 t) = true := by rcases hr with hr | hr; exact hr.2; omega
        refine rz_aload_n 3 d_Md_inside_36 rfl rfl ?_
        refine rz_iload_n 4 d_Md_inside_37 rfl rfl ?_
        refine rz_iload_n 5 d_Md_inside_38 rfl rfl ?_
        refine rz_iconst d_Md_inside_39 ?_
        refine rz_iload_n 2 d_Md_inside_40 rfl rfl ?_
        refine rz_callV (As := [vi v, vi t, vi 0, vi (M 1 t)]) (c_Md_ordered hM hw hv ht (by omega) (by omega) (by exact ver_nok kv) (by exact ver_nok kt2)) m_Md_149 hM.1 rfl rfl rfl rfl (Nat.le_of_ble_eq_true rfl) ⟨by decide, by decide⟩ ⟨by decide, by decide⟩ d_Md_inside_41 (kI (h := h) fun r4 h4 q4 => ?_)
        obtain ⟨rfl, M4, hM4, hT4, hF4⟩ := q4
        have hS4 := hT4
        have hw4 := mS2_wf hS4 hw
        have hG4 := rz_fr.rf.tr hF4
        have io4 := ordF_in (mAt M v) (mAt M t) (M 1 v) (M 1 t) 13 0 0
        have io4 : -1 ≤ ord (mAt M v) (mAt M t) (M 1 v) 0 (M 1 t) ∧ ord (mAt M v) (mAt M t) (M 1 v) 0 (M 1 t) ≤ 1 := io4
        refine rz_if_lt 51 d_Md_inside_44 (by decide) (by omega) (fun c44 => ?_) (fun c44 => ?_)
        · refine rz_iconst d_Md_inside_51 ?_
          exact rz_zreturn (st := []) (ty := .boolean) rfl rfl d_Md_inside_52 ⟨by decide, by decide⟩ ⟨_, rfl, bi0 (by rw [inR, e_av, if_pos (by omega)]; simp; omega), M4, hM4, hS4, hG4⟩
        · refine rz_iconst d_Md_inside_47 ?_
          refine rz_goto 52 d_Md_inside_48 (by decide) ?_
          exact rz_zreturn (st := []) (ty := .boolean) rfl rfl d_Md_inside_52 ⟨by decide, by decide⟩ ⟨_, rfl, bi1 (by rw [inR, e_av, if_pos (by omega)]; simp; omega), M4, hM4, hS4, hG4⟩

/-! the reference: search -/
/-- what is kept behind a search: all but its scribbles -/
def mSS (M M' : Nat → Int → Int) : Prop := mSk [10, 11, 16, 17, 18, 19] M M'
theorem mSS.k {M M' : Nat → Int → Int} (h : mSS M M') (k : Nat) (hk : k ∉ [10, 11, 16, 17, 18, 19]) : M' k = M k := h k hk
theorem mSS_at {M M' : Nat → Int → Int} (h : mSS M M') (t : Int) : mAt M' t = mAt M t := by
  funext i
  unfold mAt
  rw [h.k 0 (by decide), h.k 1 (by decide)]
theorem mSS_wf {M M' : Nat → Int → Int} (h : mSS M M') (hw : mWF M) : mWF M' := by
  unfold mWF
  rw [h.k 0 (by decide), h.k 1 (by decide), h.k 2 (by decide), h.k 3 (by decide), h.k 4 (by decide), h.k 5 (by decide), h.k 6 (by decide), h.k 7 (by decide), h.k 8 (by decide), h.k 9 (by decide), h.k 12 (by decide), h.k 13 (by decide), h.k 14 (by decide), h.k 15 (by decide)]
  exact hw
theorem mSS_val {M M' : Nat → Int → Int} (h : mSS M M') (hv : mVal M) : mVal M' := by
  refine ⟨?_, ?_, ?_, ?_, ?_⟩
  · intro p r h1 h2 h3 h4; rw [mSS_at h, h.k 1 (by decide)]; rw [h.k 2 (by decide)] at h4; exact hv.1 p r h1 h2 h3 h4
  · rw [mSS_at h, h.k 1 (by decide)]; exact hv.2.1
  · intro k a b c; rw [mSS_at h, h.k 1 (by decide)]; rw [h.k 4 (by decide)] at c; exact hv.2.2.1 k a b c
  · intro k j a b c d; rw [mSS_at h, h.k 1 (by decide)]; rw [h.k 5 (by decide)] at d; exact hv.2.2.2.1 k j a b c d
  · intro a b c; rw [mSS_at h, h.k 1 (by decide)]; rw [h.k 8 (by decide)] at c; exact hv.2.2.2.2 a b c
theorem cmpR_SS {M M' : Nat → Int → Int} (h : mSS M M') (p s r : Int) : cmpR M' p s r = cmpR M p s r := by
  unfold cmpR
  rw [mSS_at h, mSS_at h, h.k 1 (by decide)]
theorem gtF_SS {M M' : Nat → Int → Int} (h : mSS M M') (p r : Int) : ∀ n s, gtF M' p r n s = gtF M p r n s
  | 0, _ => rfl
  | n + 1, s => by simp only [gtF, gtF_SS h p r n, cmpR_SS h]
theorem gtr_SS {M M' : Nat → Int → Int} (h : mSS M M') (p r : Int) : gtr M' p r = gtr M p r := by
  unfold gtr
  rw [gtF_SS h, h.k 2 (by decide)]
theorem rdF_SS {M M' : Nat → Int → Int} (h : mSS M M') (p g : Int) : ∀ n r, rdF M' p g n r = rdF M p g n r
  | 0, _ => rfl
  | n + 1, r => by simp only [rdF, rdF_SS h p g n, gtr_SS h]
theorem rkd_SS {M M' : Nat → Int → Int} (h : mSS M M') (p g : Int) : rkd M' p g = rkd M p g := by
  unfold rkd
  rw [rdF_SS h, h.k 2 (by decide)]
theorem rdF_in (M : Nat → Int → Int) (p g : Int) : ∀ (n : Nat) (r : Int), rdF M p g n r = -1 ∨ (r ≤ rdF M p g n r ∧ rdF M p g n r < r + n)
  | 0, _ => Or.inl rfl
  | n + 1, r => by
    have ih := rdF_in M p g n (r + 1)
    simp only [rdF]
    split <;> omega
theorem rkd_in (M : Nat → Int → Int) (hw : mWF M) {p : Int} (hp : 0 ≤ p ∧ p < 6) (g : Int) : -1 ≤ rkd M p g ∧ rkd M p g < M 2 p := by
  have := rdF_in M p g (M 2 p).toNat 0
  have := hw.2.2.1 p hp.1 hp.2
  unfold rkd
  omega
/-- the j-th worth: of plugin j / 5 the release with j % 5 greater ones, -1 for none -/
def wth (M : Nat → Int → Int) (j : Int) : Int := if j % 5 = 4 then -1 else rkd M (j / 5) (j % 5)
theorem wth_in (M : Nat → Int → Int) (hw : mWF M) {j : Int} (hj : 0 ≤ j ∧ j < 30) : -1 ≤ wth M j ∧ wth M j < M 2 (j / 5) := by
  have h1 := rkd_in M hw (p := j / 5) (by omega) (j % 5)
  have := hw.2.2.1 (j / 5) (by omega) (by omega)
  unfold wth
  split <;> omega
def dgt (n p : Int) : Int := n / 5 ^ (5 - p).toNat % 5
/-- the n-th selection -/
def sel (M : Nat → Int → Int) (n p : Int) : Int := wth M (5 * p + dgt n p)
def frF (M : Nat → Int → Int) (n : Int) : Nat → Bool
  | 0 => true
  | k + 1 => if dgt n (5 - k) < 4 ∧ sel M n (5 - k) < 0 then false else frF M n k
def slF (M : Nat → Int → Int) (n : Int) : Int → Int := fun q => if 0 ≤ q ∧ q < 6 then sel M n q else M 11 q
def okS (M : Nat → Int → Int) (n : Int) : Bool := frF M n 6 && goodP (mu M 11 (slF M n))
def srF (M : Nat → Int → Int) : Nat → Int → Int
  | 0, i => i
  | k + 1, i => if okS M i = true then i else srF M k (i + 1)
theorem srF_hit {M : Nat → Int → Int} {k : Nat} {i : Int} (h : okS M i = true) : srF M k i = i := by
  cases k with
  | zero => rfl
  | succ k => simp only [srF]; rw [if_pos h]
theorem srF_go {M : Nat → Int → Int} {k : Nat} {i : Int} (hk : 0 < k) (h : okS M i = false) : srF M k i = srF M (k - 1) (i + 1) := by
  cases k with
  | zero => omega
  | succ k => simp only [srF]; rw [if_neg (by rw [h]; decide)]; rfl
/-- the number of the first good selection; 15625 if there is none -/
def srch (M : Nat → Int → Int) : Int := srF M 15625 0
/-- goodP reads the first twelve alone -/
theorem metP_K {M M' : Nat → Int → Int} (h : ∀ k, k < 12 → M' k = M k) (p t : Int) : metP M' p t = metP M p t := by
  have ha : ∀ t, mAt M' t = mAt M t := fun t => by funext i; unfold mAt; rw [h 0 (by decide), h 1 (by decide)]
  unfold metP
  rw [h 11 (by decide), h 1 (by decide), ha, ha]
theorem rgF_K {M M' : Nat → Int → Int} (h : ∀ k, k < 12 → M' k = M k) : ∀ n i, rgF M' n i = rgF M n i
  | 0, _ => rfl
  | n + 1, i => by simp only [rgF, metP_K h, rgF_K h n, h 7 (by decide), h 6 (by decide), h 11 (by decide)]
theorem rgP_K {M M' : Nat → Int → Int} (h : ∀ k, k < 12 → M' k = M k) (p : Int) : rgP M' p = rgP M p := by
  have ha : ∀ t, mAt M' t = mAt M t := fun t => by funext i; unfold mAt; rw [h 0 (by decide), h 1 (by decide)]
  unfold rgP
  simp only [rgF_K h, h 3 (by decide), h 4 (by decide), h 5 (by decide), h 11 (by decide), h 1 (by decide), ha]
theorem gaF_K {M M' : Nat → Int → Int} (h : ∀ k, k < 12 → M' k = M k) : ∀ n a, gaF M' n a = gaF M n a
  | 0, _ => rfl
  | n + 1, a => by simp only [gaF, metP_K h, gaF_K h n, h 10 (by decide), h 9 (by decide)]
theorem gpF_K {M M' : Nat → Int → Int} (h : ∀ k, k < 12 → M' k = M k) : ∀ n a, gpF M' n a = gpF M n a
  | 0, _ => rfl
  | n + 1, a => by simp only [gpF, rgP_K h, gpF_K h n, h 11 (by decide)]
theorem ldA_K {M M' : Nat → Int → Int} (h : ∀ k, k < 12 → M' k = M k) : ∀ n, ldA M' n = ldA M n
  | 0 => rfl
  | n + 1 => by simp only [ldA, ldA_K h n, h 10 (by decide), h 9 (by decide)]
theorem ldB_K {M M' : Nat → Int → Int} (h : ∀ k, k < 12 → M' k = M k) (l : Int → Int) : ∀ n, ldB M' l n = ldB M l n
  | 0 => rfl
  | n + 1 => by simp only [ldB, ldB_K h l n, h 11 (by decide), h 5 (by decide), h 7 (by decide), h 6 (by decide)]
theorem ldF_K {M M' : Nat → Int → Int} (h : ∀ k, k < 12 → M' k = M k) (l : Int → Int) : ∀ n p, ldF M' l n p = ldF M l n p
  | 0, _ => rfl
  | n + 1, p => by simp only [ldF, ldF_K h l n, h 11 (by decide)]
theorem goodP_K {M M' : Nat → Int → Int} (h : ∀ k, k < 12 → M' k = M k) : goodP M' = goodP M := by
  unfold goodP ledP ldE
  rw [gaF_K h, gpF_K h, ldF_K h, ldB_K h, ldA_K h, h 8 (by decide)]
theorem pw5 {p : Int} (hp : 0 ≤ p ∧ p ≤ 5) (n : Int) : n / 5 ^ (5 - (p - 1)).toNat = n / 5 ^ (5 - p).toNat / 5 := by
  rw [show (5 - (p - 1)).toNat = (5 - p).toNat + 1 by omega, Int.pow_succ, Int.ediv_ediv_of_nonneg (Int.le_of_lt (Int.pow_pos (by decide)))]
theorem frF_s (M : Nat → Int → Int) (n : Int) {p : Int} (hp : 0 ≤ p ∧ p ≤ 5) : frF M n (5 - (p - 1)).toNat = if dgt n p < 4 ∧ sel M n p < 0 then false else frF M n (5 - p).toNat := by
  rw [show (5 - (p - 1)).toNat = (5 - p).toNat + 1 by omega]
  simp only [frF, show (5 : Int) - ((5 - p).toNat : Int) = p by omega]
/-- the places behind p are filled in -/
def nwF (M : Nat → Int → Int) (n : Int) (G : Int → Int) (p : Int) : Int → Int := fun q => if p < q ∧ q < 6 then sel M n q else G q
theorem nwF_s (M : Nat → Int → Int) (n : Int) (G : Int → Int) {p : Int} (hp : 0 ≤ p ∧ p ≤ 5) : rz_u (nwF M n G p) p (sel M n p) = nwF M n G (p - 1) := by
  funext q
  unfold nwF
  by_cases e : q = p
  · rw [e, rz_u_s, if_pos (by omega)]
  · rw [rz_u_n e]
    by_cases c : p < q ∧ q < 6
    · rw [if_pos c, if_pos (by omega)]
    · rw [if_neg c, if_neg (by omega)]
theorem nwF_e (M : Nat → Int → Int) (n : Int) {G : Int → Int} (hG : ∀ q, ¬ (0 ≤ q ∧ q < 6) → G q = M 11 q) : nwF M n G (-1) = slF M n := by
  funext q
  unfold nwF slF
  by_cases c : 0 ≤ q ∧ q < 6
  · rw [if_pos c, if_pos (by omega)]
  · rw [if_neg c, if_neg (by omega), hG q c]
theorem nwF_5 (M : Nat → Int → Int) (n : Int) (G : Int → Int) : nwF M n G 5 = G := by
  funext q
  unfold nwF
  rw [if_neg (by omega)]
theorem dgt_in (n p : Int) : 0 ≤ dgt n p ∧ dgt n p ≤ 4 := by
  unfold dgt
  omega
theorem sel_in (M : Nat → Int → Int) (hw : mWF M) (n : Int) {p : Int} (hp : 0 ≤ p ∧ p < 6) : -1 ≤ sel M n p ∧ sel M n p < M 2 p := by
  have h := dgt_in n p
  have h2 := wth_in M hw (j := 5 * p + dgt n p) (by omega)
  rw [show (5 * p + dgt n p) / 5 = p by omega] at h2
  exact h2
theorem wu {M : Nat → Int → Int} {g : Int → Int} {i v : Int} (h : ∀ j, 0 ≤ j → j < i → g j = wth M j) (hv : v = wth M i) : ∀ j, 0 ≤ j → j < i + 1 → rz_u g i v j = wth M j := fun j a b => by
  by_cases e : j = i
  · rw [e, rz_u_s, hv]
  · rw [rz_u_n e]; exact h j a (by omega)
theorem srch_e {M : Nat → Int → Int} {n : Int} (hv : srF M 15625 0 = srF M (15625 - n).toNat n) (hn : 15625 ≤ n) : srch M = n := by
  unfold srch
  rw [hv, show (15625 - n).toNat = 0 by omega]
  rfl
abbrev rm_Md_search : Room := { frames := 10, cells := 0, slots := 0, locals := 251 }
set_option maxRecDepth 100000 in
set_option maxHeartbeats 4000000 in
theorem c_Md_search {l : Launch} {Γ : rz_G} {h : rz_H} {x : Nat} {ad : Nat → Nat} {M : Nat → Int → Int} (hM : MdAt Γ h x ad M) (hw : mWF M) (hval : mVal M) (hco : cOK M) : Ct l Γ x_Md_search y_Md_search rm_Md_search [.ref x] h (pI (fun r h' => r = bi (decide (srch M < 15625)) ∧ ∃ M', MdAt Γ h' x ad M' ∧ mSk [11, 16, 17, 18, 19] M M' ∧ nowOK M' ∧ (srch M < 15625 → M' 11 = slF M (srch M)) ∧ (∀ q, ¬ (0 ≤ q ∧ q < 6) → M' 11 q = M 11 q) ∧ rz_fr [10, 11] h h')) := by
  refine rz_met (by decide) rfl rfl (Nat.le_of_ble_eq_true rfl) (fun K _ => ?_)
  refine rz_Leq [(0, .ref x)] rfl ?_
  refine rz_iconst d_Md_search_0 ?_
  refine rz_istore_n [(1, vi 0), (0, .ref x)] d_Md_search_1 rfl (by decide) rfl ?_
  refine rz_loop (α := Int × rz_H × (Nat → Int → Int)) 0 0 2 (fun (i, hA, MA) => (30 - i).toNat) (fun (i, hA, MA) => 0 ≤ i ∧ i ≤ 30 ∧ MdAt Γ hA x ad MA ∧ rz_fr [10, 11] h hA ∧ mSk [11, 16, 17, 18, 19] M MA ∧ MA 11 = M 11 ∧ (∀ j, 0 ≤ j → j < i → MA 19 j = wth M j)) (fun (i, hA, MA) => [(1, vi i), (0, .ref x)]) (fun (i, hA, MA) => []) (fun (i, hA, MA) => hA) (fun y hy ih2 => ?_) (fun LP => ?_)
  · obtain ⟨i, hA, MA⟩ := y
    try dsimp only at hy ih2 ⊢
    obtain ⟨hi0, hi1, hMA, hFA, hZA, h11, wA⟩ := hy
    refine rz_iload_n 0 d_Md_search_2 rfl rfl ?_
    refine rz_bipush (v := 30) d_Md_search_3 (by decide) ?_
    refine rz_icmp_ge 41 d_Md_search_5 (by decide) (by omega) ⟨by decide, by decide⟩ (fun c5 => ?_) (fun c5 => ?_)
    · refine rz_iconst d_Md_search_41 ?_
      refine rz_istore_n [(1, vi 0), (0, .ref x)] d_Md_search_42 rfl (by decide) rfl ?_
      refine rz_loop (α := Int × rz_H × (Nat → Int → Int)) 0 0 43 (fun (n, hB, MB) => (15625 - n).toNat) (fun (n, hB, MB) => 0 ≤ n ∧ n ≤ 15625 ∧ MdAt Γ hB x ad MB ∧ rz_fr [10, 11] h hB ∧ mSk [11, 16, 17, 18, 19] M MB ∧ (∀ j, 0 ≤ j → j < 30 → MB 19 j = wth M j) ∧ (∀ q, ¬ (0 ≤ q ∧ q < 6) → MB 11 q = M 11 q) ∧ (0 < n → nowOK MB) ∧ srF M 15625 0 = srF M (15625 - n).toNat n) (fun (n, hB, MB) => [(1, vi n), (0, .ref x)]) (fun (n, hB, MB) => []) (fun (n, hB, MB) => hB) (fun y hy ih43 => ?_) (fun LP => ?_)
      · obtain ⟨n, hB, MB⟩ := y
        try dsimp only at hy ih43 ⊢
        obtain ⟨hn0, hn1, hMB, hFB, hZB, wB, oB, nB, hv⟩ := hy
        refine rz_iload_n 0 d_Md_search_43 rfl rfl ?_
        refine rz_sipush (v := 15625) d_Md_search_44 (by decide) ?_
        refine rz_icmp_ge 133 d_Md_search_47 (by decide) (by omega) ⟨by decide, by decide⟩ (fun c47 => ?_) (fun c47 => ?_)
        · refine rz_iconst d_Md_search_133 ?_
          exact rz_zreturn (st := []) (ty := .boolean) rfl rfl d_Md_search_134 ⟨by decide, by decide⟩ ⟨_, rfl, bi0 (by rw [srch_e hv (by omega)]; simp; omega), MB, hMB, hZB, nB (by omega), (fun q => absurd q (by rw [srch_e hv (by omega)]; omega)), oB, hFB⟩
        · refine rz_iload_n 0 d_Md_search_50 rfl rfl ?_
          refine rz_istore_n [(2, vi n), (1, vi n), (0, .ref x)] d_Md_search_51 rfl (by decide) rfl ?_
          refine rz_iconst d_Md_search_52 ?_
          refine rz_istore_n [(3, vi 1), (2, vi n), (1, vi n), (0, .ref x)] d_Md_search_53 rfl (by decide) rfl ?_
          refine rz_iconst d_Md_search_54 ?_
          refine rz_istore [(4, vi 5), (3, vi 1), (2, vi n), (1, vi n), (0, .ref x)] d_Md_search_55 (by decide) rfl ?_
          refine rz_loop (α := Int × Bool × rz_H × (Nat → Int → Int)) 0 0 57 (fun (p, f, hC, MC) => (p + 1).toNat) (fun (p, f, hC, MC) => -1 ≤ p ∧ p ≤ 5 ∧ MdAt Γ hC x ad MC ∧ rz_fr [10, 11] h hC ∧ mSk [11, 16, 17, 18, 19] M MC ∧ (∀ j, 0 ≤ j → j < 30 → MC 19 j = wth M j) ∧ MC 11 = nwF M n (MB 11) p ∧ f = frF M n (5 - p).toNat) (fun (p, f, hC, MC) => [(4, vi p), (3, vi (bi f)), (2, vi (n / 5 ^ (5 - p).toNat)), (1, vi n), (0, .ref x)]) (fun (p, f, hC, MC) => []) (fun (p, f, hC, MC) => hC) (fun y hy ih57 => ?_) (fun LP => ?_)
          · obtain ⟨p, f, hC, MC⟩ := y
            try dsimp only at hy ih57 ⊢
            obtain ⟨hp0, hp1, hMC, hFC, hZC, w, g, hf⟩ := hy
            have ip : 0 ≤ n / 5 ^ (5 - p).toNat ∧ n / 5 ^ (5 - p).toNat ≤ n := ⟨Int.ediv_nonneg hn0 (Int.le_of_lt (Int.pow_pos (by decide))), Int.ediv_le_self _ hn0⟩
            refine rz_iload 0 d_Md_search_57 rfl ?_
            refine rz_if_lt 114 d_Md_search_59 (by decide) (by omega) (fun c59 => ?_) (fun c59 => ?_)
            · have gE : MC 11 = slF M n := by rw [g, show p = -1 by omega]; exact nwF_e M n oB
              have nC : nowOK MC := fun q a b => by rw [gE, hZC 2 (by decide), slF, if_pos ⟨a, b⟩]; exact sel_in M hw n ⟨a, b⟩
              have cC : cOK MC := fun q a b => by rw [hZC 10 (by decide)]; exact hco q a b
              have gC : goodP MC = goodP (mu M 11 (slF M n)) := goodP_K (fun k hk => by by_cases e : k = 11; rw [e, mu_s]; exact gE; rw [mu_n e]; exact hZC k (by simp; omega))
              refine rz_iload_n 1 d_Md_search_114 rfl rfl ?_
              refine rz_if_eqB 127 d_Md_search_115 (by decide) (fun c115 => ?_) (fun c115 => ?_)
              · refine rz_iinc (n + 1) 3 [(1, vi (n + 1)), (4, vi p), (3, vi (bi f)), (2, vi (n / 5 ^ (5 - p).toNat)), (0, .ref x)] d_Md_search_127 rfl (by first | rfl | omega) (by decide) rfl ?_
                refine rz_goto 43 d_Md_search_130 (by decide) ?_
                refine rz_Lsub [(1, vi (n + 1)), (0, .ref x)] [0, 4] rfl ?_
                refine ih43 (n + 1, hC, MC) ?_ ?_
                · try dsimp only
                  exact ⟨by omega, by omega, hMC, hFC, hZC, w, (fun q hq => by rw [gE]; exact if_neg hq), (fun _ => nC), (by rw [hv, srF_go (by omega) (by rw [okS, ← show frF M n (5 - p).toNat = frF M n 6 from by rw [show (5 - p).toNat = 6 by omega], ← hf, c115]; rfl)]; congr 1; omega)⟩
                · exact (by first | omega | (dsimp only; omega))
              · refine rz_aload_n 4 d_Md_search_118 rfl rfl ?_
                refine rz_callV (As := []) (c_Md_good hMC (mSS_wf (mSk.mono hZC (by decide)) hw) (mSS_val (mSk.mono hZC (by decide)) hval) nC cC) m_Md_192 hMC.1 rfl rfl rfl rfl (Nat.le_of_ble_eq_true rfl) ⟨by decide, by decide⟩ ⟨by decide, by decide⟩ d_Md_search_119 (kI (h := hC) fun r1 h1 q1 => ?_)
                obtain ⟨rfl, M1, hM1, hT1, hF1⟩ := q1
                rw [gC]
                have hZ1 : mSk [11, 16, 17, 18, 19] M M1 := hZC.tr (hT1.mono (by decide))
                have hG1 := hFC.tr hF1
                refine rz_if_eqB 127 d_Md_search_122 (by decide) (fun c122 => ?_) (fun c122 => ?_)
                · refine rz_iinc (n + 1) 3 [(1, vi (n + 1)), (4, vi p), (3, vi (bi f)), (2, vi (n / 5 ^ (5 - p).toNat)), (0, .ref x)] d_Md_search_127 rfl (by first | rfl | omega) (by decide) rfl ?_
                  refine rz_goto 43 d_Md_search_130 (by decide) ?_
                  refine rz_Lsub [(1, vi (n + 1)), (0, .ref x)] [0, 4] rfl ?_
                  refine ih43 (n + 1, h1, M1) ?_ ?_
                  · try dsimp only
                    exact ⟨by omega, by omega, hM1, hG1, hZ1, (fun j a b => by rw [hT1 19 (by decide)]; exact w j a b), (fun q hq => by rw [hT1 11 (by decide), gE]; exact if_neg hq), (fun _ q a b => by rw [hT1 11 (by decide), hT1 2 (by decide)]; exact nC q a b), (by rw [hv, srF_go (by omega) (by rw [okS, c122]; simp)]; congr 1; omega)⟩
                  · exact (by first | omega | (dsimp only; omega))
                · have okn : okS M n = true := by rw [okS, c122, ← show frF M n (5 - p).toNat = frF M n 6 from by rw [show (5 - p).toNat = 6 by omega], ← hf, c115]; rfl
                  refine rz_iconst d_Md_search_125 ?_
                  exact rz_zreturn (st := []) (ty := .boolean) rfl rfl d_Md_search_126 ⟨by decide, by decide⟩ ⟨_, rfl, bi1 (by rw [srch, hv, srF_hit okn]; simp; omega), M1, hM1, hZ1, (fun q a b => by rw [hT1 11 (by decide), hT1 2 (by decide)]; exact nC q a b), (fun _ => by rw [hT1 11 (by decide), srch, hv, srF_hit okn]; exact gE), (fun q hq => by rw [hT1 11 (by decide), gE]; exact if_neg hq), hG1⟩
            · refine rz_iload_n 2 d_Md_search_62 rfl rfl ?_
              refine rz_iconst d_Md_search_63 ?_
              refine rz_irem (by omega) (by omega) d_Md_search_64 ?_
              refine rz_Seq [vi (dgt n p)] rfl ?_
              have dg := dgt_in n p
              refine rz_istore [(5, vi (dgt n p)), (4, vi p), (3, vi (bi f)), (2, vi (n / 5 ^ (5 - p).toNat)), (1, vi n), (0, .ref x)] d_Md_search_65 (by decide) rfl ?_
              refine rz_iload_n 3 d_Md_search_67 rfl rfl ?_
              refine rz_iconst d_Md_search_68 ?_
              refine rz_idiv (by omega) (by omega) d_Md_search_69 ?_
              refine rz_istore_n [(2, vi ((n / 5 ^ (5 - p).toNat) / 5)), (5, vi (dgt n p)), (4, vi p), (3, vi (bi f)), (1, vi n), (0, .ref x)] d_Md_search_70 rfl (by decide) rfl ?_
              refine rz_aload_n 5 d_Md_search_71 rfl rfl ?_
              refine rz_getf f_Md_41 hMC.1 rfl d_Md_search_72 ?_
              refine rz_iload 2 d_Md_search_75 rfl ?_
              refine rz_aload_n 5 d_Md_search_77 rfl rfl ?_
              refine rz_getf f_Md_53 hMC.1 rfl d_Md_search_78 ?_
              refine rz_iconst d_Md_search_81 ?_
              refine rz_iload 2 d_Md_search_82 rfl ?_
              refine rz_imul d_Md_search_84 ?_
              refine rz_iload 1 d_Md_search_85 rfl ?_
              refine rz_iadd d_Md_search_87 ?_
              refine rz_iaload (md_a19 hMC) (by decide) (by omega) d_Md_search_88 ?_
              rw [w ((5 * p) + (dgt n p)) (by omega) (by omega)]
              refine rz_Seq [vi (sel M n p), vi p, .ref (ad 11)] rfl ?_
              refine md_st11 hMC hFC (by omega) d_Md_search_89 (fun h2 hM2 hF2 => ?_)
              obtain ⟨M2, eM2⟩ : ∃ z, z = mu MC 11 (rz_u (MC 11) p (sel M n p)) := ⟨_, rfl⟩
              rw [← eM2] at hM2
              have hZ2 : mSk [11, 16, 17, 18, 19] M M2 := by rw [eM2]; exact hZC.mu (by decide) _
              refine rz_iload 1 d_Md_search_90 rfl ?_
              refine rz_iconst d_Md_search_92 ?_
              refine rz_icmp_ge 108 d_Md_search_93 (by decide) (by omega) ⟨by decide, by decide⟩ (fun c93 => ?_) (fun c93 => ?_)
              · refine rz_iinc (p - 1) 2 [(4, vi (p - 1)), (2, vi ((n / 5 ^ (5 - p).toNat) / 5)), (5, vi (dgt n p)), (3, vi (bi f)), (1, vi n), (0, .ref x)] d_Md_search_108 rfl (by first | rfl | omega) (by decide) rfl ?_
                refine rz_goto 57 d_Md_search_111 (by decide) ?_
                refine rz_Leq [(4, vi (p - 1)), (2, vi (n / 5 ^ (5 - (p - 1)).toNat)), (5, vi (dgt n p)), (3, vi (bi f)), (1, vi n), (0, .ref x)] (by rw [pw5 (by omega)]) ?_
                refine rz_Lsub [(4, vi (p - 1)), (3, vi (bi f)), (2, vi (n / 5 ^ (5 - (p - 1)).toNat)), (1, vi n), (0, .ref x)] [0, 3, 1, 4, 5] rfl ?_
                refine ih57 (p - 1, f, h2, M2) ?_ ?_
                · try dsimp only
                  exact ⟨by omega, by omega, hM2, hF2, hZ2, (by rw [eM2, mu_n (by decide)]; exact w), (by rw [eM2, mu_s, g]; exact nwF_s M n (MB 11) (by omega)), (by rw [frF_s M n (by omega), if_neg (by omega)]; exact hf)⟩
                · exact (by first | omega | (dsimp only; omega))
              · have si := sel_in M hw n (p := p) (by omega)
                have sl2 := hw.2.2.1 p (by omega) (by omega)
                refine rz_aload_n 5 d_Md_search_96 rfl rfl ?_
                refine rz_getf f_Md_41 hM2.1 rfl d_Md_search_97 ?_
                refine rz_iload 2 d_Md_search_100 rfl ?_
                refine rz_iaload (md_a11 hM2) (by decide) (by omega) d_Md_search_102 ?_
                rw [show M2 11 p = sel M n p from by rw [eM2, mu_s, rz_u_s]]
                refine rz_if_ge 108 d_Md_search_103 (by decide) (by omega) (fun c103 => ?_) (fun c103 => ?_)
                · refine rz_iinc (p - 1) 2 [(4, vi (p - 1)), (2, vi ((n / 5 ^ (5 - p).toNat) / 5)), (5, vi (dgt n p)), (3, vi (bi f)), (1, vi n), (0, .ref x)] d_Md_search_108 rfl (by first | rfl | omega) (by decide) rfl ?_
                  refine rz_goto 57 d_Md_search_111 (by decide) ?_
                  refine rz_Leq [(4, vi (p - 1)), (2, vi (n / 5 ^ (5 - (p - 1)).toNat)), (5, vi (dgt n p)), (3, vi (bi f)), (1, vi n), (0, .ref x)] (by rw [pw5 (by omega)]) ?_
                  refine rz_Lsub [(4, vi (p - 1)), (3, vi (bi f)), (2, vi (n / 5 ^ (5 - (p - 1)).toNat)), (1, vi n), (0, .ref x)] [0, 3, 1, 4, 5] rfl ?_
                  refine ih57 (p - 1, f, h2, M2) ?_ ?_
                  · try dsimp only
                    exact ⟨by omega, by omega, hM2, hF2, hZ2, (by rw [eM2, mu_n (by decide)]; exact w), (by rw [eM2, mu_s, g]; exact nwF_s M n (MB 11) (by omega)), (by rw [frF_s M n (by omega), if_neg (by omega)]; exact hf)⟩
                  · exact (by first | omega | (dsimp only; omega))
                · refine rz_iconst d_Md_search_106 ?_
                  refine rz_istore_n [(3, vi 0), (2, vi ((n / 5 ^ (5 - p).toNat) / 5)), (5, vi (dgt n p)), (4, vi p), (1, vi n), (0, .ref x)] d_Md_search_107 rfl (by decide) rfl ?_
                  refine rz_iinc (p - 1) 3 [(4, vi (p - 1)), (3, vi 0), (2, vi ((n / 5 ^ (5 - p).toNat) / 5)), (5, vi (dgt n p)), (1, vi n), (0, .ref x)] d_Md_search_108 rfl (by first | rfl | omega) (by decide) rfl ?_
                  refine rz_goto 57 d_Md_search_111 (by decide) ?_
                  refine rz_Leq [(4, vi (p - 1)), (3, vi 0), (2, vi (n / 5 ^ (5 - (p - 1)).toNat)), (5, vi (dgt n p)), (1, vi n), (0, .ref x)] (by rw [pw5 (by omega)]) ?_
                  refine rz_Lsub [(4, vi (p - 1)), (3, vi 0), (2, vi (n / 5 ^ (5 - (p - 1)).toNat)), (1, vi n), (0, .ref x)] [0, 1, 2, 4, 5] rfl ?_
                  refine ih57 (p - 1, false, h2, M2) ?_ ?_
                  · try dsimp only
                    exact ⟨by omega, by omega, hM2, hF2, hZ2, (by rw [eM2, mu_n (by decide)]; exact w), (by rw [eM2, mu_s, g]; exact nwF_s M n (MB 11) (by omega)), (by rw [frF_s M n (by omega), if_pos ⟨by omega, by omega⟩])⟩
                  · exact (by first | omega | (dsimp only; omega))
          · refine rz_Leq [(4, vi 5), (3, vi 1), (2, vi (n / 5 ^ (5 - 5 : Int).toNat)), (1, vi n), (0, .ref x)] (by rw [show n / 5 ^ (5 - 5 : Int).toNat = n from by simp]) ?_
            refine LP (5, true, hB, MB) ?_
            try dsimp only
            exact ⟨by decide, by decide, hMB, hFB, hZB, wB, (nwF_5 M n (MB 11)).symm, rfl⟩
      · refine rz_Lsub [(1, vi 0), (0, .ref x)] [0, 1] rfl ?_
        refine LP (0, hA, MA) ?_
        try dsimp only
        exact ⟨by decide, by decide, hMA, hFA, hZA, (fun j a b => wA j a (by omega)), (fun q _ => by rw [h11]), (fun q => absurd q (by omega)), rfl⟩
    · refine rz_aload_n 1 d_Md_search_8 rfl rfl ?_
      refine rz_getf f_Md_53 hMA.1 rfl d_Md_search_9 ?_
      refine rz_iload_n 0 d_Md_search_12 rfl rfl ?_
      refine rz_iload_n 0 d_Md_search_13 rfl rfl ?_
      refine rz_iconst d_Md_search_14 ?_
      refine rz_irem (by omega) (by omega) d_Md_search_15 ?_
      refine rz_iconst d_Md_search_16 ?_
      refine rz_icmp_ne 24 d_Md_search_17 (by decide) (by omega) ⟨by decide, by decide⟩ (fun c17 => ?_) (fun c17 => ?_)
      · refine rz_aload_n 1 d_Md_search_24 rfl rfl ?_
        refine rz_iload_n 0 d_Md_search_25 rfl rfl ?_
        refine rz_iconst d_Md_search_26 ?_
        refine rz_idiv (by omega) (by omega) d_Md_search_27 ?_
        refine rz_iload_n 0 d_Md_search_28 rfl rfl ?_
        refine rz_iconst d_Md_search_29 ?_
        refine rz_irem (by omega) (by omega) d_Md_search_30 ?_
        refine rz_callV (As := [vi (i / 5), vi (i % 5)]) (c_Md_ranked hMA (mSS_wf (mSk.mono hZA (by decide)) hw) (mSS_val (mSk.mono hZA (by decide)) hval).1 (by omega) (by omega)) m_Md_189 hMA.1 rfl rfl rfl rfl (Nat.le_of_ble_eq_true rfl) ⟨by decide, by decide⟩ ⟨by decide, by decide⟩ d_Md_search_31 (kI (h := hA) fun r3 h3 q3 => ?_)
        obtain ⟨rfl, M3, hM3, hT3, hF3⟩ := q3
        rw [rkd_SS (mSk.mono hZA (by decide))]
        have hZ3 : mSk [11, 16, 17, 18, 19] M M3 := hZA.tr (mSk.of2 hT3 (by decide) (by decide))
        have hG3 := hFA.tr hF3
        have t193 : M3 19 = MA 19 := hT3 19 (by decide) (by decide)
        have t113 : M3 11 = MA 11 := hT3 11 (by decide) (by decide)
        refine md_st19 hM3 hG3 (by omega) d_Md_search_34 (fun h4 hM4 hF4 => ?_)
        obtain ⟨M4, eM4⟩ : ∃ z, z = mu M3 19 (rz_u (M3 19) i (rkd M (i / 5) (i % 5))) := ⟨_, rfl⟩
        rw [← eM4] at hM4
        have hZ4 : mSk [11, 16, 17, 18, 19] M M4 := by rw [eM4]; exact hZ3.mu (by decide) _
        refine rz_iinc (i + 1) 0 [(1, vi (i + 1)), (0, .ref x)] d_Md_search_35 rfl (by first | rfl | omega) (by decide) rfl ?_
        refine rz_goto 2 d_Md_search_38 (by decide) ?_
        refine rz_Lsub [(1, vi (i + 1)), (0, .ref x)] [0, 1] rfl ?_
        refine ih2 (i + 1, h4, M4) ?_ ?_
        · try dsimp only
          exact ⟨by omega, by omega, hM4, hF4, hZ4, (by rw [eM4, mu_n (by decide), t113]; exact h11), (by rw [eM4, mu_s, t193]; exact wu wA (by rw [wth, if_neg (by omega)]))⟩
        · exact (by first | omega | (dsimp only; omega))
      · refine rz_iconst d_Md_search_20 ?_
        refine rz_goto 34 d_Md_search_21 (by decide) ?_
        refine md_st19 hMA hFA (by omega) d_Md_search_34 (fun h5 hM5 hF5 => ?_)
        obtain ⟨M5, eM5⟩ : ∃ z, z = mu MA 19 (rz_u (MA 19) i (-1)) := ⟨_, rfl⟩
        rw [← eM5] at hM5
        have hZ5 : mSk [11, 16, 17, 18, 19] M M5 := by rw [eM5]; exact hZA.mu (by decide) _
        refine rz_iinc (i + 1) 0 [(1, vi (i + 1)), (0, .ref x)] d_Md_search_35 rfl (by first | rfl | omega) (by decide) rfl ?_
        refine rz_goto 2 d_Md_search_38 (by decide) ?_
        refine rz_Lsub [(1, vi (i + 1)), (0, .ref x)] [0, 1] rfl ?_
        refine ih2 (i + 1, h5, M5) ?_ ?_
        · try dsimp only
          exact ⟨by omega, by omega, hM5, hF5, hZ5, (by rw [eM5, mu_n (by decide)]; exact h11), (by rw [eM5, mu_s]; exact wu wA (by rw [wth, if_pos (by omega)]))⟩
        · exact (by first | omega | (dsimp only; omega))
  · refine rz_Lsub [(1, vi 0), (0, .ref x)] [0, 1] rfl ?_
    refine LP (0, h, M) ?_
    try dsimp only
    exact ⟨by decide, by decide, hM, rz_fr.rf, mSk.rf, rfl, (fun j a b => absurd b (by omega))⟩

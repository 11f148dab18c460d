/-! the reference: findBlame, solve, unmet -/
/-- the search reads arrays 0 to 10, and of 11 no place that counts -/
def mK (M M' : Nat → Int → Int) : Prop := (∀ k, k < 11 → M' k = M k) ∧ ∀ q, ¬ (0 ≤ q ∧ q < 6) → M' 11 q = M 11 q
theorem mK_at {M M' : Nat → Int → Int} (h : ∀ k, k < 10 → M' k = M k) (t : Int) : mAt M' t = mAt M t := by
  funext i
  unfold mAt
  rw [h 0 (by decide), h 1 (by decide)]
theorem cmpR_K {M M' : Nat → Int → Int} (h : ∀ k, k < 10 → M' k = M k) (p s r : Int) : cmpR M' p s r = cmpR M p s r := by
  unfold cmpR
  rw [mK_at h, mK_at h, h 1 (by decide)]
theorem gtF_K {M M' : Nat → Int → Int} (h : ∀ k, k < 10 → M' k = M k) (p r : Int) : ∀ n s, gtF M' p r n s = gtF M p r n s
  | 0, _ => rfl
  | n + 1, s => by simp only [gtF, gtF_K h p r n, cmpR_K h]
theorem gtr_K {M M' : Nat → Int → Int} (h : ∀ k, k < 10 → M' k = M k) (p r : Int) : gtr M' p r = gtr M p r := by
  unfold gtr
  rw [gtF_K h, h 2 (by decide)]
theorem rdF_K {M M' : Nat → Int → Int} (h : ∀ k, k < 10 → M' k = M k) (p g : Int) : ∀ n r, rdF M' p g n r = rdF M p g n r
  | 0, _ => rfl
  | n + 1, r => by simp only [rdF, rdF_K h p g n, gtr_K h]
theorem rkd_K {M M' : Nat → Int → Int} (h : ∀ k, k < 10 → M' k = M k) (p g : Int) : rkd M' p g = rkd M p g := by
  unfold rkd
  rw [rdF_K h, h 2 (by decide)]
theorem sel_K {M M' : Nat → Int → Int} (h : ∀ k, k < 10 → M' k = M k) (n p : Int) : sel M' n p = sel M n p := by
  unfold sel wth
  rw [rkd_K h]
theorem frF_K {M M' : Nat → Int → Int} (h : ∀ k, k < 10 → M' k = M k) (n : Int) : ∀ k, frF M' n k = frF M n k
  | 0 => rfl
  | k + 1 => by simp only [frF, frF_K h n k, sel_K h]
theorem slF_K {M M' : Nat → Int → Int} (h : mK M M') (n : Int) : slF M' n = slF M n := by
  funext q
  unfold slF
  split
  · exact sel_K (fun k hk => h.1 k (by omega)) n q
  · rename_i e; exact h.2 q e
theorem okS_K {M M' : Nat → Int → Int} (h : mK M M') (n : Int) : okS M' n = okS M n := by
  unfold okS
  rw [frF_K (fun k hk => h.1 k (by omega)), goodP_K (M := mu M 11 (slF M n)) (M' := mu M' 11 (slF M' n)) (fun k hk => by
    by_cases e : k = 11
    · rw [e, mu_s, mu_s]; exact slF_K h n
    · rw [mu_n e, mu_n e]; exact h.1 k (by omega))]
theorem srF_K {M M' : Nat → Int → Int} (h : mK M M') : ∀ k n, srF M' k n = srF M k n
  | 0, _ => rfl
  | k + 1, n => by simp only [srF, srF_K h k, okS_K h]
theorem srch_K {M M' : Nat → Int → Int} (h : mK M M') : srch M' = srch M := srF_K h _ _
/-- which asks still count when one after the other was left out where that didn't help -/
def blS (M : Nat → Int → Int) (a : Int) (c : Int → Int) : Int → Int := if srch (mu M 10 (rz_u c a 0)) < 15625 then rz_u (rz_u c a 0) a 1 else rz_u c a 0
def blF (M : Nat → Int → Int) : Nat → Int → (Int → Int) → Int → Int
  | 0, _, c => c
  | n + 1, a, c => blF M n (a + 1) (blS M a c)
theorem blF_e (M : Nat → Int → Int) {n : Nat} (a : Int) (c : Int → Int) (hn : 0 < n) : blF M n a c = blF M (n - 1) (a + 1) (blS M a c) := by
  cases n with
  | zero => omega
  | succ n => rfl
theorem blS_K {M M' : Nat → Int → Int} (h : mK (mu M 10 (M' 10)) M') (a : Int) (c : Int → Int) : blS M' a c = blS M a c := by
  unfold blS
  rw [srch_K (M := mu M 10 (rz_u c a 0)) (M' := mu M' 10 (rz_u c a 0))]
  refine ⟨fun k hk => ?_, fun q hq => ?_⟩
  · by_cases e : k = 10
    · rw [e, mu_s, mu_s]
    · rw [mu_n e, mu_n e, h.1 k hk, mu_n e]
  · rw [mu_n (by decide), mu_n (by decide), h.2 q hq, mu_n (by decide)]
theorem blF_K {M M' : Nat → Int → Int} (h : mK (mu M 10 (M' 10)) M') : ∀ n a c, blF M' n a c = blF M n a c
  | 0, _, _ => rfl
  | n + 1, a, c => by simp only [blF, blS_K h, blF_K h n]
def blC (M : Nat → Int → Int) : Int → Int := blF M (M 8 0).toNat 0 (M 10)
def blB (M : Nat → Int → Int) (b : Int) : Bool := decide (b < M 8 0 ∧ ¬ blC M b = 0)
theorem mSk_10 {ks : List Nat} {M MA : Nat → Int → Int} {c : Int → Int} (h : mSk ks (mu M 10 c) MA) (g : Int → Int) : mSk ks (mu M 10 g) (mu MA 10 g) := fun k hk => by
  by_cases e : k = 10
  · rw [e, mu_s, mu_s]
  · rw [mu_n e, mu_n e, h k hk, mu_n e]
theorem mSk_SS {M MA : Nat → Int → Int} {c : Int → Int} (h : mSk [11, 16, 17, 18, 19] (mu M 10 c) MA) : mSS M MA := fun k hk => by
  rw [h k (fun q => hk (by simp at q ⊢; omega)), mu_n (fun q => hk (by simp [q]))]
theorem mSk_K {M MA : Nat → Int → Int} (h : mSk [11, 16, 17, 18, 19] M MA) (ho : ∀ q, ¬ (0 ≤ q ∧ q < 6) → MA 11 q = M 11 q) : mK M MA := ⟨fun k hk => h k (by simp; omega), ho⟩
def b4 (c : Int → Int) : Prop := ∀ b, 0 ≤ b → b < 4 → c b = 0 ∨ c b = 1
theorem b4_u {c : Int → Int} (h : b4 c) (i : Int) {v : Int} (hv : v = 0 ∨ v = 1) : b4 (rz_u c i v) := fun q a b => by
  by_cases e : q = i
  · rw [e, rz_u_s]; exact hv
  · rw [rz_u_n e]; exact h q a b
theorem gu {G : Int → Int} {g : Int → Int} {i v : Int} (h : ∀ j, 0 ≤ j → j < i → g j = G j) (hv : v = G i) : ∀ j, 0 ≤ j → j < i + 1 → rz_u g i v j = G j := fun j a b => by
  by_cases e : j = i
  · rw [e, rz_u_s, hv]
  · rw [rz_u_n e]; exact h j a (by omega)
abbrev rm_Md_findBlame : Room := { frames := 11, cells := 0, slots := 0, locals := 276 }
set_option maxRecDepth 100000 in
set_option maxHeartbeats 4000000 in
theorem c_Md_findBlame {l : Launch} {Γ : rz_G} {h : rz_H} {x : Nat} {ad : Nat → Nat} {M : Nat → Int → Int} (hM : MdAt Γ h x ad M) (hw : mWF M) (hval : mVal M) (hco : cOK M) : Ct l Γ x_Md_findBlame y_Md_findBlame rm_Md_findBlame [.ref x] h (pV (fun h' => ∃ M', MdAt Γ h' x ad M' ∧ mSk [10, 11, 15, 16, 17, 18, 19] M M' ∧ (∀ b, 0 ≤ b → b < 4 → M' 15 b = bi (blB M b)) ∧ rz_fr [10, 11] h h')) := by
  refine rz_met (by decide) rfl rfl (Nat.le_of_ble_eq_true rfl) (fun K _ => ?_)
  refine rz_Leq [(0, .ref x)] rfl ?_
  have l8 := hw.2.2.2.2.2.1
  refine rz_iconst d_Md_findBlame_0 ?_
  refine rz_istore_n [(1, vi 0), (0, .ref x)] d_Md_findBlame_1 rfl (by decide) rfl ?_
  refine rz_loop (α := Int × rz_H × (Nat → Int → Int) × (Int → Int)) 0 0 2 (fun (a, hA, MA, c) => (M 8 0 - a).toNat) (fun (a, hA, MA, c) => 0 ≤ a ∧ a ≤ M 8 0 ∧ MdAt Γ hA x ad MA ∧ rz_fr [10, 11] h hA ∧ mSk [11, 16, 17, 18, 19] (mu M 10 c) MA ∧ (∀ q, ¬ (0 ≤ q ∧ q < 6) → MA 11 q = M 11 q) ∧ b4 c ∧ blC M = blF M (M 8 0 - a).toNat a c) (fun (a, hA, MA, c) => [(1, vi a), (0, .ref x)]) (fun (a, hA, MA, c) => []) (fun (a, hA, MA, c) => hA) (fun y hy ih2 => ?_) (fun LP => ?_)
  · obtain ⟨a, hA, MA, c⟩ := y
    try dsimp only at hy ih2 ⊢
    obtain ⟨ha0, ha1, hMA, hFA, hZA, hoA, hc, hv⟩ := hy
    refine rz_iload_n 0 d_Md_findBlame_2 rfl rfl ?_
    refine rz_aload_n 1 d_Md_findBlame_3 rfl rfl ?_
    refine rz_getf f_Md_167 hMA.1 rfl d_Md_findBlame_4 ?_
    refine rz_Seq [vi (M 8 0), vi a] (by rw [(hZA 8 (by decide)).trans (mu_n (by decide))]) ?_
    refine rz_icmp_ge 37 d_Md_findBlame_7 (by decide) (by omega) (by omega) (fun c7 => ?_) (fun c7 => ?_)
    · have t8A : MA 8 = M 8 := (hZA 8 (by decide)).trans (mu_n (by decide))
      have t10A : MA 10 = c := (hZA 10 (by decide)).trans (mu_s _ _ _)
      have ebl : blC M = c := by rw [hv, show (M 8 0 - a).toNat = 0 by omega]; rfl
      refine rz_iconst d_Md_findBlame_37 ?_
      refine rz_istore_n [(1, vi 0), (0, .ref x)] d_Md_findBlame_38 rfl (by decide) rfl ?_
      refine rz_loop (α := Int × rz_H × (Int → Int)) 0 0 39 (fun (b, hB, g) => (4 - b).toNat) (fun (b, hB, g) => 0 ≤ b ∧ b ≤ 4 ∧ MdAt Γ hB x ad (mu MA 15 g) ∧ rz_fr [10, 11] h hB ∧ (∀ j, 0 ≤ j → j < b → g j = bi (blB M j))) (fun (b, hB, g) => [(1, vi b), (0, .ref x)]) (fun (b, hB, g) => []) (fun (b, hB, g) => hB) (fun y hy ih39 => ?_) (fun LP => ?_)
      · obtain ⟨b, hB, g⟩ := y
        try dsimp only at hy ih39 ⊢
        obtain ⟨hb0, hb1, hMB, hFB, hg⟩ := hy
        refine rz_iload_n 0 d_Md_findBlame_39 rfl rfl ?_
        refine rz_iconst d_Md_findBlame_40 ?_
        refine rz_icmp_ge 78 d_Md_findBlame_41 (by decide) (by omega) ⟨by decide, by decide⟩ (fun c41 => ?_) (fun c41 => ?_)
        · exact rz_return (st := []) rfl d_Md_findBlame_78 ⟨by decide, by decide⟩ ⟨rfl, _, hMB, (fun k hk => by rw [mu_n (fun q => hk (by simp [q])), hZA k (fun q => hk (by simp at q ⊢; omega)), mu_n (fun q => hk (by simp [q]))]), (fun b b0 b1 => by rw [mu_s]; exact hg b b0 (by omega)), hFB⟩
        · refine rz_aload_n 1 d_Md_findBlame_44 rfl rfl ?_
          refine rz_getf f_Md_47 hMB.1 rfl d_Md_findBlame_45 ?_
          refine rz_iload_n 0 d_Md_findBlame_48 rfl rfl ?_
          refine rz_cut (α := Unit) 0 0 71 (fun _ => True) (fun _ => [(1, vi b), (0, .ref x)]) (fun _ => [vi (bi (blB M b)), vi b, .ref (ad 15)]) (fun _ => hB) (fun _ _ => ?_) (fun J71 => ?_)
          · refine md_st15 hMB hFB (by omega) (bi01 _) d_Md_findBlame_71 (fun h1 hM1 hF1 => ?_)
            rw [mu_mu, mu_s] at hM1
            refine rz_iinc (b + 1) 0 [(1, vi (b + 1)), (0, .ref x)] d_Md_findBlame_72 rfl (by first | rfl | omega) (by decide) rfl ?_
            refine rz_goto 39 d_Md_findBlame_75 (by decide) ?_
            refine rz_Lsub [(1, vi (b + 1)), (0, .ref x)] [0, 1] rfl ?_
            refine ih39 (b + 1, h1, (rz_u g b (bi (blB M b)))) ?_ ?_
            · try dsimp only
              exact ⟨by omega, by omega, hM1, hF1, (gu (G := fun j => bi (blB M j)) hg rfl)⟩
            · exact (by first | omega | (dsimp only; omega))
          · refine rz_iload_n 0 d_Md_findBlame_49 rfl rfl ?_
            refine rz_aload_n 1 d_Md_findBlame_50 rfl rfl ?_
            refine rz_getf f_Md_167 hMB.1 rfl d_Md_findBlame_51 ?_
            refine rz_Seq [vi (M 8 0), vi b, vi b, .ref (ad 15)] (by rw [mu_n (by decide), t8A]) ?_
            refine rz_icmp_ge 70 d_Md_findBlame_54 (by decide) (by omega) (by omega) (fun c54 => ?_) (fun c54 => ?_)
            · refine rz_iconst d_Md_findBlame_70 ?_
              refine rz_Seq [vi (bi (blB M b)), vi b, .ref (ad 15)] (by rw [show blB M b = false from by rw [blB, ebl]; simp; first | (intro q; exact absurd q (by omega)) | (intro _; exact c63)]; rfl) ?_
              exact J71 () trivial
            · have cb := hc b (by omega) (by omega)
              refine rz_aload_n 1 d_Md_findBlame_57 rfl rfl ?_
              refine rz_getf f_Md_38 hMB.1 rfl d_Md_findBlame_58 ?_
              refine rz_iload_n 0 d_Md_findBlame_61 rfl rfl ?_
              refine rz_zaload (md_a10 hMB) (by decide) (by omega) d_Md_findBlame_62 ?_
              refine rz_Seq [vi (c b), vi b, .ref (ad 15)] (by rw [mu_n (by decide), t10A]) ?_
              refine rz_if_eq 70 d_Md_findBlame_63 (by decide) (by omega) (fun c63 => ?_) (fun c63 => ?_)
              · refine rz_iconst d_Md_findBlame_70 ?_
                refine rz_Seq [vi (bi (blB M b)), vi b, .ref (ad 15)] (by rw [show blB M b = false from by rw [blB, ebl]; simp; first | (intro q; exact absurd q (by omega)) | (intro _; exact c63)]; rfl) ?_
                exact J71 () trivial
              · refine rz_iconst d_Md_findBlame_66 ?_
                refine rz_goto 71 d_Md_findBlame_67 (by decide) ?_
                refine rz_Seq [vi (bi (blB M b)), vi b, .ref (ad 15)] (by rw [show blB M b = true from by rw [blB, ebl]; simp [c54, c63]; omega]; rfl) ?_
                exact J71 () trivial
      · refine rz_Lsub [(1, vi 0), (0, .ref x)] [0, 1] rfl ?_
        refine LP (0, hA, (MA 15)) ?_
        try dsimp only
        exact ⟨by omega, by omega, (by rw [mu_self]; exact hMA), hFA, (fun j a b => absurd b (by omega))⟩
    · refine rz_aload_n 1 d_Md_findBlame_10 rfl rfl ?_
      refine rz_getf f_Md_38 hMA.1 rfl d_Md_findBlame_11 ?_
      refine rz_iload_n 0 d_Md_findBlame_14 rfl rfl ?_
      refine rz_iconst d_Md_findBlame_15 ?_
      refine md_st10 hMA hFA (by omega) (by omega) d_Md_findBlame_16 (fun h2 hM2 hF2 => ?_)
      rw [show MA 10 = c from (hZA 10 (by decide)).trans (mu_s _ _ _)] at hM2
      have hZ2 := mSk_10 hZA (rz_u c a 0)
      have ho2 : ∀ q, ¬ (0 ≤ q ∧ q < 6) → mu MA 10 (rz_u c a 0) 11 q = M 11 q := fun q hq => (congrFun (mu_n (by decide)) q).trans (hoA q hq)
      refine rz_aload_n 1 d_Md_findBlame_17 rfl rfl ?_
      refine rz_callV (As := []) (c_Md_search hM2 (mSS_wf (mSk_SS hZ2) hw) (mSS_val (mSk_SS hZ2) hval) (by intro b b1 b2; rw [hZ2 10 (by decide), mu_s]; exact (b4_u hc a (Or.inl rfl)) b b1 b2)) m_Md_195 hM2.1 rfl rfl rfl rfl (Nat.le_of_ble_eq_true rfl) ⟨by decide, by decide⟩ ⟨by decide, by decide⟩ d_Md_findBlame_18 (kI (h := h2) fun r3 h3 q3 => ?_)
      obtain ⟨rfl, M3, hM3, hT3, hN3, hX3, hO3, hF3⟩ := q3
      have hZ3 : mSk [11, 16, 17, 18, 19] (mu M 10 (rz_u c a 0)) M3 := hZ2.tr hT3
      have ho3 : ∀ q, ¬ (0 ≤ q ∧ q < 6) → M3 11 q = M 11 q := fun q hq => (hO3 q hq).trans (ho2 q hq)
      have eS3 : srch (mu MA 10 (rz_u c a 0)) = srch (mu M 10 (rz_u c a 0)) := srch_K (mSk_K hZ2 (fun q hq => (ho2 q hq).trans (by rw [mu_n (by decide)])))
      rw [eS3] at *
      have hG3 := hF2.tr hF3
      refine rz_if_eqB 31 d_Md_findBlame_21 (by decide) (fun c21 => ?_) (fun c21 => ?_)
      · refine rz_iinc (a + 1) 0 [(1, vi (a + 1)), (0, .ref x)] d_Md_findBlame_31 rfl (by first | rfl | omega) (by decide) rfl ?_
        refine rz_goto 2 d_Md_findBlame_34 (by decide) ?_
        refine rz_Lsub [(1, vi (a + 1)), (0, .ref x)] [0, 1] rfl ?_
        refine ih2 (a + 1, h3, M3, (rz_u c a 0)) ?_ ?_
        · try dsimp only
          exact ⟨by omega, by omega, hM3, hG3, hZ3, ho3, (b4_u hc _ (by omega)), (by rw [hv, blF_e _ _ _ (by omega), blS, if_neg (by simpa using c21)]; congr 1; omega)⟩
        · exact (by first | omega | (dsimp only; omega))
      · refine rz_aload_n 1 d_Md_findBlame_24 rfl rfl ?_
        refine rz_getf f_Md_38 hM3.1 rfl d_Md_findBlame_25 ?_
        refine rz_iload_n 0 d_Md_findBlame_28 rfl rfl ?_
        refine rz_iconst d_Md_findBlame_29 ?_
        refine md_st10 hM3 hG3 (by omega) (by omega) d_Md_findBlame_30 (fun h4 hM4 hF4 => ?_)
        rw [show M3 10 = (rz_u c a 0) from (hZ3 10 (by decide)).trans (mu_s _ _ _)] at hM4
        have hZ4 := mSk_10 hZ3 (rz_u (rz_u c a 0) a 1)
        have ho4 : ∀ q, ¬ (0 ≤ q ∧ q < 6) → mu M3 10 (rz_u (rz_u c a 0) a 1) 11 q = M 11 q := fun q hq => (congrFun (mu_n (by decide)) q).trans (ho3 q hq)
        refine rz_iinc (a + 1) 0 [(1, vi (a + 1)), (0, .ref x)] d_Md_findBlame_31 rfl (by first | rfl | omega) (by decide) rfl ?_
        refine rz_goto 2 d_Md_findBlame_34 (by decide) ?_
        refine rz_Lsub [(1, vi (a + 1)), (0, .ref x)] [0, 1] rfl ?_
        refine ih2 (a + 1, h4, (mu M3 10 (rz_u (rz_u c a 0) a 1)), (rz_u (rz_u c a 0) a 1)) ?_ ?_
        · try dsimp only
          exact ⟨by omega, by omega, hM4, hF4, hZ4, ho4, (b4_u (b4_u hc _ (by omega)) _ (by omega)), (by rw [hv, blF_e _ _ _ (by omega), blS, if_pos (by simpa using c21)]; congr 1; omega)⟩
        · exact (by first | omega | (dsimp only; omega))
  · refine rz_Lsub [(1, vi 0), (0, .ref x)] [0, 1] rfl ?_
    refine LP (0, h, M, (M 10)) ?_
    try dsimp only
    exact ⟨by omega, by omega, hM, rz_fr.rf, (by rw [mu_self]; exact mSk.rf), (fun q _ => rfl), hco, (by unfold blC; congr 1; omega)⟩

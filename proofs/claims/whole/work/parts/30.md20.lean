/-! the reference: solve, unmet -/
def onF (M : Nat → Int → Int) (a : Int) : Int → Int := fun j => if 0 ≤ j ∧ j < a then 1 else M 10 j
theorem onF_0 (M : Nat → Int → Int) : onF M 0 = M 10 := by funext j; exact if_neg (by omega)
theorem onF_s (M : Nat → Int → Int) {a : Int} (ha : 0 ≤ a) : rz_u (onF M a) a 1 = onF M (a + 1) := by
  funext j
  unfold onF
  by_cases e : j = a
  · rw [e, rz_u_s, if_pos (by omega)]
  · rw [rz_u_n e]
    by_cases q : 0 ≤ j ∧ j < a
    · rw [if_pos q, if_pos (by omega)]
    · rw [if_neg q, if_neg (by omega)]
theorem onF_4 (M : Nat → Int → Int) : b4 (onF M 4) := fun b b0 b1 => Or.inr (if_pos ⟨b0, b1⟩)
/-- the reference with all asks counting -/
def mAll (M : Nat → Int → Int) : Nat → Int → Int := mu M 10 (onF M 4)
def fnd (M : Nat → Int → Int) : Bool := decide (srch (mAll M) < 15625)
/-- how many of g's first n are no less than 0 -/
def cnF (g : Int → Int) : Nat → Int
  | 0 => 0
  | n + 1 => cnF g n + (if 0 ≤ g n then 1 else 0)
theorem cnF_s (g : Int → Int) {p : Int} (hp : 0 ≤ p) : cnF g (p + 1).toNat = cnF g p.toNat + (if 0 ≤ g p then 1 else 0) := by
  rw [show (p + 1).toNat = p.toNat + 1 by omega]
  simp only [cnF, show ((p.toNat : Nat) : Int) = p by omega]
theorem cnF_in (g : Int → Int) : ∀ n, 0 ≤ cnF g n ∧ cnF g n ≤ n
  | 0 => by simp [cnF]
  | n + 1 => by have := cnF_in g n; simp only [cnF]; split <;> omega
theorem cnF_c {g g' : Int → Int} : ∀ n : Nat, (∀ q : Int, 0 ≤ q → q < n → g q = g' q) → cnF g n = cnF g' n
  | 0, _ => rfl
  | n + 1, h => by simp only [cnF, cnF_c n (fun q a b => h q a (by omega)), h n (by omega) (by omega)]
def cpF (G H : Int → Int) (p : Int) : Int → Int := fun j => if 0 ≤ j ∧ j < p then G j else H j
theorem cpF_0 (G H : Int → Int) : cpF G H 0 = H := by funext j; exact if_neg (by omega)
theorem cpF_s (G H : Int → Int) {p : Int} (hp : 0 ≤ p) : rz_u (cpF G H p) p (G p) = cpF G H (p + 1) := by
  funext j
  unfold cpF
  by_cases e : j = p
  · rw [e, rz_u_s, if_pos (by omega)]
  · rw [rz_u_n e]
    by_cases q : 0 ≤ j ∧ j < p
    · rw [if_pos q, if_pos (by omega)]
    · rw [if_neg q, if_neg (by omega)]
/-- what solve leaves behind -/
def solP (M M' : Nat → Int → Int) : Prop := mSk [10, 11, 12, 13, 14, 15, 16, 17, 18, 19] M M' ∧ M' 12 0 = bi (fnd M) ∧ M' 13 0 = bi (!fnd M) ∧ (∀ p, 0 ≤ p → p < 6 → -1 ≤ M' 14 p ∧ M' 14 p < M 2 p) ∧ (fnd M = true → ∀ p, 0 ≤ p → p < 6 → M' 14 p = sel M (srch (mAll M)) p) ∧ (fnd M = true → M' 15 = M 15) ∧ (fnd M = false → ∀ b, 0 ≤ b → b < 4 → M' 15 b = bi (blB (mAll M) b))
def solR (M : Nat → Int → Int) : Int := if fnd M = true then cnF (sel M (srch (mAll M))) 6 else -4
theorem mWF_sol {M M' : Nat → Int → Int} (hw : mWF M) (h : mSk [10, 11, 12, 13, 14, 16, 17, 18, 19] M M') (h12 : M' 12 0 = 0 ∨ M' 12 0 = 1) (h13 : M' 13 0 = 0 ∨ M' 13 0 = 1) (h14 : ∀ p, 0 ≤ p → p < 6 → -1 ≤ M' 14 p ∧ M' 14 p ≤ 3) : mWF M' := by
  obtain ⟨a, b, c, d, e, f, g, i, j, k, l, m, n, q⟩ := hw
  unfold mWF
  rw [h 0 (by decide), h 1 (by decide), h 2 (by decide), h 3 (by decide), h 4 (by decide), h 5 (by decide), h 6 (by decide), h 7 (by decide), h 8 (by decide), h 9 (by decide), h 15 (by decide)]
  exact ⟨a, b, c, d, e, f, g, i, j, k, h12, h13, h14, q⟩
theorem mVal_K {M M' : Nat → Int → Int} (h : ∀ k, k < 10 → M' k = M k) (hv : mVal M) : mVal M' := by
  refine ⟨?_, ?_, ?_, ?_, ?_⟩
  · intro p r h1 h2 h3 h4; rw [mK_at h, h 1 (by decide)]; rw [h 2 (by decide)] at h4; exact hv.1 p r h1 h2 h3 h4
  · rw [mK_at h, h 1 (by decide)]; exact hv.2.1
  · intro k a b c; rw [mK_at h, h 1 (by decide)]; rw [h 4 (by decide)] at c; exact hv.2.2.1 k a b c
  · intro k j a b c d; rw [mK_at h, h 1 (by decide)]; rw [h 5 (by decide)] at d; exact hv.2.2.2.1 k j a b c d
  · intro a b c; rw [mK_at h, h 1 (by decide)]; rw [h 8 (by decide)] at c; exact hv.2.2.2.2 a b c
abbrev rm_Md_solve : Room := { frames := 12, cells := 0, slots := 0, locals := 297 }
set_option maxRecDepth 100000 in
set_option maxHeartbeats 4000000 in
theorem c_Md_solve {l : Launch} {Γ : rz_G} {h : rz_H} {x : Nat} {ad : Nat → Nat} {M : Nat → Int → Int} (hM : MdAt Γ h x ad M) (hw : mWF M) (hval : mVal M) : Ct l Γ x_Md_solve y_Md_solve rm_Md_solve [.ref x] h (pI (fun r h' => r = solR M ∧ ∃ M', MdAt Γ h' x ad M' ∧ solP M M' ∧ rz_fr [10, 11] h h')) := by
  refine rz_met (by decide) rfl rfl (Nat.le_of_ble_eq_true rfl) (fun K _ => ?_)
  refine rz_Leq [(0, .ref x)] rfl ?_
  refine rz_iconst d_Md_solve_0 ?_
  refine rz_istore_n [(1, vi 0), (0, .ref x)] d_Md_solve_1 rfl (by decide) rfl ?_
  refine rz_loop (α := Int × rz_H) 0 0 2 (fun (a, hA) => (4 - a).toNat) (fun (a, hA) => 0 ≤ a ∧ a ≤ 4 ∧ MdAt Γ hA x ad (mu M 10 (onF M a)) ∧ rz_fr [10, 11] h hA) (fun (a, hA) => [(1, vi a), (0, .ref x)]) (fun (a, hA) => []) (fun (a, hA) => hA) (fun y hy ih2 => ?_) (fun LP => ?_)
  · obtain ⟨a, hA⟩ := y
    try dsimp only at hy ih2 ⊢
    obtain ⟨ha0, ha1, hMA, hFA⟩ := hy
    refine rz_iload_n 0 d_Md_solve_2 rfl rfl ?_
    refine rz_iconst d_Md_solve_3 ?_
    refine rz_icmp_ge 20 d_Md_solve_4 (by decide) (by omega) ⟨by decide, by decide⟩ (fun c4 => ?_) (fun c4 => ?_)
    · have ea : a = 4 := by omega
      subst ea
      refine rz_aload_n 1 d_Md_solve_20 rfl rfl ?_
      refine rz_callV (As := []) (c_Md_search hMA (mSS_wf (mSk_SS (mSk.rf (ks := [11, 16, 17, 18, 19]) (M := mu M 10 (onF M 4)))) hw) (mSS_val (mSk_SS (mSk.rf (ks := [11, 16, 17, 18, 19]) (M := mu M 10 (onF M 4)))) hval) (by intro b b1 b2; rw [(mSk.rf (ks := [11, 16, 17, 18, 19]) (M := mu M 10 (onF M 4))) 10 (by decide), mu_s]; exact onF_4 M b b1 b2)) m_Md_195 hMA.1 rfl rfl rfl rfl (Nat.le_of_ble_eq_true rfl) ⟨by decide, by decide⟩ ⟨by decide, by decide⟩ d_Md_solve_21 (kI (h := hA) fun r1 h1 q1 => ?_)
      obtain ⟨rfl, M1, hM1, hT1, hN1, hX1, hO1, hF1⟩ := q1
      have hZ1 : mSk [11, 16, 17, 18, 19] (mu M 10 (onF M 4)) M1 := (mSk.rf (ks := [11, 16, 17, 18, 19]) (M := mu M 10 (onF M 4))).tr hT1
      have ho1 : ∀ q, ¬ (0 ≤ q ∧ q < 6) → M1 11 q = M 11 q := fun q hq => (hO1 q hq).trans ((fun q _ => congrFun (mu_n (M := M) (k := 10) (g := onF M 4) (by decide)) q) q hq)
      have hG1 := hFA.tr hF1
      refine rz_istore_n [(1, vi (bi (fnd M))), (0, .ref x)] d_Md_solve_24 rfl (by decide) rfl ?_
      refine rz_aload_n 1 d_Md_solve_25 rfl rfl ?_
      refine rz_iload_n 0 d_Md_solve_26 rfl rfl ?_
      refine md_ps12 hM1 hG1 (bi01 _) (fp_Md_198 _) d_Md_solve_27 (fun h2 hM2 hF2 => ?_)
      obtain ⟨M2, eM2⟩ : ∃ z, z = mu M1 12 (fun _ => (bi (fnd M))) := ⟨_, rfl⟩
      rw [← eM2] at hM2
      refine rz_aload_n 1 d_Md_solve_30 rfl rfl ?_
      refine rz_cut (α := Unit) 0 0 40 (fun _ => True) (fun _ => [(1, vi (bi (fnd M))), (0, .ref x)]) (fun _ => [vi (bi (!fnd M)), .ref x]) (fun _ => h2) (fun _ _ => ?_) (fun J40 => ?_)
      · refine md_ps13 hM2 hF2 (bi01 _) (fp_Md_202 _) d_Md_solve_40 (fun h3 hM3 hF3 => ?_)
        obtain ⟨M3, eM3⟩ : ∃ z, z = mu M2 13 (fun _ => (bi (!fnd M))) := ⟨_, rfl⟩
        rw [← eM3] at hM3
        obtain ⟨N, eN⟩ : ∃ z, z = M1 := ⟨_, rfl⟩
        rw [← eN] at hZ1 hN1 hX1 eM2
        have tN11 : M3 11 = N 11 := by rw [eM3, mu_n (by decide), eM2, mu_n (by decide)]
        have t13 : M3 13 0 = bi (!fnd M) := by rw [eM3, mu_s]
        have t12 : M3 12 0 = bi (fnd M) := by rw [eM3, mu_n (by decide), eM2, mu_s]
        have tK : mSk [10, 11, 12, 13, 16, 17, 18, 19] M M3 := fun k hk => by rw [eM3, mu_n (fun q => hk (by simp [q])), eM2, mu_n (fun q => hk (by simp [q])), hZ1 k (fun q => hk (by simp at q ⊢; omega)), mu_n (fun q => hk (by simp [q]))]
        have t10 : M3 10 = onF M 4 := by rw [eM3, mu_n (by decide), eM2, mu_n (by decide), hZ1 10 (by decide), mu_s]
        have nN : ∀ p, 0 ≤ p → p < 6 → -1 ≤ N 11 p ∧ N 11 p < M 2 p := fun p a b => by have q := hN1 p a b; rw [hZ1 2 (by decide), mu_n (by decide)] at q; exact q
        have nO : ∀ q, ¬ (0 ≤ q ∧ q < 6) → N 11 q = M 11 q := fun q hq => by rw [eN]; exact ho1 q hq
        have nX : fnd M = true → ∀ p, 0 ≤ p → p < 6 → N 11 p = sel M (srch (mAll M)) p := fun hf p a b => by rw [hX1 (of_decide_eq_true hf), slF, if_pos ⟨a, b⟩]; exact sel_K (fun k hk => mu_n (by omega)) _ p
        obtain ⟨NN, eNN⟩ : ∃ z, z = M3 := ⟨_, rfl⟩
        rw [← eNN] at tN11 t13 t12 tK t10 hM3
        refine rz_iconst d_Md_solve_43 ?_
        refine rz_istore_n [(2, vi 0), (1, vi (bi (fnd M))), (0, .ref x)] d_Md_solve_44 rfl (by decide) rfl ?_
        refine rz_iconst d_Md_solve_45 ?_
        refine rz_istore_n [(3, vi 0), (2, vi 0), (1, vi (bi (fnd M))), (0, .ref x)] d_Md_solve_46 rfl (by decide) rfl ?_
        refine rz_loop (α := Int × rz_H) 0 0 47 (fun (p, hB) => (6 - p).toNat) (fun (p, hB) => 0 ≤ p ∧ p ≤ 6 ∧ MdAt Γ hB x ad (mu NN 14 (cpF (N 11) (M 14) p)) ∧ rz_fr [10, 11] h hB) (fun (p, hB) => [(3, vi p), (2, vi (cnF (N 11) p.toNat)), (1, vi (bi (fnd M))), (0, .ref x)]) (fun (p, hB) => []) (fun (p, hB) => hB) (fun y hy ih47 => ?_) (fun LP => ?_)
        · obtain ⟨p, hB⟩ := y
          try dsimp only at hy ih47 ⊢
          obtain ⟨hp0, hp1, hMB, hFB⟩ := hy
          have cn := cnF_in (N 11) p.toNat
          refine rz_iload_n 0 d_Md_solve_47 rfl rfl ?_
          refine rz_bipush (v := 6) d_Md_solve_48 (by decide) ?_
          refine rz_icmp_ge 83 d_Md_solve_50 (by decide) (by omega) ⟨by decide, by decide⟩ (fun c50 => ?_) (fun c50 => ?_)
          · have ep : p = 6 := by omega
            subst ep
            have mK4 : mSk [10, 11, 12, 13, 14, 16, 17, 18, 19] M (mu NN 14 (cpF (N 11) (M 14) 6)) := (tK.mono (by decide)).mu (by decide) _
            have m14 : ∀ p, 0 ≤ p → p < 6 → mu NN 14 (cpF (N 11) (M 14) 6) 14 p = N 11 p := fun p a b => by rw [mu_s, cpF, if_pos ⟨a, b⟩]
            have hw4 : mWF (mu NN 14 (cpF (N 11) (M 14) 6)) := mWF_sol hw mK4 (by rw [mu_n (by decide), t12]; exact bi01 _) (by rw [mu_n (by decide), t13]; exact bi01 _) (fun p a b => by rw [m14 p a b]; have q1 := nN p a b; have q2 := hw.2.2.1 p a b; omega)
            have hv4 : mVal (mu NN 14 (cpF (N 11) (M 14) 6)) := mVal_K (fun k hk => mK4 k (by simp; omega)) hval
            have hc4 : cOK (mu NN 14 (cpF (N 11) (M 14) 6)) := fun b b0 b1 => by rw [mu_n (by decide), t10]; exact onF_4 M b b0 b1
            refine rz_aload_n 3 d_Md_solve_83 rfl rfl ?_
            refine rz_getf f_Md_202 hMB.1 rfl d_Md_solve_84 ?_
            refine rz_Seq [vi (bi (!fnd M))] (by rw [mu_n (by decide)]; simp only [t13]) ?_
            refine rz_if_eqB 94 d_Md_solve_87 (by decide) (fun c87 => ?_) (fun c87 => ?_)
            · have c87f : fnd M = true := by simpa using c87
              refine rz_iload_n 2 d_Md_solve_94 rfl rfl ?_
              refine rz_if_eqB 102 d_Md_solve_95 (by decide) (fun c95 => ?_) (fun c95 => ?_)
              · refine rz_bipush (v := (-4)) d_Md_solve_102 (by decide) ?_
                exact rz_ireturn (st := []) rfl d_Md_solve_104 ⟨by decide, by decide⟩ ⟨_, rfl, absurd c95 (by rw [c87f]; decide)⟩
              · refine rz_iload_n 1 d_Md_solve_98 rfl rfl ?_
                refine rz_goto 104 d_Md_solve_99 (by decide) ?_
                exact rz_ireturn (st := []) rfl d_Md_solve_104 ⟨by decide, by decide⟩ ⟨_, rfl, (by rw [solR, if_pos c87f, show ((6 : Int)).toNat = 6 from rfl]; exact cnF_c 6 (fun q a b => nX c87f q a (by omega))), _, hMB, ⟨mK4.mono (by decide), by rw [mu_n (by decide), t12], by rw [mu_n (by decide), t13], fun p a b => by rw [m14 p a b]; exact nN p a b, fun q p a b => by rw [m14 p a b]; exact nX q p a b, fun _ => mK4 15 (by decide), fun q => absurd q (by rw [c87f]; decide)⟩, hFB⟩
            · refine rz_aload_n 3 d_Md_solve_90 rfl rfl ?_
              refine rz_callV (As := []) (c_Md_findBlame hMB hw4 hv4 hc4) m_Md_205 hMB.1 rfl rfl rfl rfl (Nat.le_of_ble_eq_true rfl) ⟨by decide, by decide⟩ ⟨by decide, by decide⟩ d_Md_solve_91 (kV (h := hB) fun h4 q4 => ?_)
              obtain ⟨M4, hM4, hT4, hB4, hF4⟩ := q4
              have hG4 := hFB.tr hF4
              have c87f : fnd M = false := by simpa using c87
              have bE : ∀ b, blB (mu NN 14 (cpF (N 11) (M 14) 6)) b = blB (mAll M) b := fun b => by
                have tt : mu NN 14 (cpF (N 11) (M 14) 6) 10 = onF M 4 := by rw [mu_n (by decide), t10]
                unfold blB blC
                rw [mK4 8 (by decide), tt, show mAll M 8 = M 8 from mu_n (by decide), show mAll M 10 = onF M 4 from mu_s _ _ _, blF_K (M := mAll M)]
                refine ⟨fun k hk => ?_, fun q hq => ?_⟩
                · by_cases e : k = 10
                  · rw [e, mu_s]
                  · rw [mu_n e, show mAll M k = M k from mu_n e]; exact mK4 k (by simp; omega)
                · rw [mu_n (by decide), mu_n (by decide), show mAll M 11 = M 11 from mu_n (by decide), tN11]; exact nO q hq
              refine rz_iload_n 2 d_Md_solve_94 rfl rfl ?_
              refine rz_if_eqB 102 d_Md_solve_95 (by decide) (fun c95 => ?_) (fun c95 => ?_)
              · refine rz_bipush (v := (-4)) d_Md_solve_102 (by decide) ?_
                exact rz_ireturn (st := []) rfl d_Md_solve_104 ⟨by decide, by decide⟩ ⟨_, rfl, (by rw [solR, if_neg (by rw [c87f]; decide)]), M4, hM4, ⟨fun k hk => by rw [hT4 k (fun q => hk (by simp at q ⊢; omega)), mK4 k (fun q => hk (by simp at q ⊢; omega))], by rw [hT4 12 (by decide), mu_n (by decide), t12], by rw [hT4 13 (by decide), mu_n (by decide), t13], fun p a b => by rw [hT4 14 (by decide), m14 p a b]; exact nN p a b, fun q => absurd q (by rw [c87f]; decide), fun q => absurd q (by rw [c87f]; decide), fun _ b b0 b1 => by rw [hB4 b b0 b1, bE]⟩, hG4⟩
              · refine rz_iload_n 1 d_Md_solve_98 rfl rfl ?_
                refine rz_goto 104 d_Md_solve_99 (by decide) ?_
                exact rz_ireturn (st := []) rfl d_Md_solve_104 ⟨by decide, by decide⟩ ⟨_, rfl, absurd c95 (by rw [c87f]; decide)⟩
          · refine rz_aload_n 3 d_Md_solve_53 rfl rfl ?_
            refine rz_getf f_Md_44 hMB.1 rfl d_Md_solve_54 ?_
            refine rz_iload_n 0 d_Md_solve_57 rfl rfl ?_
            refine rz_aload_n 3 d_Md_solve_58 rfl rfl ?_
            refine rz_getf f_Md_41 hMB.1 rfl d_Md_solve_59 ?_
            refine rz_iload_n 0 d_Md_solve_62 rfl rfl ?_
            refine rz_iaload (md_a11 hMB) (by decide) (by omega) d_Md_solve_63 ?_
            refine rz_Seq [vi (N 11 p), vi p, .ref (ad 14)] (by rw [mu_n (by decide)]; simp only [tN11]) ?_
            refine md_st14 hMB hFB (by omega) d_Md_solve_64 (fun h5 hM5 hF5 => ?_)
            rw [mu_mu, mu_s, cpF_s _ _ hp0] at hM5
            have n11 := nN p (by omega) (by omega)
            have n2 := hw.2.2.1 p (by omega) (by omega)
            refine rz_aload_n 3 d_Md_solve_65 rfl rfl ?_
            refine rz_getf f_Md_41 hM5.1 rfl d_Md_solve_66 ?_
            refine rz_iload_n 0 d_Md_solve_69 rfl rfl ?_
            refine rz_iaload (md_a11 hM5) (by decide) (by omega) d_Md_solve_70 ?_
            refine rz_Seq [vi (N 11 p)] (by rw [mu_n (by decide)]; simp only [tN11]) ?_
            refine rz_if_lt 77 d_Md_solve_71 (by decide) (by omega) (fun c71 => ?_) (fun c71 => ?_)
            · refine rz_iinc (p + 1) 0 [(3, vi (p + 1)), (2, vi (cnF (N 11) p.toNat)), (1, vi (bi (fnd M))), (0, .ref x)] d_Md_solve_77 rfl (by first | rfl | omega) (by decide) rfl ?_
              refine rz_goto 47 d_Md_solve_80 (by decide) ?_
              refine rz_Leq [(3, vi (p + 1)), (2, vi (cnF (N 11) (p + 1).toNat)), (1, vi (bi (fnd M))), (0, .ref x)] (by rw [cnF_s _ hp0, if_neg (by omega), Int.add_zero]) ?_
              refine rz_Lsub [(3, vi (p + 1)), (2, vi (cnF (N 11) (p + 1).toNat)), (1, vi (bi (fnd M))), (0, .ref x)] [0, 1, 2, 3] rfl ?_
              refine ih47 (p + 1, h5) ?_ ?_
              · try dsimp only
                exact ⟨by omega, by omega, hM5, hF5⟩
              · exact (by first | omega | (dsimp only; omega))
            · refine rz_iinc ((cnF (N 11) p.toNat) + 1) 1 [(2, vi ((cnF (N 11) p.toNat) + 1)), (3, vi p), (1, vi (bi (fnd M))), (0, .ref x)] d_Md_solve_74 rfl (by first | rfl | omega) (by decide) rfl ?_
              refine rz_iinc (p + 1) 1 [(3, vi (p + 1)), (2, vi ((cnF (N 11) p.toNat) + 1)), (1, vi (bi (fnd M))), (0, .ref x)] d_Md_solve_77 rfl (by first | rfl | omega) (by decide) rfl ?_
              refine rz_goto 47 d_Md_solve_80 (by decide) ?_
              refine rz_Leq [(3, vi (p + 1)), (2, vi (cnF (N 11) (p + 1).toNat)), (1, vi (bi (fnd M))), (0, .ref x)] (by rw [cnF_s _ hp0, if_pos (by omega)]) ?_
              refine rz_Lsub [(3, vi (p + 1)), (2, vi (cnF (N 11) (p + 1).toNat)), (1, vi (bi (fnd M))), (0, .ref x)] [0, 1, 2, 3] rfl ?_
              refine ih47 (p + 1, h5) ?_ ?_
              · try dsimp only
                exact ⟨by omega, by omega, hM5, hF5⟩
              · exact (by first | omega | (dsimp only; omega))
        · refine rz_Lsub [(3, vi 0), (2, vi 0), (1, vi (bi (fnd M))), (0, .ref x)] [0, 1, 2, 3] rfl ?_
          refine LP (0, h3) ?_
          try dsimp only
          exact ⟨by omega, by omega, (by rw [cpF_0, ← tK 14 (by decide), mu_self]; exact hM3), hF3⟩
      · refine rz_iload_n 0 d_Md_solve_31 rfl rfl ?_
        refine rz_if_neB 39 d_Md_solve_32 (by decide) (fun c32 => ?_) (fun c32 => ?_)
        · refine rz_iconst d_Md_solve_39 ?_
          refine rz_Seq [vi (bi (!fnd M)), .ref x] (by rw [c32]; rfl) ?_
          exact J40 () trivial
        · refine rz_iconst d_Md_solve_35 ?_
          refine rz_goto 40 d_Md_solve_36 (by decide) ?_
          refine rz_Seq [vi (bi (!fnd M)), .ref x] (by rw [c32]; rfl) ?_
          exact J40 () trivial
    · refine rz_aload_n 1 d_Md_solve_7 rfl rfl ?_
      refine rz_getf f_Md_38 hMA.1 rfl d_Md_solve_8 ?_
      refine rz_iload_n 0 d_Md_solve_11 rfl rfl ?_
      refine rz_iconst d_Md_solve_12 ?_
      refine md_st10 hMA hFA (by omega) (by omega) d_Md_solve_13 (fun h6 hM6 hF6 => ?_)
      rw [mu_mu, mu_s, onF_s M ha0] at hM6
      refine rz_iinc (a + 1) 0 [(1, vi (a + 1)), (0, .ref x)] d_Md_solve_14 rfl (by first | rfl | omega) (by decide) rfl ?_
      refine rz_goto 2 d_Md_solve_17 (by decide) ?_
      refine rz_Lsub [(1, vi (a + 1)), (0, .ref x)] [0, 1] rfl ?_
      refine ih2 (a + 1, h6) ?_ ?_
      · try dsimp only
        exact ⟨by omega, by omega, hM6, hF6⟩
      · exact (by first | omega | (dsimp only; omega))
  · refine rz_Lsub [(1, vi 0), (0, .ref x)] [0, 1] rfl ?_
    refine LP (0, h) ?_
    try dsimp only
    exact ⟨by omega, by omega, (by rw [onF_0, mu_self]; exact hM), rz_fr.rf⟩
/-- how many of the asks from a on, n of them, aren't met by the selection now -/
def umF (M : Nat → Int → Int) : Nat → Int → Int
  | 0, _ => 0
  | n + 1, a => (if metP M (M 9 a) (2 + a) = true then 0 else 1) + umF M n (a + 1)
theorem umF_e (M : Nat → Int → Int) {n : Nat} (a : Int) (hn : 0 < n) : umF M n a = (if metP M (M 9 a) (2 + a) = true then 0 else 1) + umF M (n - 1) (a + 1) := by
  cases n with
  | zero => omega
  | succ n => rfl
def mCh (M : Nat → Int → Int) : Nat → Int → Int := mu M 11 (cpF (M 14) (M 11) 6)
def sp_unmet (M : Nat → Int → Int) : Int × (Nat → Int → Int) := if M 12 0 = 0 then (-4, M) else (umF (mCh M) (M 8 0).toNat 0, mCh M)
/-- what was chosen is there -/
def chOK (M : Nat → Int → Int) : Prop := ¬ M 12 0 = 0 → ∀ p, 0 ≤ p → p < 6 → -1 ≤ M 14 p ∧ M 14 p < M 2 p
abbrev rm_Md_unmet : Room := { frames := 8, cells := 0, slots := 0, locals := 206 }
set_option maxRecDepth 100000 in
set_option maxHeartbeats 4000000 in
theorem c_Md_unmet {l : Launch} {Γ : rz_G} {h : rz_H} {x : Nat} {ad : Nat → Nat} {M : Nat → Int → Int} (hM : MdAt Γ h x ad M) (hw : mWF M) (hval : mVal M) (hch : chOK M) : Ct l Γ x_Md_unmet y_Md_unmet rm_Md_unmet [.ref x] h (pI (fun r' h' => r' = (sp_unmet M).1 ∧ ∃ M', MdAt Γ h' x ad M' ∧ mS2 (sp_unmet M).2 M' ∧ rz_fr [10, 11] h h')) := by
  refine rz_met (by decide) rfl rfl (Nat.le_of_ble_eq_true rfl) (fun K _ => ?_)
  refine rz_Leq [(0, .ref x)] rfl ?_
  have l12 := hw.2.2.2.2.2.2.2.2.2.2.1
  refine rz_aload_n 0 d_Md_unmet_0 rfl rfl ?_
  refine rz_getf f_Md_198 hM.1 rfl d_Md_unmet_1 ?_
  refine rz_if_ne 10 d_Md_unmet_4 (by decide) (by omega) (fun c4 => ?_) (fun c4 => ?_)
  · refine rz_iconst d_Md_unmet_10 ?_
    refine rz_istore_n [(1, vi 0), (0, .ref x)] d_Md_unmet_11 rfl (by decide) rfl ?_
    refine rz_iconst d_Md_unmet_12 ?_
    refine rz_istore_n [(2, vi 0), (1, vi 0), (0, .ref x)] d_Md_unmet_13 rfl (by decide) rfl ?_
    refine rz_loop (α := Int × rz_H) 0 0 14 (fun (p, hA) => (6 - p).toNat) (fun (p, hA) => 0 ≤ p ∧ p ≤ 6 ∧ MdAt Γ hA x ad (mu M 11 (cpF (M 14) (M 11) p)) ∧ rz_fr [10, 11] h hA) (fun (p, hA) => [(2, vi p), (1, vi 0), (0, .ref x)]) (fun (p, hA) => []) (fun (p, hA) => hA) (fun y hy ih14 => ?_) (fun LP => ?_)
    · obtain ⟨p, hA⟩ := y
      try dsimp only at hy ih14 ⊢
      obtain ⟨hp0, hp1, hMA, hFA⟩ := hy
      refine rz_iload_n 0 d_Md_unmet_14 rfl rfl ?_
      refine rz_bipush (v := 6) d_Md_unmet_15 (by decide) ?_
      refine rz_icmp_ge 38 d_Md_unmet_17 (by decide) (by omega) ⟨by decide, by decide⟩ (fun c17 => ?_) (fun c17 => ?_)
      · have ep : p = 6 := by omega
        subst ep
        obtain ⟨C, eC⟩ : ∃ z, z = mCh M := ⟨_, rfl⟩
        replace hMA : MdAt Γ hA x ad C := eC ▸ hMA
        have kC : ∀ k, k ≠ 11 → C k = M k := fun k hk => by rw [eC]; exact mu_n hk
        have hwC : mWF C := mWF_sol hw (fun k hk => kC k (fun q => hk (by simp [q]))) (by rw [kC 12 (by decide)]; exact hw.2.2.2.2.2.2.2.2.2.2.1) (by rw [kC 13 (by decide)]; exact hw.2.2.2.2.2.2.2.2.2.2.2.1) (by rw [kC 14 (by decide)]; exact hw.2.2.2.2.2.2.2.2.2.2.2.2.1)
        have hvC : mVal C := mVal_K (fun k hk => kC k (by omega)) hval
        have hnC : nowOK C := fun p a b => by rw [kC 2 (by decide), eC, mCh, mu_s, cpF, if_pos ⟨a, b⟩]; exact hch c4 p a b
        have l8 := hwC.2.2.2.2.2.1
        refine rz_iconst d_Md_unmet_38 ?_
        refine rz_istore_n [(2, vi 0), (1, vi 0), (0, .ref x)] d_Md_unmet_39 rfl (by decide) rfl ?_
        refine rz_loop (α := Int × Int × rz_H × (Nat → Int → Int)) 0 0 40 (fun (a, n, hB, MB) => (C 8 0 - a).toNat) (fun (a, n, hB, MB) => 0 ≤ a ∧ a ≤ C 8 0 ∧ 0 ≤ n ∧ n ≤ a ∧ MdAt Γ hB x ad MB ∧ mS2 C MB ∧ rz_fr [10, 11] h hB ∧ umF C (C 8 0).toNat 0 = n + umF C (C 8 0 - a).toNat a) (fun (a, n, hB, MB) => [(2, vi a), (1, vi n), (0, .ref x)]) (fun (a, n, hB, MB) => []) (fun (a, n, hB, MB) => hB) (fun y hy ih40 => ?_) (fun LP => ?_)
        · obtain ⟨a, n, hB, MB⟩ := y
          try dsimp only at hy ih40 ⊢
          obtain ⟨ha0, ha1, hn0, hn1, hMB, hSB, hFB, hv⟩ := hy
          refine rz_iload_n 0 d_Md_unmet_40 rfl rfl ?_
          refine rz_aload_n 2 d_Md_unmet_41 rfl rfl ?_
          refine rz_getf f_Md_167 hMB.1 rfl d_Md_unmet_42 ?_
          rw [hSB 8 (by decide) (by decide)]
          refine rz_icmp_ge 73 d_Md_unmet_45 (by decide) (by omega) (by omega) (fun c45 => ?_) (fun c45 => ?_)
          · refine rz_iload_n 1 d_Md_unmet_73 rfl rfl ?_
            exact rz_ireturn (st := []) rfl d_Md_unmet_74 ⟨by decide, by decide⟩ ⟨_, rfl, (by rw [sp_unmet, if_neg c4, ← eC, ← kC 8 (by decide)]; show n = umF C _ 0; rw [hv, show (C 8 0 - a).toNat = 0 by omega]; simp only [umF]; omega), MB, hMB, (by rw [sp_unmet, if_neg c4]; show mS2 (mCh M) MB; rw [← eC]; exact hSB), hFB⟩
          · have l9 := hwC.2.2.2.2.2.2.1 a (by omega) (by omega)
            refine rz_aload_n 2 d_Md_unmet_48 rfl rfl ?_
            refine rz_aload_n 2 d_Md_unmet_49 rfl rfl ?_
            refine rz_getf f_Md_35 hMB.1 rfl d_Md_unmet_50 ?_
            refine rz_iload_n 0 d_Md_unmet_53 rfl rfl ?_
            refine rz_iaload (md_a9 hMB) (by decide) (by omega) d_Md_unmet_54 ?_
            rw [hSB 9 (by decide) (by decide)]
            refine rz_iconst d_Md_unmet_55 ?_
            refine rz_iload_n 0 d_Md_unmet_56 rfl rfl ?_
            refine rz_iadd d_Md_unmet_57 ?_
            refine rz_callV (As := [vi (C 9 a), vi (2 + a)]) (c_Md_meets hMB (mS2_wf hSB hwC) (vOK_S2 hSB hvC.1) (nowOK_S2 hSB hnC) (by omega) (by omega) (by rw [mS2_at hSB, hSB 1 (by decide) (by decide)]; exact hvC.2.2.2.2 a (by omega) (by omega))) m_Md_179 hMB.1 rfl rfl rfl rfl (Nat.le_of_ble_eq_true rfl) ⟨by decide, by decide⟩ ⟨by decide, by decide⟩ d_Md_unmet_58 (kI (h := hB) fun r1 h1 q1 => ?_)
            obtain ⟨rfl, M1, hM1, hT1, hF1⟩ := q1
            rw [metP_S2 hSB]
            have hS1 := hSB.tr hT1
            have hG1 := hFB.tr hF1
            refine rz_if_neB 67 d_Md_unmet_61 (by decide) (fun c61 => ?_) (fun c61 => ?_)
            · refine rz_iinc (a + 1) 0 [(2, vi (a + 1)), (1, vi n), (0, .ref x)] d_Md_unmet_67 rfl (by first | rfl | omega) (by decide) rfl ?_
              refine rz_goto 40 d_Md_unmet_70 (by decide) ?_
              refine rz_Lsub [(2, vi (a + 1)), (1, vi n), (0, .ref x)] [0, 1, 2] rfl ?_
              refine ih40 (a + 1, n, h1, M1) ?_ ?_
              · try dsimp only
                exact ⟨by omega, by omega, by omega, by omega, hM1, hS1, hG1, (by rw [hv, umF_e _ _ (by omega), if_pos c61, show (C 8 0 - (a + 1)).toNat = (C 8 0 - a).toNat - 1 by omega]; omega)⟩
              · exact (by first | omega | (dsimp only; omega))
            · refine rz_iinc (n + 1) 1 [(1, vi (n + 1)), (2, vi a), (0, .ref x)] d_Md_unmet_64 rfl (by first | rfl | omega) (by decide) rfl ?_
              refine rz_iinc (a + 1) 1 [(2, vi (a + 1)), (1, vi (n + 1)), (0, .ref x)] d_Md_unmet_67 rfl (by first | rfl | omega) (by decide) rfl ?_
              refine rz_goto 40 d_Md_unmet_70 (by decide) ?_
              refine rz_Lsub [(2, vi (a + 1)), (1, vi (n + 1)), (0, .ref x)] [0, 1, 2] rfl ?_
              refine ih40 (a + 1, n + 1, h1, M1) ?_ ?_
              · try dsimp only
                exact ⟨by omega, by omega, by omega, by omega, hM1, hS1, hG1, (by rw [hv, umF_e _ _ (by omega), if_neg (by rw [c61]; decide), show (C 8 0 - (a + 1)).toNat = (C 8 0 - a).toNat - 1 by omega]; omega)⟩
              · exact (by first | omega | (dsimp only; omega))
        · refine rz_Lsub [(2, vi 0), (1, vi 0), (0, .ref x)] [0, 1, 2] rfl ?_
          refine LP (0, 0, hA, C) ?_
          try dsimp only
          exact ⟨by omega, by omega, by omega, by omega, hMA, mS2.rf, hFA, (by rw [Int.zero_add]; congr 1; omega)⟩
      · refine rz_aload_n 2 d_Md_unmet_20 rfl rfl ?_
        refine rz_getf f_Md_41 hMA.1 rfl d_Md_unmet_21 ?_
        refine rz_iload_n 0 d_Md_unmet_24 rfl rfl ?_
        refine rz_aload_n 2 d_Md_unmet_25 rfl rfl ?_
        refine rz_getf f_Md_44 hMA.1 rfl d_Md_unmet_26 ?_
        refine rz_iload_n 0 d_Md_unmet_29 rfl rfl ?_
        refine rz_iaload (md_a14 hMA) (by decide) (by omega) d_Md_unmet_30 ?_
        refine rz_Seq [vi (M 14 p), vi p, .ref (ad 11)] rfl ?_
        refine md_st11 hMA hFA (by omega) d_Md_unmet_31 (fun h2 hM2 hF2 => ?_)
        rw [mu_mu, mu_s, cpF_s _ _ hp0] at hM2
        refine rz_iinc (p + 1) 0 [(2, vi (p + 1)), (1, vi 0), (0, .ref x)] d_Md_unmet_32 rfl (by first | rfl | omega) (by decide) rfl ?_
        refine rz_goto 14 d_Md_unmet_35 (by decide) ?_
        refine rz_Lsub [(2, vi (p + 1)), (1, vi 0), (0, .ref x)] [0, 1, 2] rfl ?_
        refine ih14 (p + 1, h2) ?_ ?_
        · try dsimp only
          exact ⟨by omega, by omega, hM2, hF2⟩
        · exact (by first | omega | (dsimp only; omega))
    · refine rz_Lsub [(2, vi 0), (1, vi 0), (0, .ref x)] [0, 1, 2] rfl ?_
      refine LP (0, h) ?_
      try dsimp only
      exact ⟨by omega, by omega, (by rw [cpF_0, mu_self]; exact hM), rz_fr.rf⟩
  · refine rz_bipush (v := (-4)) d_Md_unmet_7 (by decide) ?_
    exact rz_ireturn (st := []) rfl d_Md_unmet_9 ⟨by decide, by decide⟩ ⟨_, rfl, (by rw [sp_unmet, if_pos c4]), _, hM, (by rw [sp_unmet, if_pos c4]; exact mS2.rf), rz_fr.rf⟩

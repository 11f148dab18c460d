/-! the reference: good -/
theorem cOK_S2 {M M' : Nat → Int → Int} (h : mS2 M M') (hc : cOK M) : cOK M' := by
  intro a b c; rw [h 10 (by decide) (by decide)]; exact hc a b c
theorem ldA_S2 {M M' : Nat → Int → Int} (h : mS2 M M') : ∀ n, ldA M' n = ldA M n
  | 0 => rfl
  | n + 1 => by simp only [ldA, ldA_S2 h n, h 10 (by decide) (by decide), h 9 (by decide) (by decide)]
theorem ldB_S2 {M M' : Nat → Int → Int} (h : mS2 M M') (l : Int → Int) : ∀ n, ldB M' l n = ldB M l n
  | 0 => rfl
  | n + 1 => by simp only [ldB, ldB_S2 h l n, h 11 (by decide) (by decide), h 5 (by decide) (by decide), h 7 (by decide) (by decide), h 6 (by decide) (by decide)]
theorem ldF_S2 {M M' : Nat → Int → Int} (h : mS2 M M') (l : Int → Int) : ∀ n p, ldF M' l n p = ldF M l n p
  | 0, _ => rfl
  | n + 1, p => by simp only [ldF, ldF_S2 h l n, h 11 (by decide) (by decide)]
theorem ledP_S2 {M M' : Nat → Int → Int} (h : mS2 M M') : ledP M' = ledP M := by
  unfold ledP ldE
  rw [ldF_S2 h, ldB_S2 h, ldA_S2 h, h 8 (by decide) (by decide)]
def gaF (M : Nat → Int → Int) : Nat → Int → Bool
  | 0, _ => true
  | n + 1, a => if ¬ M 10 a = 0 ∧ metP M (M 9 a) (2 + a) = false then false else gaF M n (a + 1)
theorem gaF_e (M : Nat → Int → Int) {n : Nat} {a : Int} (hn : 0 < n) : gaF M n a = if ¬ M 10 a = 0 ∧ metP M (M 9 a) (2 + a) = false then false else gaF M (n - 1) (a + 1) := by
  cases n with
  | zero => omega
  | succ n => rfl
def gpF (M : Nat → Int → Int) : Nat → Int → Bool
  | 0, _ => true
  | n + 1, p => if 0 ≤ M 11 p ∧ rgP M p = false then false else gpF M n (p + 1)
theorem gpF_e (M : Nat → Int → Int) {n : Nat} {p : Int} (hn : 0 < n) : gpF M n p = if 0 ≤ M 11 p ∧ rgP M p = false then false else gpF M (n - 1) (p + 1) := by
  cases n with
  | zero => omega
  | succ n => rfl
/-- the selection 'now' is good, of the asks that count -/
def goodP (M : Nat → Int → Int) : Bool := gaF M (M 8 0).toNat 0 && gpF M 6 0 && ledP M
abbrev rm_Md_good : Room := { frames := 9, cells := 0, slots := 0, locals := 230 }
set_option maxRecDepth 100000 in
set_option maxHeartbeats 4000000 in
theorem c_Md_good {l : Launch} {Γ : rz_G} {h : rz_H} {x : Nat} {ad : Nat → Nat} {M : Nat → Int → Int} (hM : MdAt Γ h x ad M) (hw : mWF M) (hval : mVal M) (hno : nowOK M) (hco : cOK M) : Ct l Γ x_Md_good y_Md_good rm_Md_good [.ref x] h (pI (fun r h' => r = bi (goodP M) ∧ ∃ M', MdAt Γ h' x ad M' ∧ mSk [16, 17, 18] M M' ∧ rz_fr [10, 11] h h')) := by
  refine rz_met (by decide) rfl rfl (Nat.le_of_ble_eq_true rfl) (fun K _ => ?_)
  refine rz_Leq [(0, .ref x)] rfl ?_
  have l8 := hw.2.2.2.2.2.1
  refine rz_iconst d_Md_good_0 ?_
  refine rz_istore_n [(1, vi 0), (0, .ref x)] d_Md_good_1 rfl (by decide) rfl ?_
  refine rz_loop (α := Int × rz_H × (Nat → Int → Int)) 0 0 2 (fun (a, hA, MA) => (M 8 0 - a).toNat) (fun (a, hA, MA) => 0 ≤ a ∧ a ≤ M 8 0 ∧ MdAt Γ hA x ad MA ∧ mS2 M MA ∧ rz_fr [10, 11] h hA ∧ gaF M (M 8 0).toNat 0 = gaF M (M 8 0 - a).toNat a) (fun (a, hA, MA) => [(1, vi a), (0, .ref x)]) (fun (a, hA, MA) => []) (fun (a, hA, MA) => hA) (fun y hy ih2 => ?_) (fun LP => ?_)
  · obtain ⟨a, hA, MA⟩ := y
    try dsimp only at hy ih2 ⊢
    obtain ⟨ha0, ha1, hMA, hSA, hFA, hv1⟩ := hy
    have hwA := mS2_wf hSA hw
    refine rz_iload_n 0 d_Md_good_2 rfl rfl ?_
    refine rz_aload_n 1 d_Md_good_3 rfl rfl ?_
    refine rz_getf f_Md_167 hMA.1 rfl d_Md_good_4 ?_
    rw [hSA 8 (by decide) (by decide)]
    refine rz_icmp_ge 43 d_Md_good_7 (by decide) (by omega) (by omega) (fun c7 => ?_) (fun c7 => ?_)
    · refine rz_iconst d_Md_good_43 ?_
      refine rz_istore_n [(1, vi 0), (0, .ref x)] d_Md_good_44 rfl (by decide) rfl ?_
      refine rz_loop (α := Int × rz_H × (Nat → Int → Int)) 0 0 45 (fun (p, hB, MB) => (6 - p).toNat) (fun (p, hB, MB) => 0 ≤ p ∧ p ≤ 6 ∧ MdAt Γ hB x ad MB ∧ mS2 M MB ∧ rz_fr [10, 11] h hB ∧ gpF M 6 0 = gpF M (6 - p).toNat p) (fun (p, hB, MB) => [(1, vi p), (0, .ref x)]) (fun (p, hB, MB) => []) (fun (p, hB, MB) => hB) (fun y hy ih45 => ?_) (fun LP => ?_)
      · obtain ⟨p, hB, MB⟩ := y
        try dsimp only at hy ih45 ⊢
        obtain ⟨hp0, hp1, hMB, hSB, hFB, hv2⟩ := hy
        have hwB := mS2_wf hSB hw
        refine rz_iload_n 0 d_Md_good_45 rfl rfl ?_
        refine rz_bipush (v := 6) d_Md_good_46 (by decide) ?_
        refine rz_icmp_ge 76 d_Md_good_48 (by decide) (by omega) ⟨by decide, by decide⟩ (fun c48 => ?_) (fun c48 => ?_)
        · refine rz_aload_n 1 d_Md_good_76 rfl rfl ?_
          refine rz_callV (As := []) (c_Md_allLed hMB hwB (nowOK_S2 hSB hno) (cOK_S2 hSB hco)) m_Md_185 hMB.1 rfl rfl rfl rfl (Nat.le_of_ble_eq_true rfl) ⟨by decide, by decide⟩ ⟨by decide, by decide⟩ d_Md_good_77 (kI (h := hB) fun r1 h1 q1 => ?_)
          obtain ⟨rfl, M1, hM1, hT1, hF1⟩ := q1
          rw [ledP_S2 hSB]
          have hK1 : mSk [16, 17, 18] M M1 := (mSk.of2 hSB (by decide) (by decide)).tr (hT1.mono (by decide))
          have hG1 := hFB.tr hF1
          exact rz_zreturn (st := []) (ty := .boolean) rfl (nz_b _) d_Md_good_80 ⟨by decide, by decide⟩ ⟨_, rfl, (by rw [goodP, (hv1.trans (show gaF M (M 8 0 - a).toNat a = true from by simp [show (M 8 0 - a).toNat = 0 from by omega, gaF])), hv2, show (6 - p).toNat = 0 by omega]; simp [gpF]), M1, hM1, hK1, hG1⟩
        · have l11 := hno p (by omega) (by omega)
          have l2 := hw.2.2.1 p (by omega) (by omega)
          refine rz_aload_n 1 d_Md_good_51 rfl rfl ?_
          refine rz_getf f_Md_41 hMB.1 rfl d_Md_good_52 ?_
          refine rz_iload_n 0 d_Md_good_55 rfl rfl ?_
          refine rz_iaload (md_a11 hMB) (by decide) (by omega) d_Md_good_56 ?_
          rw [hSB 11 (by decide) (by decide)]
          refine rz_if_lt 70 d_Md_good_57 (by decide) (by omega) (fun c57 => ?_) (fun c57 => ?_)
          · refine rz_iinc (p + 1) 0 [(1, vi (p + 1)), (0, .ref x)] d_Md_good_70 rfl (by first | rfl | omega) (by decide) rfl ?_
            refine rz_goto 45 d_Md_good_73 (by decide) ?_
            refine rz_Lsub [(1, vi (p + 1)), (0, .ref x)] [0, 1] rfl ?_
            refine ih45 (p + 1, hB, MB) ?_ ?_
            · try dsimp only
              exact ⟨by omega, by omega, hMB, hSB, hFB, (by rw [hv2, gpF_e _ (by omega), if_neg (by first | (intro q; omega) | (intro q; rw [c65] at q; exact absurd q.2 (by decide)))]; congr 1; omega)⟩
            · exact (by first | omega | (dsimp only; omega))
          · refine rz_aload_n 1 d_Md_good_60 rfl rfl ?_
            refine rz_iload_n 0 d_Md_good_61 rfl rfl ?_
            refine rz_callV (As := [vi p]) (c_Md_releaseGood hMB hwB (mVal_S2 hSB hval) (nowOK_S2 hSB hno) (by omega) (by rw [hSB 11 (by decide) (by decide)]; omega)) m_Md_182 hMB.1 rfl rfl rfl rfl (Nat.le_of_ble_eq_true rfl) ⟨by decide, by decide⟩ ⟨by decide, by decide⟩ d_Md_good_62 (kI (h := hB) fun r2 h2 q2 => ?_)
            obtain ⟨rfl, M2, hM2, hT2, hF2⟩ := q2
            rw [rgP_S2 hSB]
            have hS2 := hSB.tr hT2
            have hw2 := mS2_wf hS2 hw
            have hG2 := hFB.tr hF2
            refine rz_if_neB 70 d_Md_good_65 (by decide) (fun c65 => ?_) (fun c65 => ?_)
            · refine rz_iinc (p + 1) 0 [(1, vi (p + 1)), (0, .ref x)] d_Md_good_70 rfl (by first | rfl | omega) (by decide) rfl ?_
              refine rz_goto 45 d_Md_good_73 (by decide) ?_
              refine rz_Lsub [(1, vi (p + 1)), (0, .ref x)] [0, 1] rfl ?_
              refine ih45 (p + 1, h2, M2) ?_ ?_
              · try dsimp only
                exact ⟨by omega, by omega, hM2, hS2, hG2, (by rw [hv2, gpF_e _ (by omega), if_neg (by first | (intro q; omega) | (intro q; rw [c65] at q; exact absurd q.2 (by decide)))]; congr 1; omega)⟩
              · exact (by first | omega | (dsimp only; omega))
            · refine rz_iconst d_Md_good_68 ?_
              exact rz_zreturn (st := []) (ty := .boolean) rfl rfl d_Md_good_69 ⟨by decide, by decide⟩ ⟨_, rfl, bi0 (by rw [goodP, (hv1.trans (show gaF M (M 8 0 - a).toNat a = true from by simp [show (M 8 0 - a).toNat = 0 from by omega, gaF])), hv2, gpF_e _ (by omega), if_pos ⟨by omega, c65⟩]; rfl), M2, hM2, mSk.of2 hS2 (by decide) (by decide), hG2⟩
      · refine rz_Lsub [(1, vi 0), (0, .ref x)] [0, 1] rfl ?_
        refine LP (0, hA, MA) ?_
        try dsimp only
        exact ⟨by omega, by omega, hMA, hSA, hFA, rfl⟩
    · have l10 := hco a (by omega) (by omega)
      have l9 := hw.2.2.2.2.2.2.1 a (by omega) (by omega)
      refine rz_aload_n 1 d_Md_good_10 rfl rfl ?_
      refine rz_getf f_Md_38 hMA.1 rfl d_Md_good_11 ?_
      refine rz_iload_n 0 d_Md_good_14 rfl rfl ?_
      refine rz_zaload (md_a10 hMA) (by decide) (by omega) d_Md_good_15 ?_
      rw [hSA 10 (by decide) (by decide)]
      refine rz_if_eq 37 d_Md_good_16 (by decide) (by omega) (fun c16 => ?_) (fun c16 => ?_)
      · refine rz_iinc (a + 1) 0 [(1, vi (a + 1)), (0, .ref x)] d_Md_good_37 rfl (by first | rfl | omega) (by decide) rfl ?_
        refine rz_goto 2 d_Md_good_40 (by decide) ?_
        refine rz_Lsub [(1, vi (a + 1)), (0, .ref x)] [0, 1] rfl ?_
        refine ih2 (a + 1, hA, MA) ?_ ?_
        · try dsimp only
          exact ⟨by omega, by omega, hMA, hSA, hFA, (by rw [hv1, gaF_e _ (by omega), if_neg (by first | (intro q; exact q.1 c16) | (intro q; rw [c32] at q; exact absurd q.2 (by decide)))]; congr 1; omega)⟩
        · exact (by first | omega | (dsimp only; omega))
      · refine rz_aload_n 1 d_Md_good_19 rfl rfl ?_
        refine rz_aload_n 1 d_Md_good_20 rfl rfl ?_
        refine rz_getf f_Md_35 hMA.1 rfl d_Md_good_21 ?_
        refine rz_iload_n 0 d_Md_good_24 rfl rfl ?_
        refine rz_iaload (md_a9 hMA) (by decide) (by omega) d_Md_good_25 ?_
        rw [hSA 9 (by decide) (by decide)]
        refine rz_iconst d_Md_good_26 ?_
        refine rz_iload_n 0 d_Md_good_27 rfl rfl ?_
        refine rz_iadd d_Md_good_28 ?_
        refine rz_callV (As := [vi (M 9 a), vi (2 + a)]) (c_Md_meets hMA hwA (vOK_S2 hSA hval.1) (nowOK_S2 hSA hno) (by omega) (by omega) (by rw [mS2_at hSA, hSA 1 (by decide) (by decide)]; exact hval.2.2.2.2 a (by omega) (by omega))) m_Md_179 hMA.1 rfl rfl rfl rfl (Nat.le_of_ble_eq_true rfl) ⟨by decide, by decide⟩ ⟨by decide, by decide⟩ d_Md_good_29 (kI (h := hA) fun r3 h3 q3 => ?_)
        obtain ⟨rfl, M3, hM3, hT3, hF3⟩ := q3
        rw [metP_S2 hSA]
        have hS3 := hSA.tr hT3
        have hw3 := mS2_wf hS3 hw
        have hG3 := hFA.tr hF3
        refine rz_if_neB 37 d_Md_good_32 (by decide) (fun c32 => ?_) (fun c32 => ?_)
        · refine rz_iinc (a + 1) 0 [(1, vi (a + 1)), (0, .ref x)] d_Md_good_37 rfl (by first | rfl | omega) (by decide) rfl ?_
          refine rz_goto 2 d_Md_good_40 (by decide) ?_
          refine rz_Lsub [(1, vi (a + 1)), (0, .ref x)] [0, 1] rfl ?_
          refine ih2 (a + 1, h3, M3) ?_ ?_
          · try dsimp only
            exact ⟨by omega, by omega, hM3, hS3, hG3, (by rw [hv1, gaF_e _ (by omega), if_neg (by first | (intro q; exact q.1 c16) | (intro q; rw [c32] at q; exact absurd q.2 (by decide)))]; congr 1; omega)⟩
          · exact (by first | omega | (dsimp only; omega))
        · refine rz_iconst d_Md_good_35 ?_
          exact rz_zreturn (st := []) (ty := .boolean) rfl rfl d_Md_good_36 ⟨by decide, by decide⟩ ⟨_, rfl, bi0 (by rw [goodP, hv1, gaF_e _ (by omega), if_pos ⟨c16, c32⟩]; rfl), M3, hM3, mSk.of2 hS3 (by decide) (by decide), hG3⟩
  · refine rz_Lsub [(1, vi 0), (0, .ref x)] [0, 1] rfl ?_
    refine LP (0, h, M) ?_
    try dsimp only
    exact ⟨by omega, by omega, hM, mS2.rf, rz_fr.rf, (by congr 1; omega)⟩

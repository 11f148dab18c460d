/-! the class: calls 4 -/
theorem RsAt.nd {Γ : rz_G} {h h' : rz_H} {x : Nat} {A : Nat → Int → Nat} {B : Nat → Int → Nat} {S : Nat → Int → Int → Int} {M : Nat → Int → Int} {F : Int → Int → Int} {p r o : Int} {opt : Bool} {q a : Nat} (hU : RsAt Γ h x A B S (mUse M) F) (hw : mWF M) (h0 : (0 ≤ p ∧ p ≤ 5) ∧ 0 ≤ r ∧ r < M 2 p) (h3 : M 5 (4 * p + r) < 3) (hq : h q = some ((7, 0), .inr (10, [vi o, .ref a, vi (bi opt)]))) (ha : RgAt Γ h a (mAt M 0) (M 1 0)) (hl : AlAt Γ h' (A 5 (4 * p + r)) (10 + (4 * p + r).toNat) ((M 5 (4 * p + r)).toNat + 1) (rz_u (fun j => some (A 7 (3 * (4 * p + r) + j))) ((M 5 (4 * p + r)).toNat : Nat) (some q))) (hf : rz_ft [(35, 10 + (4 * p + r).toNat), (36, 10 + (4 * p + r).toNat)] h h') : RsAt Γ h' x (au (au A 7 (3 * (4 * p + r) + M 5 (4 * p + r)) q) 8 (3 * (4 * p + r) + M 5 (4 * p + r)) a) B S (mUse (mu (mu (mu (mKeep M (54 + (3 * (4 * p + r) + M 5 (4 * p + r)))) 6 (rz_u (M 6) (3 * (4 * p + r) + M 5 (4 * p + r)) o)) 7 (rz_u (M 7) (3 * (4 * p + r) + M 5 (4 * p + r)) (bi opt))) 5 (rz_u (M 5) (4 * p + r) (M 5 (4 * p + r) + 1)))) F := by
  have hw1 := use_wf hw
  have w2 := (M_big hw).1 p h0.1.1 (by omega)
  have w5 := (M_big hw).2.1 (4 * p + r) (by omega) (by omega)
  generalize hk : 4 * p + r = k at *
  have kb : 0 ≤ k ∧ k < 24 := by omega
  have hre : RlAt Γ h A (mUse M) k := by have := (hU.2.2.1.2 p h0.1.1 (by omega)).re r h0.2.1 h0.2.2; rwa [hk] at this
  generalize hi : 3 * k + M 5 k = i at *
  generalize hM : mUse (mu (mu (mu (mKeep M (54 + i)) 6 (rz_u (M 6) i o)) 7 (rz_u (M 7) i (bi opt))) 5 (rz_u (M 5) k (M 5 k + 1))) = M2
  generalize hA : au (au A 7 i q) 8 i a = A2
  have an : ∀ c j, ¬ (c = 7 ∧ j = i) → ¬ (c = 8 ∧ j = i) → A2 c j = A c j := fun c j h7 h8 => by rw [← hA, au_n h8, au_n h7]
  have a7 : A2 7 i = q := by rw [← hA, au_n (by omega), au_s]
  have a8 : A2 8 i = a := by rw [← hA, au_s]
  have e5 : M2 5 = rz_u (M 5) k (M 5 k + 1) := by rw [← hM]; rfl
  have e6 : M2 6 = rz_u (M 6) i o := by rw [← hM]; rfl
  have e7 : M2 7 = rz_u (M 7) i (bi opt) := by rw [← hM]; rfl
  have en : ∀ c, c ∉ [0, 1, 5, 6, 7] → M2 c = mUse M c := fun c hc => by
    simp only [List.mem_cons, List.not_mem_nil, or_false, not_or] at hc
    rw [← hM, use_n hc.2.1, mu_n hc.2.2.1, mu_n hc.2.2.2.2, mu_n hc.2.2.2.1, keep_n hc.1 hc.2.1, use_n hc.2.1]
  have ht : ∀ t, 1 ≤ t → t < 126 → t ≠ 54 + i → txE (mUse M) M2 t := fun t t0 t1 tn => by
    rw [← hM]
    exact ((use_t M (by omega)).sy.tr (txE_n (M' := mu (mu (mu (mKeep M (54 + i)) 6 (rz_u (M 6) i o)) 7 (rz_u (M 7) i (bi opt))) 5 (rz_u (M 5) k (M 5 k + 1))) (keep_t hw (by omega) tn) rfl rfl)).tr (use_t _ (by omega))
  have ti : mAt M2 (54 + i) = mAt M 0 ∧ M2 1 (54 + i) = M 1 0 := by
    have u := use_t (mu (mu (mu (mKeep M (54 + i)) 6 (rz_u (M 6) i o)) 7 (rz_u (M 7) i (bi opt))) 5 (rz_u (M 5) k (M 5 k + 1))) (t := 54 + i) (by omega)
    rw [hM] at u
    have ks := keep_s hw (54 + i)
    exact ⟨u.1.trans ks.1, u.2.trans ks.2⟩
  have hl2 := hf.lo
  have hn : RlAt Γ h' A2 M2 k := by
    refine ⟨?_, ?_, ?_, fun z => ?_, fun j j0 j1 => ?_⟩
    · rw [an 3 k (by omega) (by omega), an 4 k (by omega) (by omega), an 5 k (by omega) (by omega), an 6 k (by omega) (by omega), en 4 (by decide), en 3 (by decide)]
      exact hf _ _ _ hre.ob (by simp)
    · rw [an 4 k (by omega) (by omega)]; exact (hre.ve.fr hl2 (by simp)).t (ht _ (by omega) (by omega) (by omega))
    · rw [an 5 k (by omega) (by omega), e5, rz_u_s, show (M 5 k + 1).toNat = (M 5 k).toNat + 1 by omega]
      refine hl.c (fun j j0 j1 => ?_)
      by_cases z : j = M 5 k
      · rw [z, hi, a7, Int.tn w5.1, rz_u_s]
      · rw [an 7 _ (by omega) (by omega), rz_u_n (by omega)]
    · rw [en 4 (by decide)] at z
      rw [an 6 k (by omega) (by omega)]; exact ((hre.hr z).fr hl2 (by simp)).t (ht _ (by omega) (by omega) (by omega))
    · rw [e5, rz_u_s] at j1
      by_cases z : j = M 5 k
      · rw [z, hi, a7, a8, e6, e7, rz_u_s, rz_u_s, ti.1, ti.2]
        exact ⟨hl2 _ _ _ hq (by simp), ha.fr hl2 (by simp)⟩
      · have hj := hre.nd j j0 (show j < M 5 k by omega)
        rw [an 7 _ (by omega) (by omega), an 8 _ (by omega) (by omega), e6, e7, rz_u_n (by omega), rz_u_n (by omega)]
        exact ⟨hl2 _ _ _ hj.1 (by simp), (hj.2.fr hl2 (by simp)).t (ht _ (by omega) (by omega) (by omega))⟩
  refine hU.ftx hw1 hf (by simp; omega) (fun c i hc => an c i (by omega) (by omega)) (fun c hc => en c (by revert hc; simp; omega)) ?_ ?_ (fun t a b => ht t a (by omega) (by omega)) ?_
  · rw [← hM, mUse, mu_s, rz_u_s, mUse, mu_s, rz_u_s]
  · funext j; unfold mAt; rw [show M2 1 0 = 0 by rw [← hM, mUse, mu_s, rz_u_s], show mUse M 1 0 = 0 by rw [mUse, mu_s, rz_u_s], if_neg (by omega), if_neg (by omega)]
  · exact hU.2.2.1.re1 (A' := A2) (M' := M2) hw1 (p0 := p) (r0 := r) h0 (by rw [hk]; exact hf.mono (by simp)) (by rw [hk]; exact hn) (fun c i hc => an c i (by omega) (by omega)) (en 2 (by decide)) (fun y y0 y1 yn => by
      rw [hk] at yn
      exact ⟨fun c hc => an c y (by revert hc; simp; omega) (by revert hc; simp; omega), by rw [en 3 (by decide)], by rw [en 4 (by decide)], by rw [e5, rz_u_n yn]; rfl, fun j j0 j1 => ⟨an 7 _ (by omega) (by omega), an 8 _ (by omega) (by omega), by rw [e6, rz_u_n (by omega)]; rfl, by rw [e7, rz_u_n (by omega)]; rfl, ht _ (by omega) (by omega) (by omega)⟩, ht _ (by omega) (by omega) (by omega), ht _ (by omega) (by omega) (by omega)⟩)
theorem RsAt.psM {Γ : rz_G} {h : rz_H} {x : Nat} {A : Nat → Int → Nat} {B : Nat → Int → Nat} {S : Nat → Int → Int → Int} {M : Nat → Int → Int} {F : Int → Int → Int} (hU : RsAt Γ h x A B S (mUse M) F) (hw : mWF M) : PsAt Γ h (A 12 0) A M F := hU.2.2.1.t (use_wf hw) (fun c hc => (use_n (by rintro rfl; revert hc; decide)).symm) (fun t a _ => (use_t M (by omega)).sy)
theorem RsAt.asM {Γ : rz_G} {h : rz_H} {x : Nat} {A : Nat → Int → Nat} {B : Nat → Int → Nat} {S : Nat → Int → Int → Int} {M : Nat → Int → Int} {F : Int → Int → Int} (hU : RsAt Γ h x A B S (mUse M) F) (hw : mWF M) : AsAt Γ h (A 13 0) A M := hU.2.2.2.1.t (use_wf hw) rfl rfl (fun t a _ => (use_t M (by omega)).sy)
theorem rz_fr.k7 {h h' : rz_H} {rs : List Nat} {q : Nat} {t : Nat × Nat} {e : va_E} (hq : h q = some (t, e)) (hf : rz_fr rs h h') (hr : t.1 ∉ rs) : h' q = some (t, e) := hf _ _ _ hq hr
abbrev rm_Rs_need : Room := { frames := 9, cells := 66, slots := 1167, locals := 232 }
set_option maxRecDepth 100000 in
set_option maxHeartbeats 4000000 in
theorem c_Rs_need {l : Launch} {Γ : rz_G} {h : rz_H} {x : Nat} {A : Nat → Int → Nat} {B : Nat → Int → Nat} {S : Nat → Int → Int → Int} {M : Nat → Int → Int} {F : Int → Int → Int} (hR : RsAt Γ h x A B S M F) (hBg : Big M F) {p r o : Int} {opt : Bool} (rp : -2147483648 ≤ p ∧ p ≤ 2147483647) (rr : -2147483648 ≤ r ∧ r ≤ 2147483647) (ro : -2147483648 ≤ o ∧ o ≤ 2147483647) : Ct l Γ x_Rs_need y_Rs_need rm_Rs_need [.ref x, vi p, vi r, vi o, vi (bi opt)] h (opP Γ x B (sp_need M p r o opt).2 F h (sp_need M p r o opt).1) := by
  refine rz_met (by decide) rfl rfl (Nat.le_of_ble_eq_true rfl) (fun K _ => ?_)
  refine rz_Leq [(0, .ref x), (1, vi p), (2, vi r), (3, vi o), (4, vi (bi opt))] rfl ?_
  have hR0 := hR
  obtain ⟨⟨bl, hx, hbl⟩, hSb, hPs, hAs, hSe, hHv, ⟨gs, hsa, hgs⟩, hk⟩ := hR
  obtain ⟨w2, w5, w6, w8, w9⟩ := M_big hBg.wf
  have w1 := hBg.wf.1 0 (by omega) (by omega)
  refine rz_aload_n 0 d_Rs_need_0 rfl rfl ?_
  refine rz_iload_n 1 d_Rs_need_1 rfl rfl ?_
  refine rz_iload_n 2 d_Rs_need_2 rfl rfl ?_
  refine rz_callV (As := [vi p, vi r]) (c_Rs_releaseAt hx rfl hPs hBg (p := p) (r := r) (by omega) (by omega)) m_Rs_109 hx rfl rfl rfl rfl (Nat.le_of_ble_eq_true rfl) ⟨by decide, by decide⟩ ⟨by decide, by decide⟩ d_Rs_need_3 (kO (h := h) (fun h1 q1 => ?_) (fun a1 h1 q1 => ?_))
  · have hn3 := ra_n q1.1
    rw [q1.2]
    refine rz_astoreN [(5, .null), (0, .ref x), (1, vi p), (2, vi r), (3, vi o), (4, vi (bi opt))] d_Rs_need_6 (by decide) rfl ?_
    refine rz_aloadN 0 d_Rs_need_8 rfl ?_
    refine rz_ifnullN 20 d_Rs_need_10 (by decide) ?_
    refine rz_iconst d_Rs_need_20 ?_
    exact rz_ireturn (st := []) rfl d_Rs_need_21 ⟨by decide, by decide⟩ ⟨_, rfl, (by rw [sp_need, if_pos (by first | (rw [hn3]; rfl) | (rw [c17]; simp))]), A, S, (by rw [sp_need, if_pos (by first | (rw [hn3]; rfl) | (rw [c17]; simp))]; exact hR0), rz_fr.rf⟩
  · obtain ⟨hn3, ea1⟩ := ra_s q1.1
    rw [ea1, q1.2]
    have hnn3 := mNone_g hn3
    refine rz_astore [(5, .ref (A 3 (4 * p + r))), (0, .ref x), (1, vi p), (2, vi r), (3, vi o), (4, vi (bi opt))] d_Rs_need_6 (by decide) rfl ?_
    refine rz_aload 0 d_Rs_need_8 rfl ?_
    refine rz_ifnullR d_Rs_need_10 ?_
    refine rz_iload_n 4 d_Rs_need_13 rfl rfl ?_
    refine rz_callS (As := [vi o]) (c_Rs_isPlugin (by omega)) m_Rs_85 rfl rfl (Nat.le_of_ble_eq_true rfl) ⟨by decide, by decide⟩ ⟨by decide, by decide⟩ d_Rs_need_14 (kE (h := h) ?_)
    refine rz_if_neB 22 d_Rs_need_17 (by decide) (fun c17 => ?_) (fun c17 => ?_)
    · refine rz_aload_n 1 d_Rs_need_22 rfl rfl ?_
      refine rz_callV (As := []) (c_Rs_takeText hx rfl hSb (mAt (mUse M) 0)) m_Rs_88 hx rfl rfl rfl rfl (Nat.le_of_ble_eq_true rfl) ⟨by decide, by decide⟩ ⟨by decide, by decide⟩ d_Rs_need_23 (kR (h := h) fun s2 h2 q2 => ?_)
      obtain ⟨hs2, hSb_2, G2⟩ := q2
      have hU2 := hR0.use hBg.wf G2 hSb_2
      have hcast : ((M 1 0).toNat : Int) = M 1 0 := Int.tn w1.1
      have F3 : rz_fr [31, 32] h h2 := rz_fr.rf.tr (G2.mono (by decide))
      have fc_4_0 : h2 x = some ((30, 0), .inr (7, [.ref (A 11 0), .ref (A 12 0), .ref (A 13 0), .ref (A 14 0), .ref (A 15 0), vi (M 12 0), .ref (A 16 0), vi bl])) := G2 _ _ _ hx (show 30 ∉ ([31, 32] : List Nat) by decide)
      have fc_4_1 : h2 (A 16 0) = some ((39, 0), aI Γ 0 6 gs) := G2 _ _ _ hsa (show 39 ∉ ([31, 32] : List Nat) by decide)
      have hPs_4 : PsAt Γ h2 (A 12 0) A M F := PsAt.fd hPs G2 (by decide)
      have hAs_4 : AsAt Γ h2 (A 13 0) A M := AsAt.fd hAs G2 (by decide)
      have hSe_4 : SeAt Γ h2 (A 14 0) B S := SeAt.fr hSe G2 (by decide)
      have hHv_4 : VeAt Γ h2 (A 15 0) (vRt M 1) (vPt M 1) := VeAt.fr hHv G2 (by decide)
      have hk_4 : KsAt Γ h2 := KsAt.fr hk G2 (by decide)
      refine rz_callS (As := [.ref s2]) (c_Rg_read hs2 hk_4 (by omega)) m_Rs_113 rfl rfl (Nat.le_of_ble_eq_true rfl) ⟨by decide, by decide⟩ ⟨by decide, by decide⟩ d_Rs_need_26 (kO (h := h2) (fun h5 q5 => ?_) (fun a5 h5 q5 => ?_))
      · obtain ⟨b5, G5⟩ := q5
        have bv5 : rng (mAt M 0) (M 1 0) = false := by rw [← hcast]; exact b5
        have F6 : rz_fr [31, 32] h h5 := F3.tr (G5.mono (by decide))
        have fc_7_0 : h5 x = some ((30, 0), .inr (7, [.ref (A 11 0), .ref (A 12 0), .ref (A 13 0), .ref (A 14 0), .ref (A 15 0), vi (M 12 0), .ref (A 16 0), vi bl])) := G5 _ _ _ fc_4_0 (by simp)
        have fc_7_1 : h5 (A 16 0) = some ((39, 0), aI Γ 0 6 gs) := G5 _ _ _ fc_4_1 (by simp)
        have hPs_7 : PsAt Γ h5 (A 12 0) A M F := PsAt.fd hPs_4 G5 (by decide)
        have hAs_7 : AsAt Γ h5 (A 13 0) A M := AsAt.fd hAs_4 G5 (by decide)
        have hSe_7 : SeAt Γ h5 (A 14 0) B S := SeAt.fr hSe_4 G5 (by decide)
        have hHv_7 : VeAt Γ h5 (A 15 0) (vRt M 1) (vPt M 1) := VeAt.fr hHv_4 G5 (by decide)
        have hk_7 : KsAt Γ h5 := KsAt.fr hk_4 G5 (by decide)
        have hs2_7 : StrAt Γ h5 s2 (M 1 0).toNat (mAt M 0) 1 := StrAt.fr hs2 G5 (by decide)
        have hU2_7 : RsAt Γ h5 x A B S (mUse M) F := RsAt.f0 hU2 G5 (by decide)
        refine rz_astoreN [(6, .null), (5, .ref (A 3 (4 * p + r))), (0, .ref x), (1, vi p), (2, vi r), (3, vi o), (4, vi (bi opt))] d_Rs_need_29 (by decide) rfl ?_
        refine rz_aloadN 0 d_Rs_need_31 rfl ?_
        refine rz_ifnonnullN d_Rs_need_33 ?_
        refine rz_bipush (v := (-3)) d_Rs_need_36 (by decide) ?_
        exact rz_ireturn (st := []) rfl d_Rs_need_38 ⟨by decide, by decide⟩ ⟨_, rfl, (by rw [sp_need, if_neg (by rw [hn3, c17]; decide), if_neg (by rw [bv5]; decide)]), A, S, (by rw [sp_need, if_neg (by rw [hn3, c17]; decide), if_neg (by rw [bv5]; decide)]; exact hU2_7), cr2 F6⟩
      · obtain ⟨b5, G5⟩ := q5
        have bv5 : rng (mAt M 0) (M 1 0) = true := by rw [← hcast]; exact b5.1
        have bx5 : RgAt Γ h5 a5 (mAt M 0) (M 1 0) := by rw [← hcast]; exact b5.2
        have F8 : rz_fr [31, 32] h h5 := F3.tr (G5.mono (by decide))
        have fc_9_0 : h5 x = some ((30, 0), .inr (7, [.ref (A 11 0), .ref (A 12 0), .ref (A 13 0), .ref (A 14 0), .ref (A 15 0), vi (M 12 0), .ref (A 16 0), vi bl])) := G5 _ _ _ fc_4_0 (by simp)
        have fc_9_1 : h5 (A 16 0) = some ((39, 0), aI Γ 0 6 gs) := G5 _ _ _ fc_4_1 (by simp)
        have hPs_9 : PsAt Γ h5 (A 12 0) A M F := PsAt.fd hPs_4 G5 (by decide)
        have hAs_9 : AsAt Γ h5 (A 13 0) A M := AsAt.fd hAs_4 G5 (by decide)
        have hSe_9 : SeAt Γ h5 (A 14 0) B S := SeAt.fr hSe_4 G5 (by decide)
        have hHv_9 : VeAt Γ h5 (A 15 0) (vRt M 1) (vPt M 1) := VeAt.fr hHv_4 G5 (by decide)
        have hk_9 : KsAt Γ h5 := KsAt.fr hk_4 G5 (by decide)
        have hs2_9 : StrAt Γ h5 s2 (M 1 0).toNat (mAt M 0) 1 := StrAt.fr hs2 G5 (by decide)
        have hU2_9 : RsAt Γ h5 x A B S (mUse M) F := RsAt.f0 hU2 G5 (by decide)
        refine rz_astore [(6, .ref a5), (5, .ref (A 3 (4 * p + r))), (0, .ref x), (1, vi p), (2, vi r), (3, vi o), (4, vi (bi opt))] d_Rs_need_29 (by decide) rfl ?_
        refine rz_aload 0 d_Rs_need_31 rfl ?_
        refine rz_ifnonnullR 39 d_Rs_need_33 (by decide) ?_
        have w2p := w2 p (by omega) (by omega)
        have w5k := w5 (4 * p + r) (by omega) (by omega)
        refine rz_aload 1 d_Rs_need_39 rfl ?_
        refine rz_getf f_Rs_118 ((hPs_9.2 p (by omega) (by omega)).re r (by omega) (by omega)).ob rfl d_Rs_need_41 ?_
        obtain ⟨fso10, so10⟩ := ((hPs_9.2 p (by omega) (by omega)).re r (by omega) (by omega)).nl.ob
        refine rz_callV (As := []) (c_Al_size ((hPs_9.2 p (by omega) (by omega)).re r (by omega) (by omega)).nl) m_Rs_121 so10 rfl rfl rfl rfl (Nat.le_of_ble_eq_true rfl) ⟨by decide, by decide⟩ ⟨by decide, by decide⟩ d_Rs_need_44 (kE (h := h5) ?_)
        refine rz_Seq [vi (M 5 (4 * p + r))] (by rw [Int.tn (by omega)]) ?_
        refine rz_iconst d_Rs_need_47 ?_
        refine rz_icmp_lt 54 d_Rs_need_48 (by decide) (by omega) ⟨by decide, by decide⟩ (fun c48 => ?_) (fun c48 => ?_)
        · refine rz_aload 1 d_Rs_need_54 rfl ?_
          refine rz_getf f_Rs_118 ((hPs_9.2 p (by omega) (by omega)).re r (by omega) (by omega)).ob rfl d_Rs_need_56 ?_
          refine rz_new (ci := 10) (q0 := ("ReleaseSolver$Need", k_T10, 3)) (7, 0) (show (7 : Nat) ≠ 0 by decide) rfl rfl cl_Rs_124 ⟨by decide, by decide⟩ d_Rs_need_59 (fun q11 zq11 => ?_)
          refine rz_nm fun h12 eh12 => ?_
          have g12 : rz_fr [] h5 h12 := by rw [eh12]; exact rz_fr.nw zq11
          have z12 : h5 q11 = none := rz_fr.rf.nn zq11
          have F13 : rz_fr [] h5 h12 := rz_fr.rf.tr (g12.mono (by decide))
          have fc_14_0 : h12 x = some ((30, 0), .inr (7, [.ref (A 11 0), .ref (A 12 0), .ref (A 13 0), .ref (A 14 0), .ref (A 15 0), vi (M 12 0), .ref (A 16 0), vi bl])) := g12 _ _ _ fc_9_0 (by simp)
          have fc_14_1 : h12 (A 16 0) = some ((39, 0), aI Γ 0 6 gs) := g12 _ _ _ fc_9_1 (by simp)
          have hk_14 : KsAt Γ h12 := KsAt.fr hk_9 g12 (by decide)
          have hs2_14 : StrAt Γ h12 s2 (M 1 0).toNat (mAt M 0) 1 := StrAt.fr hs2_9 g12 (by decide)
          have bx5_14 : RgAt Γ h12 a5 (mAt M 0) (M 1 0) := RgAt.fr bx5 g12 (by decide)
          have fn_12 : h12 q11 = some ((7, 0), .inr (10, [vi 0, .null, vi 0])) := by rw [eh12]; exact rz_up_s _ _ _
          refine rz_dup d_Rs_need_62 rfl ?_
          refine rz_iload_n 5 d_Rs_need_63 rfl rfl ?_
          refine rz_aload 0 d_Rs_need_64 rfl ?_
          refine rz_iload 6 d_Rs_need_66 rfl ?_
          refine rz_callI (As := [vi o, .ref a5, vi (bi opt)]) (c_Nd_init fn_12) m_Rs_126 rfl rfl (Nat.le_of_ble_eq_true rfl) ⟨by decide, by decide⟩ ⟨by decide, by decide⟩ d_Rs_need_68 (kV (h := h12) fun h15 q15 => ?_)
          obtain ⟨p15, G15⟩ := q15
          have R15 : rz_fr [7] h12 h15 := rz_fo.fr1 fn_12 G15
          have F15 : rz_fr [] h5 h15 := fun a t x ha hr => G15 a (t, x) (fun z => by rw [z, z12] at ha; cases ha) (F13 a t x ha hr)
          have fc_16_0 : h15 x = some ((30, 0), .inr (7, [.ref (A 11 0), .ref (A 12 0), .ref (A 13 0), .ref (A 14 0), .ref (A 15 0), vi (M 12 0), .ref (A 16 0), vi bl])) := R15 _ _ _ fc_14_0 (show 30 ∉ ([7] : List Nat) by decide)
          have fc_16_1 : h15 (A 16 0) = some ((39, 0), aI Γ 0 6 gs) := R15 _ _ _ fc_14_1 (show 39 ∉ ([7] : List Nat) by decide)
          have hk_16 : KsAt Γ h15 := KsAt.fr hk_14 R15 (by decide)
          have hs2_16 : StrAt Γ h15 s2 (M 1 0).toNat (mAt M 0) 1 := StrAt.fr hs2_14 R15 (by decide)
          have bx5_16 : RgAt Γ h15 a5 (mAt M 0) (M 1 0) := RgAt.fr bx5_14 R15 (by decide)
          have vq11_15 : h15 q11 = some ((7, 0), .inr (10, [vi o, .ref a5, vi (bi opt)])) := p15
          have hV15 := RsAt.f0 hU2_9 F15 rfl
          have hPs_15 := hV15.psM hBg.wf
          have hAs_15 := hV15.asM hBg.wf
          obtain ⟨fso18, so18⟩ := ((hPs_15.2 p (by omega) (by omega)).re r (by omega) (by omega)).nl.ob
          refine rz_callV (As := [.ref q11]) (c_Al_add ((hPs_15.2 p (by omega) (by omega)).re r (by omega) (by omega)).nl (by omega) vq11_15 (by decide) (by decide) (ci := 10) rfl (by decide)) m_Rs_129 so18 rfl rfl rfl rfl (Nat.le_of_ble_eq_true rfl) ⟨by decide, by decide⟩ ⟨by decide, by decide⟩ d_Rs_need_71 (kI (h := h15) fun r17 h17 q17 => ?_)
          obtain ⟨er17, qa17, G17⟩ := q17
          rw [er17]
          have fx17 : h17 x = some ((30, 0), .inr (7, [.ref (A 11 0), .ref (A 12 0), .ref (A 13 0), .ref (A 14 0), .ref (A 15 0), vi (M 12 0), .ref (A 16 0), vi bl])) := G17 _ _ _ fc_16_0 (by simp)
          refine rz_pop d_Rs_need_74 rfl ?_
          refine rz_aload 1 d_Rs_need_75 rfl ?_
          refine rz_getf f_Rs_118 (G17 _ _ _ ((hPs_15.2 p (by omega) (by omega)).re r (by omega) (by omega)).ob (by simp)) rfl d_Rs_need_77 ?_
          obtain ⟨fso19, so19⟩ := qa17.ob
          refine rz_callV (As := []) (c_Al_size qa17) m_Rs_121 so19 rfl rfl rfl rfl (Nat.le_of_ble_eq_true rfl) ⟨by decide, by decide⟩ ⟨by decide, by decide⟩ d_Rs_need_80 (kE (h := h17) ?_)
          refine rz_Seq [vi (M 5 (4 * p + r) + 1)] (by congr 2; omega) ?_
          exact rz_ireturn (st := []) rfl d_Rs_need_83 ⟨by decide, by decide⟩ ⟨_, rfl, (by rw [sp_need, if_neg (by rw [hn3, c17]; decide), if_pos bv5, if_neg (by omega)]), au (au A 7 (3 * (4 * p + r) + M 5 (4 * p + r)) q11) 8 (3 * (4 * p + r) + M 5 (4 * p + r)) a5, S, (by rw [sp_need, if_neg (by rw [hn3, c17]; decide), if_pos bv5, if_neg (by omega)]; exact RsAt.nd hV15 hBg.wf hnn3 (by omega) vq11_15 bx5_16 qa17 G17), ((cr2 F8).tr (F15.mono (by simp))).tr (cr_ft G17 (by simp [CR]))⟩
        · refine rz_bipush (v := (-2)) d_Rs_need_51 (by decide) ?_
          exact rz_ireturn (st := []) rfl d_Rs_need_53 ⟨by decide, by decide⟩ ⟨_, rfl, (by rw [sp_need, if_neg (by rw [hn3, c17]; decide), if_pos bv5, if_pos (by omega)]), A, S, (by rw [sp_need, if_neg (by rw [hn3, c17]; decide), if_pos bv5, if_pos (by omega)]; exact hU2_9), cr2 F8⟩
    · refine rz_iconst d_Rs_need_20 ?_
      exact rz_ireturn (st := []) rfl d_Rs_need_21 ⟨by decide, by decide⟩ ⟨_, rfl, (by rw [sp_need, if_pos (by first | (rw [hn3]; rfl) | (rw [c17]; simp))]), A, S, (by rw [sp_need, if_pos (by first | (rw [hn3]; rfl) | (rw [c17]; simp))]; exact hR0), rz_fr.rf⟩
theorem PsAt.ft6 {Γ : rz_G} {h h' : rz_H} {pa : Nat} {A : Nat → Int → Nat} {M : Nat → Int → Int} {F : Int → Int → Int} (hp : PsAt Γ h pa A M F) (hw : mWF M) (hf : rz_ft [(35, 6), (36, 6)] h h') : PsAt Γ h' pa A M F := by
  obtain ⟨w2, _⟩ := M_big hw
  obtain ⟨⟨f, a, b⟩, c⟩ := hp
  exact ⟨⟨f, hf _ _ _ a (by simp), b⟩, fun p x y => (c p x y).ft hf (by simp) (by simp; omega) (fun r _ _ => by simp; omega)⟩
/-- the asks alone have changed -/
theorem RsAt.asx {Γ : rz_G} {h h' : rz_H} {x : Nat} {A A' : Nat → Int → Nat} {B : Nat → Int → Nat} {S : Nat → Int → Int → Int} {M M' : Nat → Int → Int} {F : Int → Int → Int} (hR : RsAt Γ h x A B S M F) (hw : mWF M) (hf : rz_ft [(35, 6), (36, 6)] h h') (ea : ∀ c i, c ≠ 9 → c ≠ 10 → A' c i = A c i) (e : ∀ c, c ∈ [2, 3, 4, 5, 6, 7, 12, 13, 14, 15] → M' c = M c) (e1 : M' 1 0 = M 1 0) (e0 : mAt M' 0 = mAt M 0) (htx : ∀ t, 6 ≤ t ∨ t = 1 → t < 126 → txE M M' t) (ha : AsAt Γ h' (A 13 0) A' M') : RsAt Γ h' x A' B S M' F := by
  obtain ⟨⟨bl, a1, a2⟩, b, c, d, f1, f, ⟨g, g1, g2⟩, k⟩ := hR
  have hl : rz_fr [35, 36] h h' := hf.lo
  refine ⟨⟨bl, ?_, a2.c (fun i _ => by unfold blF4; rw [e 13 (by decide), e 15 (by decide)])⟩, ?_, ?_, ?_, ?_, ?_, ⟨g, ?_, fun p a b => by rw [slN, e 12 (by decide), e 14 (by decide)]; exact g2 p a b⟩, k.fr hl (by decide)⟩
  · rw [rs_F, e 12 (by decide), ea 11 0 (by decide) (by decide), ea 12 0 (by decide) (by decide), ea 13 0 (by decide) (by decide), ea 14 0 (by decide) (by decide), ea 15 0 (by decide) (by decide), ea 16 0 (by decide) (by decide)]
    exact hl _ _ _ a1 (by decide)
  · rw [ea 11 0 (by decide) (by decide), e1, e0]; exact b.fd hl (by decide)
  · rw [ea 12 0 (by decide) (by decide)]
    exact (c.ft6 hw hf).mv hw (fun c i hc => ea c i (by omega) (by omega)) (fun c hc => e c (by revert hc; simp; omega)) (fun t t0 t1 => htx t (Or.inl t0) t1)
  · rw [ea 13 0 (by decide) (by decide)]; exact ha
  · rw [ea 14 0 (by decide) (by decide)]; exact f1.fr hl (by decide)
  · rw [ea 15 0 (by decide) (by decide)]; exact (f.fr hl (by decide)).t (htx 1 (Or.inr rfl) (by decide))
  · rw [ea 16 0 (by decide) (by decide)]; exact hl _ _ _ g1 (by decide)
theorem RsAt.ak {Γ : rz_G} {h h' : rz_H} {x : Nat} {A : Nat → Int → Nat} {B : Nat → Int → Nat} {S : Nat → Int → Int → Int} {M : Nat → Int → Int} {F : Int → Int → Int} {p : Int} {q a : Nat} (hU : RsAt Γ h x A B S (mUse M) F) (hw : mWF M) (h4 : M 8 0 < 4) (hq : h q = some ((8, 0), .inr (11, [vi p, .ref a]))) (ha : RgAt Γ h a (mAt M 0) (M 1 0)) (hl : AlAt Γ h' (A 13 0) 6 ((M 8 0).toNat + 1) (rz_u (fun j => some (A 9 j)) ((M 8 0).toNat : Nat) (some q))) (hf : rz_ft [(35, 6), (36, 6)] h h') : RsAt Γ h' x (au (au A 9 (M 8 0) q) 10 (M 8 0) a) B S (mUse (mu (mu (mKeep M (2 + M 8 0)) 9 (rz_u (M 9) (M 8 0) p)) 8 (fun _ => M 8 0 + 1))) F := by
  have hw1 := use_wf hw
  have w8 := (M_big hw).2.2.2.1
  generalize hn : M 8 0 = n at *
  generalize hM : mUse (mu (mu (mKeep M (2 + n)) 9 (rz_u (M 9) n p)) 8 (fun _ => n + 1)) = M2
  generalize hA : au (au A 9 n q) 10 n a = A2
  have an : ∀ c j, ¬ (c = 9 ∧ j = n) → ¬ (c = 10 ∧ j = n) → A2 c j = A c j := fun c j h7 h8 => by rw [← hA, au_n h8, au_n h7]
  have a9 : A2 9 n = q := by rw [← hA, au_n (by omega), au_s]
  have a10 : A2 10 n = a := by rw [← hA, au_s]
  have e8 : M2 8 0 = n + 1 := by rw [← hM]; rfl
  have e9 : M2 9 = rz_u (M 9) n p := by rw [← hM]; rfl
  have en : ∀ c, c ∉ [0, 1, 8, 9] → M2 c = mUse M c := fun c hc => by
    simp only [List.mem_cons, List.not_mem_nil, or_false, not_or] at hc
    rw [← hM, use_n hc.2.1, mu_n hc.2.2.1, mu_n hc.2.2.2, keep_n hc.1 hc.2.1, use_n hc.2.1]
  have ht : ∀ t, 1 ≤ t → t < 126 → t ≠ 2 + n → txE (mUse M) M2 t := fun t t0 t1 tn => by
    rw [← hM]
    exact ((use_t M (by omega)).sy.tr (txE_n (M' := mu (mu (mKeep M (2 + n)) 9 (rz_u (M 9) n p)) 8 (fun _ => n + 1)) (keep_t hw (by omega) tn) rfl rfl)).tr (use_t _ (by omega))
  have ti : mAt M2 (2 + n) = mAt M 0 ∧ M2 1 (2 + n) = M 1 0 := by
    have u := use_t (mu (mu (mKeep M (2 + n)) 9 (rz_u (M 9) n p)) 8 (fun _ => n + 1)) (t := 2 + n) (by omega)
    rw [hM] at u
    have ks := keep_s hw (2 + n)
    exact ⟨u.1.trans ks.1, u.2.trans ks.2⟩
  have hl2 := hf.lo
  have hd := hU.2.2.2.1
  refine hU.asx hw1 hf (fun c i h9 h10 => an c i (by omega) (by omega)) (fun c hc => en c (by revert hc; simp; omega)) ?_ ?_ (fun t t0 t1 => ht t (by omega) t1 (by omega)) ⟨?_, fun j j0 j1 => ?_⟩
  · rw [← hM, mUse, mu_s, rz_u_s, mUse, mu_s, rz_u_s]
  · funext j; unfold mAt; rw [show M2 1 0 = 0 by rw [← hM, mUse, mu_s, rz_u_s], show mUse M 1 0 = 0 by rw [mUse, mu_s, rz_u_s], if_neg (by omega), if_neg (by omega)]
  · rw [e8, show (n + 1).toNat = n.toNat + 1 by omega]
    refine hl.c (fun j j0 j1 => ?_)
    by_cases z : j = n
    · rw [z, a9, Int.tn w8.1, rz_u_s]
    · rw [an 9 _ (by omega) (by omega), rz_u_n (by omega)]
  · rw [e8] at j1
    by_cases z : j = n
    · rw [z, a9, a10, e9, rz_u_s, ti.1, ti.2]
      exact ⟨hl2 _ _ _ hq (by simp), ha.fr hl2 (by simp)⟩
    · have hj := hd.2 j j0 (show j < mUse M 8 0 by rw [show mUse M 8 0 = M 8 0 from rfl, hn]; omega)
      rw [an 9 _ (by omega) (by omega), an 10 _ (by omega) (by omega), e9, rz_u_n z]
      exact ⟨hl2 _ _ _ hj.1 (by simp), (hj.2.fr hl2 (by simp)).t (ht _ (by omega) (by omega) (by omega))⟩
abbrev rm_Rs_ask : Room := { frames := 9, cells := 66, slots := 1166, locals := 232 }
set_option maxRecDepth 100000 in
set_option maxHeartbeats 4000000 in
theorem c_Rs_ask {l : Launch} {Γ : rz_G} {h : rz_H} {x : Nat} {A : Nat → Int → Nat} {B : Nat → Int → Nat} {S : Nat → Int → Int → Int} {M : Nat → Int → Int} {F : Int → Int → Int} (hR : RsAt Γ h x A B S M F) (hBg : Big M F) {p : Int} (rp : -2147483648 ≤ p ∧ p ≤ 2147483647) : Ct l Γ x_Rs_ask y_Rs_ask rm_Rs_ask [.ref x, vi p] h (opP Γ x B (sp_ask M p).2 F h (sp_ask M p).1) := by
  refine rz_met (by decide) rfl rfl (Nat.le_of_ble_eq_true rfl) (fun K _ => ?_)
  refine rz_Leq [(0, .ref x), (1, vi p)] rfl ?_
  have hR0 := hR
  obtain ⟨⟨bl, hx, hbl⟩, hSb, hPs, hAs, hSe, hHv, ⟨gs, hsa, hgs⟩, hk⟩ := hR
  obtain ⟨w2, w5, w6, w8, w9⟩ := M_big hBg.wf
  have w1 := hBg.wf.1 0 (by omega) (by omega)
  refine rz_iload_n 1 d_Rs_ask_0 rfl rfl ?_
  refine rz_callS (As := [vi p]) (c_Rs_isPlugin (by omega)) m_Rs_85 rfl rfl (Nat.le_of_ble_eq_true rfl) ⟨by decide, by decide⟩ ⟨by decide, by decide⟩ d_Rs_ask_1 (kE (h := h) ?_)
  refine rz_if_neB 9 d_Rs_ask_4 (by decide) (fun c4 => ?_) (fun c4 => ?_)
  · refine rz_aload_n 0 d_Rs_ask_9 rfl rfl ?_
    refine rz_callV (As := []) (c_Rs_takeText hx rfl hSb (mAt (mUse M) 0)) m_Rs_88 hx rfl rfl rfl rfl (Nat.le_of_ble_eq_true rfl) ⟨by decide, by decide⟩ ⟨by decide, by decide⟩ d_Rs_ask_10 (kR (h := h) fun s1 h1 q1 => ?_)
    obtain ⟨hs1, hSb_1, G1⟩ := q1
    have hU1 := hR0.use hBg.wf G1 hSb_1
    have hcast : ((M 1 0).toNat : Int) = M 1 0 := Int.tn w1.1
    have F2 : rz_fr [31, 32] h h1 := rz_fr.rf.tr (G1.mono (by decide))
    have fc_3_0 : h1 x = some ((30, 0), .inr (7, [.ref (A 11 0), .ref (A 12 0), .ref (A 13 0), .ref (A 14 0), .ref (A 15 0), vi (M 12 0), .ref (A 16 0), vi bl])) := G1 _ _ _ hx (show 30 ∉ ([31, 32] : List Nat) by decide)
    have fc_3_1 : h1 (A 16 0) = some ((39, 0), aI Γ 0 6 gs) := G1 _ _ _ hsa (show 39 ∉ ([31, 32] : List Nat) by decide)
    have hPs_3 : PsAt Γ h1 (A 12 0) A M F := PsAt.fd hPs G1 (by decide)
    have hAs_3 : AsAt Γ h1 (A 13 0) A M := AsAt.fd hAs G1 (by decide)
    have hSe_3 : SeAt Γ h1 (A 14 0) B S := SeAt.fr hSe G1 (by decide)
    have hHv_3 : VeAt Γ h1 (A 15 0) (vRt M 1) (vPt M 1) := VeAt.fr hHv G1 (by decide)
    have hk_3 : KsAt Γ h1 := KsAt.fr hk G1 (by decide)
    refine rz_callS (As := [.ref s1]) (c_Rg_read hs1 hk_3 (by omega)) m_Rs_113 rfl rfl (Nat.le_of_ble_eq_true rfl) ⟨by decide, by decide⟩ ⟨by decide, by decide⟩ d_Rs_ask_13 (kO (h := h1) (fun h4 q4 => ?_) (fun a4 h4 q4 => ?_))
    · obtain ⟨b4, G4⟩ := q4
      have bv4 : rng (mAt M 0) (M 1 0) = false := by rw [← hcast]; exact b4
      have F5 : rz_fr [31, 32] h h4 := F2.tr (G4.mono (by decide))
      have fc_6_0 : h4 x = some ((30, 0), .inr (7, [.ref (A 11 0), .ref (A 12 0), .ref (A 13 0), .ref (A 14 0), .ref (A 15 0), vi (M 12 0), .ref (A 16 0), vi bl])) := G4 _ _ _ fc_3_0 (by simp)
      have fc_6_1 : h4 (A 16 0) = some ((39, 0), aI Γ 0 6 gs) := G4 _ _ _ fc_3_1 (by simp)
      have hPs_6 : PsAt Γ h4 (A 12 0) A M F := PsAt.fd hPs_3 G4 (by decide)
      have hAs_6 : AsAt Γ h4 (A 13 0) A M := AsAt.fd hAs_3 G4 (by decide)
      have hSe_6 : SeAt Γ h4 (A 14 0) B S := SeAt.fr hSe_3 G4 (by decide)
      have hHv_6 : VeAt Γ h4 (A 15 0) (vRt M 1) (vPt M 1) := VeAt.fr hHv_3 G4 (by decide)
      have hk_6 : KsAt Γ h4 := KsAt.fr hk_3 G4 (by decide)
      have hs1_6 : StrAt Γ h4 s1 (M 1 0).toNat (mAt M 0) 1 := StrAt.fr hs1 G4 (by decide)
      have hU1_6 : RsAt Γ h4 x A B S (mUse M) F := RsAt.f0 hU1 G4 (by decide)
      refine rz_astore_nN [(2, .null), (0, .ref x), (1, vi p)] d_Rs_ask_16 rfl (by decide) rfl ?_
      refine rz_aload_nN 0 d_Rs_ask_17 rfl rfl ?_
      refine rz_ifnonnullN d_Rs_ask_18 ?_
      refine rz_bipush (v := (-3)) d_Rs_ask_21 (by decide) ?_
      exact rz_ireturn (st := []) rfl d_Rs_ask_23 ⟨by decide, by decide⟩ ⟨_, rfl, (by rw [sp_ask, if_pos c4, if_neg (by rw [bv4]; decide)]), A, S, (by rw [sp_ask, if_pos c4, if_neg (by rw [bv4]; decide)]; exact hU1_6), cr2 F5⟩
    · obtain ⟨b4, G4⟩ := q4
      have bv4 : rng (mAt M 0) (M 1 0) = true := by rw [← hcast]; exact b4.1
      have bx4 : RgAt Γ h4 a4 (mAt M 0) (M 1 0) := by rw [← hcast]; exact b4.2
      have F7 : rz_fr [31, 32] h h4 := F2.tr (G4.mono (by decide))
      have fc_8_0 : h4 x = some ((30, 0), .inr (7, [.ref (A 11 0), .ref (A 12 0), .ref (A 13 0), .ref (A 14 0), .ref (A 15 0), vi (M 12 0), .ref (A 16 0), vi bl])) := G4 _ _ _ fc_3_0 (by simp)
      have fc_8_1 : h4 (A 16 0) = some ((39, 0), aI Γ 0 6 gs) := G4 _ _ _ fc_3_1 (by simp)
      have hPs_8 : PsAt Γ h4 (A 12 0) A M F := PsAt.fd hPs_3 G4 (by decide)
      have hAs_8 : AsAt Γ h4 (A 13 0) A M := AsAt.fd hAs_3 G4 (by decide)
      have hSe_8 : SeAt Γ h4 (A 14 0) B S := SeAt.fr hSe_3 G4 (by decide)
      have hHv_8 : VeAt Γ h4 (A 15 0) (vRt M 1) (vPt M 1) := VeAt.fr hHv_3 G4 (by decide)
      have hk_8 : KsAt Γ h4 := KsAt.fr hk_3 G4 (by decide)
      have hs1_8 : StrAt Γ h4 s1 (M 1 0).toNat (mAt M 0) 1 := StrAt.fr hs1 G4 (by decide)
      have hU1_8 : RsAt Γ h4 x A B S (mUse M) F := RsAt.f0 hU1 G4 (by decide)
      refine rz_astore_n [(2, .ref a4), (0, .ref x), (1, vi p)] d_Rs_ask_16 rfl (by decide) rfl ?_
      refine rz_aload_n 0 d_Rs_ask_17 rfl rfl ?_
      refine rz_ifnonnullR 24 d_Rs_ask_18 (by decide) ?_
      refine rz_aload_n 1 d_Rs_ask_24 rfl rfl ?_
      refine rz_getf f_Rs_25 fc_8_0 rfl d_Rs_ask_25 ?_
      obtain ⟨fso9, so9⟩ := hAs_8.1.ob
      refine rz_callV (As := []) (c_Al_size hAs_8.1) m_Rs_121 so9 rfl rfl rfl rfl (Nat.le_of_ble_eq_true rfl) ⟨by decide, by decide⟩ ⟨by decide, by decide⟩ d_Rs_ask_28 (kE (h := h4) ?_)
      refine rz_Seq [vi (M 8 0)] (by rw [Int.tn (by omega)]) ?_
      refine rz_iconst d_Rs_ask_31 ?_
      refine rz_icmp_lt 38 d_Rs_ask_32 (by decide) (by omega) ⟨by decide, by decide⟩ (fun c32 => ?_) (fun c32 => ?_)
      · refine rz_aload_n 1 d_Rs_ask_38 rfl rfl ?_
        refine rz_getf f_Rs_25 fc_8_0 rfl d_Rs_ask_39 ?_
        refine rz_new (ci := 11) (q0 := ("ReleaseSolver$Ask", k_T11, 2)) (8, 0) (show (8 : Nat) ≠ 0 by decide) rfl rfl cl_Rs_145 ⟨by decide, by decide⟩ d_Rs_ask_42 (fun q10 zq10 => ?_)
        refine rz_nm fun h11 eh11 => ?_
        have g11 : rz_fr [] h4 h11 := by rw [eh11]; exact rz_fr.nw zq10
        have z11 : h4 q10 = none := rz_fr.rf.nn zq10
        have F12 : rz_fr [] h4 h11 := rz_fr.rf.tr (g11.mono (by decide))
        have fc_13_0 : h11 x = some ((30, 0), .inr (7, [.ref (A 11 0), .ref (A 12 0), .ref (A 13 0), .ref (A 14 0), .ref (A 15 0), vi (M 12 0), .ref (A 16 0), vi bl])) := g11 _ _ _ fc_8_0 (by simp)
        have fc_13_1 : h11 (A 16 0) = some ((39, 0), aI Γ 0 6 gs) := g11 _ _ _ fc_8_1 (by simp)
        have hk_13 : KsAt Γ h11 := KsAt.fr hk_8 g11 (by decide)
        have hs1_13 : StrAt Γ h11 s1 (M 1 0).toNat (mAt M 0) 1 := StrAt.fr hs1_8 g11 (by decide)
        have bx4_13 : RgAt Γ h11 a4 (mAt M 0) (M 1 0) := RgAt.fr bx4 g11 (by decide)
        have fn_11 : h11 q10 = some ((8, 0), .inr (11, [vi 0, .null])) := by rw [eh11]; exact rz_up_s _ _ _
        refine rz_dup d_Rs_ask_45 rfl ?_
        refine rz_iload_n 2 d_Rs_ask_46 rfl rfl ?_
        refine rz_aload_n 0 d_Rs_ask_47 rfl rfl ?_
        refine rz_callI (As := [vi p, .ref a4]) (c_Ak_init fn_11) m_Rs_147 rfl rfl (Nat.le_of_ble_eq_true rfl) ⟨by decide, by decide⟩ ⟨by decide, by decide⟩ d_Rs_ask_48 (kV (h := h11) fun h14 q14 => ?_)
        obtain ⟨p14, G14⟩ := q14
        have R14 : rz_fr [8] h11 h14 := rz_fo.fr1 fn_11 G14
        have F14 : rz_fr [] h4 h14 := fun a t x ha hr => G14 a (t, x) (fun z => by rw [z, z11] at ha; cases ha) (F12 a t x ha hr)
        have fc_15_0 : h14 x = some ((30, 0), .inr (7, [.ref (A 11 0), .ref (A 12 0), .ref (A 13 0), .ref (A 14 0), .ref (A 15 0), vi (M 12 0), .ref (A 16 0), vi bl])) := R14 _ _ _ fc_13_0 (show 30 ∉ ([8] : List Nat) by decide)
        have fc_15_1 : h14 (A 16 0) = some ((39, 0), aI Γ 0 6 gs) := R14 _ _ _ fc_13_1 (show 39 ∉ ([8] : List Nat) by decide)
        have hk_15 : KsAt Γ h14 := KsAt.fr hk_13 R14 (by decide)
        have hs1_15 : StrAt Γ h14 s1 (M 1 0).toNat (mAt M 0) 1 := StrAt.fr hs1_13 R14 (by decide)
        have bx4_15 : RgAt Γ h14 a4 (mAt M 0) (M 1 0) := RgAt.fr bx4_13 R14 (by decide)
        have vq10_14 : h14 q10 = some ((8, 0), .inr (11, [vi p, .ref a4])) := p14
        have hV14 := RsAt.f0 hU1_8 F14 rfl
        have hPs_14 := hV14.psM hBg.wf
        have hAs_14 := hV14.asM hBg.wf
        obtain ⟨fso17, so17⟩ := hAs_14.1.ob
        refine rz_callV (As := [.ref q10]) (c_Al_add hAs_14.1 (by omega) vq10_14 (by decide) (by decide) (ci := 11) rfl (by decide)) m_Rs_129 so17 rfl rfl rfl rfl (Nat.le_of_ble_eq_true rfl) ⟨by decide, by decide⟩ ⟨by decide, by decide⟩ d_Rs_ask_51 (kI (h := h14) fun r16 h16 q16 => ?_)
        obtain ⟨er16, qa16, G16⟩ := q16
        rw [er16]
        have fx16 : h16 x = some ((30, 0), .inr (7, [.ref (A 11 0), .ref (A 12 0), .ref (A 13 0), .ref (A 14 0), .ref (A 15 0), vi (M 12 0), .ref (A 16 0), vi bl])) := G16 _ _ _ fc_15_0 (by simp)
        refine rz_pop d_Rs_ask_54 rfl ?_
        refine rz_aload_n 1 d_Rs_ask_55 rfl rfl ?_
        refine rz_getf f_Rs_25 fx16 rfl d_Rs_ask_56 ?_
        obtain ⟨fso18, so18⟩ := qa16.ob
        refine rz_callV (As := []) (c_Al_size qa16) m_Rs_121 so18 rfl rfl rfl rfl (Nat.le_of_ble_eq_true rfl) ⟨by decide, by decide⟩ ⟨by decide, by decide⟩ d_Rs_ask_59 (kE (h := h16) ?_)
        refine rz_Seq [vi (M 8 0 + 1)] (by congr 2; omega) ?_
        refine rz_iconst d_Rs_ask_62 ?_
        refine rz_isub d_Rs_ask_63 ?_
        exact rz_ireturn (st := []) rfl d_Rs_ask_64 ⟨by decide, by decide⟩ ⟨_, rfl, (by rw [sp_ask, if_pos c4, if_pos bv4, if_neg (by omega)]; show M 8 0 + 1 - 1 = M 8 0; omega), au (au A 9 (M 8 0) q10) 10 (M 8 0) a4, S, (by rw [sp_ask, if_pos c4, if_pos bv4, if_neg (by omega)]; exact RsAt.ak hV14 hBg.wf (by omega) vq10_14 bx4_15 qa16 G16), ((cr2 F7).tr (F14.mono (by simp))).tr (cr_ft G16 (by simp [CR]))⟩
      · refine rz_bipush (v := (-2)) d_Rs_ask_35 (by decide) ?_
        exact rz_ireturn (st := []) rfl d_Rs_ask_37 ⟨by decide, by decide⟩ ⟨_, rfl, (by rw [sp_ask, if_pos c4, if_pos bv4, if_pos (by omega)]), A, S, (by rw [sp_ask, if_pos c4, if_pos bv4, if_pos (by omega)]; exact hU1_8), cr2 F7⟩
  · refine rz_iconst d_Rs_ask_7 ?_
    exact rz_ireturn (st := []) rfl d_Rs_ask_8 ⟨by decide, by decide⟩ ⟨_, rfl, (by rw [sp_ask, if_neg (by rw [c4]; decide)]), A, S, (by rw [sp_ask, if_neg (by rw [c4]; decide)]; exact hR0), rz_fr.rf⟩
def ash (A : Nat → Int → Nat) (a : Int) : Nat → Int → Nat := fun c i => if (c = 9 ∨ c = 10) ∧ a ≤ i then A c (i + 1) else A c i
theorem ash_y {A : Nat → Int → Nat} {a i : Int} {c : Nat} (h : c = 9 ∨ c = 10) (hi : a ≤ i) : ash A a c i = A c (i + 1) := if_pos ⟨h, hi⟩
theorem ash_n {A : Nat → Int → Nat} {a i : Int} {c : Nat} (h : ¬ ((c = 9 ∨ c = 10) ∧ a ≤ i)) : ash A a c i = A c i := if_neg h
theorem RsAt.ua {Γ : rz_G} {h h' : rz_H} {x : Nat} {A : Nat → Int → Nat} {B : Nat → Int → Nat} {S : Nat → Int → Int → Int} {M : Nat → Int → Int} {F : Int → Int → Int} {a : Int} (hR : RsAt Γ h x A B S M F) (hw : mWF M) (ha : 0 ≤ a ∧ a < M 8 0) (hl : AlAt Γ h' (A 13 0) 6 ((M 8 0).toNat - 1) (rz_rm (fun j => some (A 9 j)) a)) (hf : rz_ft [(35, 6), (36, 6)] h h') : RsAt Γ h' x (ash A a) B S (uaS (mu M 8 (fun _ => M 8 0 - 1)) a (M 8 0 - 1)) F := by
  obtain ⟨w2, w5, w6, w8, w9⟩ := M_big hw
  have hw8 : mWF (mu M 8 (fun _ => M 8 0 - 1)) := by
    have hw := hw
    unfold mWF at hw ⊢
    exact ⟨hw.1, hw.2.1, hw.2.2.1, hw.2.2.2.1, hw.2.2.2.2.1, (by show 0 ≤ M 8 0 - 1 ∧ M 8 0 - 1 ≤ 4; omega), hw.2.2.2.2.2.2⟩
  have ut := fun t ht => ua_t (t := t) hw8 (a := a) (b := M 8 0 - 1) ⟨ha.1, by omega, by omega⟩ ht
  generalize hM : uaS (mu M 8 (fun _ => M 8 0 - 1)) a (M 8 0 - 1) = M' at ut ⊢
  have e8 : M' 8 0 = M 8 0 - 1 := by rw [← hM]; rfl
  have e9 : M' 9 = fun j => if a ≤ j ∧ j < M 8 0 - 1 then M 9 (j + 1) else M 9 j := by rw [← hM]; rfl
  have en : ∀ k, k ∉ [0, 1, 8, 9] → M' k = M k := fun k hk => by
    simp only [List.mem_cons, List.not_mem_nil, or_false, not_or] at hk
    rw [← hM, uaS, mu_n hk.1, mu_n hk.2.1, mu_n hk.2.2.2, mu_n hk.2.2.1]
  have ht : ∀ t, 6 ≤ t ∨ t = 1 ∨ t = 0 → t < 126 → txE M M' t := fun t c d => by
    have := ut t (by omega)
    rw [if_neg (by omega)] at this; exact this
  have hl2 := hf.lo
  have hd := hR.2.2.2.1
  refine hR.asx hw hf (fun c i h9 h10 => ash_n (by omega)) (fun c hc => en c (by revert hc; simp; omega)) (ht 0 (by omega) (by decide)).2 (ht 0 (by omega) (by decide)).1 (fun t t0 t1 => ht t (by omega) t1) ⟨?_, fun j j0 j1 => ?_⟩
  · rw [e8, show (M 8 0 - 1).toNat = (M 8 0).toNat - 1 by omega]
    refine hl.c (fun j j0 j1 => ?_)
    rw [rz_rm]
    by_cases z : j < a
    · rw [if_pos z, ash_n (by omega)]
    · rw [if_neg z, ash_y (Or.inl rfl) (by omega)]
  · rw [e8] at j1
    have u := ut (2 + j) (by omega)
    by_cases z : a ≤ j
    · have hj := hd.2 (j + 1) (by omega) (by omega)
      rw [if_pos (by omega)] at u
      rw [ash_y (Or.inl rfl) z, ash_y (Or.inr rfl) z, e9, u.1, u.2]
      dsimp only
      rw [if_pos (by omega), show 2 + j + 1 = 2 + (j + 1) by omega]
      exact ⟨hl2 _ _ _ hj.1 (by simp), hj.2.fr hl2 (by simp)⟩
    · have hj := hd.2 j j0 (by omega)
      rw [if_neg (by omega)] at u
      rw [ash_n (by omega), ash_n (by omega), e9, u.1, u.2]
      dsimp only
      rw [if_neg (by omega)]
      exact ⟨hl2 _ _ _ hj.1 (by simp), hj.2.fr hl2 (by simp)⟩
abbrev rm_Rs_unask : Room := { frames := 3, cells := 0, slots := 0, locals := 86 }
set_option maxRecDepth 100000 in
set_option maxHeartbeats 4000000 in
theorem c_Rs_unask {l : Launch} {Γ : rz_G} {h : rz_H} {x : Nat} {A : Nat → Int → Nat} {B : Nat → Int → Nat} {S : Nat → Int → Int → Int} {M : Nat → Int → Int} {F : Int → Int → Int} (hR : RsAt Γ h x A B S M F) (hBg : Big M F) {a : Int} (ra : -2147483648 ≤ a ∧ a ≤ 2147483647) : Ct l Γ x_Rs_unask y_Rs_unask rm_Rs_unask [.ref x, vi a] h (opP Γ x B (sp_unask M a).2 F h (sp_unask M a).1) := by
  refine rz_met (by decide) rfl rfl (Nat.le_of_ble_eq_true rfl) (fun K _ => ?_)
  refine rz_Leq [(0, .ref x), (1, vi a)] rfl ?_
  have hR0 := hR
  obtain ⟨⟨bl, hx, hbl⟩, hSb, hPs, hAs, hSe, hHv, ⟨gs, hsa, hgs⟩, hk⟩ := hR
  obtain ⟨w2, w5, w6, w8, w9⟩ := M_big hBg.wf
  have w1 := hBg.wf.1 0 (by omega) (by omega)
  refine rz_iload_n 1 d_Rs_unask_0 rfl rfl ?_
  refine rz_if_lt 15 d_Rs_unask_1 (by decide) (by omega) (fun c1 => ?_) (fun c1 => ?_)
  · refine rz_iconst d_Rs_unask_15 ?_
    exact rz_ireturn (st := []) rfl d_Rs_unask_16 ⟨by decide, by decide⟩ ⟨_, rfl, (by rw [sp_unask, if_neg (by rw [mIn_t]; omega)]), A, S, (by rw [sp_unask, if_neg (by rw [mIn_t]; omega)]; exact hR0), rz_fr.rf⟩
  · refine rz_iload_n 1 d_Rs_unask_4 rfl rfl ?_
    refine rz_aload_n 0 d_Rs_unask_5 rfl rfl ?_
    refine rz_getf f_Rs_25 hx rfl d_Rs_unask_6 ?_
    obtain ⟨fso1, so1⟩ := hAs.1.ob
    refine rz_callV (As := []) (c_Al_size hAs.1) m_Rs_121 so1 rfl rfl rfl rfl (Nat.le_of_ble_eq_true rfl) ⟨by decide, by decide⟩ ⟨by decide, by decide⟩ d_Rs_unask_9 (kE (h := h) ?_)
    refine rz_Seq [vi (M 8 0), vi a] (by rw [Int.tn (by omega)]) ?_
    refine rz_icmp_lt 17 d_Rs_unask_12 (by decide) (by omega) (by omega) (fun c12 => ?_) (fun c12 => ?_)
    · refine rz_aload_n 0 d_Rs_unask_17 rfl rfl ?_
      refine rz_getf f_Rs_25 hx rfl d_Rs_unask_18 ?_
      refine rz_iload_n 1 d_Rs_unask_21 rfl rfl ?_
      obtain ⟨fso3, so3⟩ := hAs.1.ob
      refine rz_callV (As := [vi a]) (c_Al_remove hAs.1 (by omega) (i := a) (by omega) (ci := 11) rfl (by decide) (fun j y j0 j1 z => ⟨_, _, by have := (hAs.2 j j0 (by omega)).1; rw [Option.some.inj z] at this; exact this, by decide⟩) (y := A 9 a) rfl) m_Rs_150 so3 rfl rfl rfl rfl (Nat.le_of_ble_eq_true rfl) ⟨by decide, by decide⟩ ⟨by decide, by decide⟩ d_Rs_unask_22 (kR (h := h) fun b2 h2 q2 => ?_)
      obtain ⟨qa2, G2⟩ := q2
      have fx2 : h2 x = some ((30, 0), .inr (7, [.ref (A 11 0), .ref (A 12 0), .ref (A 13 0), .ref (A 14 0), .ref (A 15 0), vi (M 12 0), .ref (A 16 0), vi bl])) := G2 _ _ _ hx (by simp)
      refine rz_pop d_Rs_unask_25 rfl ?_
      refine rz_aload_n 0 d_Rs_unask_26 rfl rfl ?_
      refine rz_getf f_Rs_25 fx2 rfl d_Rs_unask_27 ?_
      obtain ⟨fso4, so4⟩ := qa2.ob
      refine rz_callV (As := []) (c_Al_size qa2) m_Rs_121 so4 rfl rfl rfl rfl (Nat.le_of_ble_eq_true rfl) ⟨by decide, by decide⟩ ⟨by decide, by decide⟩ d_Rs_unask_30 (kE (h := h2) ?_)
      refine rz_Seq [vi (M 8 0 - 1)] (by congr 2; omega) ?_
      exact rz_ireturn (st := []) rfl d_Rs_unask_33 ⟨by decide, by decide⟩ ⟨_, rfl, (by rw [sp_unask, if_pos (by rw [mIn_t]; omega)]), ash A a, S, (by rw [sp_unask, if_pos (by rw [mIn_t]; omega)]; exact hR0.ua hBg.wf (by omega) qa2 G2), cr_ft G2 (by simp [CR])⟩
    · refine rz_iconst d_Rs_unask_15 ?_
      exact rz_ireturn (st := []) rfl d_Rs_unask_16 ⟨by decide, by decide⟩ ⟨_, rfl, (by rw [sp_unask, if_neg (by rw [mIn_t]; omega)]), A, S, (by rw [sp_unask, if_neg (by rw [mIn_t]; omega)]; exact hR0), rz_fr.rf⟩

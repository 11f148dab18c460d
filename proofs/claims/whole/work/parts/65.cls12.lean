/-! the class: calls 2 -/
theorem ra_n {M : Nat → Int → Int} {p r : Int} {v : Nat} (h : none = (if mNone M p r = true then none else some v)) : mNone M p r = true := by
  by_cases c : mNone M p r = true
  · exact c
  · rw [if_neg c] at h; cases h
theorem ra_s {M : Nat → Int → Int} {p r : Int} {v a : Nat} (h : some a = (if mNone M p r = true then none else some v)) : mNone M p r = false ∧ a = v := by
  by_cases c : mNone M p r = true
  · rw [if_pos c] at h; cases h
  · rw [if_neg c] at h; exact ⟨by simpa using c, Option.some.inj h⟩
theorem vk {M : Nat → Int → Int} (h : mVal M) {p r : Int} (hn : (0 ≤ p ∧ p ≤ 5) ∧ 0 ≤ r ∧ r < M 2 p) : ver (mAt M (6 + (4 * p + r))) 0 (M 1 (6 + (4 * p + r))) = true := by
  have := h.1 p r hn.1.1 (by omega) hn.2.1 hn.2.2
  rwa [show 6 + 4 * p + r = 6 + (4 * p + r) by omega] at this
abbrev rm_Rs_chosen : Room := { frames := 1, cells := 0, slots := 0, locals := 20 }
set_option maxRecDepth 100000 in
set_option maxHeartbeats 4000000 in
theorem c_Rs_chosen {l : Launch} {Γ : rz_G} {h : rz_H} {x : Nat} {A : Nat → Int → Nat} {B : Nat → Int → Nat} {S : Nat → Int → Int → Int} {M : Nat → Int → Int} {F : Int → Int → Int} (hR : RsAt Γ h x A B S M F) (hBg : Big M F) {p : Int} (rp : -2147483648 ≤ p ∧ p ≤ 2147483647) : Ct l Γ x_Rs_chosen y_Rs_chosen rm_Rs_chosen [.ref x, vi p] h (opP Γ x B M F h (sp_chosen M p)) := by
  refine rz_met (by decide) rfl rfl (Nat.le_of_ble_eq_true rfl) (fun K _ => ?_)
  refine rz_Leq [(0, .ref x), (1, vi p)] rfl ?_
  have hR0 := hR
  obtain ⟨⟨bl, hx, hbl⟩, hSb, hPs, hAs, hSe, hHv, ⟨gs, hsa, hgs⟩, hk⟩ := hR
  obtain ⟨w2, w5, w6, w8, w9⟩ := M_big hBg.wf
  have w1 := hBg.wf.1 0 (by omega) (by omega)
  refine rz_iload_n 1 d_Rs_chosen_0 rfl rfl ?_
  refine rz_callS (As := [vi p]) (c_Rs_isPlugin (by omega)) m_Rs_85 rfl rfl (Nat.le_of_ble_eq_true rfl) ⟨by decide, by decide⟩ ⟨by decide, by decide⟩ d_Rs_chosen_1 (kE (h := h) ?_)
  refine rz_if_eqB 16 d_Rs_chosen_4 (by decide) (fun c4 => ?_) (fun c4 => ?_)
  · refine rz_iconst d_Rs_chosen_16 ?_
    exact rz_ireturn (st := []) rfl d_Rs_chosen_17 ⟨by decide, by decide⟩ ⟨_, rfl, (by rw [sp_chosen, if_neg (by rw [c4]; decide)]), A, S, hR0, rz_fr.rf⟩
  · have hp5 := mIn_t.1 c4
    refine rz_aload_n 0 d_Rs_chosen_7 rfl rfl ?_
    refine rz_getf f_Rs_51 hx rfl d_Rs_chosen_8 ?_
    refine rz_iload_n 1 d_Rs_chosen_11 rfl rfl ?_
    refine rz_iaload hsa (show (39 : Nat) ≠ 0 by decide) (by omega) d_Rs_chosen_12 ?_
    refine rz_goto 17 d_Rs_chosen_13 (by decide) ?_
    exact rz_ireturn (st := []) rfl d_Rs_chosen_17 ⟨by decide, by decide⟩ ⟨_, rfl, (by rw [sp_chosen, if_pos c4]; have z := mIn_t.1 c4; exact hgs p (by omega) (by omega)), A, S, hR0, rz_fr.rf⟩
abbrev rm_Rs_blamed : Room := { frames := 1, cells := 0, slots := 0, locals := 21 }
set_option maxRecDepth 100000 in
set_option maxHeartbeats 4000000 in
theorem c_Rs_blamed {l : Launch} {Γ : rz_G} {h : rz_H} {x : Nat} {A : Nat → Int → Nat} {B : Nat → Int → Nat} {S : Nat → Int → Int → Int} {M : Nat → Int → Int} {F : Int → Int → Int} (hR : RsAt Γ h x A B S M F) (hBg : Big M F) {a : Int} (ra : -2147483648 ≤ a ∧ a ≤ 2147483647) : Ct l Γ x_Rs_blamed y_Rs_blamed rm_Rs_blamed [.ref x, vi a] h (opP Γ x B M F h (bi (sp_blamed M a))) := by
  refine rz_met (by decide) rfl rfl (Nat.le_of_ble_eq_true rfl) (fun K _ => ?_)
  refine rz_Leq [(0, .ref x), (1, vi a)] rfl ?_
  have hR0 := hR
  obtain ⟨⟨bl, hx, hbl⟩, hSb, hPs, hAs, hSe, hHv, ⟨gs, hsa, hgs⟩, hk⟩ := hR
  obtain ⟨w2, w5, w6, w8, w9⟩ := M_big hBg.wf
  have w1 := hBg.wf.1 0 (by omega) (by omega)
  refine rz_iload_n 1 d_Rs_blamed_0 rfl rfl ?_
  refine rz_if_lt 24 d_Rs_blamed_1 (by decide) (by omega) (fun c1 => ?_) (fun c1 => ?_)
  · refine rz_iconst d_Rs_blamed_24 ?_
    exact rz_zreturn (st := []) (ty := .boolean) rfl rfl d_Rs_blamed_25 ⟨by decide, by decide⟩ ⟨_, rfl, bi0 (by first | (have z := c17; rw [blF4, Int.tn (by omega)] at z; rw [sp_blamed, Bool.and_right_comm, z]; rfl) | (rw [sp_blamed, show mIn a 0 3 = false from mIn_f.2 (by omega), Bool.and_false]; rfl)), A, S, hR0, rz_fr.rf⟩
  · refine rz_iload_n 1 d_Rs_blamed_4 rfl rfl ?_
    refine rz_iconst d_Rs_blamed_5 ?_
    refine rz_icmp_ge 24 d_Rs_blamed_6 (by decide) (by omega) ⟨by decide, by decide⟩ (fun c6 => ?_) (fun c6 => ?_)
    · refine rz_iconst d_Rs_blamed_24 ?_
      exact rz_zreturn (st := []) (ty := .boolean) rfl rfl d_Rs_blamed_25 ⟨by decide, by decide⟩ ⟨_, rfl, bi0 (by first | (have z := c17; rw [blF4, Int.tn (by omega)] at z; rw [sp_blamed, Bool.and_right_comm, z]; rfl) | (rw [sp_blamed, show mIn a 0 3 = false from mIn_f.2 (by omega), Bool.and_false]; rfl)), A, S, hR0, rz_fr.rf⟩
    · refine rz_aload_n 0 d_Rs_blamed_9 rfl rfl ?_
      refine rz_getf f_Rs_55 hx rfl d_Rs_blamed_10 ?_
      refine rz_iload_n 1 d_Rs_blamed_13 rfl rfl ?_
      refine rz_callS (As := [vi bl, vi a]) (c_Rs_hasBit hbl (by decide) (by omega)) m_Rs_180 rfl rfl (Nat.le_of_ble_eq_true rfl) ⟨by decide, by decide⟩ ⟨by decide, by decide⟩ d_Rs_blamed_14 (kE (h := h) ?_)
      refine rz_Seq [vi (bi (blF4 M a.toNat))] rfl ?_
      refine rz_if_eqB 24 d_Rs_blamed_17 (by decide) (fun c17 => ?_) (fun c17 => ?_)
      · refine rz_iconst d_Rs_blamed_24 ?_
        exact rz_zreturn (st := []) (ty := .boolean) rfl rfl d_Rs_blamed_25 ⟨by decide, by decide⟩ ⟨_, rfl, bi0 (by first | (have z := c17; rw [blF4, Int.tn (by omega)] at z; rw [sp_blamed, Bool.and_right_comm, z]; rfl) | (rw [sp_blamed, show mIn a 0 3 = false from mIn_f.2 (by omega), Bool.and_false]; rfl)), A, S, hR0, rz_fr.rf⟩
      · refine rz_iconst d_Rs_blamed_20 ?_
        refine rz_goto 25 d_Rs_blamed_21 (by decide) ?_
        exact rz_zreturn (st := []) (ty := .boolean) rfl rfl d_Rs_blamed_25 ⟨by decide, by decide⟩ ⟨_, rfl, bi1 (by have z := c17; rw [blF4, Int.tn (by omega), Bool.and_eq_true] at z; rw [sp_blamed, z.1, z.2, show mIn a 0 3 = true from mIn_t.2 (by omega)]; rfl), A, S, hR0, rz_fr.rf⟩
abbrev rm_Rs_compare : Room := { frames := 5, cells := 0, slots := 0, locals := 107 }
set_option maxRecDepth 100000 in
set_option maxHeartbeats 4000000 in
theorem c_Rs_compare {l : Launch} {Γ : rz_G} {h : rz_H} {x : Nat} {A : Nat → Int → Nat} {B : Nat → Int → Nat} {S : Nat → Int → Int → Int} {M : Nat → Int → Int} {F : Int → Int → Int} (hR : RsAt Γ h x A B S M F) (hBg : Big M F) {p r q s : Int} (rp : -2147483648 ≤ p ∧ p ≤ 2147483647) (rr : -2147483648 ≤ r ∧ r ≤ 2147483647) (rq : -2147483648 ≤ q ∧ q ≤ 2147483647) (rs : -2147483648 ≤ s ∧ s ≤ 2147483647) : Ct l Γ x_Rs_compare y_Rs_compare rm_Rs_compare [.ref x, vi p, vi r, vi q, vi s] h (opP Γ x B M F h (sp_compare M p r q s)) := by
  refine rz_met (by decide) rfl rfl (Nat.le_of_ble_eq_true rfl) (fun K _ => ?_)
  refine rz_Leq [(0, .ref x), (1, vi p), (2, vi r), (3, vi q), (4, vi s)] rfl ?_
  have hR0 := hR
  obtain ⟨⟨bl, hx, hbl⟩, hSb, hPs, hAs, hSe, hHv, ⟨gs, hsa, hgs⟩, hk⟩ := hR
  obtain ⟨w2, w5, w6, w8, w9⟩ := M_big hBg.wf
  have w1 := hBg.wf.1 0 (by omega) (by omega)
  refine rz_aload_n 0 d_Rs_compare_0 rfl rfl ?_
  refine rz_iload_n 1 d_Rs_compare_1 rfl rfl ?_
  refine rz_iload_n 2 d_Rs_compare_2 rfl rfl ?_
  refine rz_callV (As := [vi p, vi r]) (c_Rs_releaseAt hx rfl hPs hBg (p := p) (r := r) (by omega) (by omega)) m_Rs_109 hx rfl rfl rfl rfl (Nat.le_of_ble_eq_true rfl) ⟨by decide, by decide⟩ ⟨by decide, by decide⟩ d_Rs_compare_3 (kO (h := h) (fun h1 q1 => ?_) (fun a1 h1 q1 => ?_))
  · have hn3 := ra_n q1.1
    rw [q1.2]
    refine rz_astoreN [(5, .null), (0, .ref x), (1, vi p), (2, vi r), (3, vi q), (4, vi s)] d_Rs_compare_6 (by decide) rfl ?_
    refine rz_aload_n 1 d_Rs_compare_8 rfl rfl ?_
    refine rz_iload_n 4 d_Rs_compare_9 rfl rfl ?_
    refine rz_iload 5 d_Rs_compare_10 rfl ?_
    refine rz_callV (As := [vi q, vi s]) (c_Rs_releaseAt hx rfl hPs hBg (p := q) (r := s) (by omega) (by omega)) m_Rs_109 hx rfl rfl rfl rfl (Nat.le_of_ble_eq_true rfl) ⟨by decide, by decide⟩ ⟨by decide, by decide⟩ d_Rs_compare_12 (kO (h := h) (fun h2 q2 => ?_) (fun a2 h2 q2 => ?_))
    · have hn12 := ra_n q2.1
      rw [q2.2]
      refine rz_astoreN [(6, .null), (5, .null), (0, .ref x), (1, vi p), (2, vi r), (3, vi q), (4, vi s)] d_Rs_compare_15 (by decide) rfl ?_
      refine rz_aloadN 1 d_Rs_compare_17 rfl ?_
      refine rz_ifnullN 27 d_Rs_compare_19 (by decide) ?_
      refine rz_bipush (v := (-9)) d_Rs_compare_27 (by decide) ?_
      exact rz_ireturn (st := []) rfl d_Rs_compare_29 ⟨by decide, by decide⟩ ⟨_, rfl, (by rw [sp_compare, if_pos (by first | (rw [hn3]; rfl) | (rw [hn12, Bool.or_true]))]), A, S, hR0, rz_fr.rf⟩
    · obtain ⟨hn12, ea2⟩ := ra_s q2.1
      rw [ea2, q2.2]
      have hnn12 := mNone_g hn12
      refine rz_astore [(6, .ref (A 3 (4 * q + s))), (5, .null), (0, .ref x), (1, vi p), (2, vi r), (3, vi q), (4, vi s)] d_Rs_compare_15 (by decide) rfl ?_
      refine rz_aloadN 1 d_Rs_compare_17 rfl ?_
      refine rz_ifnullN 27 d_Rs_compare_19 (by decide) ?_
      refine rz_bipush (v := (-9)) d_Rs_compare_27 (by decide) ?_
      exact rz_ireturn (st := []) rfl d_Rs_compare_29 ⟨by decide, by decide⟩ ⟨_, rfl, (by rw [sp_compare, if_pos (by first | (rw [hn3]; rfl) | (rw [hn12, Bool.or_true]))]), A, S, hR0, rz_fr.rf⟩
  · obtain ⟨hn3, ea1⟩ := ra_s q1.1
    rw [ea1, q1.2]
    have hnn3 := mNone_g hn3
    refine rz_astore [(5, .ref (A 3 (4 * p + r))), (0, .ref x), (1, vi p), (2, vi r), (3, vi q), (4, vi s)] d_Rs_compare_6 (by decide) rfl ?_
    refine rz_aload_n 1 d_Rs_compare_8 rfl rfl ?_
    refine rz_iload_n 4 d_Rs_compare_9 rfl rfl ?_
    refine rz_iload 5 d_Rs_compare_10 rfl ?_
    refine rz_callV (As := [vi q, vi s]) (c_Rs_releaseAt hx rfl hPs hBg (p := q) (r := s) (by omega) (by omega)) m_Rs_109 hx rfl rfl rfl rfl (Nat.le_of_ble_eq_true rfl) ⟨by decide, by decide⟩ ⟨by decide, by decide⟩ d_Rs_compare_12 (kO (h := h) (fun h3 q3 => ?_) (fun a3 h3 q3 => ?_))
    · have hn12 := ra_n q3.1
      rw [q3.2]
      refine rz_astoreN [(6, .null), (5, .ref (A 3 (4 * p + r))), (0, .ref x), (1, vi p), (2, vi r), (3, vi q), (4, vi s)] d_Rs_compare_15 (by decide) rfl ?_
      refine rz_aload 1 d_Rs_compare_17 rfl ?_
      refine rz_ifnullR d_Rs_compare_19 ?_
      refine rz_aloadN 0 d_Rs_compare_22 rfl ?_
      refine rz_ifnonnullN d_Rs_compare_24 ?_
      refine rz_bipush (v := (-9)) d_Rs_compare_27 (by decide) ?_
      exact rz_ireturn (st := []) rfl d_Rs_compare_29 ⟨by decide, by decide⟩ ⟨_, rfl, (by rw [sp_compare, if_pos (by first | (rw [hn3]; rfl) | (rw [hn12, Bool.or_true]))]), A, S, hR0, rz_fr.rf⟩
    · obtain ⟨hn12, ea3⟩ := ra_s q3.1
      rw [ea3, q3.2]
      have hnn12 := mNone_g hn12
      refine rz_astore [(6, .ref (A 3 (4 * q + s))), (5, .ref (A 3 (4 * p + r))), (0, .ref x), (1, vi p), (2, vi r), (3, vi q), (4, vi s)] d_Rs_compare_15 (by decide) rfl ?_
      refine rz_aload 1 d_Rs_compare_17 rfl ?_
      refine rz_ifnullR d_Rs_compare_19 ?_
      refine rz_aload 0 d_Rs_compare_22 rfl ?_
      refine rz_ifnonnullR 30 d_Rs_compare_24 (by decide) ?_
      refine rz_aload 1 d_Rs_compare_30 rfl ?_
      refine rz_getf f_Rs_154 ((hPs.2 p (by omega) (by omega)).re r (by omega) (by omega)).ob rfl d_Rs_compare_32 ?_
      refine rz_aload 0 d_Rs_compare_35 rfl ?_
      refine rz_getf f_Rs_154 ((hPs.2 q (by omega) (by omega)).re s (by omega) (by omega)).ob rfl d_Rs_compare_37 ?_
      obtain ⟨fso4, so4⟩ := ((hPs.2 p (by omega) (by omega)).re r (by omega) (by omega)).ve.ob
      refine rz_callV (As := [.ref (A 4 (4 * q + s))]) (c_Ve_comparedTo ((hPs.2 p (by omega) (by omega)).re r (by omega) (by omega)).ve ((hPs.2 q (by omega) (by omega)).re s (by omega) (by omega)).ve) m_Rs_157 so4 rfl rfl rfl rfl (Nat.le_of_ble_eq_true rfl) ⟨by decide, by decide⟩ ⟨by decide, by decide⟩ d_Rs_compare_40 (kE (h := h) ?_)
      exact rz_ireturn (st := []) rfl d_Rs_compare_43 ⟨by decide, by decide⟩ ⟨_, rfl, (by rw [sp_compare, if_neg (by rw [hn3, hn12]; decide), show 6 + 4 * p + r = 6 + (4 * p + r) by omega, show 6 + 4 * q + s = 6 + (4 * q + s) by omega]; exact (ord_t (vk hBg.val hnn3) (vk hBg.val hnn12)).symm), A, S, hR0, rz_fr.rf⟩
theorem RsAt.f0 {Γ : rz_G} {h h' : rz_H} {x : Nat} {A : Nat → Int → Nat} {B : Nat → Int → Nat} {S : Nat → Int → Int → Int} {M : Nat → Int → Int} {F : Int → Int → Int} {rs : List Nat} (hR : RsAt Γ h x A B S M F) (hf : rz_fr rs h h') (hr : rs = []) : RsAt Γ h' x A B S M F := by
  subst hr
  exact hR.md (hf.mono (by simp))
abbrev rm_Rs_rank : Room := { frames := 8, cells := 30, slots := 554, locals := 201 }
set_option maxRecDepth 100000 in
set_option maxHeartbeats 4000000 in
theorem c_Rs_rank {l : Launch} {Γ : rz_G} {h : rz_H} {x : Nat} {A : Nat → Int → Nat} {B : Nat → Int → Nat} {S : Nat → Int → Int → Int} {M : Nat → Int → Int} {F : Int → Int → Int} (hR : RsAt Γ h x A B S M F) (hBg : Big M F) {i : Int} (ri : -2147483648 ≤ i ∧ i ≤ 2147483647) : Ct l Γ x_Rs_rank y_Rs_rank rm_Rs_rank [.ref x, vi i] h (opP Γ x B (sp_rank M i).2 F h (sp_rank M i).1) := by
  refine rz_met (by decide) rfl rfl (Nat.le_of_ble_eq_true rfl) (fun K _ => ?_)
  refine rz_Leq [(0, .ref x), (1, vi i)] rfl ?_
  have hR0 := hR
  obtain ⟨⟨bl, hx, hbl⟩, hSb, hPs, hAs, hSe, hHv, ⟨gs, hsa, hgs⟩, hk⟩ := hR
  obtain ⟨w2, w5, w6, w8, w9⟩ := M_big hBg.wf
  have w1 := hBg.wf.1 0 (by omega) (by omega)
  refine rz_aload_n 0 d_Rs_rank_0 rfl rfl ?_
  refine rz_callV (As := []) (c_Rs_takeText hx rfl hSb (mAt (mUse M) 0)) m_Rs_88 hx rfl rfl rfl rfl (Nat.le_of_ble_eq_true rfl) ⟨by decide, by decide⟩ ⟨by decide, by decide⟩ d_Rs_rank_1 (kR (h := h) fun s1 h1 q1 => ?_)
  obtain ⟨hs1, hSb_1, G1⟩ := q1
  have hU1 := hR0.use hBg.wf G1 hSb_1
  have hcast : ((M 1 0).toNat : Int) = M 1 0 := Int.tn w1.1
  have F2 : rz_fr [31, 32] h h1 := rz_fr.rf.tr (G1.mono (by decide))
  have fc_3_0 : h1 x = some ((30, 0), .inr (7, [.ref (A 11 0), .ref (A 12 0), .ref (A 13 0), .ref (A 14 0), .ref (A 15 0), vi (M 12 0), .ref (A 16 0), vi bl])) := G1 _ _ _ hx (show 30 ∉ ([31, 32] : List Nat) by decide)
  have fc_3_1 : h1 (A 16 0) = some ((39, 0), aI Γ 0 6 gs) := G1 _ _ _ hsa (show 39 ∉ ([31, 32] : List Nat) by decide)
  have hPs_3 : PsAt Γ h1 (A 12 0) A M F := PsAt.fd hPs G1 (by decide)
  have hAs_3 : AsAt Γ h1 (A 13 0) A M := AsAt.fd hAs G1 (by decide)
  have hSe_3 : SeAt Γ h1 (A 14 0) B S := SeAt.fr hSe G1 (by decide)
  have hHv_3 : VeAt Γ h1 (A 15 0) (vRt M 1) (vPt M 1) := VeAt.fr hHv G1 (by decide)
  have hk_3 : KsAt Γ h1 := KsAt.fr hk G1 (by decide)
  refine rz_callS (As := [.ref s1]) (c_Ve_read hs1 hk_3) m_Rs_92 rfl rfl (Nat.le_of_ble_eq_true rfl) ⟨by decide, by decide⟩ ⟨by decide, by decide⟩ d_Rs_rank_4 (kO (h := h1) (fun h4 q4 => ?_) (fun a4 h4 q4 => ?_))
  · obtain ⟨b4, G4⟩ := q4
    have bv4 : ver (mAt M 0) 0 (M 1 0) = false := by rw [← hcast]; exact b4
    have F5 : rz_fr [31, 32] h h4 := F2.tr (G4.mono (by decide))
    have fc_6_0 : h4 x = some ((30, 0), .inr (7, [.ref (A 11 0), .ref (A 12 0), .ref (A 13 0), .ref (A 14 0), .ref (A 15 0), vi (M 12 0), .ref (A 16 0), vi bl])) := G4 _ _ _ fc_3_0 (by simp)
    have fc_6_1 : h4 (A 16 0) = some ((39, 0), aI Γ 0 6 gs) := G4 _ _ _ fc_3_1 (by simp)
    have hPs_6 : PsAt Γ h4 (A 12 0) A M F := PsAt.fd hPs_3 G4 (by decide)
    have hAs_6 : AsAt Γ h4 (A 13 0) A M := AsAt.fd hAs_3 G4 (by decide)
    have hSe_6 : SeAt Γ h4 (A 14 0) B S := SeAt.fr hSe_3 G4 (by decide)
    have hHv_6 : VeAt Γ h4 (A 15 0) (vRt M 1) (vPt M 1) := VeAt.fr hHv_3 G4 (by decide)
    have hk_6 : KsAt Γ h4 := KsAt.fr hk_3 G4 (by decide)
    have hs1_6 : StrAt Γ h4 s1 (M 1 0).toNat (mAt M 0) 1 := StrAt.fr hs1 G4 (by decide)
    have hU1_6 : RsAt Γ h4 x A B S (mUse M) F := RsAt.f0 hU1 G4 (by decide)
    refine rz_astore_nN [(2, .null), (0, .ref x), (1, vi i)] d_Rs_rank_7 rfl (by decide) rfl ?_
    refine rz_aload_nN 0 d_Rs_rank_8 rfl rfl ?_
    refine rz_ifnonnullN d_Rs_rank_9 ?_
    refine rz_bipush (v := (-3)) d_Rs_rank_12 (by decide) ?_
    refine rz_goto 22 d_Rs_rank_14 (by decide) ?_
    exact rz_ireturn (st := []) rfl d_Rs_rank_22 ⟨by decide, by decide⟩ ⟨_, rfl, (by rw [sp_rank, if_neg (by rw [bv4]; decide)]), A, S, (by rw [sp_rank, if_neg (by rw [bv4]; decide)]; exact hU1_6), cr2 F5⟩
  · obtain ⟨b4, G4⟩ := q4
    have bv4 : ver (mAt M 0) 0 (M 1 0) = true := by rw [← hcast]; exact b4.1
    have bx4 : VeAt Γ h4 a4 (vRt M 0) (vPt M 0) := by unfold vRt vPt; rw [← hcast]; exact b4.2
    have F7 : rz_fr [31, 32] h h4 := F2.tr (G4.mono (by decide))
    have fc_8_0 : h4 x = some ((30, 0), .inr (7, [.ref (A 11 0), .ref (A 12 0), .ref (A 13 0), .ref (A 14 0), .ref (A 15 0), vi (M 12 0), .ref (A 16 0), vi bl])) := G4 _ _ _ fc_3_0 (by simp)
    have fc_8_1 : h4 (A 16 0) = some ((39, 0), aI Γ 0 6 gs) := G4 _ _ _ fc_3_1 (by simp)
    have hPs_8 : PsAt Γ h4 (A 12 0) A M F := PsAt.fd hPs_3 G4 (by decide)
    have hAs_8 : AsAt Γ h4 (A 13 0) A M := AsAt.fd hAs_3 G4 (by decide)
    have hSe_8 : SeAt Γ h4 (A 14 0) B S := SeAt.fr hSe_3 G4 (by decide)
    have hHv_8 : VeAt Γ h4 (A 15 0) (vRt M 1) (vPt M 1) := VeAt.fr hHv_3 G4 (by decide)
    have hk_8 : KsAt Γ h4 := KsAt.fr hk_3 G4 (by decide)
    have hs1_8 : StrAt Γ h4 s1 (M 1 0).toNat (mAt M 0) 1 := StrAt.fr hs1 G4 (by decide)
    have hU1_8 : RsAt Γ h4 x A B S (mUse M) F := RsAt.f0 hU1 G4 (by decide)
    refine rz_astore_n [(2, .ref a4), (0, .ref x), (1, vi i)] d_Rs_rank_7 rfl (by decide) rfl ?_
    refine rz_aload_n 0 d_Rs_rank_8 rfl rfl ?_
    refine rz_ifnonnullR 17 d_Rs_rank_9 (by decide) ?_
    refine rz_aload_n 0 d_Rs_rank_17 rfl rfl ?_
    refine rz_iload_n 2 d_Rs_rank_18 rfl rfl ?_
    obtain ⟨fso9, so9⟩ := bx4.ob
    refine rz_callV (As := [vi i]) (c_Ve_rankOf bx4 (i := i) (by omega)) m_Rs_161 so9 rfl rfl rfl rfl (Nat.le_of_ble_eq_true rfl) ⟨by decide, by decide⟩ ⟨by decide, by decide⟩ d_Rs_rank_19 (kE (h := h4) ?_)
    exact rz_ireturn (st := []) rfl d_Rs_rank_22 ⟨by decide, by decide⟩ ⟨_, rfl, (by rw [sp_rank, if_pos bv4]; have z := (ver_ch bv4).1; exact (rank_c (by omega) (mAt_end M 0) i).symm), A, S, (by rw [sp_rank, if_pos bv4]; exact hU1_8), cr2 F7⟩
abbrev rm_Rs_within : Room := { frames := 9, cells := 64, slots := 1154, locals := 232 }
set_option maxRecDepth 100000 in
set_option maxHeartbeats 4000000 in
theorem c_Rs_within {l : Launch} {Γ : rz_G} {h : rz_H} {x : Nat} {A : Nat → Int → Nat} {B : Nat → Int → Nat} {S : Nat → Int → Int → Int} {M : Nat → Int → Int} {F : Int → Int → Int} (hR : RsAt Γ h x A B S M F) (hBg : Big M F) {p r : Int} (rp : -2147483648 ≤ p ∧ p ≤ 2147483647) (rr : -2147483648 ≤ r ∧ r ≤ 2147483647) : Ct l Γ x_Rs_within y_Rs_within rm_Rs_within [.ref x, vi p, vi r] h (opP Γ x B (sp_within M p r).2 F h (sp_within M p r).1) := by
  refine rz_met (by decide) rfl rfl (Nat.le_of_ble_eq_true rfl) (fun K _ => ?_)
  refine rz_Leq [(0, .ref x), (1, vi p), (2, vi r)] rfl ?_
  have hR0 := hR
  obtain ⟨⟨bl, hx, hbl⟩, hSb, hPs, hAs, hSe, hHv, ⟨gs, hsa, hgs⟩, hk⟩ := hR
  obtain ⟨w2, w5, w6, w8, w9⟩ := M_big hBg.wf
  have w1 := hBg.wf.1 0 (by omega) (by omega)
  refine rz_aload_n 0 d_Rs_within_0 rfl rfl ?_
  refine rz_iload_n 1 d_Rs_within_1 rfl rfl ?_
  refine rz_iload_n 2 d_Rs_within_2 rfl rfl ?_
  refine rz_callV (As := [vi p, vi r]) (c_Rs_releaseAt hx rfl hPs hBg (p := p) (r := r) (by omega) (by omega)) m_Rs_109 hx rfl rfl rfl rfl (Nat.le_of_ble_eq_true rfl) ⟨by decide, by decide⟩ ⟨by decide, by decide⟩ d_Rs_within_3 (kO (h := h) (fun h1 q1 => ?_) (fun a1 h1 q1 => ?_))
  · have hn3 := ra_n q1.1
    rw [q1.2]
    refine rz_astore_nN [(3, .null), (0, .ref x), (1, vi p), (2, vi r)] d_Rs_within_6 rfl (by decide) rfl ?_
    refine rz_aload_nN 0 d_Rs_within_7 rfl rfl ?_
    refine rz_ifnonnullN d_Rs_within_8 ?_
    refine rz_iconst d_Rs_within_11 ?_
    exact rz_ireturn (st := []) rfl d_Rs_within_12 ⟨by decide, by decide⟩ ⟨_, rfl, (by rw [sp_within, if_pos hn3]), A, S, (by rw [sp_within, if_pos hn3]; exact hR0), rz_fr.rf⟩
  · obtain ⟨hn3, ea1⟩ := ra_s q1.1
    rw [ea1, q1.2]
    have hnn3 := mNone_g hn3
    refine rz_astore_n [(3, .ref (A 3 (4 * p + r))), (0, .ref x), (1, vi p), (2, vi r)] d_Rs_within_6 rfl (by decide) rfl ?_
    refine rz_aload_n 0 d_Rs_within_7 rfl rfl ?_
    refine rz_ifnonnullR 13 d_Rs_within_8 (by decide) ?_
    refine rz_aload_n 1 d_Rs_within_13 rfl rfl ?_
    refine rz_callV (As := []) (c_Rs_takeText hx rfl hSb (mAt (mUse M) 0)) m_Rs_88 hx rfl rfl rfl rfl (Nat.le_of_ble_eq_true rfl) ⟨by decide, by decide⟩ ⟨by decide, by decide⟩ d_Rs_within_14 (kR (h := h) fun s2 h2 q2 => ?_)
    obtain ⟨hs2, hSb_2, G2⟩ := q2
    have hU2 := hR0.use hBg.wf G2 hSb_2
    have hcast : ((M 1 0).toNat : Int) = M 1 0 := Int.tn w1.1
    have F3 : rz_fr [31, 32] h h2 := rz_fr.rf.tr (G2.mono (by decide))
    have fc_4_0 : h2 x = some ((30, 0), .inr (7, [.ref (A 11 0), .ref (A 12 0), .ref (A 13 0), .ref (A 14 0), .ref (A 15 0), vi (M 12 0), .ref (A 16 0), vi bl])) := G2 _ _ _ hx (show 30 ∉ ([31, 32] : List Nat) by decide)
    have fc_4_1 : h2 (A 16 0) = some ((39, 0), aI Γ 0 6 gs) := G2 _ _ _ hsa (show 39 ∉ ([31, 32] : List Nat) by decide)
    have hPs_4 : PsAt Γ h2 (A 12 0) A M F := PsAt.fd hPs G2 (by decide)
    have hAs_4 : AsAt Γ h2 (A 13 0) A M := AsAt.fd hAs G2 (by decide)
    have hSe_4 : SeAt Γ h2 (A 14 0) B S := SeAt.fr hSe G2 (by decide)
    have hHv_4 : VeAt Γ h2 (A 15 0) (vRt M 1) (vPt M 1) := VeAt.fr hHv G2 (by decide)
    have hk_4 : KsAt Γ h2 := KsAt.fr hk G2 (by decide)
    refine rz_callS (As := [.ref s2]) (c_Rg_read hs2 hk_4 (by omega)) m_Rs_113 rfl rfl (Nat.le_of_ble_eq_true rfl) ⟨by decide, by decide⟩ ⟨by decide, by decide⟩ d_Rs_within_17 (kO (h := h2) (fun h5 q5 => ?_) (fun a5 h5 q5 => ?_))
    · obtain ⟨b5, G5⟩ := q5
      have bv5 : rng (mAt M 0) (M 1 0) = false := by rw [← hcast]; exact b5
      have F6 : rz_fr [31, 32] h h5 := F3.tr (G5.mono (by decide))
      have fc_7_0 : h5 x = some ((30, 0), .inr (7, [.ref (A 11 0), .ref (A 12 0), .ref (A 13 0), .ref (A 14 0), .ref (A 15 0), vi (M 12 0), .ref (A 16 0), vi bl])) := G5 _ _ _ fc_4_0 (by simp)
      have fc_7_1 : h5 (A 16 0) = some ((39, 0), aI Γ 0 6 gs) := G5 _ _ _ fc_4_1 (by simp)
      have hPs_7 : PsAt Γ h5 (A 12 0) A M F := PsAt.fd hPs_4 G5 (by decide)
      have hAs_7 : AsAt Γ h5 (A 13 0) A M := AsAt.fd hAs_4 G5 (by decide)
      have hSe_7 : SeAt Γ h5 (A 14 0) B S := SeAt.fr hSe_4 G5 (by decide)
      have hHv_7 : VeAt Γ h5 (A 15 0) (vRt M 1) (vPt M 1) := VeAt.fr hHv_4 G5 (by decide)
      have hk_7 : KsAt Γ h5 := KsAt.fr hk_4 G5 (by decide)
      have hs2_7 : StrAt Γ h5 s2 (M 1 0).toNat (mAt M 0) 1 := StrAt.fr hs2 G5 (by decide)
      have hU2_7 : RsAt Γ h5 x A B S (mUse M) F := RsAt.f0 hU2 G5 (by decide)
      refine rz_astoreN [(4, .null), (3, .ref (A 3 (4 * p + r))), (0, .ref x), (1, vi p), (2, vi r)] d_Rs_within_20 (by decide) rfl ?_
      refine rz_aloadN 0 d_Rs_within_22 rfl ?_
      refine rz_ifnonnullN d_Rs_within_24 ?_
      refine rz_bipush (v := (-3)) d_Rs_within_27 (by decide) ?_
      exact rz_ireturn (st := []) rfl d_Rs_within_29 ⟨by decide, by decide⟩ ⟨_, rfl, (by rw [sp_within, if_neg (by rw [hn3]; decide), if_neg (by rw [bv5]; decide)]), A, S, (by rw [sp_within, if_neg (by rw [hn3]; decide), if_neg (by rw [bv5]; decide)]; exact hU2_7), cr2 F6⟩
    · obtain ⟨b5, G5⟩ := q5
      have bv5 : rng (mAt M 0) (M 1 0) = true := by rw [← hcast]; exact b5.1
      have bx5 : RgAt Γ h5 a5 (mAt M 0) (M 1 0) := by rw [← hcast]; exact b5.2
      have F8 : rz_fr [31, 32] h h5 := F3.tr (G5.mono (by decide))
      have fc_9_0 : h5 x = some ((30, 0), .inr (7, [.ref (A 11 0), .ref (A 12 0), .ref (A 13 0), .ref (A 14 0), .ref (A 15 0), vi (M 12 0), .ref (A 16 0), vi bl])) := G5 _ _ _ fc_4_0 (by simp)
      have fc_9_1 : h5 (A 16 0) = some ((39, 0), aI Γ 0 6 gs) := G5 _ _ _ fc_4_1 (by simp)
      have hPs_9 : PsAt Γ h5 (A 12 0) A M F := PsAt.fd hPs_4 G5 (by decide)
      have hAs_9 : AsAt Γ h5 (A 13 0) A M := AsAt.fd hAs_4 G5 (by decide)
      have hSe_9 : SeAt Γ h5 (A 14 0) B S := SeAt.fr hSe_4 G5 (by decide)
      have hHv_9 : VeAt Γ h5 (A 15 0) (vRt M 1) (vPt M 1) := VeAt.fr hHv_4 G5 (by decide)
      have hk_9 : KsAt Γ h5 := KsAt.fr hk_4 G5 (by decide)
      have hs2_9 : StrAt Γ h5 s2 (M 1 0).toNat (mAt M 0) 1 := StrAt.fr hs2 G5 (by decide)
      have hU2_9 : RsAt Γ h5 x A B S (mUse M) F := RsAt.f0 hU2 G5 (by decide)
      refine rz_astore [(4, .ref a5), (3, .ref (A 3 (4 * p + r))), (0, .ref x), (1, vi p), (2, vi r)] d_Rs_within_20 (by decide) rfl ?_
      refine rz_aload 0 d_Rs_within_22 rfl ?_
      refine rz_ifnonnullR 30 d_Rs_within_24 (by decide) ?_
      refine rz_aload 0 d_Rs_within_30 rfl ?_
      refine rz_aload_n 1 d_Rs_within_32 rfl rfl ?_
      refine rz_getf f_Rs_154 ((hPs_9.2 p (by omega) (by omega)).re r (by omega) (by omega)).ob rfl d_Rs_within_33 ?_
      obtain ⟨fso10, so10⟩ := bx5.ob
      refine rz_callV (As := [.ref (A 4 (4 * p + r))]) (c_Rg_holds ((hPs_9.2 p (by omega) (by omega)).re r (by omega) (by omega)).ve bx5) m_Rs_164 so10 rfl rfl rfl rfl (Nat.le_of_ble_eq_true rfl) ⟨by decide, by decide⟩ ⟨by decide, by decide⟩ d_Rs_within_36 (kE (h := h5) ?_)
      refine rz_if_eqB 46 d_Rs_within_39 (by decide) (fun c39 => ?_) (fun c39 => ?_)
      · refine rz_iconst d_Rs_within_46 ?_
        exact rz_ireturn (st := []) rfl d_Rs_within_47 ⟨by decide, by decide⟩ ⟨_, rfl, (by rw [sp_within, if_neg (by rw [hn3]; decide), if_pos bv5, show 6 + 4 * p + r = 6 + (4 * p + r) by omega, ← hoR_in (vk hBg.val hnn3) (mAt_end M _) bv5 (mAt_end M 0)]; exact bi0 c39), A, S, (by rw [sp_within, if_neg (by rw [hn3]; decide), if_pos bv5]; exact hU2_9), cr2 F8⟩
      · refine rz_iconst d_Rs_within_42 ?_
        refine rz_goto 47 d_Rs_within_43 (by decide) ?_
        exact rz_ireturn (st := []) rfl d_Rs_within_47 ⟨by decide, by decide⟩ ⟨_, rfl, (by rw [sp_within, if_neg (by rw [hn3]; decide), if_pos bv5, show 6 + 4 * p + r = 6 + (4 * p + r) by omega, ← hoR_in (vk hBg.val hnn3) (mAt_end M _) bv5 (mAt_end M 0)]; exact bi1 c39), A, S, (by rw [sp_within, if_neg (by rw [hn3]; decide), if_pos bv5]; exact hU2_9), cr2 F8⟩

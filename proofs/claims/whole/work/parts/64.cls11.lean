/-! the class: calls -/
def CR : List Nat := [30, 31, 32, 33, 34, 35, 36, 37, 38, 39, 40, 50, 51, 52, 53, 54, 55, 58]
/-- a call's end: the answer, and all by the numbers M' -/
def opP (Γ : rz_G) (x : Nat) (B : Nat → Int → Nat) (M' : Nat → Int → Int) (F' : Int → Int → Int) (h : rz_H) (res : Int) : Option Value → rz_H → Prop := pI (fun r h' => r = res ∧ ∃ A' S', RsAt Γ h' x A' B S' M' F' ∧ rz_fr CR h h')
theorem cr2 {h h' : rz_H} (hf : rz_fr [31, 32] h h') : rz_fr CR h h' := hf.mono (by decide)
theorem RsAt.f2 {Γ : rz_G} {h h' : rz_H} {x : Nat} {A : Nat → Int → Nat} {B : Nat → Int → Nat} {S : Nat → Int → Int → Int} {M M' : Nat → Int → Int} {F : Int → Int → Int} (hR : RsAt Γ h x A B S M F) (hw : mWF M) (hf : rz_fr [31, 32] h h') (e : ∀ c, c ∈ [2, 3, 4, 5, 6, 7, 8, 9, 12, 13, 14, 15] → M' c = M c) (ht : ∀ t, 1 ≤ t → t < 126 → txE M M' t) (hs : SbC Γ h' (A 11 0) (M' 1 0).toNat (mAt M' 0) 0) : RsAt Γ h' x A B S M' F := by
  obtain ⟨⟨bl, a1, a2⟩, b, c, d, f1, f, ⟨g, g1, g2⟩, k⟩ := hR
  refine ⟨⟨bl, by rw [rs_F, e 12 (by decide)]; exact hf _ _ _ a1 (by decide), a2.c (fun i _ => by unfold blF4; rw [e 13 (by decide), e 15 (by decide)])⟩, hs, (c.fd hf (by decide)).t hw (fun c hc => e c (by revert hc; simp; omega)) ht, (d.fd hf (by decide)).t hw (e 8 (by decide)) (e 9 (by decide)) ht, f1.fr hf (by decide), (f.fr hf (by decide)).t (ht 1 (by omega) (by omega)), ⟨g, hf _ _ _ g1 (by decide), fun p a b => by rw [slN, e 12 (by decide), e 14 (by decide)]; exact g2 p a b⟩, k.fr hf (by decide)⟩
theorem mOk_in {c : Int} (h : mOk c = true) : 0 ≤ c ∧ c ≤ 127 := by
  unfold mOk at h
  rw [Bool.or_eq_true, decide_eq_true_eq] at h
  rcases h with e | e
  · omega
  · exact mMay_in e
theorem sb_put {Γ : rz_G} {h : rz_H} {sb : Nat} {M : Nat → Int → Int} {c : Int} (hc : ¬ c = 0) (h0 : 0 ≤ M 1 0) (hs : SbC Γ h sb ((M 1 0).toNat + 1) (rz_u (mAt M 0) ((M 1 0).toNat : Nat) c) 0) : SbC Γ h sb (mPut M c 1 0).toNat (mAt (mPut M c) 0) 0 := by
  have e1 : mPut M c 1 0 = M 1 0 + 1 := by rw [mPut_len, mOne, if_neg hc]
  rw [e1, show (M 1 0 + 1).toNat = (M 1 0).toNat + 1 by omega]
  refine hs.c (fun j a b => ?_)
  rw [Int.tn h0]
  have l : mPut M c = mu (mu M 0 (rz_u (M 0) (M 1 0) c)) 1 (rz_u (M 1) 0 (M 1 0 + 1)) := by unfold mPut; rw [if_neg hc]
  have e0 : mPut M c 0 = rz_u (M 0) (M 1 0) c := by rw [l]; rfl
  unfold mAt
  rw [e1, e0, if_pos (by omega), show 24 * (0 : Int) + j = j by omega]
  by_cases z : j = M 1 0
  · rw [z, rz_u_s, rz_u_s]
  · rw [rz_u_n z, rz_u_n z, if_pos (by omega)]; congr 1; omega
theorem mOne_1 {c : Int} (h : ¬ c = 0) : mOne c = 1 := if_neg h
abbrev rm_Rs_append : Room := { frames := 6, cells := 1, slots := 34, locals := 152 }
set_option maxRecDepth 100000 in
set_option maxHeartbeats 4000000 in
theorem c_Rs_append {l : Launch} {Γ : rz_G} {h : rz_H} {x sb : Nat} {M : Nat → Int → Int} {fs : List Value} (hx : h x = some ((30, 0), .inr (7, fs))) (h0 : fs[0]? = some (.ref sb)) (hSb : SbC Γ h sb (M 1 0).toNat (mAt M 0) 0) {c : Int} (hc : 0 ≤ c ∧ c ≤ 127) (hn0 : 0 ≤ M 1 0) (hn : M 1 0 + mOne c ≤ 24) : Ct l Γ x_Rs_append y_Rs_append rm_Rs_append [.ref x, vi c] h (pV (fun h' => SbC Γ h' sb (mPut M c 1 0).toNat (mAt (mPut M c) 0) 0 ∧ rz_fr [31, 32] h h')) := by
  refine rz_met (by decide) rfl rfl (Nat.le_of_ble_eq_true rfl) (fun K _ => ?_)
  refine rz_Leq [(0, .ref x), (1, vi c)] rfl ?_
  refine rz_iload_n 1 d_Rs_append_0 rfl rfl ?_
  refine rz_if_eq 14 d_Rs_append_1 (by decide) (by omega) (fun c1 => ?_) (fun c1 => ?_)
  · exact rz_return (st := []) rfl d_Rs_append_14 ⟨by decide, by decide⟩ ⟨rfl, (by rw [show mPut M c = M from if_pos c1]; exact hSb), rz_fr.rf⟩
  · refine rz_aload_n 0 d_Rs_append_4 rfl rfl ?_
    refine rz_getf f_Rs_10 hx h0 d_Rs_append_5 ?_
    refine rz_iload_n 1 d_Rs_append_8 rfl rfl ?_
    refine rz_i2c (by omega) d_Rs_append_9 ?_
    obtain ⟨fso2, so2⟩ := hSb.ob
    refine rz_callV (As := [vi c]) (c_Sb_append hSb hc (by have z := mOne_1 c1; omega)) m_Rs_209 so2 rfl rfl rfl rfl (Nat.le_of_ble_eq_true rfl) ⟨by decide, by decide⟩ ⟨by decide, by decide⟩ d_Rs_append_10 (kR (h := h) fun a1 h1 q1 => ?_)
    refine rz_pop d_Rs_append_13 rfl ?_
    exact rz_return (st := []) rfl d_Rs_append_14 ⟨by decide, by decide⟩ ⟨rfl, sb_put c1 hn0 q1.1, q1.2⟩
theorem put_n {M : Nat → Int → Int} {c : Int} {k : Nat} (h0 : k ≠ 0) (h1 : k ≠ 1) : mPut M c k = M k := by
  unfold mPut; split
  · rfl
  · rw [mu_n h1, mu_n h0]
theorem put4_n {M : Nat → Int → Int} {a b c d : Int} {k : Nat} (h0 : k ≠ 0) (h1 : k ≠ 1) : mPut (mPut (mPut (mPut M a) b) c) d k = M k := by rw [put_n h0 h1, put_n h0 h1, put_n h0 h1, put_n h0 h1]
theorem txE.tr {M M' M2 : Nat → Int → Int} {t : Int} (a : txE M M' t) (b : txE M' M2 t) : txE M M2 t := ⟨b.1.trans a.1, b.2.trans a.2⟩
abbrev rm_Rs_write : Room := { frames := 7, cells := 4, slots := 136, locals := 173 }
set_option maxRecDepth 100000 in
set_option maxHeartbeats 4000000 in
theorem c_Rs_write {l : Launch} {Γ : rz_G} {h : rz_H} {x : Nat} {A : Nat → Int → Nat} {B : Nat → Int → Nat} {S : Nat → Int → Int → Int} {M : Nat → Int → Int} {F : Int → Int → Int} (hR : RsAt Γ h x A B S M F) (hBg : Big M F) {a b c d : Int} (ra : -2147483648 ≤ a ∧ a ≤ 2147483647) (rb : -2147483648 ≤ b ∧ b ≤ 2147483647) (rc : -2147483648 ≤ c ∧ c ≤ 2147483647) (rd : -2147483648 ≤ d ∧ d ≤ 2147483647) : Ct l Γ x_Rs_write y_Rs_write rm_Rs_write [.ref x, vi a, vi b, vi c, vi d] h (opP Γ x B (mWrite M a b c d).2 F h (mWrite M a b c d).1) := by
  refine rz_met (by decide) rfl rfl (Nat.le_of_ble_eq_true rfl) (fun K _ => ?_)
  refine rz_Leq [(0, .ref x), (1, vi a), (2, vi b), (3, vi c), (4, vi d)] rfl ?_
  have hR0 := hR
  obtain ⟨⟨bl, hx, hbl⟩, hSb, hPs, hAs, hSe, hHv, ⟨gs, hsa, hgs⟩, hk⟩ := hR
  obtain ⟨w2, w5, w6, w8, w9⟩ := M_big hBg.wf
  have w1 := hBg.wf.1 0 (by omega) (by omega)
  refine rz_iload_n 1 d_Rs_write_0 rfl rfl ?_
  refine rz_callS (As := [vi a]) (c_Rs_isWritable (by omega)) m_Rs_66 rfl rfl (Nat.le_of_ble_eq_true rfl) ⟨by decide, by decide⟩ ⟨by decide, by decide⟩ d_Rs_write_1 (kE (h := h) ?_)
  refine rz_if_eqB 29 d_Rs_write_4 (by decide) (fun c4 => ?_) (fun c4 => ?_)
  · refine rz_iconst d_Rs_write_29 ?_
    exact rz_ireturn (st := []) rfl d_Rs_write_30 ⟨by decide, by decide⟩ ⟨_, rfl, (by rw [mWrite, if_neg (by simp [← wrT_ok, *])]), A, S, (by rw [mWrite, if_neg (by simp [← wrT_ok, *])]; exact hR0), rz_fr.rf⟩
  · refine rz_iload_n 2 d_Rs_write_7 rfl rfl ?_
    refine rz_callS (As := [vi b]) (c_Rs_isWritable (by omega)) m_Rs_66 rfl rfl (Nat.le_of_ble_eq_true rfl) ⟨by decide, by decide⟩ ⟨by decide, by decide⟩ d_Rs_write_8 (kE (h := h) ?_)
    refine rz_if_eqB 29 d_Rs_write_11 (by decide) (fun c11 => ?_) (fun c11 => ?_)
    · refine rz_iconst d_Rs_write_29 ?_
      exact rz_ireturn (st := []) rfl d_Rs_write_30 ⟨by decide, by decide⟩ ⟨_, rfl, (by rw [mWrite, if_neg (by simp [← wrT_ok, *])]), A, S, (by rw [mWrite, if_neg (by simp [← wrT_ok, *])]; exact hR0), rz_fr.rf⟩
    · refine rz_iload_n 3 d_Rs_write_14 rfl rfl ?_
      refine rz_callS (As := [vi c]) (c_Rs_isWritable (by omega)) m_Rs_66 rfl rfl (Nat.le_of_ble_eq_true rfl) ⟨by decide, by decide⟩ ⟨by decide, by decide⟩ d_Rs_write_15 (kE (h := h) ?_)
      refine rz_if_eqB 29 d_Rs_write_18 (by decide) (fun c18 => ?_) (fun c18 => ?_)
      · refine rz_iconst d_Rs_write_29 ?_
        exact rz_ireturn (st := []) rfl d_Rs_write_30 ⟨by decide, by decide⟩ ⟨_, rfl, (by rw [mWrite, if_neg (by simp [← wrT_ok, *])]), A, S, (by rw [mWrite, if_neg (by simp [← wrT_ok, *])]; exact hR0), rz_fr.rf⟩
      · refine rz_iload 4 d_Rs_write_21 rfl ?_
        refine rz_callS (As := [vi d]) (c_Rs_isWritable (by omega)) m_Rs_66 rfl rfl (Nat.le_of_ble_eq_true rfl) ⟨by decide, by decide⟩ ⟨by decide, by decide⟩ d_Rs_write_23 (kE (h := h) ?_)
        refine rz_if_neB 31 d_Rs_write_26 (by decide) (fun c26 => ?_) (fun c26 => ?_)
        · have oka : mOk a = true := by rw [← wrT_ok]; exact c4
          have okb : mOk b = true := by rw [← wrT_ok]; exact c11
          have okc : mOk c = true := by rw [← wrT_ok]; exact c18
          have okd : mOk d = true := by rw [← wrT_ok]; exact c26
          have OK : (mOk a && mOk b && mOk c && mOk d) = true := by rw [oka, okb, okc, okd]; rfl
          have o1 := mOne_in a
          have o2 := mOne_in b
          have o3 := mOne_in c
          have o4 := mOne_in d
          refine rz_aload_n 0 d_Rs_write_31 rfl rfl ?_
          refine rz_getf f_Rs_10 hx rfl d_Rs_write_32 ?_
          obtain ⟨fso1, so1⟩ := hSb.ob
          refine rz_callV (As := []) (c_Sb_len hSb) m_Rs_70 so1 rfl rfl rfl rfl (Nat.le_of_ble_eq_true rfl) ⟨by decide, by decide⟩ ⟨by decide, by decide⟩ d_Rs_write_35 (kE (h := h) ?_)
          refine rz_Seq [vi (M 1 0)] (by rw [Int.tn (by omega)]) ?_
          refine rz_iload_n 1 d_Rs_write_38 rfl rfl ?_
          refine rz_callS (As := [vi a]) (c_Rs_lengthOf (by omega)) m_Rs_74 rfl rfl (Nat.le_of_ble_eq_true rfl) ⟨by decide, by decide⟩ ⟨by decide, by decide⟩ d_Rs_write_39 (kE (h := h) ?_)
          refine rz_iadd d_Rs_write_42 ?_
          refine rz_iload_n 2 d_Rs_write_43 rfl rfl ?_
          refine rz_callS (As := [vi b]) (c_Rs_lengthOf (by omega)) m_Rs_74 rfl rfl (Nat.le_of_ble_eq_true rfl) ⟨by decide, by decide⟩ ⟨by decide, by decide⟩ d_Rs_write_44 (kE (h := h) ?_)
          refine rz_iadd d_Rs_write_47 ?_
          refine rz_iload_n 3 d_Rs_write_48 rfl rfl ?_
          refine rz_callS (As := [vi c]) (c_Rs_lengthOf (by omega)) m_Rs_74 rfl rfl (Nat.le_of_ble_eq_true rfl) ⟨by decide, by decide⟩ ⟨by decide, by decide⟩ d_Rs_write_49 (kE (h := h) ?_)
          refine rz_iadd d_Rs_write_52 ?_
          refine rz_iload 4 d_Rs_write_53 rfl ?_
          refine rz_callS (As := [vi d]) (c_Rs_lengthOf (by omega)) m_Rs_74 rfl rfl (Nat.le_of_ble_eq_true rfl) ⟨by decide, by decide⟩ ⟨by decide, by decide⟩ d_Rs_write_55 (kE (h := h) ?_)
          refine rz_iadd d_Rs_write_58 ?_
          refine rz_bipush (v := 24) d_Rs_write_59 (by decide) ?_
          refine rz_icmp_le 67 d_Rs_write_61 (by decide) (by omega) ⟨by decide, by decide⟩ (fun c61 => ?_) (fun c61 => ?_)
          · refine rz_aload_n 0 d_Rs_write_67 rfl rfl ?_
            refine rz_iload_n 1 d_Rs_write_68 rfl rfl ?_
            refine rz_callV (As := [vi a]) (c_Rs_append hx rfl hSb (M := M) (mOk_in oka) (by omega) (by omega)) m_Rs_78 hx rfl rfl rfl rfl (Nat.le_of_ble_eq_true rfl) ⟨by decide, by decide⟩ ⟨by decide, by decide⟩ d_Rs_write_69 (kV (h := h) fun h2 q2 => ?_)
            obtain ⟨hSb_2, G2⟩ := q2
            have l2 := mPut_len M a
            have F3 : rz_fr [31, 32] h h2 := rz_fr.rf.tr (G2.mono (by decide))
            have fc_4_0 : h2 x = some ((30, 0), .inr (7, [.ref (A 11 0), .ref (A 12 0), .ref (A 13 0), .ref (A 14 0), .ref (A 15 0), vi (M 12 0), .ref (A 16 0), vi bl])) := G2 _ _ _ hx (show 30 ∉ ([31, 32] : List Nat) by decide)
            have fc_4_1 : h2 (A 16 0) = some ((39, 0), aI Γ 0 6 gs) := G2 _ _ _ hsa (show 39 ∉ ([31, 32] : List Nat) by decide)
            have hPs_4 : PsAt Γ h2 (A 12 0) A M F := PsAt.fd hPs G2 (by decide)
            have hAs_4 : AsAt Γ h2 (A 13 0) A M := AsAt.fd hAs G2 (by decide)
            have hSe_4 : SeAt Γ h2 (A 14 0) B S := SeAt.fr hSe G2 (by decide)
            have hHv_4 : VeAt Γ h2 (A 15 0) (vRt M 1) (vPt M 1) := VeAt.fr hHv G2 (by decide)
            have hk_4 : KsAt Γ h2 := KsAt.fr hk G2 (by decide)
            refine rz_aload_n 0 d_Rs_write_72 rfl rfl ?_
            refine rz_iload_n 2 d_Rs_write_73 rfl rfl ?_
            refine rz_callV (As := [vi b]) (c_Rs_append fc_4_0 rfl hSb_2 (M := (mPut M a)) (mOk_in okb) (by omega) (by omega)) m_Rs_78 fc_4_0 rfl rfl rfl rfl (Nat.le_of_ble_eq_true rfl) ⟨by decide, by decide⟩ ⟨by decide, by decide⟩ d_Rs_write_74 (kV (h := h2) fun h5 q5 => ?_)
            obtain ⟨hSb_5, G5⟩ := q5
            have l5 := mPut_len (mPut M a) b
            have F6 : rz_fr [31, 32] h h5 := F3.tr (G5.mono (by decide))
            have fc_7_0 : h5 x = some ((30, 0), .inr (7, [.ref (A 11 0), .ref (A 12 0), .ref (A 13 0), .ref (A 14 0), .ref (A 15 0), vi (M 12 0), .ref (A 16 0), vi bl])) := G5 _ _ _ fc_4_0 (show 30 ∉ ([31, 32] : List Nat) by decide)
            have fc_7_1 : h5 (A 16 0) = some ((39, 0), aI Γ 0 6 gs) := G5 _ _ _ fc_4_1 (show 39 ∉ ([31, 32] : List Nat) by decide)
            have hPs_7 : PsAt Γ h5 (A 12 0) A M F := PsAt.fd hPs_4 G5 (by decide)
            have hAs_7 : AsAt Γ h5 (A 13 0) A M := AsAt.fd hAs_4 G5 (by decide)
            have hSe_7 : SeAt Γ h5 (A 14 0) B S := SeAt.fr hSe_4 G5 (by decide)
            have hHv_7 : VeAt Γ h5 (A 15 0) (vRt M 1) (vPt M 1) := VeAt.fr hHv_4 G5 (by decide)
            have hk_7 : KsAt Γ h5 := KsAt.fr hk_4 G5 (by decide)
            refine rz_aload_n 0 d_Rs_write_77 rfl rfl ?_
            refine rz_iload_n 3 d_Rs_write_78 rfl rfl ?_
            refine rz_callV (As := [vi c]) (c_Rs_append fc_7_0 rfl hSb_5 (M := (mPut (mPut M a) b)) (mOk_in okc) (by omega) (by omega)) m_Rs_78 fc_7_0 rfl rfl rfl rfl (Nat.le_of_ble_eq_true rfl) ⟨by decide, by decide⟩ ⟨by decide, by decide⟩ d_Rs_write_79 (kV (h := h5) fun h8 q8 => ?_)
            obtain ⟨hSb_8, G8⟩ := q8
            have l8 := mPut_len (mPut (mPut M a) b) c
            have F9 : rz_fr [31, 32] h h8 := F6.tr (G8.mono (by decide))
            have fc_10_0 : h8 x = some ((30, 0), .inr (7, [.ref (A 11 0), .ref (A 12 0), .ref (A 13 0), .ref (A 14 0), .ref (A 15 0), vi (M 12 0), .ref (A 16 0), vi bl])) := G8 _ _ _ fc_7_0 (show 30 ∉ ([31, 32] : List Nat) by decide)
            have fc_10_1 : h8 (A 16 0) = some ((39, 0), aI Γ 0 6 gs) := G8 _ _ _ fc_7_1 (show 39 ∉ ([31, 32] : List Nat) by decide)
            have hPs_10 : PsAt Γ h8 (A 12 0) A M F := PsAt.fd hPs_7 G8 (by decide)
            have hAs_10 : AsAt Γ h8 (A 13 0) A M := AsAt.fd hAs_7 G8 (by decide)
            have hSe_10 : SeAt Γ h8 (A 14 0) B S := SeAt.fr hSe_7 G8 (by decide)
            have hHv_10 : VeAt Γ h8 (A 15 0) (vRt M 1) (vPt M 1) := VeAt.fr hHv_7 G8 (by decide)
            have hk_10 : KsAt Γ h8 := KsAt.fr hk_7 G8 (by decide)
            refine rz_aload_n 0 d_Rs_write_82 rfl rfl ?_
            refine rz_iload 4 d_Rs_write_83 rfl ?_
            refine rz_callV (As := [vi d]) (c_Rs_append fc_10_0 rfl hSb_8 (M := (mPut (mPut (mPut M a) b) c)) (mOk_in okd) (by omega) (by omega)) m_Rs_78 fc_10_0 rfl rfl rfl rfl (Nat.le_of_ble_eq_true rfl) ⟨by decide, by decide⟩ ⟨by decide, by decide⟩ d_Rs_write_85 (kV (h := h8) fun h11 q11 => ?_)
            obtain ⟨hSb_11, G11⟩ := q11
            have l11 := mPut_len (mPut (mPut (mPut M a) b) c) d
            have F12 : rz_fr [31, 32] h h11 := F9.tr (G11.mono (by decide))
            have fc_13_0 : h11 x = some ((30, 0), .inr (7, [.ref (A 11 0), .ref (A 12 0), .ref (A 13 0), .ref (A 14 0), .ref (A 15 0), vi (M 12 0), .ref (A 16 0), vi bl])) := G11 _ _ _ fc_10_0 (show 30 ∉ ([31, 32] : List Nat) by decide)
            have fc_13_1 : h11 (A 16 0) = some ((39, 0), aI Γ 0 6 gs) := G11 _ _ _ fc_10_1 (show 39 ∉ ([31, 32] : List Nat) by decide)
            have hPs_13 : PsAt Γ h11 (A 12 0) A M F := PsAt.fd hPs_10 G11 (by decide)
            have hAs_13 : AsAt Γ h11 (A 13 0) A M := AsAt.fd hAs_10 G11 (by decide)
            have hSe_13 : SeAt Γ h11 (A 14 0) B S := SeAt.fr hSe_10 G11 (by decide)
            have hHv_13 : VeAt Γ h11 (A 15 0) (vRt M 1) (vPt M 1) := VeAt.fr hHv_10 G11 (by decide)
            have hk_13 : KsAt Γ h11 := KsAt.fr hk_10 G11 (by decide)
            refine rz_aload_n 0 d_Rs_write_88 rfl rfl ?_
            refine rz_getf f_Rs_10 fc_13_0 rfl d_Rs_write_89 ?_
            obtain ⟨fso14, so14⟩ := hSb_11.ob
            refine rz_callV (As := []) (c_Sb_len hSb_11) m_Rs_70 so14 rfl rfl rfl rfl (Nat.le_of_ble_eq_true rfl) ⟨by decide, by decide⟩ ⟨by decide, by decide⟩ d_Rs_write_92 (kE (h := h11) ?_)
            refine rz_Seq [vi ((mPut (mPut (mPut (mPut M a) b) c) d) 1 0)] (by rw [Int.tn (by omega)]) ?_
            exact rz_ireturn (st := []) rfl d_Rs_write_95 ⟨by decide, by decide⟩ ⟨_, rfl, (by rw [mWrite, if_pos OK, if_pos (by omega)]), A, S, (by rw [mWrite, if_pos OK, if_pos (by omega)]; exact hR0.f2 hBg.wf F12 (fun k hk => put4_n (by rintro rfl; revert hk; decide) (by rintro rfl; revert hk; decide)) (fun t t0 t1 => ((put_t M a ⟨by omega, by omega⟩ t0).tr (put_t _ b ⟨by omega, by omega⟩ t0)).tr ((put_t _ c ⟨by omega, by omega⟩ t0).tr (put_t _ d ⟨by omega, by omega⟩ t0))) hSb_11), cr2 F12⟩
          · refine rz_bipush (v := (-2)) d_Rs_write_64 (by decide) ?_
            exact rz_ireturn (st := []) rfl d_Rs_write_66 ⟨by decide, by decide⟩ ⟨_, rfl, (by rw [mWrite, if_pos OK, if_neg (by omega)]), A, S, (by rw [mWrite, if_pos OK, if_neg (by omega)]; exact hR0), rz_fr.rf⟩
        · refine rz_iconst d_Rs_write_29 ?_
          exact rz_ireturn (st := []) rfl d_Rs_write_30 ⟨by decide, by decide⟩ ⟨_, rfl, (by rw [mWrite, if_neg (by simp [← wrT_ok, *])]), A, S, (by rw [mWrite, if_neg (by simp [← wrT_ok, *])]; exact hR0), rz_fr.rf⟩
abbrev rm_Rs_wipe : Room := { frames := 6, cells := 1, slots := 34, locals := 152 }
set_option maxRecDepth 100000 in
set_option maxHeartbeats 4000000 in
theorem c_Rs_wipe {l : Launch} {Γ : rz_G} {h : rz_H} {x : Nat} {A : Nat → Int → Nat} {B : Nat → Int → Nat} {S : Nat → Int → Int → Int} {M : Nat → Int → Int} {F : Int → Int → Int} (hR : RsAt Γ h x A B S M F) (hBg : Big M F) : Ct l Γ x_Rs_wipe y_Rs_wipe rm_Rs_wipe [.ref x] h (opP Γ x B (mUse M) F h (M 1 0)) := by
  refine rz_met (by decide) rfl rfl (Nat.le_of_ble_eq_true rfl) (fun K _ => ?_)
  refine rz_Leq [(0, .ref x)] rfl ?_
  have hR0 := hR
  obtain ⟨⟨bl, hx, hbl⟩, hSb, hPs, hAs, hSe, hHv, ⟨gs, hsa, hgs⟩, hk⟩ := hR
  obtain ⟨w2, w5, w6, w8, w9⟩ := M_big hBg.wf
  have w1 := hBg.wf.1 0 (by omega) (by omega)
  refine rz_aload_n 0 d_Rs_wipe_0 rfl rfl ?_
  refine rz_getf f_Rs_10 hx rfl d_Rs_wipe_1 ?_
  obtain ⟨fso1, so1⟩ := hSb.ob
  refine rz_callV (As := []) (c_Sb_len hSb) m_Rs_70 so1 rfl rfl rfl rfl (Nat.le_of_ble_eq_true rfl) ⟨by decide, by decide⟩ ⟨by decide, by decide⟩ d_Rs_wipe_4 (kE (h := h) ?_)
  refine rz_Seq [vi (M 1 0)] (by rw [Int.tn (by omega)]) ?_
  refine rz_istore_n [(1, vi (M 1 0)), (0, .ref x)] d_Rs_wipe_7 rfl (by decide) rfl ?_
  refine rz_aload_n 1 d_Rs_wipe_8 rfl rfl ?_
  refine rz_getf f_Rs_10 hx rfl d_Rs_wipe_9 ?_
  refine rz_iconst d_Rs_wipe_12 ?_
  obtain ⟨fso3, so3⟩ := hSb.ob
  refine rz_callV (As := [vi 0]) (c_Sb_setLength hSb (f' := mAt (mUse M) 0)) m_Rs_82 so3 rfl rfl rfl rfl (Nat.le_of_ble_eq_true rfl) ⟨by decide, by decide⟩ ⟨by decide, by decide⟩ d_Rs_wipe_13 (kV (h := h) fun h2 q2 => ?_)
  obtain ⟨hSb_2, G2⟩ := q2
  refine rz_iload_n 0 d_Rs_wipe_16 rfl rfl ?_
  exact rz_ireturn (st := []) rfl d_Rs_wipe_17 ⟨by decide, by decide⟩ ⟨_, rfl, rfl, A, S, hR0.use hBg.wf G2 hSb_2, cr2 G2⟩
theorem mNone_g {M : Nat → Int → Int} {p r : Int} (h : mNone M p r = false) : (0 ≤ p ∧ p ≤ 5) ∧ 0 ≤ r ∧ r < M 2 p := by
  simp only [mNone, Bool.or_eq_false_iff, Bool.not_eq_false'] at h
  have a := mIn_t.1 h.1; have b := mIn_t.1 h.2
  omega
theorem mNone_c {M : Nat → Int → Int} {p r : Int} (h : (0 ≤ p ∧ p ≤ 5) ∧ 0 ≤ r ∧ r < M 2 p) : mNone M p r = false := by
  simp only [mNone, Bool.or_eq_false_iff, Bool.not_eq_false']
  exact ⟨mIn_t.2 h.1, mIn_t.2 ⟨h.2.1, by omega⟩⟩
theorem mNone_y {M : Nat → Int → Int} {p r : Int} (h : ¬ ((0 ≤ p ∧ p ≤ 5) ∧ 0 ≤ r ∧ r < M 2 p)) : mNone M p r = true := by
  cases q : mNone M p r
  · exact absurd (mNone_g q) h
  · rfl
theorem ra_y {A : Nat → Int → Nat} {M : Nat → Int → Int} {p r : Int} {a : Nat} (hp : 0 ≤ p ∧ p ≤ 5) (y : some a = (if 0 ≤ r ∧ r < M 2 p then some (A 3 (4 * p + r)) else none)) : some a = (if mNone M p r = true then none else some (A 3 (4 * p + r))) := by
  by_cases c : 0 ≤ r ∧ r < M 2 p
  · rw [if_pos c] at y; rw [if_neg (by rw [mNone_c ⟨hp, c⟩]; decide)]; exact y
  · rw [if_neg c] at y; cases y
abbrev rm_Rs_releaseAt : Room := { frames := 4, cells := 0, slots := 0, locals := 85 }
set_option maxRecDepth 100000 in
set_option maxHeartbeats 4000000 in
theorem c_Rs_releaseAt {l : Launch} {Γ : rz_G} {h : rz_H} {x : Nat} {fs : List Value} {A : Nat → Int → Nat} {M : Nat → Int → Int} {F : Int → Int → Int} (hx : h x = some ((30, 0), .inr (7, fs))) (h1 : fs[1]? = some (.ref (A 12 0))) (hPs : PsAt Γ h (A 12 0) A M F) (hBg : Big M F) {p r : Int} (rp : -2147483648 ≤ p ∧ p ≤ 2147483647) (rr : -2147483648 ≤ r ∧ r ≤ 2147483647) : Ct l Γ x_Rs_releaseAt y_Rs_releaseAt rm_Rs_releaseAt [.ref x, vi p, vi r] h (pO (fun a h' => a = (if mNone M p r = true then none else some (A 3 (4 * p + r))) ∧ h' = h)) := by
  refine rz_met (by decide) rfl rfl (Nat.le_of_ble_eq_true rfl) (fun K _ => ?_)
  refine rz_Leq [(0, .ref x), (1, vi p), (2, vi r)] rfl ?_
  refine rz_iload_n 1 d_Rs_releaseAt_0 rfl rfl ?_
  refine rz_callS (As := [vi p]) (c_Rs_isPlugin (by omega)) m_Rs_85 rfl rfl (Nat.le_of_ble_eq_true rfl) ⟨by decide, by decide⟩ ⟨by decide, by decide⟩ d_Rs_releaseAt_1 (kE (h := h) ?_)
  refine rz_if_eqB 20 d_Rs_releaseAt_4 (by decide) (fun c4 => ?_) (fun c4 => ?_)
  · refine rz_null d_Rs_releaseAt_20 ?_
    exact rz_areturn (st := []) (r := none) rfl (Or.inl ⟨_, rfl⟩) d_Rs_releaseAt_21 ⟨by decide, by decide⟩ ⟨none, rfl, (by rw [if_pos (mNone_y (by have := mIn_f.1 c4; omega))]), rfl⟩
  · have hp5 := mIn_t.1 c4
    refine rz_aload_n 0 d_Rs_releaseAt_7 rfl rfl ?_
    refine rz_getf f_Rs_18 hx h1 d_Rs_releaseAt_8 ?_
    refine rz_iload_n 1 d_Rs_releaseAt_11 rfl rfl ?_
    obtain ⟨f1, fo1, fe1⟩ := hPs.1
    refine rz_aaload fo1 rfl (show (33 : Nat) ≠ 0 by decide) (by omega) d_Rs_releaseAt_12 ?_
    refine rz_Seq [.ref (A 0 p)] (by rw [fe1 p (by omega) (by omega)]; rfl) ?_
    refine rz_iload_n 2 d_Rs_releaseAt_13 rfl rfl ?_
    refine rz_callV (As := [vi r]) (c_Pl_at (hPs.2 p (by omega) (by omega)) hBg.wf (by omega) (r := r) (by omega)) m_Rs_215 (hPs.2 p (by omega) (by omega)).ob rfl rfl rfl rfl (Nat.le_of_ble_eq_true rfl) ⟨by decide, by decide⟩ ⟨by decide, by decide⟩ d_Rs_releaseAt_14 (kO (h := h) (fun h2 q2 => ?_) (fun a2 h2 q2 => ?_))
    · refine rz_goto 21 d_Rs_releaseAt_17 (by decide) ?_
      exact rz_areturn (st := []) (r := none) rfl (Or.inl ⟨_, rfl⟩) d_Rs_releaseAt_21 ⟨by decide, by decide⟩ ⟨none, rfl, (by rw [if_pos (mNone_y (fun z => by have y := q2.1; rw [if_pos (by omega)] at y; cases y))]), q2.2⟩
    · refine rz_goto 21 d_Rs_releaseAt_17 (by decide) ?_
      exact rz_areturn (st := []) (r := some a2) rfl (Or.inl ⟨_, rfl⟩) d_Rs_releaseAt_21 ⟨by decide, by decide⟩ ⟨some a2, rfl, ra_y (mIn_t.1 c4) q2.1, q2.2⟩

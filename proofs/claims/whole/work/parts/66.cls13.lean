/-! the class: calls 3 -/
def au (A : Nat → Int → Nat) (c : Nat) (i : Int) (v : Nat) : Nat → Int → Nat := fun c' i' => if c' = c ∧ i' = i then v else A c' i'
theorem au_s (A : Nat → Int → Nat) (c : Nat) (i : Int) (v : Nat) : au A c i v c i = v := by simp [au]
theorem au_n {A : Nat → Int → Nat} {c c' : Nat} {i i' : Int} {v : Nat} (h : ¬ (c' = c ∧ i' = i)) : au A c i v c' i' = A c' i' := by simp [au, h]
theorem txE.sy {M M' : Nat → Int → Int} {t : Int} (a : txE M M' t) : txE M' M t := ⟨a.1.symm, a.2.symm⟩
theorem PsAt.mv {Γ : rz_G} {h : rz_H} {A A' : Nat → Int → Nat} {M M' : Nat → Int → Int} {F : Int → Int → Int} {pa : Nat} (hp : PsAt Γ h pa A M F) (hw : mWF M) (ea : ∀ c i, c < 9 → A' c i = A c i) (e : ∀ c, c ∈ [2, 3, 4, 5, 6, 7] → M' c = M c) (ht : ∀ t, 6 ≤ t → t < 126 → txE M M' t) : PsAt Γ h pa A' M' F := by
  obtain ⟨w2, w5, w6, w8, w9⟩ := M_big hw
  obtain ⟨⟨f, a, b⟩, c⟩ := hp
  refine ⟨⟨f, a, fun p x y => by rw [ea 0 p (by decide)]; exact b p x y⟩, fun p x y => ?_⟩
  have := w2 p x y
  refine (c p x y).m (fun c hc => ea c p (by revert hc; simp; omega)) (by rw [e 2 (by decide)]) (fun r _ _ => ea 3 _ (by decide)) (fun r r0 r1 => ?_)
  have := w5 (4 * p + r) (by omega) (by omega)
  exact ((c p x y).re r r0 r1).m (fun c hc => ea c _ (by revert hc; simp; omega)) (by rw [e 3 (by decide)]) (by rw [e 4 (by decide)]) (by rw [e 5 (by decide)]) (fun j j0 j1 => ⟨ea 7 _ (by decide), ea 8 _ (by decide), by rw [e 6 (by decide)], by rw [e 7 (by decide)], ht _ (by omega) (by omega)⟩) (ht _ (by omega) (by omega)) (fun _ => ht _ (by omega) (by omega))
theorem AsAt.mv {Γ : rz_G} {h : rz_H} {A A' : Nat → Int → Nat} {M M' : Nat → Int → Int} {al : Nat} (hp : AsAt Γ h al A M) (hw : mWF M) (ea : ∀ c i, c = 9 ∨ c = 10 → A' c i = A c i) (e8 : M' 8 0 = M 8 0) (e9 : ∀ a, 0 ≤ a → a < M 8 0 → M' 9 a = M 9 a) (ht : ∀ a, 0 ≤ a → a < M 8 0 → txE M M' (2 + a)) : AsAt Γ h al A' M' := by
  obtain ⟨w2, w5, w6, w8, w9⟩ := M_big hw
  refine ⟨by rw [e8]; exact hp.1.c (fun a _ _ => by rw [ea 9 a (Or.inl rfl)]), fun a a0 a1 => ?_⟩
  rw [e8] at a1
  rw [e9 a a0 a1, ea 9 a (Or.inl rfl), ea 10 a (Or.inr rfl)]
  exact ⟨(hp.2 a a0 a1).1, (hp.2 a a0 a1).2.t (ht a a0 a1)⟩
/-- release p0, r0 alone has changed -/
theorem PsAt.re1 {Γ : rz_G} {h h' : rz_H} {A A' : Nat → Int → Nat} {M M' : Nat → Int → Int} {F : Int → Int → Int} {pa : Nat} {p0 r0 : Int} (hp : PsAt Γ h pa A M F) (hw : mWF M) (h0 : (0 ≤ p0 ∧ p0 ≤ 5) ∧ 0 ≤ r0 ∧ r0 < M 2 p0) (hf : rz_ft [(38, (4 * p0 + r0).toNat), (35, 10 + (4 * p0 + r0).toNat), (36, 10 + (4 * p0 + r0).toNat)] h h') (hn : RlAt Γ h' A' M' (4 * p0 + r0)) (ea : ∀ c i, c < 4 → A' c i = A c i) (e2 : M' 2 = M 2) (eo : ∀ k, 0 ≤ k → k < 24 → k ≠ 4 * p0 + r0 → (∀ c, c ∈ [4, 5, 6] → A' c k = A c k) ∧ M' 3 k = M 3 k ∧ M' 4 k = M 4 k ∧ M' 5 k = M 5 k ∧ (∀ j, 0 ≤ j → j < 3 → A' 7 (3 * k + j) = A 7 (3 * k + j) ∧ A' 8 (3 * k + j) = A 8 (3 * k + j) ∧ M' 6 (3 * k + j) = M 6 (3 * k + j) ∧ M' 7 (3 * k + j) = M 7 (3 * k + j) ∧ txE M M' (54 + (3 * k + j))) ∧ txE M M' (6 + k) ∧ txE M M' (30 + k)) : PsAt Γ h' pa A' M' F := by
  obtain ⟨w2, w5, w6, w8, w9⟩ := M_big hw
  have wp := w2 p0 h0.1.1 (by omega)
  obtain ⟨⟨f, a, b⟩, c⟩ := hp
  refine ⟨⟨f, hf _ _ _ a (by simp), fun p x y => by rw [ea 0 p (by decide)]; exact b p x y⟩, fun p x y => ?_⟩
  have wq := w2 p x y
  have hc := c p x y
  refine ⟨?_, ?_, ?_, fun r r0' r1 => ?_⟩
  · rw [ea 0 p (by decide), ea 1 p (by decide), ea 2 p (by decide)]; exact hf _ _ _ hc.ob (by simp)
  · rw [ea 1 p (by decide), e2]
    exact (hc.rl.ft hf (by simp; omega) (by simp; omega) (by simp)).c (fun r a b => by rw [ea 3 _ (by decide)])
  · rw [ea 2 p (by decide)]
    obtain ⟨g, g1, g2⟩ := hc.fa
    exact ⟨g, hf _ _ _ g1 (by simp), g2⟩
  · rw [e2] at r1
    by_cases z : 4 * p + r = 4 * p0 + r0
    · rw [z]; exact hn
    · have w5k := w5 (4 * p + r) (by omega) (by omega)
      obtain ⟨o1, o2, o3, o4, o5, o6, o7⟩ := eo (4 * p + r) (by omega) (by omega) z
      refine ((hc.re r r0' r1).ft hf (by simp) (by simp; omega)).m (fun c hc => ?_) o2 o3 o4 (fun j j0 j1 => o5 j j0 (by omega)) o6 (fun _ => o7)
      by_cases y : c = 3
      · rw [y]; exact ea 3 _ (by decide)
      · exact o1 c (by revert hc; simp; omega)
/-- a release's own fields set anew -/
theorem RlAt.set {Γ : rz_G} {h h' : rz_H} {A A' : Nat → Int → Nat} {M M' : Nat → Int → Int} {k : Int} (hr : RlAt Γ h A M k) (hf : rz_ft [(38, k.toNat)] h h') (hob : h' (A' 3 k) = some ((38, k.toNat), .inr (8, [.ref (A' 4 k), .ref (A' 5 k), (if M' 4 k = 0 then .null else .ref (A' 6 k)), vi (M' 3 k)]))) (e4 : A' 4 k = A 4 k) (e5 : A' 5 k = A 5 k) (m5 : M' 5 k = M 5 k) (en : ∀ j, 0 ≤ j → j < M 5 k → A' 7 (3 * k + j) = A 7 (3 * k + j) ∧ A' 8 (3 * k + j) = A 8 (3 * k + j) ∧ M' 6 (3 * k + j) = M 6 (3 * k + j) ∧ M' 7 (3 * k + j) = M 7 (3 * k + j) ∧ txE M M' (54 + (3 * k + j))) (t6 : txE M M' (6 + k)) (hh : ¬ M' 4 k = 0 → RgAt Γ h' (A' 6 k) (mAt M' (30 + k)) (M' 1 (30 + k))) : RlAt Γ h' A' M' k := by
  have hl := hf.lo
  refine ⟨hob, ?_, ?_, hh, fun j a b => ?_⟩
  · rw [e4]; exact (hr.ve.fr hl (by simp)).t t6
  · rw [e5, m5]; exact (hr.nl.ft hf (by simp) (by simp) (by simp)).c (fun j a b => by rw [(en j a (by omega)).1])
  · rw [m5] at b
    obtain ⟨x1, x2, x3, x4, x5⟩ := en j a b
    rw [x1, x2, x3, x4]
    exact ⟨hf _ _ _ (hr.nd j a b).1 (by simp), ((hr.nd j a b).2.fr hl (by simp)).t x5⟩
theorem cr_ft {ts : List (Nat × Nat)} {h h' : rz_H} (hf : rz_ft ts h h') (ht : ∀ t ∈ ts, t.1 ∈ CR) : rz_fr CR h h' := hf.ro ht
theorem SbC.u0 {Γ : rz_G} {h : rz_H} {sb : Nat} {M M' : Nat → Int → Int} {f f' : Int → Int} {m : Int} (b : SbC Γ h sb (mUse M 1 0).toNat f m) : SbC Γ h sb (mUse M' 1 0).toNat f' m := by
  have e : ∀ M : Nat → Int → Int, (mUse M 1 0).toNat = 0 := fun M => by rw [mUse, mu_s, rz_u_s]; rfl
  rw [e] at b ⊢
  exact b.c (fun j p q => absurd q (by omega))
theorem use_n {M : Nat → Int → Int} {c : Nat} (h : c ≠ 1) : mUse M c = M c := mu_n h
theorem RsAt.host {Γ : rz_G} {h h' : rz_H} {x v : Nat} {A : Nat → Int → Nat} {B : Nat → Int → Nat} {S : Nat → Int → Int → Int} {M : Nat → Int → Int} {F : Int → Int → Int} {bl : Int} (hw : mWF M) (hU : RsAt Γ h x A B S (mUse M) F) (hv : VeAt Γ h v (vRt M 0) (vPt M 0)) (hx : h x = some ((30, 0), .inr (7, rs_F A M bl))) (hbl : Bt 4 bl (blF4 M)) (he : h' = rz_up h x ((30, 0), .inr (7, rs_F (au A 15 0 v) M bl))) : RsAt Γ h' x (au A 15 0 v) B S (mUse (mKeep M 1)) F := by
  obtain ⟨-, b, c, d, f1, f, ⟨g, g1, g2⟩, k⟩ := hU
  have hw1 := use_wf hw
  have hf : rz_fr [30] h h' := by rw [he]; exact rz_fr.one hx
  have ht : ∀ t, 2 ≤ t → t < 126 → txE (mUse M) (mUse (mKeep M 1)) t := fun t t0 t1 => ((use_t M (by omega)).sy.tr (keep_t hw (by omega) (by omega))).tr (use_t _ (by omega))
  have t1 : txE (mKeep M 1) (mUse (mKeep M 1)) 1 := use_t _ (by decide)
  have ks := keep_s hw 1
  refine ⟨⟨bl, by rw [he, rz_up_s]; rfl, hbl⟩, (b.fd hf (by decide)).u0, (c.fd hf (by decide)).mv hw1 (fun c i hc => au_n (by omega)) (fun c hc => by rw [use_n (by rintro rfl; revert hc; decide), keep_n (by rintro rfl; revert hc; decide) (by rintro rfl; revert hc; decide), use_n (by rintro rfl; revert hc; decide)]) (fun t a b => ht t (by omega) b), (d.fd hf (by decide)).mv hw1 (fun c i hc => au_n (by omega)) rfl (fun _ _ _ => rfl) (fun a a0 a1 => ht _ (by omega) (by have := (M_big hw1).2.2.2.1; omega)), f1.fr hf (by decide), ?_, ⟨g, hf _ _ _ g1 (by decide), g2⟩, k.fr hf (by decide)⟩
  rw [show au A 15 0 v 15 0 = v from au_s _ _ _ _]
  have e1 : vRt (mUse (mKeep M 1)) 1 = vRt M 0 := by unfold vRt; rw [t1.1, t1.2, ks.1, ks.2]
  have e2 : vPt (mUse (mKeep M 1)) 1 = vPt M 0 := by unfold vPt; rw [t1.1, t1.2, ks.1, ks.2]
  rw [e1, e2]; exact hv.fr hf (by decide)
abbrev rm_Rs_host : Room := { frames := 8, cells := 30, slots := 554, locals := 201 }
set_option maxRecDepth 100000 in
set_option maxHeartbeats 4000000 in
theorem c_Rs_host {l : Launch} {Γ : rz_G} {h : rz_H} {x : Nat} {A : Nat → Int → Nat} {B : Nat → Int → Nat} {S : Nat → Int → Int → Int} {M : Nat → Int → Int} {F : Int → Int → Int} (hR : RsAt Γ h x A B S M F) (hBg : Big M F) : Ct l Γ x_Rs_host y_Rs_host rm_Rs_host [.ref x] h (opP Γ x B (sp_host M).2 F h (sp_host M).1) := by
  refine rz_met (by decide) rfl rfl (Nat.le_of_ble_eq_true rfl) (fun K _ => ?_)
  refine rz_Leq [(0, .ref x)] rfl ?_
  have hR0 := hR
  obtain ⟨⟨bl, hx, hbl⟩, hSb, hPs, hAs, hSe, hHv, ⟨gs, hsa, hgs⟩, hk⟩ := hR
  obtain ⟨w2, w5, w6, w8, w9⟩ := M_big hBg.wf
  have w1 := hBg.wf.1 0 (by omega) (by omega)
  refine rz_aload_n 0 d_Rs_host_0 rfl rfl ?_
  refine rz_callV (As := []) (c_Rs_takeText hx rfl hSb (mAt (mUse M) 0)) m_Rs_88 hx rfl rfl rfl rfl (Nat.le_of_ble_eq_true rfl) ⟨by decide, by decide⟩ ⟨by decide, by decide⟩ d_Rs_host_1 (kR (h := h) fun s1 h1 q1 => ?_)
  obtain ⟨hs1, hSb_1, G1⟩ := q1
  have hU1 := hR0.use hBg.wf G1 hSb_1
  have hcast : ((M 1 0).toNat : Int) = M 1 0 := Int.tn w1.1
  have F2 : rz_fr [31, 32] h h1 := rz_fr.rf.tr (G1.mono (by decide))
  have fc_3_0 : h1 x = some ((30, 0), .inr (7, [.ref (A 11 0), .ref (A 12 0), .ref (A 13 0), .ref (A 14 0), .ref (A 15 0), vi (M 12 0), .ref (A 16 0), vi bl])) := G1 _ _ _ hx (show 30 ∉ ([31, 32] : List Nat) by decide)
  have fc_3_1 : h1 (A 16 0) = some ((39, 0), aI Γ 0 6 gs) := G1 _ _ _ hsa (show 39 ∉ ([31, 32] : List Nat) by decide)
  have hPs_3 : PsAt Γ h1 (A 12 0) A M F := PsAt.fd hPs G1 (by decide)
  have hAs_3 : AsAt Γ h1 (A 13 0) A M := AsAt.fd hAs G1 (by decide)
  have hSe_3 : SeAt Γ h1 (A 14 0) B S := SeAt.fr hSe G1 (by decide)
  have hHv_3 : VeAt Γ h1 (A 15 0) (vRt M 1) (vPt M 1) := VeAt.fr hHv G1 (by decide)
  have hk_3 : KsAt Γ h1 := KsAt.fr hk G1 (by decide)
  refine rz_callS (As := [.ref s1]) (c_Ve_read hs1 hk_3) m_Rs_92 rfl rfl (Nat.le_of_ble_eq_true rfl) ⟨by decide, by decide⟩ ⟨by decide, by decide⟩ d_Rs_host_4 (kO (h := h1) (fun h4 q4 => ?_) (fun a4 h4 q4 => ?_))
  · obtain ⟨b4, G4⟩ := q4
    have bv4 : ver (mAt M 0) 0 (M 1 0) = false := by rw [← hcast]; exact b4
    have F5 : rz_fr [31, 32] h h4 := F2.tr (G4.mono (by decide))
    have fc_6_0 : h4 x = some ((30, 0), .inr (7, [.ref (A 11 0), .ref (A 12 0), .ref (A 13 0), .ref (A 14 0), .ref (A 15 0), vi (M 12 0), .ref (A 16 0), vi bl])) := G4 _ _ _ fc_3_0 (by simp)
    have fc_6_1 : h4 (A 16 0) = some ((39, 0), aI Γ 0 6 gs) := G4 _ _ _ fc_3_1 (by simp)
    have hPs_6 : PsAt Γ h4 (A 12 0) A M F := PsAt.fd hPs_3 G4 (by decide)
    have hAs_6 : AsAt Γ h4 (A 13 0) A M := AsAt.fd hAs_3 G4 (by decide)
    have hSe_6 : SeAt Γ h4 (A 14 0) B S := SeAt.fr hSe_3 G4 (by decide)
    have hHv_6 : VeAt Γ h4 (A 15 0) (vRt M 1) (vPt M 1) := VeAt.fr hHv_3 G4 (by decide)
    have hk_6 : KsAt Γ h4 := KsAt.fr hk_3 G4 (by decide)
    have hs1_6 : StrAt Γ h4 s1 (M 1 0).toNat (mAt M 0) 1 := StrAt.fr hs1 G4 (by decide)
    have hU1_6 : RsAt Γ h4 x A B S (mUse M) F := RsAt.f0 hU1 G4 (by decide)
    refine rz_astore_nN [(1, .null), (0, .ref x)] d_Rs_host_7 rfl (by decide) rfl ?_
    refine rz_aload_nN 0 d_Rs_host_8 rfl rfl ?_
    refine rz_ifnonnullN d_Rs_host_9 ?_
    refine rz_bipush (v := (-3)) d_Rs_host_12 (by decide) ?_
    exact rz_ireturn (st := []) rfl d_Rs_host_14 ⟨by decide, by decide⟩ ⟨_, rfl, (by rw [sp_host, if_neg (by rw [bv4]; decide)]), A, S, (by rw [sp_host, if_neg (by rw [bv4]; decide)]; exact hU1_6), cr2 F5⟩
  · obtain ⟨b4, G4⟩ := q4
    have bv4 : ver (mAt M 0) 0 (M 1 0) = true := by rw [← hcast]; exact b4.1
    have bx4 : VeAt Γ h4 a4 (vRt M 0) (vPt M 0) := by unfold vRt vPt; rw [← hcast]; exact b4.2
    have F7 : rz_fr [31, 32] h h4 := F2.tr (G4.mono (by decide))
    have fc_8_0 : h4 x = some ((30, 0), .inr (7, [.ref (A 11 0), .ref (A 12 0), .ref (A 13 0), .ref (A 14 0), .ref (A 15 0), vi (M 12 0), .ref (A 16 0), vi bl])) := G4 _ _ _ fc_3_0 (by simp)
    have fc_8_1 : h4 (A 16 0) = some ((39, 0), aI Γ 0 6 gs) := G4 _ _ _ fc_3_1 (by simp)
    have hPs_8 : PsAt Γ h4 (A 12 0) A M F := PsAt.fd hPs_3 G4 (by decide)
    have hAs_8 : AsAt Γ h4 (A 13 0) A M := AsAt.fd hAs_3 G4 (by decide)
    have hSe_8 : SeAt Γ h4 (A 14 0) B S := SeAt.fr hSe_3 G4 (by decide)
    have hHv_8 : VeAt Γ h4 (A 15 0) (vRt M 1) (vPt M 1) := VeAt.fr hHv_3 G4 (by decide)
    have hk_8 : KsAt Γ h4 := KsAt.fr hk_3 G4 (by decide)
    have hs1_8 : StrAt Γ h4 s1 (M 1 0).toNat (mAt M 0) 1 := StrAt.fr hs1 G4 (by decide)
    have hU1_8 : RsAt Γ h4 x A B S (mUse M) F := RsAt.f0 hU1 G4 (by decide)
    refine rz_astore_n [(1, .ref a4), (0, .ref x)] d_Rs_host_7 rfl (by decide) rfl ?_
    refine rz_aload_n 0 d_Rs_host_8 rfl rfl ?_
    refine rz_ifnonnullR 15 d_Rs_host_9 (by decide) ?_
    refine rz_aload_n 1 d_Rs_host_15 rfl rfl ?_
    refine rz_aload_n 0 d_Rs_host_16 rfl rfl ?_
    refine rz_putf (fp_Rs_43 _) fc_8_0 (show (30 : Nat) ≠ 0 by decide) rfl rfl (show 4 < 8 by decide) d_Rs_host_17 ?_
    refine rz_nm fun h9 eh9 => ?_
    have g9 : rz_fr [30] h4 h9 := by rw [eh9]; exact rz_fr.one fc_8_0
    have fc_10_0 : h9 (A 16 0) = some ((39, 0), aI Γ 0 6 gs) := g9 _ _ _ fc_8_1 (show 39 ∉ ([30] : List Nat) by decide)
    have hPs_10 : PsAt Γ h9 (A 12 0) A M F := PsAt.fd hPs_8 g9 (by decide)
    have hAs_10 : AsAt Γ h9 (A 13 0) A M := AsAt.fd hAs_8 g9 (by decide)
    have hSe_10 : SeAt Γ h9 (A 14 0) B S := SeAt.fr hSe_8 g9 (by decide)
    have hHv_10 : VeAt Γ h9 (A 15 0) (vRt M 1) (vPt M 1) := VeAt.fr hHv_8 g9 (by decide)
    have hk_10 : KsAt Γ h9 := KsAt.fr hk_8 g9 (by decide)
    have hs1_10 : StrAt Γ h9 s1 (M 1 0).toNat (mAt M 0) 1 := StrAt.fr hs1_8 g9 (by decide)
    have bx4_10 : VeAt Γ h9 a4 (vRt M 0) (vPt M 0) := VeAt.fr bx4 g9 (by decide)
    have fu_9 : h9 x = some ((30, 0), .inr (7, [.ref (A 11 0), .ref (A 12 0), .ref (A 13 0), .ref (A 14 0), .ref a4, vi (M 12 0), .ref (A 16 0), vi bl])) := by rw [eh9]; exact rz_up_s _ _ _
    refine rz_iconst d_Rs_host_20 ?_
    exact rz_ireturn (st := []) rfl d_Rs_host_21 ⟨by decide, by decide⟩ ⟨_, rfl, (by rw [sp_host, if_pos bv4]), au A 15 0 a4, S, (by rw [sp_host, if_pos bv4]; exact RsAt.host hBg.wf hU1_8 bx4 fc_8_0 hbl eh9), (cr2 F7).tr (g9.mono (by decide))⟩
theorem RsAt.ftx {Γ : rz_G} {h h' : rz_H} {x : Nat} {A A' : Nat → Int → Nat} {B : Nat → Int → Nat} {S : Nat → Int → Int → Int} {M M' : Nat → Int → Int} {F F' : Int → Int → Int} {ts : List (Nat × Nat)} (hR : RsAt Γ h x A B S M F) (hw : mWF M) (hf : rz_ft ts h h') (ht : ∀ t ∈ ts, 33 ≤ t.1 ∧ t.1 ≤ 38 ∧ t ≠ (35, 6) ∧ t ≠ (36, 6)) (ea : ∀ c i, 9 ≤ c → A' c i = A c i) (e : ∀ c, c ∈ [8, 9, 12, 13, 14, 15] → M' c = M c) (e1 : M' 1 0 = M 1 0) (e0 : mAt M' 0 = mAt M 0) (htx : ∀ t, 1 ≤ t → t < 6 → txE M M' t) (hp : PsAt Γ h' (A 12 0) A' M' F') : RsAt Γ h' x A' B S M' F' := by
  obtain ⟨⟨bl, a1, a2⟩, b, c, d, f1, f, ⟨g, g1, g2⟩, k⟩ := hR
  have w8 := (M_big hw).2.2.2.1
  have hl := hf.lo
  have hr : ∀ r ∈ ts.map (·.1), 33 ≤ r ∧ r ≤ 38 := fun r hr => by
    obtain ⟨t, a, b⟩ := List.mem_map.mp hr
    rw [← b]; have := ht t a; omega
  refine ⟨⟨bl, ?_, a2.c (fun i _ => by unfold blF4; rw [e 13 (by decide), e 15 (by decide)])⟩, ?_, ?_, ?_, ?_, ?_, ⟨g, ?_, fun p a b => by rw [slN, e 12 (by decide), e 14 (by decide)]; exact g2 p a b⟩, k.fr hl (fun r q => by have := hr r q; omega)⟩
  · rw [rs_F, e 12 (by decide), ea 11 0 (by decide), ea 12 0 (by decide), ea 13 0 (by decide), ea 14 0 (by decide), ea 15 0 (by decide), ea 16 0 (by decide)]
    exact hl _ _ _ a1 (fun z => by have := hr _ z; omega)
  · rw [ea 11 0 (by decide), e1, e0]; exact b.fd hl ⟨fun z => by have := hr _ z; omega, fun z => by have := hr _ z; omega⟩
  · rw [ea 12 0 (by decide)]; exact hp
  · rw [ea 13 0 (by decide)]
    have d2 : AsAt Γ h' (A 13 0) A M := ⟨d.1.ft hf (fun z => (ht _ z).2.2.1 rfl) (fun z => (ht _ z).2.2.2 rfl) (fun z => by have := ht _ z; omega), fun a x y => ⟨hl _ _ _ (d.2 a x y).1 (fun z => by have := hr _ z; omega), (d.2 a x y).2.fr hl (fun r q => by have := hr r q; omega)⟩⟩
    exact d2.mv hw (fun c i hc => ea c i (by omega)) (by rw [e 8 (by decide)]) (fun a _ _ => by rw [e 9 (by decide)]) (fun a a0 a1 => htx _ (by omega) (by omega))
  · rw [ea 14 0 (by decide)]; exact f1.fr hl (fun r q => by have := hr r q; omega)
  · rw [ea 15 0 (by decide)]; exact (f.fr hl (fun r q => by have := hr r q; omega)).t (htx 1 (by decide) (by decide))
  · rw [ea 16 0 (by decide)]; exact hl _ _ _ g1 (fun z => by have := hr _ z; omega)
theorem rz_ft.on {h h' : rz_H} {a : Nat} {t : Nat × Nat} {e : va_E} {y : va_E} (ha : h a = some (t, e)) (he : h' = rz_up h a (t, y)) : rz_ft [t] h h' := by rw [he]; exact rz_ft.rf.up ha (by simp)
theorem RsAt.wd {Γ : rz_G} {h h' : rz_H} {x : Nat} {A : Nat → Int → Nat} {B : Nat → Int → Nat} {S : Nat → Int → Int → Int} {M : Nat → Int → Int} {F : Int → Int → Int} {p r v : Int} (hR : RsAt Γ h x A B S M F) (hw : mWF M) (h0 : (0 ≤ p ∧ p ≤ 5) ∧ 0 ≤ r ∧ r < M 2 p) (he : h' = rz_up h (A 3 (4 * p + r)) ((38, (4 * p + r).toNat), .inr (8, [.ref (A 4 (4 * p + r)), .ref (A 5 (4 * p + r)), (if M 4 (4 * p + r) = 0 then .null else .ref (A 6 (4 * p + r))), vi v]))) : RsAt Γ h' x A B S (mu M 3 (rz_u (M 3) (4 * p + r) v)) F := by
  have hre := (hR.2.2.1.2 p h0.1.1 (by omega)).re r h0.2.1 h0.2.2
  have hf := rz_ft.on hre.ob he
  have n3 : ∀ c, c ≠ 3 → mu M 3 (rz_u (M 3) (4 * p + r) v) c = M c := fun c hc => mu_n hc
  have hn : RlAt Γ h' A (mu M 3 (rz_u (M 3) (4 * p + r) v)) (4 * p + r) := hre.set hf (by rw [he, rz_up_s, mu_s, rz_u_s]; rfl) rfl rfl rfl (fun j _ _ => ⟨rfl, rfl, rfl, rfl, rfl, rfl⟩) ⟨rfl, rfl⟩ (fun z => (hre.hr z).fr hf.lo (by simp))
  refine hR.ftx hw hf (by simp) (fun _ _ _ => rfl) (fun c hc => n3 c (by rintro rfl; revert hc; decide)) rfl rfl (fun _ _ _ => ⟨rfl, rfl⟩) ?_
  exact hR.2.2.1.re1 hw h0 (hf.mono (by simp)) hn (fun _ _ _ => rfl) rfl (fun k k0 k1 kn => ⟨fun _ _ => rfl, by rw [mu_s, rz_u_n kn], rfl, rfl, fun j _ _ => ⟨rfl, rfl, rfl, rfl, rfl, rfl⟩, ⟨rfl, rfl⟩, ⟨rfl, rfl⟩⟩)
abbrev rm_Rs_withdraw : Room := { frames := 5, cells := 0, slots := 0, locals := 107 }
set_option maxRecDepth 100000 in
set_option maxHeartbeats 4000000 in
theorem c_Rs_withdraw {l : Launch} {Γ : rz_G} {h : rz_H} {x : Nat} {A : Nat → Int → Nat} {B : Nat → Int → Nat} {S : Nat → Int → Int → Int} {M : Nat → Int → Int} {F : Int → Int → Int} (hR : RsAt Γ h x A B S M F) (hBg : Big M F) {p r : Int} {on : Bool} (rp : -2147483648 ≤ p ∧ p ≤ 2147483647) (rr : -2147483648 ≤ r ∧ r ≤ 2147483647) : Ct l Γ x_Rs_withdraw y_Rs_withdraw rm_Rs_withdraw [.ref x, vi p, vi r, vi (bi on)] h (opP Γ x B (sp_withdraw M p r on).2 F h (sp_withdraw M p r on).1) := by
  refine rz_met (by decide) rfl rfl (Nat.le_of_ble_eq_true rfl) (fun K _ => ?_)
  refine rz_Leq [(0, .ref x), (1, vi p), (2, vi r), (3, vi (bi on))] rfl ?_
  have hR0 := hR
  obtain ⟨⟨bl, hx, hbl⟩, hSb, hPs, hAs, hSe, hHv, ⟨gs, hsa, hgs⟩, hk⟩ := hR
  obtain ⟨w2, w5, w6, w8, w9⟩ := M_big hBg.wf
  have w1 := hBg.wf.1 0 (by omega) (by omega)
  refine rz_aload_n 0 d_Rs_withdraw_0 rfl rfl ?_
  refine rz_iload_n 1 d_Rs_withdraw_1 rfl rfl ?_
  refine rz_iload_n 2 d_Rs_withdraw_2 rfl rfl ?_
  refine rz_callV (As := [vi p, vi r]) (c_Rs_releaseAt hx rfl hPs hBg (p := p) (r := r) (by omega) (by omega)) m_Rs_109 hx rfl rfl rfl rfl (Nat.le_of_ble_eq_true rfl) ⟨by decide, by decide⟩ ⟨by decide, by decide⟩ d_Rs_withdraw_3 (kO (h := h) (fun h1 q1 => ?_) (fun a1 h1 q1 => ?_))
  · have hn3 := ra_n q1.1
    rw [q1.2]
    refine rz_astoreN [(4, .null), (0, .ref x), (1, vi p), (2, vi r), (3, vi (bi on))] d_Rs_withdraw_6 (by decide) rfl ?_
    refine rz_aloadN 0 d_Rs_withdraw_8 rfl ?_
    refine rz_ifnonnullN d_Rs_withdraw_10 ?_
    refine rz_iconst d_Rs_withdraw_13 ?_
    exact rz_ireturn (st := []) rfl d_Rs_withdraw_14 ⟨by decide, by decide⟩ ⟨_, rfl, (by rw [sp_withdraw, if_pos hn3]), A, S, (by rw [sp_withdraw, if_pos hn3]; exact hR0), rz_fr.rf⟩
  · obtain ⟨hn3, ea1⟩ := ra_s q1.1
    rw [ea1, q1.2]
    have hnn3 := mNone_g hn3
    refine rz_astore [(4, .ref (A 3 (4 * p + r))), (0, .ref x), (1, vi p), (2, vi r), (3, vi (bi on))] d_Rs_withdraw_6 (by decide) rfl ?_
    refine rz_aload 0 d_Rs_withdraw_8 rfl ?_
    refine rz_ifnonnullR 15 d_Rs_withdraw_10 (by decide) ?_
    refine rz_aload 0 d_Rs_withdraw_15 rfl ?_
    refine rz_iload_n 4 d_Rs_withdraw_17 rfl rfl ?_
    refine rz_putf (fp_Rs_142 _) ((hPs.2 p (by omega) (by omega)).re r (by omega) (by omega)).ob (show (38 : Nat) ≠ 0 by decide) (nz_b _) (fz_b _) (show 3 < 4 by decide) d_Rs_withdraw_18 ?_
    refine rz_nm fun h2 eh2 => ?_
    refine rz_iconst d_Rs_withdraw_21 ?_
    exact rz_ireturn (st := []) rfl d_Rs_withdraw_22 ⟨by decide, by decide⟩ ⟨_, rfl, (by rw [sp_withdraw, if_neg (by rw [hn3]; decide)]), A, S, (by rw [sp_withdraw, if_neg (by rw [hn3]; decide)]; exact hR0.wd hBg.wf hnn3 eh2), cr_ft (rz_ft.on ((hPs.2 p (by omega) (by omega)).re r (by omega) (by omega)).ob eh2) (by simp [CR])⟩
theorem rng_pos {f : Int → Int} {n : Int} (h : rng f n = true) : 0 < n := by
  by_cases c : ver f 0 n = true
  · have := (ver_ch c).1; omega
  · rw [rng, if_neg c] at h
    by_cases d : n < 3 ∨ ¬ (f 0 = 91 ∨ f 0 = 40) ∨ ¬ (f (n - 1) = 93 ∨ f (n - 1) = 41)
    · rw [if_pos d] at h; exact absurd h (by decide)
    · omega
theorem RsAt.nh {Γ : rz_G} {h h' : rz_H} {x : Nat} {A : Nat → Int → Nat} {B : Nat → Int → Nat} {S : Nat → Int → Int → Int} {M : Nat → Int → Int} {F : Int → Int → Int} {p r : Int} {o : Option Nat} (hU : RsAt Γ h x A B S (mUse M) F) (hw : mWF M) (h0 : (0 ≤ p ∧ p ≤ 5) ∧ 0 ≤ r ∧ r < M 2 p) (hb : (o = none ∧ ¬ 0 < M 1 0) ∨ ∃ a, o = some a ∧ 0 < M 1 0 ∧ RgAt Γ h a (mAt M 0) (M 1 0)) (he : h' = rz_up h (A 3 (4 * p + r)) ((38, (4 * p + r).toNat), .inr (8, [.ref (A 4 (4 * p + r)), .ref (A 5 (4 * p + r)), va_rf o, vi (M 3 (4 * p + r))]))) : RsAt Γ h' x (au A 6 (4 * p + r) (o.getD 0)) B S (mUse (mKeep (mu M 4 (rz_u (M 4) (4 * p + r) (bi (decide (0 < M 1 0))))) (30 + (4 * p + r)))) F := by
  have hw1 := use_wf hw
  have w2 := (M_big hw).1 p h0.1.1 (by omega)
  generalize hk : 4 * p + r = k at *
  have kb : 0 ≤ k ∧ k < 24 := by omega
  have hre : RlAt Γ h A (mUse M) k := by have := (hU.2.2.1.2 p h0.1.1 (by omega)).re r h0.2.1 h0.2.2; rwa [hk] at this
  have hf := rz_ft.on hre.ob he
  generalize hg : mu M 4 (rz_u (M 4) k (bi (decide (0 < M 1 0)))) = Mg
  have hwg : mWF Mg := by
    rw [← hg]
    have hw := hw
    unfold mWF at hw ⊢
    refine ⟨hw.1, hw.2.1, hw.2.2.1, hw.2.2.2.1, hw.2.2.2.2.1, hw.2.2.2.2.2.1, hw.2.2.2.2.2.2.1, hw.2.2.2.2.2.2.2.1, fun q q0 q1 => ?_, hw.2.2.2.2.2.2.2.2.2⟩
    rw [mu_s]
    by_cases e : q = k
    · rw [e, rz_u_s]; cases decide (0 < M 1 0) <;> simp [bi]
    · rw [rz_u_n e]; exact hw.2.2.2.2.2.2.2.2.1 q q0 q1
  have gt : ∀ t, txE M Mg t := fun t => by rw [← hg]; exact ⟨rfl, rfl⟩
  have gn : ∀ c, c ≠ 4 → Mg c = M c := fun c hc => by rw [← hg]; exact mu_n hc
  have g4 : ∀ q, Mg 4 q = if q = k then bi (decide (0 < M 1 0)) else M 4 q := fun q => by
    rw [← hg, mu_s]; rfl
  have ht : ∀ t, 1 ≤ t → t < 126 → t ≠ 30 + k → txE (mUse M) (mUse (mKeep Mg (30 + k))) t := fun t t0 t1 tn => (((use_t M (by omega)).sy.tr (gt t)).tr (keep_t hwg (by omega) tn)).tr (use_t _ (by omega))
  have tk : txE (mKeep Mg (30 + k)) (mUse (mKeep Mg (30 + k))) (30 + k) := use_t _ (by omega)
  have ks := keep_s hwg (30 + k)
  have en : ∀ c, c ≠ 0 → c ≠ 1 → c ≠ 4 → mUse (mKeep Mg (30 + k)) c = mUse M c := fun c h0 h1 h4 => by rw [use_n h1, keep_n h0 h1, gn c h4, use_n h1]
  have e4 : ∀ q, mUse (mKeep Mg (30 + k)) 4 q = if q = k then bi (decide (0 < M 1 0)) else M 4 q := fun q => by rw [use_n (by decide), keep_n (by decide) (by decide)]; exact g4 q
  have e4k : mUse (mKeep Mg (30 + k)) 4 k = bi (decide (0 < M 1 0)) := by rw [e4, if_pos rfl]
  have w5 := (M_big hw1).2.1 k kb.1 kb.2
  have hn : RlAt Γ h' (au A 6 k (o.getD 0)) (mUse (mKeep Mg (30 + k))) k := by
    refine hre.set hf ?_ (au_n (by omega)) (au_n (by omega)) (by rw [en 5 (by decide) (by decide) (by decide)]) (fun j j0 j1 => ⟨au_n (by omega), au_n (by omega), by rw [en 6 (by decide) (by decide) (by decide)], by rw [en 7 (by decide) (by decide) (by decide)], ht _ (by omega) (by omega) (by omega)⟩) (ht _ (by omega) (by omega) (by omega)) (fun z => ?_)
    · rw [au_n (show ¬ (3 = 6 ∧ k = k) by omega), he, rz_up_s, au_n (show ¬ (4 = 6 ∧ k = k) by omega), au_n (show ¬ (5 = 6 ∧ k = k) by omega), au_s, e4k, en 3 (by decide) (by decide) (by decide)]
      rcases hb with ⟨o1, o2⟩ | ⟨a, o1, o2, _⟩
      · rw [o1, decide_eq_false o2]; rfl
      · rw [o1, decide_eq_true o2]; rfl
    · rw [e4k] at z
      rcases hb with ⟨o1, o2⟩ | ⟨a, o1, o2, o3⟩
      · rw [decide_eq_false o2] at z; exact absurd rfl z
      · rw [au_s, o1, tk.1, tk.2, ks.1, ks.2, (gt 0).1, (gt 0).2]; exact o3.fr hf.lo (by simp)
  refine hU.ftx hw1 hf (by simp) (fun c i hc => au_n (by omega)) (fun c hc => en c (by rintro rfl; revert hc; decide) (by rintro rfl; revert hc; decide) (by rintro rfl; revert hc; decide)) ?_ ?_ (fun t a b => ht t a (by omega) (by omega)) ?_
  · rw [mUse, mu_s, rz_u_s, mUse, mu_s, rz_u_s]
  · funext i; unfold mAt; rw [show mUse (mKeep Mg (30 + k)) 1 0 = 0 by rw [mUse, mu_s, rz_u_s], show mUse M 1 0 = 0 by rw [mUse, mu_s, rz_u_s], if_neg (by omega), if_neg (by omega)]
  · have := hU.2.2.1.re1 (A' := au A 6 k (o.getD 0)) (M' := mUse (mKeep Mg (30 + k))) hw1 (p0 := p) (r0 := r) h0 (by rw [hk]; exact hf.mono (by simp)) (by rw [hk]; exact hn) (fun c i hc => au_n (by omega)) (en 2 (by decide) (by decide) (by decide)) (fun q q0 q1 qn => by
      rw [hk] at qn
      exact ⟨fun c hc => au_n (by omega), by rw [en 3 (by decide) (by decide) (by decide)], by rw [e4, if_neg qn]; rfl, by rw [en 5 (by decide) (by decide) (by decide)], fun j j0 j1 => ⟨au_n (by omega), au_n (by omega), by rw [en 6 (by decide) (by decide) (by decide)], by rw [en 7 (by decide) (by decide) (by decide)], ht _ (by omega) (by omega) (by omega)⟩, ht _ (by omega) (by omega) (by omega), ht _ (by omega) (by omega) (by omega)⟩)
    exact this
abbrev rm_Rs_needHost : Room := { frames := 9, cells := 64, slots := 1154, locals := 232 }
set_option maxRecDepth 100000 in
set_option maxHeartbeats 4000000 in
theorem c_Rs_needHost {l : Launch} {Γ : rz_G} {h : rz_H} {x : Nat} {A : Nat → Int → Nat} {B : Nat → Int → Nat} {S : Nat → Int → Int → Int} {M : Nat → Int → Int} {F : Int → Int → Int} (hR : RsAt Γ h x A B S M F) (hBg : Big M F) {p r : Int} (rp : -2147483648 ≤ p ∧ p ≤ 2147483647) (rr : -2147483648 ≤ r ∧ r ≤ 2147483647) : Ct l Γ x_Rs_needHost y_Rs_needHost rm_Rs_needHost [.ref x, vi p, vi r] h (opP Γ x B (sp_needHost M p r).2 F h (sp_needHost M p r).1) := by
  refine rz_met (by decide) rfl rfl (Nat.le_of_ble_eq_true rfl) (fun K _ => ?_)
  refine rz_Leq [(0, .ref x), (1, vi p), (2, vi r)] rfl ?_
  have hR0 := hR
  obtain ⟨⟨bl, hx, hbl⟩, hSb, hPs, hAs, hSe, hHv, ⟨gs, hsa, hgs⟩, hk⟩ := hR
  obtain ⟨w2, w5, w6, w8, w9⟩ := M_big hBg.wf
  have w1 := hBg.wf.1 0 (by omega) (by omega)
  refine rz_aload_n 0 d_Rs_needHost_0 rfl rfl ?_
  refine rz_iload_n 1 d_Rs_needHost_1 rfl rfl ?_
  refine rz_iload_n 2 d_Rs_needHost_2 rfl rfl ?_
  refine rz_callV (As := [vi p, vi r]) (c_Rs_releaseAt hx rfl hPs hBg (p := p) (r := r) (by omega) (by omega)) m_Rs_109 hx rfl rfl rfl rfl (Nat.le_of_ble_eq_true rfl) ⟨by decide, by decide⟩ ⟨by decide, by decide⟩ d_Rs_needHost_3 (kO (h := h) (fun h1 q1 => ?_) (fun a1 h1 q1 => ?_))
  · have hn3 := ra_n q1.1
    rw [q1.2]
    refine rz_astore_nN [(3, .null), (0, .ref x), (1, vi p), (2, vi r)] d_Rs_needHost_6 rfl (by decide) rfl ?_
    refine rz_aload_nN 0 d_Rs_needHost_7 rfl rfl ?_
    refine rz_ifnonnullN d_Rs_needHost_8 ?_
    refine rz_iconst d_Rs_needHost_11 ?_
    exact rz_ireturn (st := []) rfl d_Rs_needHost_12 ⟨by decide, by decide⟩ ⟨_, rfl, (by rw [sp_needHost, if_pos hn3]), A, S, (by rw [sp_needHost, if_pos hn3]; exact hR0), rz_fr.rf⟩
  · obtain ⟨hn3, ea1⟩ := ra_s q1.1
    rw [ea1, q1.2]
    have hnn3 := mNone_g hn3
    refine rz_astore_n [(3, .ref (A 3 (4 * p + r))), (0, .ref x), (1, vi p), (2, vi r)] d_Rs_needHost_6 rfl (by decide) rfl ?_
    refine rz_aload_n 0 d_Rs_needHost_7 rfl rfl ?_
    refine rz_ifnonnullR 13 d_Rs_needHost_8 (by decide) ?_
    refine rz_aload_n 1 d_Rs_needHost_13 rfl rfl ?_
    refine rz_callV (As := []) (c_Rs_takeText hx rfl hSb (mAt (mUse M) 0)) m_Rs_88 hx rfl rfl rfl rfl (Nat.le_of_ble_eq_true rfl) ⟨by decide, by decide⟩ ⟨by decide, by decide⟩ d_Rs_needHost_14 (kR (h := h) fun s2 h2 q2 => ?_)
    obtain ⟨hs2, hSb_2, G2⟩ := q2
    have hU2 := hR0.use hBg.wf G2 hSb_2
    have hcast : ((M 1 0).toNat : Int) = M 1 0 := Int.tn w1.1
    have F3 : rz_fr [31, 32] h h2 := rz_fr.rf.tr (G2.mono (by decide))
    have fc_4_0 : h2 x = some ((30, 0), .inr (7, [.ref (A 11 0), .ref (A 12 0), .ref (A 13 0), .ref (A 14 0), .ref (A 15 0), vi (M 12 0), .ref (A 16 0), vi bl])) := G2 _ _ _ hx (show 30 ∉ ([31, 32] : List Nat) by decide)
    have fc_4_1 : h2 (A 16 0) = some ((39, 0), aI Γ 0 6 gs) := G2 _ _ _ hsa (show 39 ∉ ([31, 32] : List Nat) by decide)
    have hPs_4 : PsAt Γ h2 (A 12 0) A M F := PsAt.fd hPs G2 (by decide)
    have hAs_4 : AsAt Γ h2 (A 13 0) A M := AsAt.fd hAs G2 (by decide)
    have hSe_4 : SeAt Γ h2 (A 14 0) B S := SeAt.fr hSe G2 (by decide)
    have hHv_4 : VeAt Γ h2 (A 15 0) (vRt M 1) (vPt M 1) := VeAt.fr hHv G2 (by decide)
    have hk_4 : KsAt Γ h2 := KsAt.fr hk G2 (by decide)
    refine rz_astore [(4, .ref s2), (3, .ref (A 3 (4 * p + r))), (0, .ref x), (1, vi p), (2, vi r)] d_Rs_needHost_17 (by decide) rfl ?_
    refine rz_aload 0 d_Rs_needHost_19 rfl ?_
    refine rz_callS (As := [.ref s2]) (c_Rg_read hs2 hk_4 (by omega)) m_Rs_113 rfl rfl (Nat.le_of_ble_eq_true rfl) ⟨by decide, by decide⟩ ⟨by decide, by decide⟩ d_Rs_needHost_21 (kO (h := h2) (fun h5 q5 => ?_) (fun a5 h5 q5 => ?_))
    · obtain ⟨b5, G5⟩ := q5
      have bv5 : rng (mAt M 0) (M 1 0) = false := by rw [← hcast]; exact b5
      have F6 : rz_fr [31, 32] h h5 := F3.tr (G5.mono (by decide))
      have fc_7_0 : h5 x = some ((30, 0), .inr (7, [.ref (A 11 0), .ref (A 12 0), .ref (A 13 0), .ref (A 14 0), .ref (A 15 0), vi (M 12 0), .ref (A 16 0), vi bl])) := G5 _ _ _ fc_4_0 (by simp)
      have fc_7_1 : h5 (A 16 0) = some ((39, 0), aI Γ 0 6 gs) := G5 _ _ _ fc_4_1 (by simp)
      have hPs_7 : PsAt Γ h5 (A 12 0) A M F := PsAt.fd hPs_4 G5 (by decide)
      have hAs_7 : AsAt Γ h5 (A 13 0) A M := AsAt.fd hAs_4 G5 (by decide)
      have hSe_7 : SeAt Γ h5 (A 14 0) B S := SeAt.fr hSe_4 G5 (by decide)
      have hHv_7 : VeAt Γ h5 (A 15 0) (vRt M 1) (vPt M 1) := VeAt.fr hHv_4 G5 (by decide)
      have hk_7 : KsAt Γ h5 := KsAt.fr hk_4 G5 (by decide)
      have hs2_7 : StrAt Γ h5 s2 (M 1 0).toNat (mAt M 0) 1 := StrAt.fr hs2 G5 (by decide)
      have hU2_7 : RsAt Γ h5 x A B S (mUse M) F := RsAt.f0 hU2 G5 (by decide)
      refine rz_astoreN [(5, .null), (4, .ref s2), (3, .ref (A 3 (4 * p + r))), (0, .ref x), (1, vi p), (2, vi r)] d_Rs_needHost_24 (by decide) rfl ?_
      refine rz_aloadN 0 d_Rs_needHost_26 rfl ?_
      refine rz_ifnonnullN d_Rs_needHost_28 ?_
      refine rz_aload 1 d_Rs_needHost_31 rfl ?_
      obtain ⟨tso10, fso10, so10⟩ := hs2_7.ob
      refine rz_callV (As := []) (c_St_isEmpty hs2_7) m_Rs_132 so10 rfl rfl rfl rfl (Nat.le_of_ble_eq_true rfl) ⟨by decide, by decide⟩ ⟨by decide, by decide⟩ d_Rs_needHost_33 (kE (h := h5) ?_)
      refine rz_if_neB 42 d_Rs_needHost_36 (by decide) (fun c36 => ?_) (fun c36 => ?_)
      · refine rz_aload_n 2 d_Rs_needHost_42 rfl rfl ?_
        refine rz_aloadN 0 d_Rs_needHost_43 rfl ?_
        refine rz_putf (fp_Rs_138 _) ((hPs_7.2 p (by omega) (by omega)).re r (by omega) (by omega)).ob (show (38 : Nat) ≠ 0 by decide) rfl rfl (show 2 < 4 by decide) d_Rs_needHost_45 ?_
        refine rz_nm fun h11 eh11 => ?_
        refine rz_iconst d_Rs_needHost_48 ?_
        exact rz_ireturn (st := []) rfl d_Rs_needHost_49 ⟨by decide, by decide⟩ ⟨_, rfl, (by rw [sp_needHost, if_neg (by rw [hn3]; decide), if_pos (Or.inl (by have z := of_decide_eq_true c36; omega))]), au A 6 (4 * p + r) ((none : Option Nat).getD 0), S, (by rw [sp_needHost, if_neg (by rw [hn3]; decide), if_pos (Or.inl (by have z := of_decide_eq_true c36; omega))]; exact RsAt.nh (o := none) hU2_7 hBg.wf hnn3 (Or.inl ⟨rfl, by have z := of_decide_eq_true c36; omega⟩) eh11), (cr2 F6).tr (cr_ft (rz_ft.on ((hPs_7.2 p (by omega) (by omega)).re r (by omega) (by omega)).ob eh11) (by simp [CR]))⟩
      · have ND : ¬ (M 1 0 ≤ 0 ∨ rng (mAt M 0) (M 1 0) = true) := fun z => z.elim (fun z => by have y := of_decide_eq_false c36; omega) (fun z => by rw [bv5] at z; exact absurd z (by decide))
        refine rz_bipush (v := (-3)) d_Rs_needHost_39 (by decide) ?_
        exact rz_ireturn (st := []) rfl d_Rs_needHost_41 ⟨by decide, by decide⟩ ⟨_, rfl, (by rw [sp_needHost, if_neg (by rw [hn3]; decide), if_neg ND]), A, S, (by rw [sp_needHost, if_neg (by rw [hn3]; decide), if_neg ND]; exact hU2_7), cr2 F6⟩
    · obtain ⟨b5, G5⟩ := q5
      have bv5 : rng (mAt M 0) (M 1 0) = true := by rw [← hcast]; exact b5.1
      have bx5 : RgAt Γ h5 a5 (mAt M 0) (M 1 0) := by rw [← hcast]; exact b5.2
      have F8 : rz_fr [31, 32] h h5 := F3.tr (G5.mono (by decide))
      have fc_9_0 : h5 x = some ((30, 0), .inr (7, [.ref (A 11 0), .ref (A 12 0), .ref (A 13 0), .ref (A 14 0), .ref (A 15 0), vi (M 12 0), .ref (A 16 0), vi bl])) := G5 _ _ _ fc_4_0 (by simp)
      have fc_9_1 : h5 (A 16 0) = some ((39, 0), aI Γ 0 6 gs) := G5 _ _ _ fc_4_1 (by simp)
      have hPs_9 : PsAt Γ h5 (A 12 0) A M F := PsAt.fd hPs_4 G5 (by decide)
      have hAs_9 : AsAt Γ h5 (A 13 0) A M := AsAt.fd hAs_4 G5 (by decide)
      have hSe_9 : SeAt Γ h5 (A 14 0) B S := SeAt.fr hSe_4 G5 (by decide)
      have hHv_9 : VeAt Γ h5 (A 15 0) (vRt M 1) (vPt M 1) := VeAt.fr hHv_4 G5 (by decide)
      have hk_9 : KsAt Γ h5 := KsAt.fr hk_4 G5 (by decide)
      have hs2_9 : StrAt Γ h5 s2 (M 1 0).toNat (mAt M 0) 1 := StrAt.fr hs2 G5 (by decide)
      have hU2_9 : RsAt Γ h5 x A B S (mUse M) F := RsAt.f0 hU2 G5 (by decide)
      refine rz_astore [(5, .ref a5), (4, .ref s2), (3, .ref (A 3 (4 * p + r))), (0, .ref x), (1, vi p), (2, vi r)] d_Rs_needHost_24 (by decide) rfl ?_
      refine rz_aload 0 d_Rs_needHost_26 rfl ?_
      refine rz_ifnonnullR 42 d_Rs_needHost_28 (by decide) ?_
      refine rz_aload_n 2 d_Rs_needHost_42 rfl rfl ?_
      refine rz_aload 0 d_Rs_needHost_43 rfl ?_
      refine rz_putf (fp_Rs_138 _) ((hPs_9.2 p (by omega) (by omega)).re r (by omega) (by omega)).ob (show (38 : Nat) ≠ 0 by decide) rfl rfl (show 2 < 4 by decide) d_Rs_needHost_45 ?_
      refine rz_nm fun h12 eh12 => ?_
      refine rz_iconst d_Rs_needHost_48 ?_
      exact rz_ireturn (st := []) rfl d_Rs_needHost_49 ⟨by decide, by decide⟩ ⟨_, rfl, (by rw [sp_needHost, if_neg (by rw [hn3]; decide), if_pos (Or.inr bv5)]), au A 6 (4 * p + r) (((some a5) : Option Nat).getD 0), S, (by rw [sp_needHost, if_neg (by rw [hn3]; decide), if_pos (Or.inr bv5)]; exact RsAt.nh (o := (some a5)) hU2_9 hBg.wf hnn3 (Or.inr ⟨_, rfl, rng_pos bv5, bx5⟩) eh12), (cr2 F8).tr (cr_ft (rz_ft.on ((hPs_9.2 p (by omega) (by omega)).re r (by omega) (by omega)).ob eh12) (by simp [CR]))⟩

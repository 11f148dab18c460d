/-! the class: ReleaseSolver -/
def slN (M : Nat → Int → Int) (p : Int) : Int := if M 12 0 = 0 ∨ M 14 p < 0 then -4 else M 14 p
abbrev rs_F (A : Nat → Int → Nat) (M : Nat → Int → Int) (bl : Int) : List Value := [.ref (A 11 0), .ref (A 12 0), .ref (A 13 0), .ref (A 14 0), .ref (A 15 0), vi (M 12 0), .ref (A 16 0), vi bl]
def blF4 (M : Nat → Int → Int) (a : Nat) : Bool := decide (¬ M 13 0 = 0) && decide (¬ M 15 a = 0)
/-- the class's object and all that it holds, by the reference's numbers -/
def RsAt (Γ : rz_G) (h : rz_H) (x : Nat) (A : Nat → Int → Nat) (B : Nat → Int → Nat) (S : Nat → Int → Int → Int) (M : Nat → Int → Int) (F : Int → Int → Int) : Prop := (∃ bl, h x = some ((30, 0), .inr (7, rs_F A M bl)) ∧ Bt 4 bl (blF4 M)) ∧ SbC Γ h (A 11 0) (M 1 0).toNat (mAt M 0) 0 ∧ PsAt Γ h (A 12 0) A M F ∧ AsAt Γ h (A 13 0) A M ∧ SeAt Γ h (A 14 0) B S ∧ VeAt Γ h (A 15 0) (vRt M 1) (vPt M 1) ∧ (∃ g, h (A 16 0) = some ((39, 0), aI Γ 0 6 g) ∧ ∀ p, 0 ≤ p → p < 6 → g p = slN M p) ∧ KsAt Γ h
theorem SbC.fd {Γ : rz_G} {h h' : rz_H} {sb n : Nat} {f : Int → Int} {m : Int} {rs : List Nat} (hs : SbC Γ h sb n f m) (hf : rz_fr rs h h') (h1 : 31 ∉ rs ∧ 32 ∉ rs) : SbC Γ h' sb n f m := hs.fr hf h1.1 h1.2
theorem PsAt.fd {Γ : rz_G} {h h' : rz_H} {pa : Nat} {A : Nat → Int → Nat} {M : Nat → Int → Int} {F : Int → Int → Int} {rs : List Nat} (hp : PsAt Γ h pa A M F) (hf : rz_fr rs h h') (h1 : ∀ r ∈ rs, 10 ≤ r ∧ (r < 33 ∨ 38 < r)) : PsAt Γ h' pa A M F := hp.fr hf h1
theorem AsAt.fd {Γ : rz_G} {h h' : rz_H} {al : Nat} {A : Nat → Int → Nat} {M : Nat → Int → Int} {rs : List Nat} (hp : AsAt Γ h al A M) (hf : rz_fr rs h h') (h1 : ∀ r ∈ rs, 10 ≤ r ∧ (r < 33 ∨ 38 < r)) : AsAt Γ h' al A M := hp.fr hf h1
/-- the reference's steps leave the class alone -/
theorem RsAt.md {Γ : rz_G} {h h' : rz_H} {x : Nat} {A : Nat → Int → Nat} {B : Nat → Int → Nat} {S : Nat → Int → Int → Int} {M : Nat → Int → Int} {F : Int → Int → Int} (hR : RsAt Γ h x A B S M F) (hf : rz_fr [10, 11] h h') : RsAt Γ h' x A B S M F := by
  obtain ⟨⟨bl, a1, a2⟩, b, c, d, e, f, ⟨g, g1, g2⟩, k⟩ := hR
  exact ⟨⟨bl, hf _ _ _ a1 (by decide), a2⟩, b.fd hf (by decide), c.fd hf (by decide), d.fd hf (by decide), e.fr hf (by decide), f.fr hf (by decide), ⟨g, hf _ _ _ g1 (by decide), g2⟩, k.fr hf (by decide)⟩
theorem vRt_t {M M' : Nat → Int → Int} {t : Int} (h : txE M M' t) : vRt M' t = vRt M t ∧ vPt M' t = vPt M t := by unfold vRt vPt; rw [h.1, h.2]; exact ⟨rfl, rfl⟩
theorem RgAt.t {Γ : rz_G} {h : rz_H} {r : Nat} {M M' : Nat → Int → Int} {t : Int} (hg : RgAt Γ h r (mAt M t) (M 1 t)) (e : txE M M' t) : RgAt Γ h r (mAt M' t) (M' 1 t) := by rw [e.1, e.2]; exact hg
theorem VeAt.t {Γ : rz_G} {h : rz_H} {v : Nat} {M M' : Nat → Int → Int} {t : Int} (hg : VeAt Γ h v (vRt M t) (vPt M t)) (e : txE M M' t) : VeAt Γ h v (vRt M' t) (vPt M' t) := by rw [(vRt_t e).1, (vRt_t e).2]; exact hg
/-- the same release by other numbers and addresses -/
theorem RlAt.m {Γ : rz_G} {h : rz_H} {A A' : Nat → Int → Nat} {M M' : Nat → Int → Int} {k : Int} (hr : RlAt Γ h A M k) (ea : ∀ c, c ∈ [3, 4, 5, 6] → A' c k = A c k) (e3 : M' 3 k = M 3 k) (e4 : M' 4 k = M 4 k) (e5 : M' 5 k = M 5 k) (en : ∀ j, 0 ≤ j → j < M 5 k → A' 7 (3 * k + j) = A 7 (3 * k + j) ∧ A' 8 (3 * k + j) = A 8 (3 * k + j) ∧ M' 6 (3 * k + j) = M 6 (3 * k + j) ∧ M' 7 (3 * k + j) = M 7 (3 * k + j) ∧ txE M M' (54 + (3 * k + j))) (t6 : txE M M' (6 + k)) (t30 : ¬ M 4 k = 0 → txE M M' (30 + k)) : RlAt Γ h A' M' k := by
  refine ⟨?_, ?_, ?_, fun z => ?_, fun j a b => ?_⟩
  · rw [ea 3 (by decide), ea 4 (by decide), ea 5 (by decide), ea 6 (by decide), e3, e4]; exact hr.ob
  · rw [ea 4 (by decide)]; exact hr.ve.t t6
  · rw [ea 5 (by decide), e5]
    exact hr.nl.c (fun j a b => by rw [(en j a (by omega)).1])
  · rw [e4] at z; rw [ea 6 (by decide)]; exact (hr.hr z).t (t30 z)
  · rw [e5] at b
    obtain ⟨x1, x2, x3, x4, x5⟩ := en j a b
    rw [x1, x2, x3, x4]
    exact ⟨(hr.nd j a b).1, (hr.nd j a b).2.t x5⟩
theorem PlAt.m {Γ : rz_G} {h : rz_H} {A A' : Nat → Int → Nat} {M M' : Nat → Int → Int} {F : Int → Int} {p : Int} (hp : PlAt Γ h A M F p) (ea : ∀ c, c ∈ [0, 1, 2] → A' c p = A c p) (e2 : M' 2 p = M 2 p) (e3 : ∀ r, 0 ≤ r → r < M 2 p → A' 3 (4 * p + r) = A 3 (4 * p + r)) (er : ∀ r, 0 ≤ r → r < M 2 p → RlAt Γ h A' M' (4 * p + r)) : PlAt Γ h A' M' F p := by
  refine ⟨?_, ?_, ?_, fun r a b => er r a (by omega)⟩
  · rw [ea 0 (by decide), ea 1 (by decide), ea 2 (by decide)]; exact hp.ob
  · rw [ea 1 (by decide), e2]; exact hp.rl.c (fun r a b => by rw [e3 r a (by omega)])
  · rw [ea 2 (by decide)]; exact hp.fa
/-- nothing but the first text has changed -/
theorem PsAt.t {Γ : rz_G} {h : rz_H} {pa : Nat} {A : Nat → Int → Nat} {M M' : Nat → Int → Int} {F : Int → Int → Int} (hp : PsAt Γ h pa A M F) (hw : mWF M) (e : ∀ c, c ∈ [2, 3, 4, 5, 6, 7] → M' c = M c) (ht : ∀ t, 1 ≤ t → t < 126 → txE M M' t) : PsAt Γ h pa A M' F := by
  obtain ⟨w2, w5, w6, w8, w9⟩ := M_big hw
  refine ⟨hp.1, fun p a b => ?_⟩
  have := w2 p a b
  refine (hp.2 p a b).m (fun _ _ => rfl) (by rw [e 2 (by decide)]) (fun _ _ _ => rfl) (fun r r0 r1 => ?_)
  have := w5 (4 * p + r) (by omega) (by omega)
  exact ((hp.2 p a b).re r r0 r1).m (fun _ _ => rfl) (by rw [e 3 (by decide)]) (by rw [e 4 (by decide)]) (by rw [e 5 (by decide)]) (fun j j0 j1 => ⟨rfl, rfl, by rw [e 6 (by decide)], by rw [e 7 (by decide)], ht _ (by omega) (by omega)⟩) (ht _ (by omega) (by omega)) (fun _ => ht _ (by omega) (by omega))
theorem AsAt.t {Γ : rz_G} {h : rz_H} {al : Nat} {A : Nat → Int → Nat} {M M' : Nat → Int → Int} (hp : AsAt Γ h al A M) (hw : mWF M) (e8 : M' 8 = M 8) (e9 : M' 9 = M 9) (ht : ∀ t, 1 ≤ t → t < 126 → txE M M' t) : AsAt Γ h al A M' := by
  obtain ⟨w2, w5, w6, w8, w9⟩ := M_big hw
  refine ⟨by rw [e8]; exact hp.1, fun a a0 a1 => ?_⟩
  rw [e8] at a1
  rw [e9]
  exact ⟨(hp.2 a a0 a1).1, (hp.2 a a0 a1).2.t (ht _ (by omega) (by omega))⟩
theorem RsAt.t {Γ : rz_G} {h : rz_H} {x : Nat} {A : Nat → Int → Nat} {B : Nat → Int → Nat} {S : Nat → Int → Int → Int} {M M' : Nat → Int → Int} {F : Int → Int → Int} (hR : RsAt Γ h x A B S M F) (hw : mWF M) (e : ∀ c, c ∈ [2, 3, 4, 5, 6, 7, 8, 9, 12, 13, 14, 15] → M' c = M c) (ht : ∀ t, 1 ≤ t → t < 126 → txE M M' t) (hs : SbC Γ h (A 11 0) (M' 1 0).toNat (mAt M' 0) 0) : RsAt Γ h x A B S M' F := by
  obtain ⟨⟨bl, a1, a2⟩, b, c, d, f1, f, ⟨g, g1, g2⟩, k⟩ := hR
  refine ⟨⟨bl, by rw [rs_F, e 12 (by decide)]; exact a1, a2.c (fun i _ => by unfold blF4; rw [e 13 (by decide), e 15 (by decide)])⟩, hs, c.t hw (fun c hc => e c (by revert hc; simp; omega)) ht, d.t hw (e 8 (by decide)) (e 9 (by decide)) ht, f1, f.t (ht 1 (by omega) (by omega)), ⟨g, g1, fun p a b => by rw [slN, e 12 (by decide), e 14 (by decide)]; exact g2 p a b⟩, k⟩
/-- the text taken -/
theorem RsAt.use {Γ : rz_G} {h h' : rz_H} {x : Nat} {A : Nat → Int → Nat} {B : Nat → Int → Nat} {S : Nat → Int → Int → Int} {M : Nat → Int → Int} {F : Int → Int → Int} (hR : RsAt Γ h x A B S M F) (hw : mWF M) (hf : rz_fr [31, 32] h h') (hs : SbC Γ h' (A 11 0) 0 (mAt (mUse M) 0) 0) : RsAt Γ h' x A B S (mUse M) F := by
  obtain ⟨⟨bl, a1, a2⟩, b, c, d, f1, f, ⟨g, g1, g2⟩, k⟩ := hR
  have e0 : (mUse M 1 0).toNat = 0 := by rw [mUse, mu_s, rz_u_s]; rfl
  have ht : ∀ t, 1 ≤ t → t < 126 → txE M (mUse M) t := fun t a _ => use_t M (by omega)
  have en : ∀ c, c ≠ 1 → mUse M c = M c := fun c hc => mu_n hc
  refine ⟨⟨bl, hf _ _ _ a1 (by decide), a2⟩, by rw [e0]; exact hs, (c.fd hf (by decide)).t hw (fun c hc => en c (by rintro rfl; revert hc; decide)) ht, (d.fd hf (by decide)).t hw rfl rfl ht, f1.fr hf (by decide), (f.fr hf (by decide)).t (ht 1 (by omega) (by omega)), ⟨g, hf _ _ _ g1 (by decide), g2⟩, k.fr hf (by decide)⟩
theorem SbC.ob {Γ : rz_G} {h : rz_H} {sb n : Nat} {f : Int → Int} {m : Int} (hs : SbC Γ h sb n f m) : ∃ fs, h sb = some ((31, 0), .inr (1, fs)) := by
  obtain ⟨va, cap, k, g, ml, a1, _⟩ := hs; exact ⟨_, a1⟩
theorem c_Sb_len {l : Launch} {Γ : rz_G} {h : rz_H} {sb n : Nat} {f : Int → Int} {m : Int} (hs : SbC Γ h sb n f m) : Ct l Γ x_Sb_length y_Sb_length rm_Sb_length [.ref sb] h (pE (n : Int) h) := by
  obtain ⟨va, cap, k, g, ml, a1, _⟩ := hs; exact c_Sb_length a1
abbrev rm_Rs_takeText : Room := { frames := 6, cells := 3, slots := 72, locals := 152 }
set_option maxRecDepth 100000 in
set_option maxHeartbeats 4000000 in
theorem c_Rs_takeText {l : Launch} {Γ : rz_G} {h : rz_H} {x sb n : Nat} {f : Int → Int} {fs : List Value} (hx : h x = some ((30, 0), .inr (7, fs))) (h0 : fs[0]? = some (.ref sb)) (hSb : SbC Γ h sb n f 0) (f' : Int → Int) : Ct l Γ x_Rs_takeText y_Rs_takeText rm_Rs_takeText [.ref x] h (pR (fun s h' => StrAt Γ h' s n f 1 ∧ SbC Γ h' sb 0 f' 0 ∧ rz_fr [31, 32] h h')) := by
  refine rz_met (by decide) rfl rfl (Nat.le_of_ble_eq_true rfl) (fun K _ => ?_)
  refine rz_Leq [(0, .ref x)] rfl ?_
  refine rz_aload_n 0 d_Rs_takeText_0 rfl rfl ?_
  refine rz_getf f_Rs_10 hx h0 d_Rs_takeText_1 ?_
  obtain ⟨fso2, so2⟩ := hSb.ob
  refine rz_callV (As := []) (c_Sb_toString hSb) m_Rs_212 so2 rfl rfl rfl rfl (Nat.le_of_ble_eq_true rfl) ⟨by decide, by decide⟩ ⟨by decide, by decide⟩ d_Rs_takeText_4 (kR (h := h) fun s1 h1 q1 => ?_)
  obtain ⟨hs1, G1⟩ := q1
  have F3 : rz_fr [31, 32] h h1 := rz_fr.rf.tr (G1.mono (by decide))
  have fc_4_0 : h1 x = some ((30, 0), .inr (7, fs)) := G1 _ _ _ hx (by simp)
  have hSb_4 : SbC Γ h1 sb n f 0 := SbC.fd hSb G1 (by decide)
  refine rz_astore_n [(1, .ref s1), (0, .ref x)] d_Rs_takeText_7 rfl (by decide) rfl ?_
  refine rz_aload_n 1 d_Rs_takeText_8 rfl rfl ?_
  refine rz_getf f_Rs_10 fc_4_0 h0 d_Rs_takeText_9 ?_
  refine rz_iconst d_Rs_takeText_12 ?_
  obtain ⟨fso6, so6⟩ := hSb_4.ob
  refine rz_callV (As := [vi 0]) (c_Sb_setLength hSb_4 (f' := f')) m_Rs_82 so6 rfl rfl rfl rfl (Nat.le_of_ble_eq_true rfl) ⟨by decide, by decide⟩ ⟨by decide, by decide⟩ d_Rs_takeText_13 (kV (h := h1) fun h5 q5 => ?_)
  obtain ⟨hSb_5, G5⟩ := q5
  have F7 : rz_fr [31, 32] h h5 := F3.tr (G5.mono (by decide))
  have fc_8_0 : h5 x = some ((30, 0), .inr (7, fs)) := G5 _ _ _ fc_4_0 (show 30 ∉ ([31, 32] : List Nat) by decide)
  have hs1_8 : StrAt Γ h5 s1 n f 1 := StrAt.fr hs1 G5 (by decide)
  refine rz_aload_n 0 d_Rs_takeText_16 rfl rfl ?_
  exact rz_areturn (st := []) (r := some s1) rfl (Or.inl ⟨_, rfl⟩) d_Rs_takeText_17 ⟨by decide, by decide⟩ ⟨s1, rfl, hs1_8, hSb_5, F7⟩

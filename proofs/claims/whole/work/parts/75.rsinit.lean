/-! the class's beginning -/
def SeX (Γ : rz_G) (h : rz_H) (se : Nat) : Prop := ∃ B S, SeAt Γ h se B S
theorem SeX.fr {Γ : rz_G} {h h' : rz_H} {se : Nat} {rs : List Nat} (ha : SeX Γ h se) (hf : rz_fr rs h h') (hr : ∀ r ∈ rs, r < 40 ∨ 70 ≤ r) : SeX Γ h' se := by
  obtain ⟨B, S, a⟩ := ha; exact ⟨B, S, a.fr hf hr⟩
/-- the plugins made so far -/
def PsB (Γ : rz_G) (h : rz_H) (pa : Nat) (A : Nat → Int → Nat) (p : Int) : Prop := (∃ f, h pa = some ((33, 0), aR Γ 5 6 f) ∧ ∀ j, 0 ≤ j → j < p → f j = some (A 0 j)) ∧ ∀ j, 0 ≤ j → j < p → PlAt Γ h A M0 (fun d => d) j
theorem PsB.fr {Γ : rz_G} {h h' : rz_H} {pa : Nat} {A : Nat → Int → Nat} {p : Int} {rs : List Nat} (ha : PsB Γ h pa A p) (hf : rz_fr rs h h') (hr : ∀ r ∈ rs, 39 ≤ r) : PsB Γ h' pa A p := by
  obtain ⟨⟨f, a, b⟩, c⟩ := ha
  exact ⟨⟨f, hf _ _ _ a (fun z => by have := hr _ z; omega), b⟩, fun j x y => (c j x y).fr hf (fun r q => by have := hr r q; omega)⟩
theorem rz_fo.t1 {h h' : rz_H} {a : Nat} {t : Nat × Nat} {e : va_E} (hf : rz_fo a h h') (ha : h a = some (t, e)) : rz_ft [t] h h' := fun q t' e' hq hn => hf q (t', e') (fun z => by rw [z, ha] at hq; cases hq; exact hn (by simp)) hq
theorem rz_fo.f1 {v a : Nat} {h h1 h2 : rz_H} (f : rz_fo v h h1) (g : rz_fo a h1 h2) (ha : h a = none) : rz_fo v h h2 := fun q x p r => g q x (fun z => by rw [z, ha] at r; cases r) (f q x p r)
theorem AlAt.b0 {Γ : rz_G} {h : rz_H} {a o n : Nat} {e e' : Int → Option Nat} (ha : AlAt Γ h a o n e) (hn : n = 0) {m : Nat} (hm : m = 0) : AlAt Γ h a o m e' := by
  subst hn; subst hm; exact ha.e0
theorem PsB.st {Γ : rz_G} {h h' : rz_H} {pa q rl fa : Nat} {A : Nat → Int → Nat} {p : Int} {f : Int → Option Nat} {g : Int → Int} (h0 : 0 ≤ p) (hp : h pa = some ((33, 0), aR Γ 5 6 f)) (hb : ∀ j, 0 ≤ j → j < p → f j = some (A 0 j)) (hc : ∀ j, 0 ≤ j → j < p → PlAt Γ h A M0 (fun d => d) j) (hf : rz_fo pa h h') (hp' : h' pa = some ((33, 0), aR Γ 5 6 (rz_u f p (some q)))) (hq : h' q = some ((34, p.toNat), .inr (6, [.ref rl, .ref fa]))) (hl : AlAt Γ h' rl p.toNat 0 (fun _ => none)) (hg : h' fa = some ((37, p.toNat), aI Γ 0 4 g)) (hg2 : ∀ d, 0 ≤ d → d < 4 → g d = d) : PsB Γ h' pa (fun c j => if j = p then (if c = 0 then q else if c = 1 then rl else fa) else A c j) (p + 1) := by
  refine ⟨⟨_, hp', fun j a b => ?_⟩, fun j a b => ?_⟩
  · by_cases e : j = p
    · subst e; simp [rz_u]
    · simp only [rz_u, e, if_false]
      exact hb j a (by omega)
  · by_cases e : j = p
    · subst e
      refine ⟨?_, ?_, ⟨g, ?_, hg2⟩, fun r r0 r1 => ?_⟩
      · simpa using hq
      · simp only [if_true, show (1 : Nat) ≠ 0 from by decide, if_false]
        exact hl.b0 rfl rfl
      · simpa using hg
      · have : r < 0 := r1
        omega
    · have hj := (hc j a (by omega)).ft (hf.t1 hp) (by simp) (by simp) (fun r r0 r1 => by have : r < 0 := r1; omega)
      refine ⟨?_, ?_, ?_, fun r r0 r1 => ?_⟩
      · simp only [e, if_false]; exact hj.ob
      · simp only [e, if_false]; exact hj.rl.b0 rfl rfl
      · simp only [e, if_false]; exact hj.fa
      · have : r < 0 := r1
        omega
theorem ver_0 : ver (mAt M0 1) 0 (1 : Nat) = true := by decide
theorem st_1 {Γ : rz_G} {h : rz_H} (hk : KsAt Γ h) : StrAt Γ h (Γ.2.2.2.2 10) 1 (mAt M0 1) 1 := hk.2.2.1.c (fun j a b => by
  have : j = 0 := by omega
  subst this; rfl)
theorem RsAt.mk0 {Γ : rz_G} {h : rz_H} {x sb pa al se ve sl : Nat} {A : Nat → Int → Nat} {p : Int} {g : Int → Int} (h0 : h x = some ((30, 0), .inr (7, [.ref sb, .ref pa, .ref al, .ref se, .ref ve, vi 0, .ref sl, vi 0]))) (hs : SbC Γ h sb 0 (mAt M0 0) 0) (hp : PsB Γ h pa A p) (h6 : 6 ≤ p) (ha : AlAt Γ h al 6 0 (fun _ => none)) (he : SeX Γ h se) (hv : VeAt Γ h ve (vR (mAt M0 1) 0 (1 : Nat)) (vP (mAt M0 1) 0 (1 : Nat))) (hg : h sl = some ((39, 0), aI Γ 0 6 g)) (hg2 : ∀ j, 0 ≤ j → j < ((6 : Nat) : Int) → g j = -4) (hk : KsAt Γ h) : ∃ A B S, RsAt Γ h x A B S M0 (fun _ d => d) := by
  obtain ⟨B, S, he⟩ := he
  refine ⟨fun c j => if c = 11 then sb else if c = 12 then pa else if c = 13 then al else if c = 14 then se else if c = 15 then ve else if c = 16 then sl else A c j, B, S, ⟨0, h0, 0, rfl, by decide, fun i _ => ?_⟩, hs, ?_, ⟨ha.b0 rfl rfl, fun a a0 a1 => ?_⟩, he, hv, ⟨g, hg, fun p p0 p1 => ?_⟩, hk⟩
  · have : blF4 M0 i = false := rfl
    rw [this, Nat.zero_testBit]
  · obtain ⟨⟨f, a, b⟩, c⟩ := hp
    exact ⟨⟨f, a, fun j x y => b j x (by omega)⟩, fun j x y => c j x (by omega)⟩
  · have : a < 0 := a1
    omega
  · exact hg2 p p0 p1
abbrev rm_Rs_init : Room := { frames := 7, cells := 101, slots := 919, locals := 181 }
set_option maxRecDepth 100000 in
set_option maxHeartbeats 4000000 in
theorem c_Rs_init {l : Launch} {Γ : rz_G} {h : rz_H} {x : Nat} (hx : h x = some ((30, 0), .inr (7, [.null, .null, .null, .null, .null, vi 0, .null, vi 0]))) (hk : KsAt Γ h) : Ct l Γ x_Rs_init y_Rs_init rm_Rs_init [.ref x] h (pV (fun h' => (∃ A B S, RsAt Γ h' x A B S M0 (fun _ d => d)) ∧ rz_fo x h h')) := by
  refine rz_met (by decide) rfl rfl (Nat.le_of_ble_eq_true rfl) (fun K _ => ?_)
  refine rz_Leq [(0, .ref x)] rfl ?_
  refine rz_aload_n 0 d_Rs_init_0 rfl rfl ?_
  refine rz_objInit oi_Rs oi_i oi_c (Nat.le_of_ble_eq_true rfl) (by decide) d_Rs_init_1 ?_
  refine rz_aload_n 0 d_Rs_init_4 rfl rfl ?_
  refine rz_new (ci := 1) (q0 := ("java/lang/StringBuilder", k_T1, 4)) (31, 0) (show (31 : Nat) ≠ 0 by decide) rfl rfl cl_Rs_7 ⟨by decide, by decide⟩ d_Rs_init_5 (fun q1 zq1 => ?_)
  refine rz_nm fun h2 eh2 => ?_
  have g2 : rz_fr [] h h2 := by rw [eh2]; exact rz_fr.nw zq1
  have z2 : h q1 = none := rz_fo.rf.nn zq1 (rz_ne zq1 hx)
  have F3 : rz_fo x h h2 := rz_fo.rf.fr g2
  have fc_4_0 : h2 x = some ((30, 0), .inr (7, [.null, .null, .null, .null, .null, vi 0, .null, vi 0])) := g2 _ _ _ hx (by simp)
  have hk_4 : KsAt Γ h2 := KsAt.fr hk g2 (by decide)
  have fn_2 : h2 q1 = some ((31, 0), .inr (1, [.null, vi 0, vi 0, vi 0])) := by rw [eh2]; exact rz_up_s _ _ _
  refine rz_dup d_Rs_init_8 rfl ?_
  refine rz_callI (As := []) (c_Sb_init (f := mAt M0 0) fn_2) m_Rs_9 rfl rfl (Nat.le_of_ble_eq_true rfl) ⟨by decide, by decide⟩ ⟨by decide, by decide⟩ d_Rs_init_9 (kV (h := h2) fun h5 q5 => ?_)
  obtain ⟨p5, G5⟩ := q5
  have R5 : rz_fr [31] h2 h5 := rz_fo.fr1 fn_2 G5
  have F5 : rz_fo x h h5 := fun a x p r => G5 a x (fun z => by rw [z, z2] at r; cases r) (F3 a x p r)
  have fc_6_0 : h5 x = some ((30, 0), .inr (7, [.null, .null, .null, .null, .null, vi 0, .null, vi 0])) := R5 _ _ _ fc_4_0 (show 30 ∉ ([31] : List Nat) by decide)
  have hk_6 : KsAt Γ h5 := KsAt.fr hk_4 R5 (by decide)
  have vq1_5 : SbC Γ h5 q1 0 (mAt M0 0) 0 := p5
  refine rz_putf (fp_Rs_10) fc_6_0 (show (30 : Nat) ≠ 0 by decide) rfl rfl (show 0 < 8 by decide) d_Rs_init_12 ?_
  refine rz_nm fun h7 eh7 => ?_
  have g7 : rz_fr [30] h5 h7 := by rw [eh7]; exact rz_fr.one fc_6_0
  have F8 : rz_fo x h h7 := by rw [eh7]; exact F5.up
  have hk_9 : KsAt Γ h7 := KsAt.fr hk_6 g7 (by decide)
  have vq1_9 : SbC Γ h7 q1 0 (mAt M0 0) 0 := SbC.fd vq1_5 g7 (by decide)
  have fu_7 : h7 x = some ((30, 0), .inr (7, [.ref q1, .null, .null, .null, .null, vi 0, .null, vi 0])) := by rw [eh7]; exact rz_up_s _ _ _
  refine rz_aload_n 0 d_Rs_init_15 rfl rfl ?_
  refine rz_bipush (v := 6) d_Rs_init_16 (by decide) ?_
  refine rz_anew (k := 5) 6 (33, 0) (show (33 : Nat) ≠ 0 by decide) rfl cl_Rs_16 (by decide) rfl (by decide) ⟨by decide, by decide⟩ d_Rs_init_18 (fun q10 zq10 => ?_)
  refine rz_nm fun h11 eh11 => ?_
  have g11 : rz_fr [] h7 h11 := by rw [eh11]; exact rz_fr.nw zq10
  have z11 : h q10 = none := F8.nn zq10 (rz_ne zq10 fu_7)
  have F12 : rz_fo x h h11 := F8.fr g11
  have fc_13_0 : h11 x = some ((30, 0), .inr (7, [.ref q1, .null, .null, .null, .null, vi 0, .null, vi 0])) := g11 _ _ _ fu_7 (by simp)
  have hk_13 : KsAt Γ h11 := KsAt.fr hk_9 g11 (by decide)
  have vq1_13 : SbC Γ h11 q1 0 (mAt M0 0) 0 := SbC.fd vq1_9 g11 (by decide)
  have fn_11 : h11 q10 = some ((33, 0), aR Γ 5 6 (fun _ => none)) := by rw [eh11]; exact rz_up_s _ _ _
  refine rz_putf (fp_Rs_18) fc_13_0 (show (30 : Nat) ≠ 0 by decide) rfl rfl (show 1 < 8 by decide) d_Rs_init_21 ?_
  refine rz_nm fun h14 eh14 => ?_
  have g14 : rz_fr [30] h11 h14 := by rw [eh14]; exact rz_fr.one fc_13_0
  have F15 : rz_fo x h h14 := by rw [eh14]; exact F12.up
  have fc_16_0 : h14 q10 = some ((33, 0), aR Γ 5 6 (fun _ => none)) := g14 _ _ _ fn_11 (show 33 ∉ ([30] : List Nat) by decide)
  have hk_16 : KsAt Γ h14 := KsAt.fr hk_13 g14 (by decide)
  have vq1_16 : SbC Γ h14 q1 0 (mAt M0 0) 0 := SbC.fd vq1_13 g14 (by decide)
  have fu_14 : h14 x = some ((30, 0), .inr (7, [.ref q1, .ref q10, .null, .null, .null, vi 0, .null, vi 0])) := by rw [eh14]; exact rz_up_s _ _ _
  refine rz_aload_n 0 d_Rs_init_24 rfl rfl ?_
  refine rz_new (ci := 2) (q0 := ("java/util/ArrayList", k_T2, 3)) (35, 6) (show (35 : Nat) ≠ 0 by decide) rfl rfl cl_Rs_22 ⟨by decide, by decide⟩ d_Rs_init_25 (fun q17 zq17 => ?_)
  refine rz_nm fun h18 eh18 => ?_
  have g18 : rz_fr [] h14 h18 := by rw [eh18]; exact rz_fr.nw zq17
  have z18 : h q17 = none := F15.nn zq17 (rz_ne zq17 fu_14)
  have F19 : rz_fo x h h18 := F15.fr g18
  have fc_20_0 : h18 q10 = some ((33, 0), aR Γ 5 6 (fun _ => none)) := g18 _ _ _ fc_16_0 (by simp)
  have fc_20_1 : h18 x = some ((30, 0), .inr (7, [.ref q1, .ref q10, .null, .null, .null, vi 0, .null, vi 0])) := g18 _ _ _ fu_14 (by simp)
  have hk_20 : KsAt Γ h18 := KsAt.fr hk_16 g18 (by decide)
  have vq1_20 : SbC Γ h18 q1 0 (mAt M0 0) 0 := SbC.fd vq1_16 g18 (by decide)
  have fn_18 : h18 q17 = some ((35, 6), .inr (2, [.null, vi 0, vi 0])) := by rw [eh18]; exact rz_up_s _ _ _
  refine rz_dup d_Rs_init_28 rfl ?_
  refine rz_callI (As := []) (c_Al_init (e := fun _ => none) fn_18 hk_20.2.2.2) m_Rs_24 rfl rfl (Nat.le_of_ble_eq_true rfl) ⟨by decide, by decide⟩ ⟨by decide, by decide⟩ d_Rs_init_29 (kV (h := h18) fun h21 q21 => ?_)
  obtain ⟨p21, G21⟩ := q21
  have R21 : rz_fr [35] h18 h21 := rz_fo.fr1 fn_18 G21
  have F21 : rz_fo x h h21 := fun a x p r => G21 a x (fun z => by rw [z, z18] at r; cases r) (F19 a x p r)
  have fc_22_0 : h21 q10 = some ((33, 0), aR Γ 5 6 (fun _ => none)) := R21 _ _ _ fc_20_0 (show 33 ∉ ([35] : List Nat) by decide)
  have fc_22_1 : h21 x = some ((30, 0), .inr (7, [.ref q1, .ref q10, .null, .null, .null, vi 0, .null, vi 0])) := R21 _ _ _ fc_20_1 (show 30 ∉ ([35] : List Nat) by decide)
  have hk_22 : KsAt Γ h21 := KsAt.fr hk_20 R21 (by decide)
  have vq1_22 : SbC Γ h21 q1 0 (mAt M0 0) 0 := SbC.fd vq1_20 R21 (by decide)
  have vq17_21 : AlAt Γ h21 q17 6 0 (fun _ => none) := p21
  refine rz_putf (fp_Rs_25) fc_22_1 (show (30 : Nat) ≠ 0 by decide) rfl rfl (show 2 < 8 by decide) d_Rs_init_32 ?_
  refine rz_nm fun h23 eh23 => ?_
  have g23 : rz_fr [30] h21 h23 := by rw [eh23]; exact rz_fr.one fc_22_1
  have F24 : rz_fo x h h23 := by rw [eh23]; exact F21.up
  have fc_25_0 : h23 q10 = some ((33, 0), aR Γ 5 6 (fun _ => none)) := g23 _ _ _ fc_22_0 (show 33 ∉ ([30] : List Nat) by decide)
  have hk_25 : KsAt Γ h23 := KsAt.fr hk_22 g23 (by decide)
  have vq1_25 : SbC Γ h23 q1 0 (mAt M0 0) 0 := SbC.fd vq1_22 g23 (by decide)
  have vq17_25 : AlAt Γ h23 q17 6 0 (fun _ => none) := AlAt.f5 vq17_21 g23 (by decide)
  have fu_23 : h23 x = some ((30, 0), .inr (7, [.ref q1, .ref q10, .ref q17, .null, .null, vi 0, .null, vi 0])) := by rw [eh23]; exact rz_up_s _ _ _
  refine rz_aload_n 0 d_Rs_init_35 rfl rfl ?_
  refine rz_new (ci := 4) (q0 := ("ReleaseSolver$Search", k_T4, 9)) (40, 0) (show (40 : Nat) ≠ 0 by decide) rfl rfl cl_Rs_29 ⟨by decide, by decide⟩ d_Rs_init_36 (fun q26 zq26 => ?_)
  refine rz_nm fun h27 eh27 => ?_
  have g27 : rz_fr [] h23 h27 := by rw [eh27]; exact rz_fr.nw zq26
  have z27 : h q26 = none := F24.nn zq26 (rz_ne zq26 fu_23)
  have F28 : rz_fo x h h27 := F24.fr g27
  have fc_29_0 : h27 q10 = some ((33, 0), aR Γ 5 6 (fun _ => none)) := g27 _ _ _ fc_25_0 (by simp)
  have fc_29_1 : h27 x = some ((30, 0), .inr (7, [.ref q1, .ref q10, .ref q17, .null, .null, vi 0, .null, vi 0])) := g27 _ _ _ fu_23 (by simp)
  have hk_29 : KsAt Γ h27 := KsAt.fr hk_25 g27 (by decide)
  have vq1_29 : SbC Γ h27 q1 0 (mAt M0 0) 0 := SbC.fd vq1_25 g27 (by decide)
  have vq17_29 : AlAt Γ h27 q17 6 0 (fun _ => none) := AlAt.f5 vq17_25 g27 (by decide)
  have fn_27 : h27 q26 = some ((40, 0), .inr (4, [.null, .null, .null, .null, .null, .null, vi 0, vi 0, .null])) := by rw [eh27]; exact rz_up_s _ _ _
  refine rz_dup d_Rs_init_39 rfl ?_
  refine rz_callI (As := []) (c_Se_init fn_27) m_Rs_31 rfl rfl (Nat.le_of_ble_eq_true rfl) ⟨by decide, by decide⟩ ⟨by decide, by decide⟩ d_Rs_init_40 (kV (h := h27) fun h30 q30 => ?_)
  obtain ⟨p30, G30⟩ := q30
  have R30 : rz_fr [40] h27 h30 := rz_fo.fr1 fn_27 G30
  have F30 : rz_fo x h h30 := fun a x p r => G30 a x (fun z => by rw [z, z27] at r; cases r) (F28 a x p r)
  have fc_31_0 : h30 q10 = some ((33, 0), aR Γ 5 6 (fun _ => none)) := R30 _ _ _ fc_29_0 (show 33 ∉ ([40] : List Nat) by decide)
  have fc_31_1 : h30 x = some ((30, 0), .inr (7, [.ref q1, .ref q10, .ref q17, .null, .null, vi 0, .null, vi 0])) := R30 _ _ _ fc_29_1 (show 30 ∉ ([40] : List Nat) by decide)
  have hk_31 : KsAt Γ h30 := KsAt.fr hk_29 R30 (by decide)
  have vq1_31 : SbC Γ h30 q1 0 (mAt M0 0) 0 := SbC.fd vq1_29 R30 (by decide)
  have vq17_31 : AlAt Γ h30 q17 6 0 (fun _ => none) := AlAt.f5 vq17_29 R30 (by decide)
  have vq26_30 : SeX Γ h30 q26 := p30
  refine rz_putf (fp_Rs_32) fc_31_1 (show (30 : Nat) ≠ 0 by decide) rfl rfl (show 3 < 8 by decide) d_Rs_init_43 ?_
  refine rz_nm fun h32 eh32 => ?_
  have g32 : rz_fr [30] h30 h32 := by rw [eh32]; exact rz_fr.one fc_31_1
  have F33 : rz_fo x h h32 := by rw [eh32]; exact F30.up
  have fc_34_0 : h32 q10 = some ((33, 0), aR Γ 5 6 (fun _ => none)) := g32 _ _ _ fc_31_0 (show 33 ∉ ([30] : List Nat) by decide)
  have hk_34 : KsAt Γ h32 := KsAt.fr hk_31 g32 (by decide)
  have vq1_34 : SbC Γ h32 q1 0 (mAt M0 0) 0 := SbC.fd vq1_31 g32 (by decide)
  have vq17_34 : AlAt Γ h32 q17 6 0 (fun _ => none) := AlAt.f5 vq17_31 g32 (by decide)
  have vq26_34 : SeX Γ h32 q26 := SeX.fr vq26_30 g32 (by decide)
  have fu_32 : h32 x = some ((30, 0), .inr (7, [.ref q1, .ref q10, .ref q17, .ref q26, .null, vi 0, .null, vi 0])) := by rw [eh32]; exact rz_up_s _ _ _
  refine rz_aload_n 0 d_Rs_init_46 rfl rfl ?_
  refine rz_new (ci := 5) (q0 := ("ReleaseSolver$Version", k_T5, 2)) (3, 0) (show (3 : Nat) ≠ 0 by decide) rfl rfl cl_Rs_36 ⟨by decide, by decide⟩ d_Rs_init_47 (fun q35 zq35 => ?_)
  refine rz_nm fun h36 eh36 => ?_
  have g36 : rz_fr [] h32 h36 := by rw [eh36]; exact rz_fr.nw zq35
  have z36 : h q35 = none := F33.nn zq35 (rz_ne zq35 fu_32)
  have F37 : rz_fo x h h36 := F33.fr g36
  have fc_38_0 : h36 q10 = some ((33, 0), aR Γ 5 6 (fun _ => none)) := g36 _ _ _ fc_34_0 (by simp)
  have fc_38_1 : h36 x = some ((30, 0), .inr (7, [.ref q1, .ref q10, .ref q17, .ref q26, .null, vi 0, .null, vi 0])) := g36 _ _ _ fu_32 (by simp)
  have hk_38 : KsAt Γ h36 := KsAt.fr hk_34 g36 (by decide)
  have vq1_38 : SbC Γ h36 q1 0 (mAt M0 0) 0 := SbC.fd vq1_34 g36 (by decide)
  have vq17_38 : AlAt Γ h36 q17 6 0 (fun _ => none) := AlAt.f5 vq17_34 g36 (by decide)
  have vq26_38 : SeX Γ h36 q26 := SeX.fr vq26_34 g36 (by decide)
  have fn_36 : h36 q35 = some ((3, 0), .inr (5, [.null, .null])) := by rw [eh36]; exact rz_up_s _ _ _
  refine rz_dup d_Rs_init_50 rfl ?_
  refine rz_ldcS (s_Rs_38 Γ.2.2.2.2) d_Rs_init_51 ?_
  refine rz_callI (As := [.ref (Γ.2.2.2.2 10)]) (c_Ve_init fn_36 (st_1 hk_38) hk_38 ver_0) m_Rs_40 rfl rfl (Nat.le_of_ble_eq_true rfl) ⟨by decide, by decide⟩ ⟨by decide, by decide⟩ d_Rs_init_53 (kV (h := h36) fun h39 q39 => ?_)
  obtain ⟨p39, G39⟩ := q39
  have R39 : rz_fr [3] h36 h39 := rz_fo.fr1 fn_36 G39
  have F39 : rz_fo x h h39 := fun a x p r => G39 a x (fun z => by rw [z, z36] at r; cases r) (F37 a x p r)
  have fc_40_0 : h39 q10 = some ((33, 0), aR Γ 5 6 (fun _ => none)) := R39 _ _ _ fc_38_0 (show 33 ∉ ([3] : List Nat) by decide)
  have fc_40_1 : h39 x = some ((30, 0), .inr (7, [.ref q1, .ref q10, .ref q17, .ref q26, .null, vi 0, .null, vi 0])) := R39 _ _ _ fc_38_1 (show 30 ∉ ([3] : List Nat) by decide)
  have hk_40 : KsAt Γ h39 := KsAt.fr hk_38 R39 (by decide)
  have vq1_40 : SbC Γ h39 q1 0 (mAt M0 0) 0 := SbC.fd vq1_38 R39 (by decide)
  have vq17_40 : AlAt Γ h39 q17 6 0 (fun _ => none) := AlAt.f5 vq17_38 R39 (by decide)
  have vq26_40 : SeX Γ h39 q26 := SeX.fr vq26_38 R39 (by decide)
  have vq35_39 : VeAt Γ h39 q35 (vR (mAt M0 1) 0 (1 : Nat)) (vP (mAt M0 1) 0 (1 : Nat)) := p39
  refine rz_putf (fp_Rs_43 _) fc_40_1 (show (30 : Nat) ≠ 0 by decide) rfl rfl (show 4 < 8 by decide) d_Rs_init_56 ?_
  refine rz_nm fun h41 eh41 => ?_
  have g41 : rz_fr [30] h39 h41 := by rw [eh41]; exact rz_fr.one fc_40_1
  have F42 : rz_fo x h h41 := by rw [eh41]; exact F39.up
  have fc_43_0 : h41 q10 = some ((33, 0), aR Γ 5 6 (fun _ => none)) := g41 _ _ _ fc_40_0 (show 33 ∉ ([30] : List Nat) by decide)
  have hk_43 : KsAt Γ h41 := KsAt.fr hk_40 g41 (by decide)
  have vq1_43 : SbC Γ h41 q1 0 (mAt M0 0) 0 := SbC.fd vq1_40 g41 (by decide)
  have vq17_43 : AlAt Γ h41 q17 6 0 (fun _ => none) := AlAt.f5 vq17_40 g41 (by decide)
  have vq26_43 : SeX Γ h41 q26 := SeX.fr vq26_40 g41 (by decide)
  have vq35_43 : VeAt Γ h41 q35 (vR (mAt M0 1) 0 (1 : Nat)) (vP (mAt M0 1) 0 (1 : Nat)) := VeAt.fr vq35_39 g41 (by decide)
  have fu_41 : h41 x = some ((30, 0), .inr (7, [.ref q1, .ref q10, .ref q17, .ref q26, .ref q35, vi 0, .null, vi 0])) := by rw [eh41]; exact rz_up_s _ _ _
  refine rz_aload_n 0 d_Rs_init_59 rfl rfl ?_
  refine rz_iconst d_Rs_init_60 ?_
  refine rz_putf (fp_Rs_47 _) fu_41 (show (30 : Nat) ≠ 0 by decide) rfl rfl (show 5 < 8 by decide) d_Rs_init_61 ?_
  refine rz_nm fun h44 eh44 => ?_
  have g44 : rz_fr [30] h41 h44 := by rw [eh44]; exact rz_fr.one fu_41
  have F45 : rz_fo x h h44 := by rw [eh44]; exact F42.up
  have fc_46_0 : h44 q10 = some ((33, 0), aR Γ 5 6 (fun _ => none)) := g44 _ _ _ fc_43_0 (show 33 ∉ ([30] : List Nat) by decide)
  have hk_46 : KsAt Γ h44 := KsAt.fr hk_43 g44 (by decide)
  have vq1_46 : SbC Γ h44 q1 0 (mAt M0 0) 0 := SbC.fd vq1_43 g44 (by decide)
  have vq17_46 : AlAt Γ h44 q17 6 0 (fun _ => none) := AlAt.f5 vq17_43 g44 (by decide)
  have vq26_46 : SeX Γ h44 q26 := SeX.fr vq26_43 g44 (by decide)
  have vq35_46 : VeAt Γ h44 q35 (vR (mAt M0 1) 0 (1 : Nat)) (vP (mAt M0 1) 0 (1 : Nat)) := VeAt.fr vq35_43 g44 (by decide)
  have fu_44 : h44 x = some ((30, 0), .inr (7, [.ref q1, .ref q10, .ref q17, .ref q26, .ref q35, vi 0, .null, vi 0])) := by rw [eh44]; exact rz_up_s _ _ _
  refine rz_aload_n 0 d_Rs_init_64 rfl rfl ?_
  refine rz_bipush (v := 6) d_Rs_init_65 (by decide) ?_
  refine rz_newI 6 (39, 0) (show (39 : Nat) ≠ 0 by decide) aw_int rfl (by decide) ⟨by decide, by decide⟩ d_Rs_init_67 (fun q47 zq47 => ?_)
  refine rz_nm fun h48 eh48 => ?_
  have g48 : rz_fr [] h44 h48 := by rw [eh48]; exact rz_fr.nw zq47
  have z48 : h q47 = none := F45.nn zq47 (rz_ne zq47 fu_44)
  have F49 : rz_fo x h h48 := F45.fr g48
  have fc_50_0 : h48 q10 = some ((33, 0), aR Γ 5 6 (fun _ => none)) := g48 _ _ _ fc_46_0 (by simp)
  have fc_50_1 : h48 x = some ((30, 0), .inr (7, [.ref q1, .ref q10, .ref q17, .ref q26, .ref q35, vi 0, .null, vi 0])) := g48 _ _ _ fu_44 (by simp)
  have hk_50 : KsAt Γ h48 := KsAt.fr hk_46 g48 (by decide)
  have vq1_50 : SbC Γ h48 q1 0 (mAt M0 0) 0 := SbC.fd vq1_46 g48 (by decide)
  have vq17_50 : AlAt Γ h48 q17 6 0 (fun _ => none) := AlAt.f5 vq17_46 g48 (by decide)
  have vq26_50 : SeX Γ h48 q26 := SeX.fr vq26_46 g48 (by decide)
  have vq35_50 : VeAt Γ h48 q35 (vR (mAt M0 1) 0 (1 : Nat)) (vP (mAt M0 1) 0 (1 : Nat)) := VeAt.fr vq35_46 g48 (by decide)
  have fn_48 : h48 q47 = some ((39, 0), aI Γ 0 6 (fun _ => 0)) := by rw [eh48]; exact rz_up_s _ _ _
  refine rz_putf (fp_Rs_51) fc_50_1 (show (30 : Nat) ≠ 0 by decide) rfl rfl (show 6 < 8 by decide) d_Rs_init_69 ?_
  refine rz_nm fun h51 eh51 => ?_
  have g51 : rz_fr [30] h48 h51 := by rw [eh51]; exact rz_fr.one fc_50_1
  have F52 : rz_fo x h h51 := by rw [eh51]; exact F49.up
  have fc_53_0 : h51 q10 = some ((33, 0), aR Γ 5 6 (fun _ => none)) := g51 _ _ _ fc_50_0 (show 33 ∉ ([30] : List Nat) by decide)
  have fc_53_1 : h51 q47 = some ((39, 0), aI Γ 0 6 (fun _ => 0)) := g51 _ _ _ fn_48 (show 39 ∉ ([30] : List Nat) by decide)
  have hk_53 : KsAt Γ h51 := KsAt.fr hk_50 g51 (by decide)
  have vq1_53 : SbC Γ h51 q1 0 (mAt M0 0) 0 := SbC.fd vq1_50 g51 (by decide)
  have vq17_53 : AlAt Γ h51 q17 6 0 (fun _ => none) := AlAt.f5 vq17_50 g51 (by decide)
  have vq26_53 : SeX Γ h51 q26 := SeX.fr vq26_50 g51 (by decide)
  have vq35_53 : VeAt Γ h51 q35 (vR (mAt M0 1) 0 (1 : Nat)) (vP (mAt M0 1) 0 (1 : Nat)) := VeAt.fr vq35_50 g51 (by decide)
  have fu_51 : h51 x = some ((30, 0), .inr (7, [.ref q1, .ref q10, .ref q17, .ref q26, .ref q35, vi 0, .ref q47, vi 0])) := by rw [eh51]; exact rz_up_s _ _ _
  refine rz_aload_n 0 d_Rs_init_72 rfl rfl ?_
  refine rz_iconst d_Rs_init_73 ?_
  refine rz_putf (fp_Rs_55 _) fu_51 (show (30 : Nat) ≠ 0 by decide) rfl rfl (show 7 < 8 by decide) d_Rs_init_74 ?_
  refine rz_nm fun h54 eh54 => ?_
  have g54 : rz_fr [30] h51 h54 := by rw [eh54]; exact rz_fr.one fu_51
  have F55 : rz_fo x h h54 := by rw [eh54]; exact F52.up
  have fc_56_0 : h54 q10 = some ((33, 0), aR Γ 5 6 (fun _ => none)) := g54 _ _ _ fc_53_0 (show 33 ∉ ([30] : List Nat) by decide)
  have fc_56_1 : h54 q47 = some ((39, 0), aI Γ 0 6 (fun _ => 0)) := g54 _ _ _ fc_53_1 (show 39 ∉ ([30] : List Nat) by decide)
  have hk_56 : KsAt Γ h54 := KsAt.fr hk_53 g54 (by decide)
  have vq1_56 : SbC Γ h54 q1 0 (mAt M0 0) 0 := SbC.fd vq1_53 g54 (by decide)
  have vq17_56 : AlAt Γ h54 q17 6 0 (fun _ => none) := AlAt.f5 vq17_53 g54 (by decide)
  have vq26_56 : SeX Γ h54 q26 := SeX.fr vq26_53 g54 (by decide)
  have vq35_56 : VeAt Γ h54 q35 (vR (mAt M0 1) 0 (1 : Nat)) (vP (mAt M0 1) 0 (1 : Nat)) := VeAt.fr vq35_53 g54 (by decide)
  have fu_54 : h54 x = some ((30, 0), .inr (7, [.ref q1, .ref q10, .ref q17, .ref q26, .ref q35, vi 0, .ref q47, vi 0])) := by rw [eh54]; exact rz_up_s _ _ _
  refine rz_iconst d_Rs_init_77 ?_
  refine rz_istore_n [(1, vi 0), (0, .ref x)] d_Rs_init_78 rfl (by decide) rfl ?_
  refine rz_loopA (α := Int × rz_H × (Nat → Int → Nat)) (fun (p, hp, A) => 83 + 3 * p.toNat) (fun (p, hp, A) => 865 + 9 * p.toNat) 79 (fun (p, hp, A) => (6 - p).toNat) (fun (p, hp, A) => (0 ≤ p ∧ p ≤ 6) ∧ rz_fo q10 h54 hp ∧ PsB Γ hp q10 A p) (fun (p, hp, A) => [(1, vi p), (0, .ref x)]) (fun (p, hp, A) => []) (fun (p, hp, A) => hp) (fun y hy ih79 => ?_) (fun LP => ?_)
  · obtain ⟨p, hp, A⟩ := y
    try dsimp only at hy ih79 ⊢
    obtain ⟨hp6, hF, hPB⟩ := hy
    have R79 : rz_fr [33] h54 hp := rz_fo.fr1 fc_56_0 hF
    have fc_57_0 : hp q47 = some ((39, 0), aI Γ 0 6 (fun _ => 0)) := R79 _ _ _ fc_56_1 (show 39 ∉ ([33] : List Nat) by decide)
    have fc_57_1 : hp x = some ((30, 0), .inr (7, [.ref q1, .ref q10, .ref q17, .ref q26, .ref q35, vi 0, .ref q47, vi 0])) := R79 _ _ _ fu_54 (show 30 ∉ ([33] : List Nat) by decide)
    have hk_57 : KsAt Γ hp := KsAt.fr hk_56 R79 (by decide)
    have vq1_57 : SbC Γ hp q1 0 (mAt M0 0) 0 := SbC.fd vq1_56 R79 (by decide)
    have vq17_57 : AlAt Γ hp q17 6 0 (fun _ => none) := AlAt.f5 vq17_56 R79 (by decide)
    have vq26_57 : SeX Γ hp q26 := SeX.fr vq26_56 R79 (by decide)
    have vq35_57 : VeAt Γ hp q35 (vR (mAt M0 1) 0 (1 : Nat)) (vP (mAt M0 1) 0 (1 : Nat)) := VeAt.fr vq35_56 R79 (by decide)
    obtain ⟨⟨f79, a79, b79⟩, d79⟩ := id hPB
    refine rz_iload_n 0 d_Rs_init_79 rfl rfl ?_
    refine rz_bipush (v := 6) d_Rs_init_80 (by decide) ?_
    refine rz_icmp_ge 104 d_Rs_init_82 (by decide) (by omega) ⟨by decide, by decide⟩ (fun c82 => ?_) (fun c82 => ?_)
    · have F104 : rz_fo x h hp := rz_fo.f1 F55 hF z11
      refine rz_aload_n 1 d_Rs_init_104 rfl rfl ?_
      refine rz_getf f_Rs_51 fc_57_1 rfl d_Rs_init_105 ?_
      refine rz_bipush (v := (-4)) d_Rs_init_108 (by decide) ?_
      refine rz_callS (As := [.ref q47, vi (-4)]) (c_Ar_fill fc_57_0 (by decide) (by decide) (v := (-4))) m_Rs_60 rfl rfl (Nat.le_of_ble_eq_true rfl) ⟨by decide, by decide⟩ ⟨by simp only [rm_Al_init, rm_Ar_fill, rm_Pl_init, rm_Rs_init, rm_Sb_init, rm_Se_init, rm_Ve_init]; omega, by simp only [rm_Al_init, rm_Ar_fill, rm_Pl_init, rm_Rs_init, rm_Sb_init, rm_Se_init, rm_Ve_init]; omega⟩ d_Rs_init_110 (kV (h := hp) fun h58 q58 => ?_)
      obtain ⟨g58, fa58, ea58, G58⟩ := q58
      have R58 : rz_fr [39] hp h58 := rz_fo.fr1 fc_57_0 G58
      have F58 : rz_fo x h h58 := rz_fo.f1 F104 G58 z48
      have fc_59_0 : h58 x = some ((30, 0), .inr (7, [.ref q1, .ref q10, .ref q17, .ref q26, .ref q35, vi 0, .ref q47, vi 0])) := R58 _ _ _ fc_57_1 (show 30 ∉ ([39] : List Nat) by decide)
      have fc_59_1 : h58 q10 = some ((33, 0), aR Γ 5 6 f79) := R58 _ _ _ a79 (show 33 ∉ ([39] : List Nat) by decide)
      have hk_59 : KsAt Γ h58 := KsAt.fr hk_57 R58 (by decide)
      have vq1_59 : SbC Γ h58 q1 0 (mAt M0 0) 0 := SbC.fd vq1_57 R58 (by decide)
      have vq17_59 : AlAt Γ h58 q17 6 0 (fun _ => none) := AlAt.f5 vq17_57 R58 (by decide)
      have vq26_59 : SeX Γ h58 q26 := SeX.fr vq26_57 R58 (by decide)
      have vq35_59 : VeAt Γ h58 q35 (vR (mAt M0 1) 0 (1 : Nat)) (vP (mAt M0 1) 0 (1 : Nat)) := VeAt.fr vq35_57 R58 (by decide)
      have hB58 := hPB.fr R58 (by decide)
      exact rz_return (st := []) rfl d_Rs_init_113 ⟨by simp only [rm_Al_init, rm_Ar_fill, rm_Pl_init, rm_Rs_init, rm_Sb_init, rm_Se_init, rm_Ve_init]; omega, by simp only [rm_Al_init, rm_Ar_fill, rm_Pl_init, rm_Rs_init, rm_Sb_init, rm_Se_init, rm_Ve_init]; omega⟩ ⟨rfl, RsAt.mk0 fc_59_0 vq1_59 hB58 (by omega) vq17_59 vq26_59 vq35_59 fa58 ea58 hk_59, F58⟩
    · refine rz_aload_n 1 d_Rs_init_85 rfl rfl ?_
      refine rz_getf f_Rs_18 fc_57_1 rfl d_Rs_init_86 ?_
      refine rz_iload_n 0 d_Rs_init_89 rfl rfl ?_
      refine rz_new (ci := 6) (q0 := ("ReleaseSolver$Plugin", k_T6, 2)) (34, p.toNat) (show (34 : Nat) ≠ 0 by decide) rfl rfl cl_Rs_16 ⟨by simp only [rm_Rs_init]; omega, by simp only [rm_Rs_init]; omega⟩ d_Rs_init_90 (fun q60 zq60 => ?_)
      refine rz_nm fun h61 eh61 => ?_
      have g61 : rz_fr [] hp h61 := by rw [eh61]; exact rz_fr.nw zq60
      have z61 : hp q60 = none := rz_fo.rf.nn zq60 (rz_ne zq60 a79)
      have F62 : rz_fo q10 hp h61 := rz_fo.rf.fr g61
      have fc_63_0 : h61 q47 = some ((39, 0), aI Γ 0 6 (fun _ => 0)) := g61 _ _ _ fc_57_0 (by simp)
      have fc_63_1 : h61 x = some ((30, 0), .inr (7, [.ref q1, .ref q10, .ref q17, .ref q26, .ref q35, vi 0, .ref q47, vi 0])) := g61 _ _ _ fc_57_1 (by simp)
      have fc_63_2 : h61 q10 = some ((33, 0), aR Γ 5 6 f79) := g61 _ _ _ a79 (by simp)
      have hk_63 : KsAt Γ h61 := KsAt.fr hk_57 g61 (by decide)
      have vq1_63 : SbC Γ h61 q1 0 (mAt M0 0) 0 := SbC.fd vq1_57 g61 (by decide)
      have vq17_63 : AlAt Γ h61 q17 6 0 (fun _ => none) := AlAt.f5 vq17_57 g61 (by decide)
      have vq26_63 : SeX Γ h61 q26 := SeX.fr vq26_57 g61 (by decide)
      have vq35_63 : VeAt Γ h61 q35 (vR (mAt M0 1) 0 (1 : Nat)) (vP (mAt M0 1) 0 (1 : Nat)) := VeAt.fr vq35_57 g61 (by decide)
      have fn_61 : h61 q60 = some ((34, p.toNat), .inr (6, [.null, .null])) := by rw [eh61]; exact rz_up_s _ _ _
      refine rz_dup d_Rs_init_93 rfl ?_
      refine rz_callI (As := []) (c_Pl_init (k := p.toNat) fn_61 hk_63) m_Rs_59 rfl rfl (Nat.le_of_ble_eq_true rfl) ⟨by decide, by decide⟩ ⟨by simp only [rm_Al_init, rm_Ar_fill, rm_Pl_init, rm_Rs_init, rm_Sb_init, rm_Se_init, rm_Ve_init]; omega, by simp only [rm_Al_init, rm_Ar_fill, rm_Pl_init, rm_Rs_init, rm_Sb_init, rm_Se_init, rm_Ve_init]; omega⟩ d_Rs_init_94 (kV (h := h61) fun h64 q64 => ?_)
      obtain ⟨p64, G64⟩ := q64
      have R64 : rz_fr [34] h61 h64 := rz_fo.fr1 fn_61 G64
      have F64 : rz_fo q10 hp h64 := fun a x p r => G64 a x (fun z => by rw [z, z61] at r; cases r) (F62 a x p r)
      have fc_65_0 : h64 q47 = some ((39, 0), aI Γ 0 6 (fun _ => 0)) := R64 _ _ _ fc_63_0 (show 39 ∉ ([34] : List Nat) by decide)
      have fc_65_1 : h64 x = some ((30, 0), .inr (7, [.ref q1, .ref q10, .ref q17, .ref q26, .ref q35, vi 0, .ref q47, vi 0])) := R64 _ _ _ fc_63_1 (show 30 ∉ ([34] : List Nat) by decide)
      have fc_65_2 : h64 q10 = some ((33, 0), aR Γ 5 6 f79) := R64 _ _ _ fc_63_2 (show 33 ∉ ([34] : List Nat) by decide)
      have hk_65 : KsAt Γ h64 := KsAt.fr hk_63 R64 (by decide)
      have vq1_65 : SbC Γ h64 q1 0 (mAt M0 0) 0 := SbC.fd vq1_63 R64 (by decide)
      have vq17_65 : AlAt Γ h64 q17 6 0 (fun _ => none) := AlAt.f5 vq17_63 R64 (by decide)
      have vq26_65 : SeX Γ h64 q26 := SeX.fr vq26_63 R64 (by decide)
      have vq35_65 : VeAt Γ h64 q35 (vR (mAt M0 1) 0 (1 : Nat)) (vP (mAt M0 1) 0 (1 : Nat)) := VeAt.fr vq35_63 R64 (by decide)
      have vq60_64 : ∃ rl fa g, h64 q60 = some ((34, p.toNat), .inr (6, [.ref rl, .ref fa])) ∧ AlAt Γ h64 rl p.toNat 0 (fun _ => none) ∧ h64 fa = some ((37, p.toNat), aI Γ 0 4 g) ∧ ∀ d, 0 ≤ d → d < 4 → g d = d := p64
      obtain ⟨rl66, fa66, g66, fq66, hL66, ff66, fg66⟩ := vq60_64
      refine rz_aastore fc_65_2 rfl (show (33 : Nat) ≠ 0 by decide) fq66 (show (34 : Nat) ≠ 0 by decide) rfl (Or.inl rfl) (by omega) d_Rs_init_97 ?_
      refine rz_nm fun h67 eh67 => ?_
      have g67 : rz_fr [33] h64 h67 := by rw [eh67]; exact rz_fr.one fc_65_2
      have F68 : rz_fo q10 hp h67 := by rw [eh67]; exact F64.up
      have fc_69_0 : h67 q47 = some ((39, 0), aI Γ 0 6 (fun _ => 0)) := g67 _ _ _ fc_65_0 (show 39 ∉ ([33] : List Nat) by decide)
      have fc_69_1 : h67 x = some ((30, 0), .inr (7, [.ref q1, .ref q10, .ref q17, .ref q26, .ref q35, vi 0, .ref q47, vi 0])) := g67 _ _ _ fc_65_1 (show 30 ∉ ([33] : List Nat) by decide)
      have fc_69_2 : h67 q60 = some ((34, p.toNat), .inr (6, [.ref rl66, .ref fa66])) := g67 _ _ _ fq66 (show 34 ∉ ([33] : List Nat) by decide)
      have fc_69_3 : h67 fa66 = some ((37, p.toNat), aI Γ 0 4 g66) := g67 _ _ _ ff66 (show 37 ∉ ([33] : List Nat) by decide)
      have hk_69 : KsAt Γ h67 := KsAt.fr hk_65 g67 (by decide)
      have vq1_69 : SbC Γ h67 q1 0 (mAt M0 0) 0 := SbC.fd vq1_65 g67 (by decide)
      have vq17_69 : AlAt Γ h67 q17 6 0 (fun _ => none) := AlAt.f5 vq17_65 g67 (by decide)
      have vq26_69 : SeX Γ h67 q26 := SeX.fr vq26_65 g67 (by decide)
      have vq35_69 : VeAt Γ h67 q35 (vR (mAt M0 1) 0 (1 : Nat)) (vP (mAt M0 1) 0 (1 : Nat)) := VeAt.fr vq35_65 g67 (by decide)
      have hL66_69 : AlAt Γ h67 rl66 p.toNat 0 (fun _ => none) := AlAt.f5 hL66 g67 (by decide)
      have fu_67 : h67 q10 = some ((33, 0), aR Γ 5 6 (rz_u f79 p (some q60))) := by rw [eh67]; exact rz_up_s _ _ _
      refine rz_iinc (p + 1) 0 [(1, vi (p + 1)), (0, .ref x)] d_Rs_init_98 rfl (by first | rfl | omega) (by decide) rfl ?_
      refine rz_goto 79 d_Rs_init_101 (by decide) ?_
      refine rz_Lsub [(1, vi (p + 1)), (0, .ref x)] [0, 1] rfl ?_
      have IH := ih79 (p + 1, h67, (fun c j => if j = p then (if c = 0 then q60 else if c = 1 then rl66 else fa66) else A c j)) ?_ ?_
      · exact Wk.widen (by first | omega | (dsimp only; omega)) (by first | omega | (dsimp only; omega)) IH
      · try dsimp only
        exact ⟨by omega, hF.tr F68, PsB.st (by omega) a79 b79 d79 F68 fu_67 fc_69_2 hL66_69 fc_69_3 fg66⟩
      · first | omega | (dsimp only; omega)
  · refine rz_Lsub [(1, vi 0), (0, .ref x)] [0, 1] rfl ?_
    have IH := LP (0, h54, (fun _ _ => 0)) ?_
    · exact Wk.widen (by first | omega | (dsimp only; omega)) (by first | omega | (dsimp only; omega)) IH
    · try dsimp only
      exact ⟨by decide, rz_fo.rf, ⟨⟨_, fc_56_0, fun j a b => absurd b (by omega)⟩, fun j a b => absurd b (by omega)⟩⟩

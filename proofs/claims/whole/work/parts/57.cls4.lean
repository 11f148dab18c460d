/-! the class: needs, asks, releases, plugins -/
abbrev rm_Nd_init : Room := { frames := 1, cells := 0, slots := 0, locals := 24 }
set_option maxRecDepth 100000 in
set_option maxHeartbeats 4000000 in
theorem c_Nd_init {l : Launch} {Γ : rz_G} {h : rz_H} {q r : Nat} {p : Int} {op : Bool} (hq : h q = some ((7, 0), .inr (10, [vi 0, .null, vi 0]))) : Ct l Γ x_Nd_init y_Nd_init rm_Nd_init [.ref q, vi p, .ref r, vi (bi op)] h (pV (fun h' => h' q = some ((7, 0), .inr (10, [vi p, .ref r, vi (bi op)])) ∧ rz_fo q h h')) := by
  refine rz_met (by decide) rfl rfl (Nat.le_of_ble_eq_true rfl) (fun K _ => ?_)
  refine rz_Leq [(0, .ref q), (1, vi p), (2, .ref r), (3, vi (bi op))] rfl ?_
  refine rz_aload_n 0 d_Nd_init_0 rfl rfl ?_
  refine rz_objInit oi_Nd oi_i oi_c (Nat.le_of_ble_eq_true rfl) (by decide) d_Nd_init_1 ?_
  refine rz_aload_n 0 d_Nd_init_4 rfl rfl ?_
  refine rz_iload_n 1 d_Nd_init_5 rfl rfl ?_
  refine rz_putf (fp_Nd_7) hq (show (7 : Nat) ≠ 0 by decide) rfl rfl (show 0 < 3 by decide) d_Nd_init_6 ?_
  refine rz_nm fun h1 eh1 => ?_
  have g1 : rz_fr [7] h h1 := by rw [eh1]; exact rz_fr.one hq
  have F2 : rz_fo q h h1 := by rw [eh1]; exact rz_fo.rf.up
  have fu_1 : h1 q = some ((7, 0), .inr (10, [vi p, .null, vi 0])) := by rw [eh1]; exact rz_up_s _ _ _
  refine rz_aload_n 0 d_Nd_init_9 rfl rfl ?_
  refine rz_aload_n 2 d_Nd_init_10 rfl rfl ?_
  refine rz_putf (fp_Nd_13) fu_1 (show (7 : Nat) ≠ 0 by decide) rfl rfl (show 1 < 3 by decide) d_Nd_init_11 ?_
  refine rz_nm fun h4 eh4 => ?_
  have g4 : rz_fr [7] h1 h4 := by rw [eh4]; exact rz_fr.one fu_1
  have F5 : rz_fo q h h4 := by rw [eh4]; exact F2.up
  have fu_4 : h4 q = some ((7, 0), .inr (10, [vi p, .ref r, vi 0])) := by rw [eh4]; exact rz_up_s _ _ _
  refine rz_aload_n 0 d_Nd_init_14 rfl rfl ?_
  refine rz_iload_n 3 d_Nd_init_15 rfl rfl ?_
  refine rz_putf (fp_Nd_17) fu_4 (show (7 : Nat) ≠ 0 by decide) (nz_b _) (fz_b _) (show 2 < 3 by decide) d_Nd_init_16 ?_
  refine rz_nm fun h7 eh7 => ?_
  have g7 : rz_fr [7] h4 h7 := by rw [eh7]; exact rz_fr.one fu_4
  have F8 : rz_fo q h h7 := by rw [eh7]; exact F5.up
  have fu_7 : h7 q = some ((7, 0), .inr (10, [vi p, .ref r, vi (bi op)])) := by rw [eh7]; exact rz_up_s _ _ _
  exact rz_return (st := []) rfl d_Nd_init_19 ⟨by decide, by decide⟩ ⟨rfl, fu_7, F8⟩
abbrev rm_Ak_init : Room := { frames := 1, cells := 0, slots := 0, locals := 24 }
set_option maxRecDepth 100000 in
set_option maxHeartbeats 4000000 in
theorem c_Ak_init {l : Launch} {Γ : rz_G} {h : rz_H} {q r : Nat} {p : Int} (hq : h q = some ((8, 0), .inr (11, [vi 0, .null]))) : Ct l Γ x_Ak_init y_Ak_init rm_Ak_init [.ref q, vi p, .ref r] h (pV (fun h' => h' q = some ((8, 0), .inr (11, [vi p, .ref r])) ∧ rz_fo q h h')) := by
  refine rz_met (by decide) rfl rfl (Nat.le_of_ble_eq_true rfl) (fun K _ => ?_)
  refine rz_Leq [(0, .ref q), (1, vi p), (2, .ref r)] rfl ?_
  refine rz_aload_n 0 d_Ak_init_0 rfl rfl ?_
  refine rz_objInit oi_Ak oi_i oi_c (Nat.le_of_ble_eq_true rfl) (by decide) d_Ak_init_1 ?_
  refine rz_aload_n 0 d_Ak_init_4 rfl rfl ?_
  refine rz_iload_n 1 d_Ak_init_5 rfl rfl ?_
  refine rz_putf (fp_Ak_7) hq (show (8 : Nat) ≠ 0 by decide) rfl rfl (show 0 < 2 by decide) d_Ak_init_6 ?_
  refine rz_nm fun h1 eh1 => ?_
  have g1 : rz_fr [8] h h1 := by rw [eh1]; exact rz_fr.one hq
  have F2 : rz_fo q h h1 := by rw [eh1]; exact rz_fo.rf.up
  have fu_1 : h1 q = some ((8, 0), .inr (11, [vi p, .null])) := by rw [eh1]; exact rz_up_s _ _ _
  refine rz_aload_n 0 d_Ak_init_9 rfl rfl ?_
  refine rz_aload_n 2 d_Ak_init_10 rfl rfl ?_
  refine rz_putf (fp_Ak_13) fu_1 (show (8 : Nat) ≠ 0 by decide) rfl rfl (show 1 < 2 by decide) d_Ak_init_11 ?_
  refine rz_nm fun h4 eh4 => ?_
  have g4 : rz_fr [8] h1 h4 := by rw [eh4]; exact rz_fr.one fu_1
  have F5 : rz_fo q h h4 := by rw [eh4]; exact F2.up
  have fu_4 : h4 q = some ((8, 0), .inr (11, [vi p, .ref r])) := by rw [eh4]; exact rz_up_s _ _ _
  exact rz_return (st := []) rfl d_Ak_init_14 ⟨by decide, by decide⟩ ⟨rfl, fu_4, F5⟩
theorem AlAt.f5 {Γ : rz_G} {h h' : rz_H} {a o n : Nat} {e : Int → Option Nat} {rs : List Nat} (ha : AlAt Γ h a o n e) (hf : rz_fr rs h h') (h1 : 35 ∉ rs ∧ 36 ∉ rs ∧ 0 ∉ rs) : AlAt Γ h' a o n e := ha.fr hf h1.1 h1.2.1 h1.2.2
theorem AlAt.e0 {Γ : rz_G} {h : rz_H} {a o : Nat} {e e' : Int → Option Nat} (ha : AlAt Γ h a o 0 e) : AlAt Γ h a o 0 e' := ha.c (fun j p q => absurd q (by omega))
theorem AlAt.ob {Γ : rz_G} {h : rz_H} {a o n : Nat} {e : Int → Option Nat} (ha : AlAt Γ h a o n e) : ∃ fs, h a = some ((35, o), .inr (2, fs)) := by
  obtain ⟨d, mc, a1, _⟩ := ha; exact ⟨_, a1⟩
abbrev rm_Rl_init : Room := { frames := 4, cells := 1, slots := 3, locals := 84 }
set_option maxRecDepth 100000 in
set_option maxHeartbeats 4000000 in
theorem c_Rl_init {l : Launch} {Γ : rz_G} {h : rz_H} {q v k : Nat} (hq : h q = some ((38, k), .inr (8, [.null, .null, .null, vi 0]))) (hk : KsAt Γ h) : Ct l Γ x_Rl_init y_Rl_init rm_Rl_init [.ref q, .ref v] h (pV (fun h' => (∃ nl, h' q = some ((38, k), .inr (8, [.ref v, .ref nl, .null, vi 0])) ∧ AlAt Γ h' nl (10 + k) 0 (fun _ => none)) ∧ rz_fo q h h')) := by
  refine rz_met (by decide) rfl rfl (Nat.le_of_ble_eq_true rfl) (fun K _ => ?_)
  refine rz_Leq [(0, .ref q), (1, .ref v)] rfl ?_
  refine rz_aload_n 0 d_Rl_init_0 rfl rfl ?_
  refine rz_objInit oi_Rl oi_i oi_c (Nat.le_of_ble_eq_true rfl) (by decide) d_Rl_init_1 ?_
  refine rz_aload_n 0 d_Rl_init_4 rfl rfl ?_
  refine rz_new (ci := 2) (q0 := ("java/util/ArrayList", k_T2, 3)) (35, 10 + k) (show (35 : Nat) ≠ 0 by decide) rfl rfl cl_Rl_7 ⟨by decide, by decide⟩ d_Rl_init_5 (fun q1 zq1 => ?_)
  refine rz_nm fun h2 eh2 => ?_
  have g2 : rz_fr [] h h2 := by rw [eh2]; exact rz_fr.nw zq1
  have z2 : h q1 = none := rz_fo.rf.nn zq1 (rz_ne zq1 hq)
  have F3 : rz_fo q h h2 := rz_fo.rf.fr g2
  have fc_4_0 : h2 q = some ((38, k), .inr (8, [.null, .null, .null, vi 0])) := g2 _ _ _ hq (by simp)
  have hk_4 : KsAt Γ h2 := KsAt.fr hk g2 (by decide)
  have fn_2 : h2 q1 = some ((35, 10 + k), .inr (2, [.null, vi 0, vi 0])) := by rw [eh2]; exact rz_up_s _ _ _
  refine rz_dup d_Rl_init_8 rfl ?_
  refine rz_callI (As := []) (c_Al_init (e := fun _ => none) fn_2 hk_4.2.2.2) m_Rl_9 rfl rfl (Nat.le_of_ble_eq_true rfl) ⟨by decide, by decide⟩ ⟨by decide, by decide⟩ d_Rl_init_9 (kV (h := h2) fun h5 q5 => ?_)
  obtain ⟨p5, G5⟩ := q5
  have R5 : rz_fr [35] h2 h5 := rz_fo.fr1 fn_2 G5
  have F5 : rz_fo q h h5 := fun a x p r => G5 a x (fun z => by rw [z, z2] at r; cases r) (F3 a x p r)
  have fc_6_0 : h5 q = some ((38, k), .inr (8, [.null, .null, .null, vi 0])) := R5 _ _ _ fc_4_0 (show 38 ∉ ([35] : List Nat) by decide)
  have hk_6 : KsAt Γ h5 := KsAt.fr hk_4 R5 (by decide)
  have vq1_5 : AlAt Γ h5 q1 (10 + k) 0 (fun _ => none) := p5
  refine rz_putf (fp_Rl_10) fc_6_0 (show (38 : Nat) ≠ 0 by decide) rfl rfl (show 1 < 4 by decide) d_Rl_init_12 ?_
  refine rz_nm fun h7 eh7 => ?_
  have g7 : rz_fr [38] h5 h7 := by rw [eh7]; exact rz_fr.one fc_6_0
  have F8 : rz_fo q h h7 := by rw [eh7]; exact F5.up
  have hk_9 : KsAt Γ h7 := KsAt.fr hk_6 g7 (by decide)
  have vq1_9 : AlAt Γ h7 q1 (10 + k) 0 (fun _ => none) := AlAt.f5 vq1_5 g7 (by decide)
  have fu_7 : h7 q = some ((38, k), .inr (8, [.null, .ref q1, .null, vi 0])) := by rw [eh7]; exact rz_up_s _ _ _
  refine rz_aload_n 0 d_Rl_init_15 rfl rfl ?_
  refine rz_null d_Rl_init_16 ?_
  refine rz_putf (fp_Rl_16 _) fu_7 (show (38 : Nat) ≠ 0 by decide) rfl rfl (show 2 < 4 by decide) d_Rl_init_17 ?_
  refine rz_nm fun h10 eh10 => ?_
  have g10 : rz_fr [38] h7 h10 := by rw [eh10]; exact rz_fr.one fu_7
  have F11 : rz_fo q h h10 := by rw [eh10]; exact F8.up
  have hk_12 : KsAt Γ h10 := KsAt.fr hk_9 g10 (by decide)
  have vq1_12 : AlAt Γ h10 q1 (10 + k) 0 (fun _ => none) := AlAt.f5 vq1_9 g10 (by decide)
  have fu_10 : h10 q = some ((38, k), .inr (8, [.null, .ref q1, .null, vi 0])) := by rw [eh10]; exact rz_up_s _ _ _
  refine rz_aload_n 0 d_Rl_init_20 rfl rfl ?_
  refine rz_iconst d_Rl_init_21 ?_
  refine rz_putf (fp_Rl_20 _) fu_10 (show (38 : Nat) ≠ 0 by decide) rfl rfl (show 3 < 4 by decide) d_Rl_init_22 ?_
  refine rz_nm fun h13 eh13 => ?_
  have g13 : rz_fr [38] h10 h13 := by rw [eh13]; exact rz_fr.one fu_10
  have F14 : rz_fo q h h13 := by rw [eh13]; exact F11.up
  have hk_15 : KsAt Γ h13 := KsAt.fr hk_12 g13 (by decide)
  have vq1_15 : AlAt Γ h13 q1 (10 + k) 0 (fun _ => none) := AlAt.f5 vq1_12 g13 (by decide)
  have fu_13 : h13 q = some ((38, k), .inr (8, [.null, .ref q1, .null, vi 0])) := by rw [eh13]; exact rz_up_s _ _ _
  refine rz_aload_n 0 d_Rl_init_25 rfl rfl ?_
  refine rz_aload_n 1 d_Rl_init_26 rfl rfl ?_
  refine rz_putf (fp_Rl_24) fu_13 (show (38 : Nat) ≠ 0 by decide) rfl rfl (show 0 < 4 by decide) d_Rl_init_27 ?_
  refine rz_nm fun h16 eh16 => ?_
  have g16 : rz_fr [38] h13 h16 := by rw [eh16]; exact rz_fr.one fu_13
  have F17 : rz_fo q h h16 := by rw [eh16]; exact F14.up
  have hk_18 : KsAt Γ h16 := KsAt.fr hk_15 g16 (by decide)
  have vq1_18 : AlAt Γ h16 q1 (10 + k) 0 (fun _ => none) := AlAt.f5 vq1_15 g16 (by decide)
  have fu_16 : h16 q = some ((38, k), .inr (8, [.ref v, .ref q1, .null, vi 0])) := by rw [eh16]; exact rz_up_s _ _ _
  exact rz_return (st := []) rfl d_Rl_init_30 ⟨by decide, by decide⟩ ⟨rfl, ⟨q1, fu_16, vq1_18⟩, F17⟩
theorem fl_4 : ∀ d : Int, 0 ≤ d → d < 4 → rz_u (rz_u (rz_u (rz_u (fun _ => (0 : Int)) 0 0) 1 1) 2 2) 3 3 d = d := fun d a b => by
  have : d = 0 ∨ d = 1 ∨ d = 2 ∨ d = 3 := by omega
  rcases this with e | e | e | e <;> subst e <;> rfl
abbrev rm_Pl_init : Room := { frames := 4, cells := 2, slots := 7, locals := 84 }
set_option maxRecDepth 100000 in
set_option maxHeartbeats 4000000 in
theorem c_Pl_init {l : Launch} {Γ : rz_G} {h : rz_H} {q k : Nat} (hq : h q = some ((34, k), .inr (6, [.null, .null]))) (hk : KsAt Γ h) : Ct l Γ x_Pl_init y_Pl_init rm_Pl_init [.ref q] h (pV (fun h' => (∃ rl fa g, h' q = some ((34, k), .inr (6, [.ref rl, .ref fa])) ∧ AlAt Γ h' rl k 0 (fun _ => none) ∧ h' fa = some ((37, k), aI Γ 0 4 g) ∧ ∀ d, 0 ≤ d → d < 4 → g d = d) ∧ rz_fo q h h')) := by
  refine rz_met (by decide) rfl rfl (Nat.le_of_ble_eq_true rfl) (fun K _ => ?_)
  refine rz_Leq [(0, .ref q)] rfl ?_
  refine rz_aload_n 0 d_Pl_init_0 rfl rfl ?_
  refine rz_objInit oi_Pl oi_i oi_c (Nat.le_of_ble_eq_true rfl) (by decide) d_Pl_init_1 ?_
  refine rz_aload_n 0 d_Pl_init_4 rfl rfl ?_
  refine rz_new (ci := 2) (q0 := ("java/util/ArrayList", k_T2, 3)) (35, k) (show (35 : Nat) ≠ 0 by decide) rfl rfl cl_Pl_9 ⟨by decide, by decide⟩ d_Pl_init_5 (fun q1 zq1 => ?_)
  refine rz_nm fun h2 eh2 => ?_
  have g2 : rz_fr [] h h2 := by rw [eh2]; exact rz_fr.nw zq1
  have z2 : h q1 = none := rz_fo.rf.nn zq1 (rz_ne zq1 hq)
  have F3 : rz_fo q h h2 := rz_fo.rf.fr g2
  have fc_4_0 : h2 q = some ((34, k), .inr (6, [.null, .null])) := g2 _ _ _ hq (by simp)
  have hk_4 : KsAt Γ h2 := KsAt.fr hk g2 (by decide)
  have fn_2 : h2 q1 = some ((35, k), .inr (2, [.null, vi 0, vi 0])) := by rw [eh2]; exact rz_up_s _ _ _
  refine rz_dup d_Pl_init_8 rfl ?_
  refine rz_callI (As := []) (c_Al_init (e := fun _ => none) fn_2 hk_4.2.2.2) m_Pl_11 rfl rfl (Nat.le_of_ble_eq_true rfl) ⟨by decide, by decide⟩ ⟨by decide, by decide⟩ d_Pl_init_9 (kV (h := h2) fun h5 q5 => ?_)
  obtain ⟨p5, G5⟩ := q5
  have R5 : rz_fr [35] h2 h5 := rz_fo.fr1 fn_2 G5
  have F5 : rz_fo q h h5 := fun a x p r => G5 a x (fun z => by rw [z, z2] at r; cases r) (F3 a x p r)
  have fc_6_0 : h5 q = some ((34, k), .inr (6, [.null, .null])) := R5 _ _ _ fc_4_0 (show 34 ∉ ([35] : List Nat) by decide)
  have hk_6 : KsAt Γ h5 := KsAt.fr hk_4 R5 (by decide)
  have vq1_5 : AlAt Γ h5 q1 k 0 (fun _ => none) := p5
  refine rz_putf (fp_Pl_12) fc_6_0 (show (34 : Nat) ≠ 0 by decide) rfl rfl (show 0 < 2 by decide) d_Pl_init_12 ?_
  refine rz_nm fun h7 eh7 => ?_
  have g7 : rz_fr [34] h5 h7 := by rw [eh7]; exact rz_fr.one fc_6_0
  have F8 : rz_fo q h h7 := by rw [eh7]; exact F5.up
  have hk_9 : KsAt Γ h7 := KsAt.fr hk_6 g7 (by decide)
  have vq1_9 : AlAt Γ h7 q1 k 0 (fun _ => none) := AlAt.f5 vq1_5 g7 (by decide)
  have fu_7 : h7 q = some ((34, k), .inr (6, [.ref q1, .null])) := by rw [eh7]; exact rz_up_s _ _ _
  refine rz_aload_n 0 d_Pl_init_15 rfl rfl ?_
  refine rz_iconst d_Pl_init_16 ?_
  refine rz_newI 4 (37, k) (show (37 : Nat) ≠ 0 by decide) aw_int rfl (by decide) ⟨by decide, by decide⟩ d_Pl_init_17 (fun q10 zq10 => ?_)
  refine rz_nm fun h11 eh11 => ?_
  have g11 : rz_fr [] h7 h11 := by rw [eh11]; exact rz_fr.nw zq10
  have z11 : h q10 = none := F8.nn zq10 (rz_ne zq10 fu_7)
  have F12 : rz_fo q h h11 := F8.fr g11
  have fc_13_0 : h11 q = some ((34, k), .inr (6, [.ref q1, .null])) := g11 _ _ _ fu_7 (by simp)
  have hk_13 : KsAt Γ h11 := KsAt.fr hk_9 g11 (by decide)
  have vq1_13 : AlAt Γ h11 q1 k 0 (fun _ => none) := AlAt.f5 vq1_9 g11 (by decide)
  have fn_11 : h11 q10 = some ((37, k), aI Γ 0 4 (fun _ => 0)) := by rw [eh11]; exact rz_up_s _ _ _
  refine rz_dup d_Pl_init_19 rfl ?_
  refine rz_iconst d_Pl_init_20 ?_
  refine rz_iconst d_Pl_init_21 ?_
  refine rz_iastore fn_11 (show (37 : Nat) ≠ 0 by decide) ⟨by decide, by decide, by decide⟩ d_Pl_init_22 ?_
  refine rz_nm fun h14 eh14 => ?_
  have g14 : rz_fr [37] h11 h14 := by rw [eh14]; exact rz_fr.one fn_11
  have F15 : rz_fo q h h14 := by rw [eh14]; exact F12.upn z11
  have fc_16_0 : h14 q = some ((34, k), .inr (6, [.ref q1, .null])) := g14 _ _ _ fc_13_0 (show 34 ∉ ([37] : List Nat) by decide)
  have hk_16 : KsAt Γ h14 := KsAt.fr hk_13 g14 (by decide)
  have vq1_16 : AlAt Γ h14 q1 k 0 (fun _ => none) := AlAt.f5 vq1_13 g14 (by decide)
  have fu_14 : h14 q10 = some ((37, k), aI Γ 0 4 (rz_u (fun _ => 0) 0 0)) := by rw [eh14]; exact rz_up_s _ _ _
  refine rz_dup d_Pl_init_23 rfl ?_
  refine rz_iconst d_Pl_init_24 ?_
  refine rz_iconst d_Pl_init_25 ?_
  refine rz_iastore fu_14 (show (37 : Nat) ≠ 0 by decide) ⟨by decide, by decide, by decide⟩ d_Pl_init_26 ?_
  refine rz_nm fun h17 eh17 => ?_
  have g17 : rz_fr [37] h14 h17 := by rw [eh17]; exact rz_fr.one fu_14
  have F18 : rz_fo q h h17 := by rw [eh17]; exact F15.upn z11
  have fc_19_0 : h17 q = some ((34, k), .inr (6, [.ref q1, .null])) := g17 _ _ _ fc_16_0 (show 34 ∉ ([37] : List Nat) by decide)
  have hk_19 : KsAt Γ h17 := KsAt.fr hk_16 g17 (by decide)
  have vq1_19 : AlAt Γ h17 q1 k 0 (fun _ => none) := AlAt.f5 vq1_16 g17 (by decide)
  have fu_17 : h17 q10 = some ((37, k), aI Γ 0 4 (rz_u (rz_u (fun _ => 0) 0 0) 1 1)) := by rw [eh17]; exact rz_up_s _ _ _
  refine rz_dup d_Pl_init_27 rfl ?_
  refine rz_iconst d_Pl_init_28 ?_
  refine rz_iconst d_Pl_init_29 ?_
  refine rz_iastore fu_17 (show (37 : Nat) ≠ 0 by decide) ⟨by decide, by decide, by decide⟩ d_Pl_init_30 ?_
  refine rz_nm fun h20 eh20 => ?_
  have g20 : rz_fr [37] h17 h20 := by rw [eh20]; exact rz_fr.one fu_17
  have F21 : rz_fo q h h20 := by rw [eh20]; exact F18.upn z11
  have fc_22_0 : h20 q = some ((34, k), .inr (6, [.ref q1, .null])) := g20 _ _ _ fc_19_0 (show 34 ∉ ([37] : List Nat) by decide)
  have hk_22 : KsAt Γ h20 := KsAt.fr hk_19 g20 (by decide)
  have vq1_22 : AlAt Γ h20 q1 k 0 (fun _ => none) := AlAt.f5 vq1_19 g20 (by decide)
  have fu_20 : h20 q10 = some ((37, k), aI Γ 0 4 (rz_u (rz_u (rz_u (fun _ => 0) 0 0) 1 1) 2 2)) := by rw [eh20]; exact rz_up_s _ _ _
  refine rz_dup d_Pl_init_31 rfl ?_
  refine rz_iconst d_Pl_init_32 ?_
  refine rz_iconst d_Pl_init_33 ?_
  refine rz_iastore fu_20 (show (37 : Nat) ≠ 0 by decide) ⟨by decide, by decide, by decide⟩ d_Pl_init_34 ?_
  refine rz_nm fun h23 eh23 => ?_
  have g23 : rz_fr [37] h20 h23 := by rw [eh23]; exact rz_fr.one fu_20
  have F24 : rz_fo q h h23 := by rw [eh23]; exact F21.upn z11
  have fc_25_0 : h23 q = some ((34, k), .inr (6, [.ref q1, .null])) := g23 _ _ _ fc_22_0 (show 34 ∉ ([37] : List Nat) by decide)
  have hk_25 : KsAt Γ h23 := KsAt.fr hk_22 g23 (by decide)
  have vq1_25 : AlAt Γ h23 q1 k 0 (fun _ => none) := AlAt.f5 vq1_22 g23 (by decide)
  have fu_23 : h23 q10 = some ((37, k), aI Γ 0 4 (rz_u (rz_u (rz_u (rz_u (fun _ => 0) 0 0) 1 1) 2 2) 3 3)) := by rw [eh23]; exact rz_up_s _ _ _
  refine rz_putf (fp_Pl_18) fc_25_0 (show (34 : Nat) ≠ 0 by decide) rfl rfl (show 1 < 2 by decide) d_Pl_init_35 ?_
  refine rz_nm fun h26 eh26 => ?_
  have g26 : rz_fr [34] h23 h26 := by rw [eh26]; exact rz_fr.one fc_25_0
  have F27 : rz_fo q h h26 := by rw [eh26]; exact F24.up
  have fc_28_0 : h26 q10 = some ((37, k), aI Γ 0 4 (rz_u (rz_u (rz_u (rz_u (fun _ => 0) 0 0) 1 1) 2 2) 3 3)) := g26 _ _ _ fu_23 (show 37 ∉ ([34] : List Nat) by decide)
  have hk_28 : KsAt Γ h26 := KsAt.fr hk_25 g26 (by decide)
  have vq1_28 : AlAt Γ h26 q1 k 0 (fun _ => none) := AlAt.f5 vq1_25 g26 (by decide)
  have fu_26 : h26 q = some ((34, k), .inr (6, [.ref q1, .ref q10])) := by rw [eh26]; exact rz_up_s _ _ _
  exact rz_return (st := []) rfl d_Pl_init_38 ⟨by decide, by decide⟩ ⟨rfl, ⟨q1, q10, _, fu_26, vq1_28, fc_28_0, fl_4 ⟩, F27⟩
/-- release k: its object, version, needs -/
def RlAt (Γ : rz_G) (h : rz_H) (A : Nat → Int → Nat) (M : Nat → Int → Int) (k : Int) : Prop := h (A 3 k) = some ((38, k.toNat), .inr (8, [.ref (A 4 k), .ref (A 5 k), (if M 4 k = 0 then .null else .ref (A 6 k)), vi (M 3 k)])) ∧ VeAt Γ h (A 4 k) (vRt M (6 + k)) (vPt M (6 + k)) ∧ AlAt Γ h (A 5 k) (10 + k.toNat) (M 5 k).toNat (fun j => some (A 7 (3 * k + j))) ∧ (¬ M 4 k = 0 → RgAt Γ h (A 6 k) (mAt M (30 + k)) (M 1 (30 + k))) ∧ ∀ j, 0 ≤ j → j < M 5 k → h (A 7 (3 * k + j)) = some ((7, 0), .inr (10, [vi (M 6 (3 * k + j)), .ref (A 8 (3 * k + j)), vi (M 7 (3 * k + j))])) ∧ RgAt Γ h (A 8 (3 * k + j)) (mAt M (54 + (3 * k + j))) (M 1 (54 + (3 * k + j)))
theorem RlAt.ob {Γ : rz_G} {h : rz_H} {A : Nat → Int → Nat} {M : Nat → Int → Int} {k : Int} (hr : RlAt Γ h A M k) : h (A 3 k) = some ((38, k.toNat), .inr (8, [.ref (A 4 k), .ref (A 5 k), (if M 4 k = 0 then .null else .ref (A 6 k)), vi (M 3 k)])) := hr.1
theorem RlAt.ve {Γ : rz_G} {h : rz_H} {A : Nat → Int → Nat} {M : Nat → Int → Int} {k : Int} (hr : RlAt Γ h A M k) : VeAt Γ h (A 4 k) (vRt M (6 + k)) (vPt M (6 + k)) := hr.2.1
theorem RlAt.nl {Γ : rz_G} {h : rz_H} {A : Nat → Int → Nat} {M : Nat → Int → Int} {k : Int} (hr : RlAt Γ h A M k) : AlAt Γ h (A 5 k) (10 + k.toNat) (M 5 k).toNat (fun j => some (A 7 (3 * k + j))) := hr.2.2.1
theorem RlAt.hr {Γ : rz_G} {h : rz_H} {A : Nat → Int → Nat} {M : Nat → Int → Int} {k : Int} (hr : RlAt Γ h A M k) : (¬ M 4 k = 0 → RgAt Γ h (A 6 k) (mAt M (30 + k)) (M 1 (30 + k))) := hr.2.2.2.1
theorem RlAt.nd {Γ : rz_G} {h : rz_H} {A : Nat → Int → Nat} {M : Nat → Int → Int} {k : Int} (hr : RlAt Γ h A M k) : ∀ j, 0 ≤ j → j < M 5 k → h (A 7 (3 * k + j)) = some ((7, 0), .inr (10, [vi (M 6 (3 * k + j)), .ref (A 8 (3 * k + j)), vi (M 7 (3 * k + j))])) ∧ RgAt Γ h (A 8 (3 * k + j)) (mAt M (54 + (3 * k + j))) (M 1 (54 + (3 * k + j))) := hr.2.2.2.2
/-- plugin p: its object, releases, falling order -/
def PlAt (Γ : rz_G) (h : rz_H) (A : Nat → Int → Nat) (M : Nat → Int → Int) (F : Int → Int) (p : Int) : Prop := h (A 0 p) = some ((34, p.toNat), .inr (6, [.ref (A 1 p), .ref (A 2 p)])) ∧ AlAt Γ h (A 1 p) p.toNat (M 2 p).toNat (fun r => some (A 3 (4 * p + r))) ∧ (∃ g, h (A 2 p) = some ((37, p.toNat), aI Γ 0 4 g) ∧ ∀ d, 0 ≤ d → d < 4 → g d = F d) ∧ ∀ r, 0 ≤ r → r < M 2 p → RlAt Γ h A M (4 * p + r)
theorem PlAt.ob {Γ : rz_G} {h : rz_H} {A : Nat → Int → Nat} {M : Nat → Int → Int} {F : Int → Int} {p : Int} (hp : PlAt Γ h A M F p) : h (A 0 p) = some ((34, p.toNat), .inr (6, [.ref (A 1 p), .ref (A 2 p)])) := hp.1
theorem PlAt.rl {Γ : rz_G} {h : rz_H} {A : Nat → Int → Nat} {M : Nat → Int → Int} {F : Int → Int} {p : Int} (hp : PlAt Γ h A M F p) : AlAt Γ h (A 1 p) p.toNat (M 2 p).toNat (fun r => some (A 3 (4 * p + r))) := hp.2.1
theorem PlAt.fa {Γ : rz_G} {h : rz_H} {A : Nat → Int → Nat} {M : Nat → Int → Int} {F : Int → Int} {p : Int} (hp : PlAt Γ h A M F p) : (∃ g, h (A 2 p) = some ((37, p.toNat), aI Γ 0 4 g) ∧ ∀ d, 0 ≤ d → d < 4 → g d = F d) := hp.2.2.1
theorem PlAt.re {Γ : rz_G} {h : rz_H} {A : Nat → Int → Nat} {M : Nat → Int → Int} {F : Int → Int} {p : Int} (hp : PlAt Γ h A M F p) : ∀ r, 0 ≤ r → r < M 2 p → RlAt Γ h A M (4 * p + r) := hp.2.2.2
/-- tags that a change of ts leaves alone -/
def clr (ts : List (Nat × Nat)) (os : List Nat) (ks : List Nat) : Prop := (∀ t ∈ ts, 10 ≤ t.1) ∧ (∀ o ∈ os, (34, o) ∉ ts ∧ (35, o) ∉ ts ∧ (36, o) ∉ ts ∧ (37, o) ∉ ts) ∧ ∀ k ∈ ks, (38, k) ∉ ts ∧ (35, 10 + k) ∉ ts ∧ (36, 10 + k) ∉ ts
theorem rz_ft.lo {ts : List (Nat × Nat)} {h h' : rz_H} (hf : rz_ft ts h h') : rz_fr (ts.map (·.1)) h h' := hf.ro (fun t ht => List.mem_map.mpr ⟨t, ht, rfl⟩)
theorem rz_ft.lo10 {ts : List (Nat × Nat)} (h : ∀ t ∈ ts, 10 ≤ t.1) : ∀ r ∈ ts.map (·.1), 10 ≤ r := fun r hr => by
  obtain ⟨t, a, b⟩ := List.mem_map.mp hr
  rw [← b]; exact h t a
theorem RlAt.ft {Γ : rz_G} {h h' : rz_H} {A : Nat → Int → Nat} {M : Nat → Int → Int} {k : Int} {ts : List (Nat × Nat)} (hr : RlAt Γ h A M k) (hf : rz_ft ts h h') (h10 : ∀ t ∈ ts, 10 ≤ t.1) (h1 : (38, k.toNat) ∉ ts ∧ (35, 10 + k.toNat) ∉ ts ∧ (36, 10 + k.toNat) ∉ ts) : RlAt Γ h' A M k :=
  ⟨hf _ _ _ hr.ob h1.1, hr.ve.fr hf.lo (fun r q => by have := rz_ft.lo10 h10 r q; omega), hr.nl.ft hf h1.2.1 h1.2.2 (fun z => by have := h10 _ z; omega), fun z => (hr.hr z).fr hf.lo (fun r q => by have := rz_ft.lo10 h10 r q; omega), fun j a b => ⟨hf _ _ _ (hr.nd j a b).1 (fun z => by have := h10 _ z; omega), (hr.nd j a b).2.fr hf.lo (fun r q => by have := rz_ft.lo10 h10 r q; omega)⟩⟩
theorem PlAt.ft {Γ : rz_G} {h h' : rz_H} {A : Nat → Int → Nat} {M : Nat → Int → Int} {F : Int → Int} {p : Int} {ts : List (Nat × Nat)} (hp : PlAt Γ h A M F p) (hf : rz_ft ts h h') (h10 : ∀ t ∈ ts, 10 ≤ t.1) (h1 : (34, p.toNat) ∉ ts ∧ (35, p.toNat) ∉ ts ∧ (36, p.toNat) ∉ ts ∧ (37, p.toNat) ∉ ts) (h2 : ∀ r, 0 ≤ r → r < M 2 p → (38, (4 * p + r).toNat) ∉ ts ∧ (35, 10 + (4 * p + r).toNat) ∉ ts ∧ (36, 10 + (4 * p + r).toNat) ∉ ts) : PlAt Γ h' A M F p :=
  ⟨hf _ _ _ hp.ob h1.1, hp.rl.ft hf h1.2.1 h1.2.2.1 (fun z => by have := h10 _ z; omega), (by obtain ⟨g, a, b⟩ := hp.fa; exact ⟨g, hf _ _ _ a h1.2.2.2, b⟩), fun r a b => (hp.re r a b).ft hf h10 (h2 r a b)⟩
/-- nothing of these roles is touched -/
def rOK (rs : List Nat) : Prop := ∀ r ∈ rs, 10 ≤ r ∧ (r < 33 ∨ 38 < r)
theorem RlAt.fr {Γ : rz_G} {h h' : rz_H} {A : Nat → Int → Nat} {M : Nat → Int → Int} {k : Int} {rs : List Nat} (hr : RlAt Γ h A M k) (hf : rz_fr rs h h') (h1 : rOK rs) : RlAt Γ h' A M k :=
  ⟨hf _ _ _ hr.ob (fun z => by have := h1 _ z; omega), hr.ve.fr hf (fun r q => by have := h1 r q; omega), hr.nl.fr hf (fun z => by have := h1 _ z; omega) (fun z => by have := h1 _ z; omega) (fun z => by have := h1 _ z; omega), fun z => (hr.hr z).fr hf (fun r q => by have := h1 r q; omega), fun j a b => ⟨hf _ _ _ (hr.nd j a b).1 (fun z => by have := h1 _ z; omega), (hr.nd j a b).2.fr hf (fun r q => by have := h1 r q; omega)⟩⟩
theorem PlAt.fr {Γ : rz_G} {h h' : rz_H} {A : Nat → Int → Nat} {M : Nat → Int → Int} {F : Int → Int} {p : Int} {rs : List Nat} (hp : PlAt Γ h A M F p) (hf : rz_fr rs h h') (h1 : rOK rs) : PlAt Γ h' A M F p :=
  ⟨hf _ _ _ hp.ob (fun z => by have := h1 _ z; omega), hp.rl.fr hf (fun z => by have := h1 _ z; omega) (fun z => by have := h1 _ z; omega) (fun z => by have := h1 _ z; omega), (by obtain ⟨g, a, b⟩ := hp.fa; exact ⟨g, hf _ _ _ a (fun z => by have := h1 _ z; omega), b⟩), fun r a b => (hp.re r a b).fr hf h1⟩
theorem Int.tn {x : Int} (h : 0 ≤ x) : ((x.toNat : Nat) : Int) = x := by omega
abbrev rm_Rl_isUsableOn : Room := { frames := 2, cells := 0, slots := 0, locals := 43 }
set_option maxRecDepth 100000 in
set_option maxHeartbeats 4000000 in
theorem c_Rl_isUsableOnN {l : Launch} {Γ : rz_G} {h : rz_H} {q a b k : Nat} {wd : Int} (hwd : wd = 0 ∨ wd = 1) (hq : h q = some ((38, k), .inr (8, [.ref a, .ref b, .null, vi wd]))) {v : Nat} {R P : Int → Int} (hv : VeAt Γ h v R P) : Ct l Γ x_Rl_isUsableOn y_Rl_isUsableOn rm_Rl_isUsableOn [.ref q, .ref v] h (pE (bi (decide (wd = 0))) h) := by
  refine rz_met (by decide) rfl rfl (Nat.le_of_ble_eq_true rfl) (fun K _ => ?_)
  refine rz_Leq [(0, .ref q), (1, .ref v)] rfl ?_
  refine rz_aload_n 0 d_Rl_isUsableOn_0 rfl rfl ?_
  refine rz_getf f_Rl_20 hq rfl d_Rl_isUsableOn_1 ?_
  refine rz_if_ne 29 d_Rl_isUsableOn_4 (by decide) (by omega) (fun c4 => ?_) (fun c4 => ?_)
  · refine rz_iconst d_Rl_isUsableOn_29 ?_
    exact rz_zreturn (st := []) (ty := .boolean) rfl rfl d_Rl_isUsableOn_30 ⟨by decide, by decide⟩ ⟨_, rfl, bi0 (by simp; omega), rfl⟩
  · refine rz_aload_n 0 d_Rl_isUsableOn_7 rfl rfl ?_
    refine rz_getf f_Rl_16 hq rfl d_Rl_isUsableOn_8 ?_
    refine rz_ifnullN 25 d_Rl_isUsableOn_11 (by decide) ?_
    refine rz_iconst d_Rl_isUsableOn_25 ?_
    refine rz_goto 30 d_Rl_isUsableOn_26 (by decide) ?_
    exact rz_zreturn (st := []) (ty := .boolean) rfl rfl d_Rl_isUsableOn_30 ⟨by decide, by decide⟩ ⟨_, rfl, bi1 (by simp; omega), rfl⟩
set_option maxRecDepth 100000 in
set_option maxHeartbeats 4000000 in
theorem c_Rl_isUsableOnR {l : Launch} {Γ : rz_G} {h : rz_H} {q a b c k : Nat} {wd : Int} (hwd : wd = 0 ∨ wd = 1) (hq : h q = some ((38, k), .inr (8, [.ref a, .ref b, .ref c, vi wd]))) {v : Nat} {R P : Int → Int} (hv : VeAt Γ h v R P) {f : Int → Int} {n : Int} (hg : RgAt Γ h c f n) : Ct l Γ x_Rl_isUsableOn y_Rl_isUsableOn rm_Rl_isUsableOn [.ref q, .ref v] h (pE (bi (decide (wd = 0) && hoR R P f n)) h) := by
  refine rz_met (by decide) rfl rfl (Nat.le_of_ble_eq_true rfl) (fun K _ => ?_)
  refine rz_Leq [(0, .ref q), (1, .ref v)] rfl ?_
  refine rz_aload_n 0 d_Rl_isUsableOn_0 rfl rfl ?_
  refine rz_getf f_Rl_20 hq rfl d_Rl_isUsableOn_1 ?_
  refine rz_if_ne 29 d_Rl_isUsableOn_4 (by decide) (by omega) (fun c4 => ?_) (fun c4 => ?_)
  · refine rz_iconst d_Rl_isUsableOn_29 ?_
    exact rz_zreturn (st := []) (ty := .boolean) rfl rfl d_Rl_isUsableOn_30 ⟨by decide, by decide⟩ ⟨_, rfl, bi0 (by first | (rw [c22, Bool.and_false]) | (rw [decide_eq_false (by omega)]; rfl)), rfl⟩
  · refine rz_aload_n 0 d_Rl_isUsableOn_7 rfl rfl ?_
    refine rz_getf f_Rl_16 hq rfl d_Rl_isUsableOn_8 ?_
    refine rz_ifnullR d_Rl_isUsableOn_11 ?_
    refine rz_aload_n 0 d_Rl_isUsableOn_14 rfl rfl ?_
    refine rz_getf f_Rl_16 hq rfl d_Rl_isUsableOn_15 ?_
    refine rz_aload_n 1 d_Rl_isUsableOn_18 rfl rfl ?_
    obtain ⟨fso1, so1⟩ := hg.ob
    refine rz_callV (As := [.ref v]) (c_Rg_holds hv hg) m_Rl_28 so1 rfl rfl rfl rfl (Nat.le_of_ble_eq_true rfl) ⟨by decide, by decide⟩ ⟨by decide, by decide⟩ d_Rl_isUsableOn_19 (kE (h := h) ?_)
    refine rz_if_eqB 29 d_Rl_isUsableOn_22 (by decide) (fun c22 => ?_) (fun c22 => ?_)
    · refine rz_iconst d_Rl_isUsableOn_29 ?_
      exact rz_zreturn (st := []) (ty := .boolean) rfl rfl d_Rl_isUsableOn_30 ⟨by decide, by decide⟩ ⟨_, rfl, bi0 (by first | (rw [c22, Bool.and_false]) | (rw [decide_eq_false (by omega)]; rfl)), rfl⟩
    · refine rz_iconst d_Rl_isUsableOn_25 ?_
      refine rz_goto 30 d_Rl_isUsableOn_26 (by decide) ?_
      exact rz_zreturn (st := []) (ty := .boolean) rfl rfl d_Rl_isUsableOn_30 ⟨by decide, by decide⟩ ⟨_, rfl, bi1 (by rw [decide_eq_true (by omega), c22]; rfl), rfl⟩
theorem c_Rl_isUsableOn {l : Launch} {Γ : rz_G} {h : rz_H} {A : Nat → Int → Nat} {M : Nat → Int → Int} {k : Int} (hw : mWF M) (hk : 0 ≤ k ∧ k < 24) (hr : RlAt Γ h A M k) {v : Nat} {R P : Int → Int} (hv : VeAt Γ h v R P) : Ct l Γ x_Rl_isUsableOn y_Rl_isUsableOn rm_Rl_isUsableOn [.ref (A 3 k), .ref v] h (pE (bi (decide (M 3 k = 0) && (decide (M 4 k = 0) || hoR R P (mAt M (30 + k)) (M 1 (30 + k))))) h) := by
  have h3 := hw.2.2.2.2.2.2.2.1 k hk.1 hk.2
  have ho := hr.ob
  by_cases c : M 4 k = 0
  · rw [if_pos c] at ho
    have := c_Rl_isUsableOnN (l := l) h3 ho hv
    rw [decide_eq_true c, Bool.true_or, Bool.and_true]; exact this
  · rw [if_neg c] at ho
    have := c_Rl_isUsableOnR (l := l) h3 ho hv (hr.hr c)
    rw [decide_eq_false c, Bool.false_or]; exact this
abbrev rm_Pl_size : Room := { frames := 1, cells := 0, slots := 0, locals := 20 }
set_option maxRecDepth 100000 in
set_option maxHeartbeats 4000000 in
theorem c_Pl_size {l : Launch} {Γ : rz_G} {h : rz_H} {A : Nat → Int → Nat} {M : Nat → Int → Int} {F : Int → Int} {p : Int} (hp : PlAt Γ h A M F p) (hw : mWF M) (hp6 : 0 ≤ p ∧ p < 6) : Ct l Γ x_Pl_size y_Pl_size rm_Pl_size [.ref (A 0 p)] h (pE (M 2 p) h) := by
  refine rz_met (by decide) rfl rfl (Nat.le_of_ble_eq_true rfl) (fun K _ => ?_)
  refine rz_Leq [(0, .ref (A 0 p))] rfl ?_
  have w2 := (M_big hw).1 p hp6.1 hp6.2
  refine rz_aload_n 0 d_Pl_size_0 rfl rfl ?_
  refine rz_getf f_Pl_12 hp.ob rfl d_Pl_size_1 ?_
  obtain ⟨fso1, so1⟩ := hp.rl.ob
  refine rz_callV (As := []) (c_Al_size hp.rl) m_Pl_22 so1 rfl rfl rfl rfl (Nat.le_of_ble_eq_true rfl) ⟨by decide, by decide⟩ ⟨by decide, by decide⟩ d_Pl_size_4 (kE (h := h) ?_)
  refine rz_Seq [vi (M 2 p)] (by rw [Int.tn (by omega)]) ?_
  exact rz_ireturn (st := []) rfl d_Pl_size_7 ⟨by decide, by decide⟩ ⟨_, rfl, rfl, rfl⟩
abbrev rm_Pl_at : Room := { frames := 3, cells := 0, slots := 0, locals := 64 }
set_option maxRecDepth 100000 in
set_option maxHeartbeats 4000000 in
theorem c_Pl_at {l : Launch} {Γ : rz_G} {h : rz_H} {A : Nat → Int → Nat} {M : Nat → Int → Int} {F : Int → Int} {p : Int} (hp : PlAt Γ h A M F p) (hw : mWF M) (hp6 : 0 ≤ p ∧ p < 6) {r : Int} (rr : -2147483648 ≤ r ∧ r ≤ 2147483647) : Ct l Γ x_Pl_at y_Pl_at rm_Pl_at [.ref (A 0 p), vi r] h (pO (fun a h' => a = (if 0 ≤ r ∧ r < M 2 p then some (A 3 (4 * p + r)) else none) ∧ h' = h)) := by
  refine rz_met (by decide) rfl rfl (Nat.le_of_ble_eq_true rfl) (fun K _ => ?_)
  refine rz_Leq [(0, .ref (A 0 p)), (1, vi r)] rfl ?_
  have w2 := (M_big hw).1 p hp6.1 hp6.2
  refine rz_iload_n 1 d_Pl_at_0 rfl rfl ?_
  refine rz_if_lt 29 d_Pl_at_1 (by decide) (by omega) (fun c1 => ?_) (fun c1 => ?_)
  · refine rz_null d_Pl_at_29 ?_
    exact rz_areturn (st := []) (r := none) rfl (Or.inl ⟨_, rfl⟩) d_Pl_at_30 ⟨by decide, by decide⟩ ⟨none, rfl, (by rw [if_neg (by omega)]), rfl⟩
  · refine rz_iload_n 1 d_Pl_at_4 rfl rfl ?_
    refine rz_aload_n 0 d_Pl_at_5 rfl rfl ?_
    refine rz_getf f_Pl_12 hp.ob rfl d_Pl_at_6 ?_
    obtain ⟨fso1, so1⟩ := hp.rl.ob
    refine rz_callV (As := []) (c_Al_size hp.rl) m_Pl_22 so1 rfl rfl rfl rfl (Nat.le_of_ble_eq_true rfl) ⟨by decide, by decide⟩ ⟨by decide, by decide⟩ d_Pl_at_9 (kE (h := h) ?_)
    refine rz_Seq [vi (M 2 p), vi r] (by rw [Int.tn (by omega)]) ?_
    refine rz_icmp_ge 29 d_Pl_at_12 (by decide) (by omega) (by omega) (fun c12 => ?_) (fun c12 => ?_)
    · refine rz_null d_Pl_at_29 ?_
      exact rz_areturn (st := []) (r := none) rfl (Or.inl ⟨_, rfl⟩) d_Pl_at_30 ⟨by decide, by decide⟩ ⟨none, rfl, (by rw [if_neg (by omega)]), rfl⟩
    · refine rz_aload_n 0 d_Pl_at_15 rfl rfl ?_
      refine rz_getf f_Pl_12 hp.ob rfl d_Pl_at_16 ?_
      refine rz_iload_n 1 d_Pl_at_19 rfl rfl ?_
      obtain ⟨fso2, so2⟩ := hp.rl.ob
      refine rz_callV (As := [vi r]) (c_Al_get hp.rl (i := r) (y := (A 3 (4 * p + r))) (by omega) (by omega) rfl) m_Pl_26 so2 rfl rfl rfl rfl (Nat.le_of_ble_eq_true rfl) ⟨by decide, by decide⟩ ⟨by decide, by decide⟩ d_Pl_at_20 (kR (h := h) fun b3 h3 q3 => ?_)
      rw [q3.1, q3.2]
      refine rz_cast (hp.re r (by omega) (by omega)).ob rfl cl_Pl_30 d_Pl_at_23 ?_
      refine rz_goto 30 d_Pl_at_26 (by decide) ?_
      exact rz_areturn (st := []) (r := some (A 3 (4 * p + r))) rfl (Or.inl ⟨_, rfl⟩) d_Pl_at_30 ⟨by decide, by decide⟩ ⟨some (A 3 (4 * p + r)), rfl, (by rw [if_pos (by omega)]), rfl⟩
/-- is there a release as the version R P -/
def hvF (M : Nat → Int → Int) (p : Int) (R P : Int → Int) : Nat → Int → Bool
  | 0, _ => false
  | n + 1, r => if cvF (vRt M (6 + (4 * p + r))) (vPt M (6 + (4 * p + r))) R P 12 0 = 0 then true else hvF M p R P n (r + 1)
theorem hvF_e {M : Nat → Int → Int} {p : Int} {R P : Int → Int} {n : Nat} {r : Int} (hn : 0 < n) : hvF M p R P n r = if cvF (vRt M (6 + (4 * p + r))) (vPt M (6 + (4 * p + r))) R P 12 0 = 0 then true else hvF M p R P (n - 1) (r + 1) := by
  cases n with
  | zero => omega
  | succ n => rfl
abbrev rm_Pl_hasVersion : Room := { frames := 3, cells := 0, slots := 0, locals := 64 }
set_option maxRecDepth 100000 in
set_option maxHeartbeats 4000000 in
theorem c_Pl_hasVersion {l : Launch} {Γ : rz_G} {h : rz_H} {A : Nat → Int → Nat} {M : Nat → Int → Int} {F : Int → Int} {p : Int} (hp : PlAt Γ h A M F p) (hw : mWF M) (hp6 : 0 ≤ p ∧ p < 6) {v : Nat} {R P : Int → Int} (hv : VeAt Γ h v R P) : Ct l Γ x_Pl_hasVersion y_Pl_hasVersion rm_Pl_hasVersion [.ref (A 0 p), .ref v] h (pE (bi (hvF M p R P (M 2 p).toNat 0)) h) := by
  refine rz_met (by decide) rfl rfl (Nat.le_of_ble_eq_true rfl) (fun K _ => ?_)
  refine rz_Leq [(0, .ref (A 0 p)), (1, .ref v)] rfl ?_
  have w2 := (M_big hw).1 p hp6.1 hp6.2
  refine rz_iconst d_Pl_hasVersion_0 ?_
  refine rz_istore_n [(2, vi 0), (0, .ref (A 0 p)), (1, .ref v)] d_Pl_hasVersion_1 rfl (by decide) rfl ?_
  refine rz_loop (α := Int) 0 0 2 (fun i => (M 2 p - i).toNat) (fun i => 0 ≤ i ∧ i ≤ M 2 p ∧ hvF M p R P (M 2 p).toNat 0 = hvF M p R P (M 2 p - i).toNat i) (fun i => [(2, vi i), (0, .ref (A 0 p)), (1, .ref v)]) (fun i => []) (fun i => h) (fun y hy ih2 => ?_) (fun LP => ?_)
  · obtain ⟨i, rfl⟩ : ∃ z, z = y := ⟨_, rfl⟩
    try dsimp only at hy ih2 ⊢
    obtain ⟨hi0, hi1, hv2⟩ := hy
    refine rz_iload_n 0 d_Pl_hasVersion_2 rfl rfl ?_
    refine rz_aload_n 1 d_Pl_hasVersion_3 rfl rfl ?_
    refine rz_getf f_Pl_12 hp.ob rfl d_Pl_hasVersion_4 ?_
    obtain ⟨fso1, so1⟩ := hp.rl.ob
    refine rz_callV (As := []) (c_Al_size hp.rl) m_Pl_22 so1 rfl rfl rfl rfl (Nat.le_of_ble_eq_true rfl) ⟨by decide, by decide⟩ ⟨by decide, by decide⟩ d_Pl_hasVersion_7 (kE (h := h) ?_)
    refine rz_Seq [vi (M 2 p), vi i] (by rw [Int.tn (by omega)]) ?_
    refine rz_icmp_ge 42 d_Pl_hasVersion_10 (by decide) (by omega) (by omega) (fun c10 => ?_) (fun c10 => ?_)
    · refine rz_iconst d_Pl_hasVersion_42 ?_
      exact rz_zreturn (st := []) (ty := .boolean) rfl rfl d_Pl_hasVersion_43 ⟨by decide, by decide⟩ ⟨_, rfl, bi0 (by rw [hv2, show (M 2 p - i).toNat = 0 by omega]; rfl), rfl⟩
    · refine rz_aload_n 1 d_Pl_hasVersion_13 rfl rfl ?_
      refine rz_getf f_Pl_12 hp.ob rfl d_Pl_hasVersion_14 ?_
      refine rz_iload_n 0 d_Pl_hasVersion_17 rfl rfl ?_
      obtain ⟨fso2, so2⟩ := hp.rl.ob
      refine rz_callV (As := [vi i]) (c_Al_get hp.rl (i := i) (y := (A 3 (4 * p + i))) (by omega) (by omega) rfl) m_Pl_26 so2 rfl rfl rfl rfl (Nat.le_of_ble_eq_true rfl) ⟨by decide, by decide⟩ ⟨by decide, by decide⟩ d_Pl_hasVersion_18 (kR (h := h) fun b3 h3 q3 => ?_)
      rw [q3.1, q3.2]
      refine rz_cast (hp.re i (by omega) (by omega)).ob rfl cl_Pl_30 d_Pl_hasVersion_21 ?_
      refine rz_getf f_Pl_32 (hp.re i (by omega) (by omega)).ob rfl d_Pl_hasVersion_24 ?_
      refine rz_aload_n 2 d_Pl_hasVersion_27 rfl rfl ?_
      obtain ⟨fso4, so4⟩ := (hp.re i (by omega) (by omega)).ve.ob
      refine rz_callV (As := [.ref v]) (c_Ve_comparedTo (hp.re i (by omega) (by omega)).ve hv) m_Pl_36 so4 rfl rfl rfl rfl (Nat.le_of_ble_eq_true rfl) ⟨by decide, by decide⟩ ⟨by decide, by decide⟩ d_Pl_hasVersion_28 (kE (h := h) ?_)
      have cb := cvF_in (R := vRt M (6 + (4 * p + i))) (P := vPt M (6 + (4 * p + i))) (R' := R) (P' := P) 12 0
      refine rz_if_ne 36 d_Pl_hasVersion_31 (by decide) (by omega) (fun c31 => ?_) (fun c31 => ?_)
      · refine rz_iinc (i + 1) 0 [(2, vi (i + 1)), (0, .ref (A 0 p)), (1, .ref v)] d_Pl_hasVersion_36 rfl (by first | rfl | omega) (by decide) rfl ?_
        refine rz_goto 2 d_Pl_hasVersion_39 (by decide) ?_
        refine rz_Lsub [(2, vi (i + 1)), (0, .ref (A 0 p)), (1, .ref v)] [0, 1, 2] rfl ?_
        refine ih2 (i + 1) ?_ ?_
        · try dsimp only
          exact ⟨by omega, by omega, (by rw [hv2, hvF_e (by omega), if_neg c31]; congr 1; omega)⟩
        · exact (by first | omega | (dsimp only; omega))
      · refine rz_iconst d_Pl_hasVersion_34 ?_
        exact rz_zreturn (st := []) (ty := .boolean) rfl rfl d_Pl_hasVersion_35 ⟨by decide, by decide⟩ ⟨_, rfl, bi1 (by rw [hv2, hvF_e (by omega), if_pos c31]), rfl⟩
  · refine rz_Lsub [(2, vi 0), (0, .ref (A 0 p)), (1, .ref v)] [0, 1, 2] rfl ?_
    refine LP 0 ?_
    try dsimp only
    exact ⟨by omega, by omega, (by rw [show (M 2 p - 0).toNat = (M 2 p).toNat by omega])⟩
def inF (M : Nat → Int → Int) (p : Int) (f : Int → Int) (n : Int) (i : Int) (x : Nat) : Bool := decide ((x : Int) < i) && hoR (vRt M (6 + (4 * p + x))) (vPt M (6 + (4 * p + x))) f n
theorem inF_0 (M : Nat → Int → Int) (p : Int) (f : Int → Int) (n : Int) : Bt 5 0 (inF M p f n 0) := (Bt.zero 5).c (fun x _ => by unfold inF; rw [decide_eq_false (by omega)]; rfl)
theorem inF_t {M : Nat → Int → Int} {p : Int} {f : Int → Int} {n i b : Int} (hb : Bt 5 b (inF M p f n i)) (hi : 0 ≤ i ∧ i < 4) (hc : hoR (vRt M (6 + (4 * p + i))) (vPt M (6 + (4 * p + i))) f n = true) : ∃ s r : Int, Int32.ofInt 1 <<< (Int32.ofInt i &&& 31) = Int32.ofInt s ∧ Int32.ofInt b ||| Int32.ofInt s = Int32.ofInt r ∧ Bt 5 r (inF M p f n (i + 1)) := by
  obtain ⟨s, e1, b1⟩ := Bt.shl (n := 5) (i := i) (by decide) (by omega)
  obtain ⟨r, e2, b2⟩ := hb.or b1
  refine ⟨s, r, e1, e2, b2.c (fun x _ => ?_)⟩
  unfold inF
  by_cases c : x = i.toNat
  · rw [c, decide_eq_true (show ((i.toNat : Nat) : Int) < i + 1 by omega), Int.tn hi.1, hc]; simp
  · rw [decide_eq_false c, Bool.or_false]
    by_cases d : (x : Int) < i
    · rw [decide_eq_true d, decide_eq_true (show (x : Int) < i + 1 by omega)]
    · rw [decide_eq_false d, decide_eq_false (show ¬ (x : Int) < i + 1 by omega)]
theorem inF_f {M : Nat → Int → Int} {p : Int} {f : Int → Int} {n i b : Int} (hb : Bt 5 b (inF M p f n i)) (hi : 0 ≤ i) (hc : hoR (vRt M (6 + (4 * p + i))) (vPt M (6 + (4 * p + i))) f n = false) : Bt 5 b (inF M p f n (i + 1)) := hb.c (fun x _ => by
  unfold inF
  by_cases c : (x : Int) = i
  · rw [c, hc, Bool.and_false, Bool.and_false]
  · by_cases d : (x : Int) < i
    · rw [decide_eq_true d, decide_eq_true (show (x : Int) < i + 1 by omega)]
    · rw [decide_eq_false d, decide_eq_false (show ¬ (x : Int) < i + 1 by omega)])
abbrev rm_Pl_releasesIn : Room := { frames := 3, cells := 0, slots := 0, locals := 64 }
set_option maxRecDepth 100000 in
set_option maxHeartbeats 4000000 in
theorem c_Pl_releasesIn {l : Launch} {Γ : rz_G} {h : rz_H} {A : Nat → Int → Nat} {M : Nat → Int → Int} {F : Int → Int} {p : Int} (hp : PlAt Γ h A M F p) (hw : mWF M) (hp6 : 0 ≤ p ∧ p < 6) {r : Nat} {f : Int → Int} {n : Int} (hg : RgAt Γ h r f n) : Ct l Γ x_Pl_releasesIn y_Pl_releasesIn rm_Pl_releasesIn [.ref (A 0 p), .ref r] h (pI (fun b h' => Bt 5 b (inF M p f n (M 2 p)) ∧ h' = h)) := by
  refine rz_met (by decide) rfl rfl (Nat.le_of_ble_eq_true rfl) (fun K _ => ?_)
  refine rz_Leq [(0, .ref (A 0 p)), (1, .ref r)] rfl ?_
  have w2 := (M_big hw).1 p hp6.1 hp6.2
  refine rz_iconst d_Pl_releasesIn_0 ?_
  refine rz_istore_n [(2, vi 0), (0, .ref (A 0 p)), (1, .ref r)] d_Pl_releasesIn_1 rfl (by decide) rfl ?_
  refine rz_iconst d_Pl_releasesIn_2 ?_
  refine rz_istore_n [(3, vi 0), (2, vi 0), (0, .ref (A 0 p)), (1, .ref r)] d_Pl_releasesIn_3 rfl (by decide) rfl ?_
  refine rz_loop (α := Int × Int) 0 0 4 (fun (i, b) => (M 2 p - i).toNat) (fun (i, b) => 0 ≤ i ∧ i ≤ M 2 p ∧ Bt 5 b (inF M p f n i)) (fun (i, b) => [(3, vi i), (2, vi b), (0, .ref (A 0 p)), (1, .ref r)]) (fun (i, b) => []) (fun (i, b) => h) (fun y hy ih4 => ?_) (fun LP => ?_)
  · obtain ⟨i, b⟩ := y
    try dsimp only at hy ih4 ⊢
    obtain ⟨hi0, hi1, hb⟩ := hy
    refine rz_iload_n 0 d_Pl_releasesIn_4 rfl rfl ?_
    refine rz_aload_n 2 d_Pl_releasesIn_5 rfl rfl ?_
    refine rz_getf f_Pl_12 hp.ob rfl d_Pl_releasesIn_6 ?_
    obtain ⟨fso1, so1⟩ := hp.rl.ob
    refine rz_callV (As := []) (c_Al_size hp.rl) m_Pl_22 so1 rfl rfl rfl rfl (Nat.le_of_ble_eq_true rfl) ⟨by decide, by decide⟩ ⟨by decide, by decide⟩ d_Pl_releasesIn_9 (kE (h := h) ?_)
    refine rz_Seq [vi (M 2 p), vi i] (by rw [Int.tn (by omega)]) ?_
    refine rz_icmp_ge 48 d_Pl_releasesIn_12 (by decide) (by omega) (by omega) (fun c12 => ?_) (fun c12 => ?_)
    · refine rz_iload_n 1 d_Pl_releasesIn_48 rfl rfl ?_
      exact rz_ireturn (st := []) rfl d_Pl_releasesIn_49 ⟨by decide, by decide⟩ ⟨_, rfl, (by rw [show M 2 p = i by omega]; exact hb), rfl⟩
    · refine rz_aload_n 3 d_Pl_releasesIn_15 rfl rfl ?_
      refine rz_aload_n 2 d_Pl_releasesIn_16 rfl rfl ?_
      refine rz_getf f_Pl_12 hp.ob rfl d_Pl_releasesIn_17 ?_
      refine rz_iload_n 0 d_Pl_releasesIn_20 rfl rfl ?_
      obtain ⟨fso2, so2⟩ := hp.rl.ob
      refine rz_callV (As := [vi i]) (c_Al_get hp.rl (i := i) (y := (A 3 (4 * p + i))) (by omega) (by omega) rfl) m_Pl_26 so2 rfl rfl rfl rfl (Nat.le_of_ble_eq_true rfl) ⟨by decide, by decide⟩ ⟨by decide, by decide⟩ d_Pl_releasesIn_21 (kR (h := h) fun b3 h3 q3 => ?_)
      rw [q3.1, q3.2]
      refine rz_cast (hp.re i (by omega) (by omega)).ob rfl cl_Pl_30 d_Pl_releasesIn_24 ?_
      refine rz_getf f_Pl_32 (hp.re i (by omega) (by omega)).ob rfl d_Pl_releasesIn_27 ?_
      obtain ⟨fso4, so4⟩ := hg.ob
      refine rz_callV (As := [.ref (A 4 (4 * p + i))]) (c_Rg_holds (hp.re i (by omega) (by omega)).ve hg) m_Pl_46 so4 rfl rfl rfl rfl (Nat.le_of_ble_eq_true rfl) ⟨by decide, by decide⟩ ⟨by decide, by decide⟩ d_Pl_releasesIn_30 (kE (h := h) ?_)
      refine rz_if_eqB 42 d_Pl_releasesIn_33 (by decide) (fun c33 => ?_) (fun c33 => ?_)
      · refine rz_iinc (i + 1) 0 [(3, vi (i + 1)), (2, vi b), (0, .ref (A 0 p)), (1, .ref r)] d_Pl_releasesIn_42 rfl (by first | rfl | omega) (by decide) rfl ?_
        refine rz_goto 4 d_Pl_releasesIn_45 (by decide) ?_
        refine rz_Lsub [(3, vi (i + 1)), (2, vi b), (0, .ref (A 0 p)), (1, .ref r)] [0, 1, 2, 3] rfl ?_
        refine ih4 (i + 1, b) ?_ ?_
        · try dsimp only
          exact ⟨by omega, by omega, inF_f hb hi0 c33⟩
        · exact (by first | omega | (dsimp only; omega))
      · obtain ⟨s1, r1, e1, e2, b3⟩ := inF_t hb (by omega) c33
        refine rz_iload_n 1 d_Pl_releasesIn_36 rfl rfl ?_
        refine rz_iconst d_Pl_releasesIn_37 ?_
        refine rz_iload_n 0 d_Pl_releasesIn_38 rfl rfl ?_
        refine rz_ishl s1 e1 d_Pl_releasesIn_39 ?_
        refine rz_ior r1 e2 d_Pl_releasesIn_40 ?_
        refine rz_istore_n [(2, vi r1), (3, vi i), (0, .ref (A 0 p)), (1, .ref r)] d_Pl_releasesIn_41 rfl (by decide) rfl ?_
        refine rz_iinc (i + 1) 1 [(3, vi (i + 1)), (2, vi r1), (0, .ref (A 0 p)), (1, .ref r)] d_Pl_releasesIn_42 rfl (by first | rfl | omega) (by decide) rfl ?_
        refine rz_goto 4 d_Pl_releasesIn_45 (by decide) ?_
        refine rz_Lsub [(3, vi (i + 1)), (2, vi r1), (0, .ref (A 0 p)), (1, .ref r)] [0, 1, 2, 3] rfl ?_
        refine ih4 (i + 1, r1) ?_ ?_
        · try dsimp only
          exact ⟨by omega, by omega, b3⟩
        · exact (by first | omega | (dsimp only; omega))
  · refine rz_Lsub [(3, vi 0), (2, vi 0), (0, .ref (A 0 p)), (1, .ref r)] [0, 1, 2, 3] rfl ?_
    refine LP (0, 0) ?_
    try dsimp only
    exact ⟨by omega, by omega, inF_0 M p f n⟩
abbrev rm_Pl_withdrawnReleases : Room := { frames := 3, cells := 0, slots := 0, locals := 64 }
set_option maxRecDepth 100000 in
set_option maxHeartbeats 4000000 in
theorem c_Pl_withdrawnReleases {l : Launch} {Γ : rz_G} {h : rz_H} {A : Nat → Int → Nat} {M : Nat → Int → Int} {F : Int → Int} {p : Int} (hp : PlAt Γ h A M F p) (hw : mWF M) (hp6 : 0 ≤ p ∧ p < 6) : Ct l Γ x_Pl_withdrawnReleases y_Pl_withdrawnReleases rm_Pl_withdrawnReleases [.ref (A 0 p)] h (pE (suF (fun k => if M 3 k = 0 then 0 else 1) (4 * p) (M 2 p).toNat) h) := by
  refine rz_met (by decide) rfl rfl (Nat.le_of_ble_eq_true rfl) (fun K _ => ?_)
  refine rz_Leq [(0, .ref (A 0 p))] rfl ?_
  have w2 := (M_big hw).1 p hp6.1 hp6.2
  refine rz_iconst d_Pl_withdrawnReleases_0 ?_
  refine rz_istore_n [(1, vi 0), (0, .ref (A 0 p))] d_Pl_withdrawnReleases_1 rfl (by decide) rfl ?_
  refine rz_iconst d_Pl_withdrawnReleases_2 ?_
  refine rz_istore_n [(2, vi 0), (1, vi 0), (0, .ref (A 0 p))] d_Pl_withdrawnReleases_3 rfl (by decide) rfl ?_
  refine rz_loop (α := Int × Int) 0 0 4 (fun (i, s) => (M 2 p - i).toNat) (fun (i, s) => 0 ≤ i ∧ i ≤ M 2 p ∧ s = suF (fun k => if M 3 k = 0 then 0 else 1) (4 * p) i.toNat) (fun (i, s) => [(2, vi i), (1, vi s), (0, .ref (A 0 p))]) (fun (i, s) => []) (fun (i, s) => h) (fun y hy ih4 => ?_) (fun LP => ?_)
  · obtain ⟨i, s⟩ := y
    try dsimp only at hy ih4 ⊢
    obtain ⟨hi0, hi1, hs⟩ := hy
    refine rz_iload_n 0 d_Pl_withdrawnReleases_4 rfl rfl ?_
    refine rz_aload_n 2 d_Pl_withdrawnReleases_5 rfl rfl ?_
    refine rz_getf f_Pl_12 hp.ob rfl d_Pl_withdrawnReleases_6 ?_
    obtain ⟨fso1, so1⟩ := hp.rl.ob
    refine rz_callV (As := []) (c_Al_size hp.rl) m_Pl_22 so1 rfl rfl rfl rfl (Nat.le_of_ble_eq_true rfl) ⟨by decide, by decide⟩ ⟨by decide, by decide⟩ d_Pl_withdrawnReleases_9 (kE (h := h) ?_)
    refine rz_Seq [vi (M 2 p), vi i] (by rw [Int.tn (by omega)]) ?_
    refine rz_icmp_ge 41 d_Pl_withdrawnReleases_12 (by decide) (by omega) (by omega) (fun c12 => ?_) (fun c12 => ?_)
    · refine rz_iload_n 1 d_Pl_withdrawnReleases_41 rfl rfl ?_
      exact rz_ireturn (st := []) rfl d_Pl_withdrawnReleases_42 ⟨by decide, by decide⟩ ⟨_, rfl, (by rw [hs, show i.toNat = (M 2 p).toNat by omega]), rfl⟩
    · refine rz_aload_n 2 d_Pl_withdrawnReleases_15 rfl rfl ?_
      refine rz_getf f_Pl_12 hp.ob rfl d_Pl_withdrawnReleases_16 ?_
      refine rz_iload_n 0 d_Pl_withdrawnReleases_19 rfl rfl ?_
      obtain ⟨fso2, so2⟩ := hp.rl.ob
      refine rz_callV (As := [vi i]) (c_Al_get hp.rl (i := i) (y := (A 3 (4 * p + i))) (by omega) (by omega) rfl) m_Pl_26 so2 rfl rfl rfl rfl (Nat.le_of_ble_eq_true rfl) ⟨by decide, by decide⟩ ⟨by decide, by decide⟩ d_Pl_withdrawnReleases_20 (kR (h := h) fun b3 h3 q3 => ?_)
      rw [q3.1, q3.2]
      refine rz_cast (hp.re i (by omega) (by omega)).ob rfl cl_Pl_30 d_Pl_withdrawnReleases_23 ?_
      have h3 := hw.2.2.2.2.2.2.2.1 (4 * p + i) (by omega) (by omega)
      refine rz_getf f_Pl_52 (hp.re i (by omega) (by omega)).ob rfl d_Pl_withdrawnReleases_26 ?_
      refine rz_if_eq 35 d_Pl_withdrawnReleases_29 (by decide) (by omega) (fun c29 => ?_) (fun c29 => ?_)
      · refine rz_iinc (i + 1) 0 [(2, vi (i + 1)), (1, vi s), (0, .ref (A 0 p))] d_Pl_withdrawnReleases_35 rfl (by first | rfl | omega) (by decide) rfl ?_
        refine rz_goto 4 d_Pl_withdrawnReleases_38 (by decide) ?_
        refine rz_Lsub [(2, vi (i + 1)), (1, vi s), (0, .ref (A 0 p))] [0, 1, 2] rfl ?_
        refine ih4 (i + 1, s) ?_ ?_
        · try dsimp only
          exact ⟨by omega, by omega, (by rw [show (i + 1).toNat = i.toNat + 1 by omega, suF, ← hs, Int.tn hi0]; rw [if_pos c29]; omega)⟩
        · exact (by first | omega | (dsimp only; omega))
      · refine rz_iinc (s + 1) 1 [(1, vi (s + 1)), (2, vi i), (0, .ref (A 0 p))] d_Pl_withdrawnReleases_32 rfl (by first | rfl | omega) (by decide) rfl ?_
        refine rz_iinc (i + 1) 1 [(2, vi (i + 1)), (1, vi (s + 1)), (0, .ref (A 0 p))] d_Pl_withdrawnReleases_35 rfl (by first | rfl | omega) (by decide) rfl ?_
        refine rz_goto 4 d_Pl_withdrawnReleases_38 (by decide) ?_
        refine rz_Lsub [(2, vi (i + 1)), (1, vi (s + 1)), (0, .ref (A 0 p))] [0, 1, 2] rfl ?_
        refine ih4 (i + 1, s + 1) ?_ ?_
        · try dsimp only
          exact ⟨by omega, by omega, (by rw [show (i + 1).toNat = i.toNat + 1 by omega, suF, ← hs, Int.tn hi0]; rw [if_neg c29])⟩
        · exact (by first | omega | (dsimp only; omega))
  · refine rz_Lsub [(2, vi 0), (1, vi 0), (0, .ref (A 0 p))] [0, 1, 2] rfl ?_
    refine LP (0, 0) ?_
    try dsimp only
    exact ⟨by omega, by omega, rfl⟩
abbrev rm_Pl_needsOfReleases : Room := { frames := 3, cells := 0, slots := 0, locals := 64 }
set_option maxRecDepth 100000 in
set_option maxHeartbeats 4000000 in
theorem c_Pl_needsOfReleases {l : Launch} {Γ : rz_G} {h : rz_H} {A : Nat → Int → Nat} {M : Nat → Int → Int} {F : Int → Int} {p : Int} (hp : PlAt Γ h A M F p) (hw : mWF M) (hp6 : 0 ≤ p ∧ p < 6) : Ct l Γ x_Pl_needsOfReleases y_Pl_needsOfReleases rm_Pl_needsOfReleases [.ref (A 0 p)] h (pE (suF (M 5) (4 * p) (M 2 p).toNat) h) := by
  refine rz_met (by decide) rfl rfl (Nat.le_of_ble_eq_true rfl) (fun K _ => ?_)
  refine rz_Leq [(0, .ref (A 0 p))] rfl ?_
  have w2 := (M_big hw).1 p hp6.1 hp6.2
  refine rz_iconst d_Pl_needsOfReleases_0 ?_
  refine rz_istore_n [(1, vi 0), (0, .ref (A 0 p))] d_Pl_needsOfReleases_1 rfl (by decide) rfl ?_
  refine rz_iconst d_Pl_needsOfReleases_2 ?_
  refine rz_istore_n [(2, vi 0), (1, vi 0), (0, .ref (A 0 p))] d_Pl_needsOfReleases_3 rfl (by decide) rfl ?_
  refine rz_loop (α := Int × Int) 0 0 4 (fun (i, s) => (M 2 p - i).toNat) (fun (i, s) => 0 ≤ i ∧ i ≤ M 2 p ∧ s = suF (M 5) (4 * p) i.toNat) (fun (i, s) => [(2, vi i), (1, vi s), (0, .ref (A 0 p))]) (fun (i, s) => []) (fun (i, s) => h) (fun y hy ih4 => ?_) (fun LP => ?_)
  · obtain ⟨i, s⟩ := y
    try dsimp only at hy ih4 ⊢
    obtain ⟨hi0, hi1, hs⟩ := hy
    refine rz_iload_n 0 d_Pl_needsOfReleases_4 rfl rfl ?_
    refine rz_aload_n 2 d_Pl_needsOfReleases_5 rfl rfl ?_
    refine rz_getf f_Pl_12 hp.ob rfl d_Pl_needsOfReleases_6 ?_
    obtain ⟨fso1, so1⟩ := hp.rl.ob
    refine rz_callV (As := []) (c_Al_size hp.rl) m_Pl_22 so1 rfl rfl rfl rfl (Nat.le_of_ble_eq_true rfl) ⟨by decide, by decide⟩ ⟨by decide, by decide⟩ d_Pl_needsOfReleases_9 (kE (h := h) ?_)
    refine rz_Seq [vi (M 2 p), vi i] (by rw [Int.tn (by omega)]) ?_
    refine rz_icmp_ge 41 d_Pl_needsOfReleases_12 (by decide) (by omega) (by omega) (fun c12 => ?_) (fun c12 => ?_)
    · refine rz_iload_n 1 d_Pl_needsOfReleases_41 rfl rfl ?_
      exact rz_ireturn (st := []) rfl d_Pl_needsOfReleases_42 ⟨by decide, by decide⟩ ⟨_, rfl, (by rw [hs, show i.toNat = (M 2 p).toNat by omega]), rfl⟩
    · refine rz_iload_n 1 d_Pl_needsOfReleases_15 rfl rfl ?_
      have h5 := (M_big hw).2.1 (4 * p + i) (by omega) (by omega)
      refine rz_aload_n 2 d_Pl_needsOfReleases_16 rfl rfl ?_
      refine rz_getf f_Pl_12 hp.ob rfl d_Pl_needsOfReleases_17 ?_
      refine rz_iload_n 0 d_Pl_needsOfReleases_20 rfl rfl ?_
      obtain ⟨fso2, so2⟩ := hp.rl.ob
      refine rz_callV (As := [vi i]) (c_Al_get hp.rl (i := i) (y := (A 3 (4 * p + i))) (by omega) (by omega) rfl) m_Pl_26 so2 rfl rfl rfl rfl (Nat.le_of_ble_eq_true rfl) ⟨by decide, by decide⟩ ⟨by decide, by decide⟩ d_Pl_needsOfReleases_21 (kR (h := h) fun b3 h3 q3 => ?_)
      rw [q3.1, q3.2]
      refine rz_cast (hp.re i (by omega) (by omega)).ob rfl cl_Pl_30 d_Pl_needsOfReleases_24 ?_
      refine rz_getf f_Pl_56 (hp.re i (by omega) (by omega)).ob rfl d_Pl_needsOfReleases_27 ?_
      obtain ⟨fso4, so4⟩ := (hp.re i (by omega) (by omega)).nl.ob
      refine rz_callV (As := []) (c_Al_size (hp.re i (by omega) (by omega)).nl) m_Pl_22 so4 rfl rfl rfl rfl (Nat.le_of_ble_eq_true rfl) ⟨by decide, by decide⟩ ⟨by decide, by decide⟩ d_Pl_needsOfReleases_30 (kE (h := h) ?_)
      refine rz_Seq [vi (M 5 (4 * p + i)), vi s] (by rw [Int.tn (by omega)]) ?_
      refine rz_iadd d_Pl_needsOfReleases_33 ?_
      refine rz_istore_n [(1, vi (s + (M 5 (4 * p + i)))), (2, vi i), (0, .ref (A 0 p))] d_Pl_needsOfReleases_34 rfl (by decide) rfl ?_
      refine rz_iinc (i + 1) 1 [(2, vi (i + 1)), (1, vi (s + (M 5 (4 * p + i)))), (0, .ref (A 0 p))] d_Pl_needsOfReleases_35 rfl (by first | rfl | omega) (by decide) rfl ?_
      refine rz_goto 4 d_Pl_needsOfReleases_38 (by decide) ?_
      refine rz_Lsub [(2, vi (i + 1)), (1, vi (s + (M 5 (4 * p + i)))), (0, .ref (A 0 p))] [0, 1, 2] rfl ?_
      refine ih4 (i + 1, (s + (M 5 (4 * p + i)))) ?_ ?_
      · try dsimp only
        exact ⟨by omega, by omega, (by rw [show (i + 1).toNat = i.toNat + 1 by omega, suF, ← hs, Int.tn hi0])⟩
      · exact (by first | omega | (dsimp only; omega))
  · refine rz_Lsub [(2, vi 0), (1, vi 0), (0, .ref (A 0 p))] [0, 1, 2] rfl ?_
    refine LP (0, 0) ?_
    try dsimp only
    exact ⟨by omega, by omega, rfl⟩

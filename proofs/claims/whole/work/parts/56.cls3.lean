/-! the class: reading versions, ranges -/
def rdV (Γ : rz_G) (h : rz_H) (r : Option Nat) (f : Int → Int) (n : Nat) : Prop := match r with
  | none => ver f 0 n = false
  | some v => ver f 0 n = true ∧ VeAt Γ h v (vR f 0 n) (vP f 0 n)
abbrev rm_Ve_read : Room := { frames := 7, cells := 27, slots := 482, locals := 181 }
set_option maxRecDepth 100000 in
set_option maxHeartbeats 4000000 in
theorem c_Ve_read {l : Launch} {Γ : rz_G} {h : rz_H} {s n : Nat} {f : Int → Int} (hs : StrAt Γ h s n f 1) (hk : KsAt Γ h) : Ct l Γ x_Ve_read y_Ve_read rm_Ve_read [.ref s] h (pO (fun r h' => rdV Γ h' r f n ∧ rz_fr [] h h')) := by
  refine rz_met (by decide) rfl rfl (Nat.le_of_ble_eq_true rfl) (fun K _ => ?_)
  refine rz_Leq [(0, .ref s)] rfl ?_
  refine rz_aload_n 0 d_Ve_read_0 rfl rfl ?_
  refine rz_callS (As := [.ref s]) (c_Ve_isVersion hs) m_Ve_37 rfl rfl (Nat.le_of_ble_eq_true rfl) ⟨by decide, by decide⟩ ⟨by decide, by decide⟩ d_Ve_read_1 (kE (h := h) ?_)
  refine rz_if_eqB 18 d_Ve_read_4 (by decide) (fun c4 => ?_) (fun c4 => ?_)
  · refine rz_null d_Ve_read_18 ?_
    exact rz_areturn (st := []) (r := none) rfl (Or.inl ⟨_, rfl⟩) d_Ve_read_19 ⟨by decide, by decide⟩ ⟨none, rfl, c4, rz_fr.rf⟩
  · refine rz_new (ci := 5) (q0 := ("ReleaseSolver$Version", k_T5, 2)) (3, 0) (show (3 : Nat) ≠ 0 by decide) rfl rfl cl_Ve_7 ⟨by decide, by decide⟩ d_Ve_read_7 (fun q1 zq1 => ?_)
    refine rz_nm fun h2 eh2 => ?_
    have g2 : rz_fr [] h h2 := by rw [eh2]; exact rz_fr.nw zq1
    have z2 : h q1 = none := rz_fr.rf.nn zq1
    have F3 : rz_fr [] h h2 := rz_fr.rf.tr (g2.mono (by decide))
    have hs_4 : StrAt Γ h2 s n f 1 := StrAt.fr hs g2 (by decide)
    have hk_4 : KsAt Γ h2 := KsAt.fr hk g2 (by decide)
    have fn_2 : h2 q1 = some ((3, 0), .inr (5, [.null, .null])) := by rw [eh2]; exact rz_up_s _ _ _
    refine rz_dup d_Ve_read_10 rfl ?_
    refine rz_aload_n 0 d_Ve_read_11 rfl rfl ?_
    refine rz_callI (As := [.ref s]) (c_Ve_init fn_2 hs_4 hk_4 c4) m_Ve_41 rfl rfl (Nat.le_of_ble_eq_true rfl) ⟨by decide, by decide⟩ ⟨by decide, by decide⟩ d_Ve_read_12 (kV (h := h2) fun h5 q5 => ?_)
    obtain ⟨p5, G5⟩ := q5
    have R5 : rz_fr [3] h2 h5 := rz_fo.fr1 fn_2 G5
    have F5 : rz_fr [] h h5 := fun a t x ha hr => G5 a (t, x) (fun z => by rw [z, z2] at ha; cases ha) (F3 a t x ha hr)
    have hs_6 : StrAt Γ h5 s n f 1 := StrAt.fr hs_4 R5 (by decide)
    have hk_6 : KsAt Γ h5 := KsAt.fr hk_4 R5 (by decide)
    have vq1_5 : VeAt Γ h5 q1 (vR f 0 (n : Nat)) (vP f 0 (n : Nat)) := p5
    refine rz_goto 19 d_Ve_read_15 (by decide) ?_
    exact rz_areturn (st := []) (r := some q1) rfl (Or.inl ⟨_, rfl⟩) d_Ve_read_19 ⟨by decide, by decide⟩ ⟨some q1, rfl, ⟨c4, vq1_5⟩, F5⟩
def BdAt (Γ : rz_G) (h : rz_H) (o : Option Nat) (f : Int → Int) (b : Option (Int × Int)) : Prop := match o, b with
  | none, none => True
  | some v, some q => VeAt Γ h v (vR f q.1 q.2) (vP f q.1 q.2)
  | _, _ => False
theorem BdAt.fr {Γ : rz_G} {h h' : rz_H} {o : Option Nat} {f : Int → Int} {b : Option (Int × Int)} {rs : List Nat} (hb : BdAt Γ h o f b) (hf : rz_fr rs h h') (hr : ∀ r ∈ rs, 6 ≤ r) : BdAt Γ h' o f b := by
  cases o <;> cases b <;> simp only [BdAt] at hb ⊢
  exact hb.fr hf hr
/-- a range's object: what the text f of n letters says; it stays as it is (roles 3 to 6) -/
def RgAt (Γ : rz_G) (h : rz_H) (r : Nat) (f : Int → Int) (n : Int) : Prop := ∃ lo hi : Option Nat, h r = some ((6, 0), .inr (9, [va_rf lo, va_rf hi, vi (bi (rWl f n)), vi (bi (rWu f n))])) ∧ BdAt Γ h lo f (rLo f n) ∧ BdAt Γ h hi f (rHi f n)
theorem RgAt.fr {Γ : rz_G} {h h' : rz_H} {r : Nat} {f : Int → Int} {n : Int} {rs : List Nat} (hg : RgAt Γ h r f n) (hf : rz_fr rs h h') (hr : ∀ r ∈ rs, 7 ≤ r) : RgAt Γ h' r f n := by
  obtain ⟨lo, hi, a1, a2, a3⟩ := hg
  exact ⟨lo, hi, hf _ _ _ a1 (fun q => by have := hr _ q; omega), a2.fr hf (fun r q => by have := hr r q; omega), a3.fr hf (fun r q => by have := hr r q; omega)⟩
theorem RgAt.ob {Γ : rz_G} {h : rz_H} {r : Nat} {f : Int → Int} {n : Int} (hg : RgAt Γ h r f n) : ∃ fs, h r = some ((6, 0), .inr (9, fs)) := by
  obtain ⟨lo, hi, a1, _⟩ := hg; exact ⟨_, a1⟩
def rdR (Γ : rz_G) (h : rz_H) (r : Option Nat) (f : Int → Int) (n : Nat) : Prop := match r with
  | none => rng f n = false
  | some a => rng f n = true ∧ RgAt Γ h a f n
abbrev rm_Rg_init : Room := { frames := 1, cells := 0, slots := 0, locals := 24 }
set_option maxRecDepth 100000 in
set_option maxHeartbeats 4000000 in
theorem c_Rg_initNN {l : Launch} {Γ : rz_G} {h : rz_H} {r : Nat} {wl wu : Bool} (hr : h r = some ((6, 0), .inr (9, [.null, .null, vi 0, vi 0]))) : Ct l Γ x_Rg_init y_Rg_init rm_Rg_init [.ref r, .null, vi (bi wl), .null, vi (bi wu)] h (pV (fun h' => h' r = some ((6, 0), .inr (9, [.null, .null, vi (bi wl), vi (bi wu)])) ∧ rz_fo r h h')) := by
  refine rz_met (by decide) rfl rfl (Nat.le_of_ble_eq_true rfl) (fun K _ => ?_)
  refine rz_Leq [(0, .ref r), (1, .null), (2, vi (bi wl)), (3, .null), (4, vi (bi wu))] rfl ?_
  refine rz_aload_n 0 d_Rg_init_0 rfl rfl ?_
  refine rz_objInit oi_Rg oi_i oi_c (Nat.le_of_ble_eq_true rfl) (by decide) d_Rg_init_1 ?_
  refine rz_aload_n 0 d_Rg_init_4 rfl rfl ?_
  refine rz_aload_nN 1 d_Rg_init_5 rfl rfl ?_
  refine rz_putf (fp_Rg_7) hr (show (6 : Nat) ≠ 0 by decide) rfl rfl (show 0 < 4 by decide) d_Rg_init_6 ?_
  refine rz_nm fun h1 eh1 => ?_
  have g1 : rz_fr [6] h h1 := by rw [eh1]; exact rz_fr.one hr
  have F2 : rz_fo r h h1 := by rw [eh1]; exact rz_fo.rf.up
  have fu_1 : h1 r = some ((6, 0), .inr (9, [.null, .null, vi 0, vi 0])) := by rw [eh1]; exact rz_up_s _ _ _
  refine rz_aload_n 0 d_Rg_init_9 rfl rfl ?_
  refine rz_iload_n 2 d_Rg_init_10 rfl rfl ?_
  refine rz_putf (fp_Rg_13) fu_1 (show (6 : Nat) ≠ 0 by decide) (nz_b _) (fz_b _) (show 2 < 4 by decide) d_Rg_init_11 ?_
  refine rz_nm fun h4 eh4 => ?_
  have g4 : rz_fr [6] h1 h4 := by rw [eh4]; exact rz_fr.one fu_1
  have F5 : rz_fo r h h4 := by rw [eh4]; exact F2.up
  have fu_4 : h4 r = some ((6, 0), .inr (9, [.null, .null, vi (bi wl), vi 0])) := by rw [eh4]; exact rz_up_s _ _ _
  refine rz_aload_n 0 d_Rg_init_14 rfl rfl ?_
  refine rz_aload_nN 3 d_Rg_init_15 rfl rfl ?_
  refine rz_putf (fp_Rg_17) fu_4 (show (6 : Nat) ≠ 0 by decide) rfl rfl (show 1 < 4 by decide) d_Rg_init_16 ?_
  refine rz_nm fun h7 eh7 => ?_
  have g7 : rz_fr [6] h4 h7 := by rw [eh7]; exact rz_fr.one fu_4
  have F8 : rz_fo r h h7 := by rw [eh7]; exact F5.up
  have fu_7 : h7 r = some ((6, 0), .inr (9, [.null, .null, vi (bi wl), vi 0])) := by rw [eh7]; exact rz_up_s _ _ _
  refine rz_aload_n 0 d_Rg_init_19 rfl rfl ?_
  refine rz_iload 4 d_Rg_init_20 rfl ?_
  refine rz_putf (fp_Rg_20) fu_7 (show (6 : Nat) ≠ 0 by decide) (nz_b _) (fz_b _) (show 3 < 4 by decide) d_Rg_init_22 ?_
  refine rz_nm fun h10 eh10 => ?_
  have g10 : rz_fr [6] h7 h10 := by rw [eh10]; exact rz_fr.one fu_7
  have F11 : rz_fo r h h10 := by rw [eh10]; exact F8.up
  have fu_10 : h10 r = some ((6, 0), .inr (9, [.null, .null, vi (bi wl), vi (bi wu)])) := by rw [eh10]; exact rz_up_s _ _ _
  exact rz_return (st := []) rfl d_Rg_init_25 ⟨by decide, by decide⟩ ⟨rfl, fu_10, F11⟩
set_option maxRecDepth 100000 in
set_option maxHeartbeats 4000000 in
theorem c_Rg_initNR {l : Launch} {Γ : rz_G} {h : rz_H} {r : Nat} {y : Nat} {wl wu : Bool} (hr : h r = some ((6, 0), .inr (9, [.null, .null, vi 0, vi 0]))) : Ct l Γ x_Rg_init y_Rg_init rm_Rg_init [.ref r, .null, vi (bi wl), .ref y, vi (bi wu)] h (pV (fun h' => h' r = some ((6, 0), .inr (9, [.null, .ref y, vi (bi wl), vi (bi wu)])) ∧ rz_fo r h h')) := by
  refine rz_met (by decide) rfl rfl (Nat.le_of_ble_eq_true rfl) (fun K _ => ?_)
  refine rz_Leq [(0, .ref r), (1, .null), (2, vi (bi wl)), (3, .ref y), (4, vi (bi wu))] rfl ?_
  refine rz_aload_n 0 d_Rg_init_0 rfl rfl ?_
  refine rz_objInit oi_Rg oi_i oi_c (Nat.le_of_ble_eq_true rfl) (by decide) d_Rg_init_1 ?_
  refine rz_aload_n 0 d_Rg_init_4 rfl rfl ?_
  refine rz_aload_nN 1 d_Rg_init_5 rfl rfl ?_
  refine rz_putf (fp_Rg_7) hr (show (6 : Nat) ≠ 0 by decide) rfl rfl (show 0 < 4 by decide) d_Rg_init_6 ?_
  refine rz_nm fun h1 eh1 => ?_
  have g1 : rz_fr [6] h h1 := by rw [eh1]; exact rz_fr.one hr
  have F2 : rz_fo r h h1 := by rw [eh1]; exact rz_fo.rf.up
  have fu_1 : h1 r = some ((6, 0), .inr (9, [.null, .null, vi 0, vi 0])) := by rw [eh1]; exact rz_up_s _ _ _
  refine rz_aload_n 0 d_Rg_init_9 rfl rfl ?_
  refine rz_iload_n 2 d_Rg_init_10 rfl rfl ?_
  refine rz_putf (fp_Rg_13) fu_1 (show (6 : Nat) ≠ 0 by decide) (nz_b _) (fz_b _) (show 2 < 4 by decide) d_Rg_init_11 ?_
  refine rz_nm fun h4 eh4 => ?_
  have g4 : rz_fr [6] h1 h4 := by rw [eh4]; exact rz_fr.one fu_1
  have F5 : rz_fo r h h4 := by rw [eh4]; exact F2.up
  have fu_4 : h4 r = some ((6, 0), .inr (9, [.null, .null, vi (bi wl), vi 0])) := by rw [eh4]; exact rz_up_s _ _ _
  refine rz_aload_n 0 d_Rg_init_14 rfl rfl ?_
  refine rz_aload_n 3 d_Rg_init_15 rfl rfl ?_
  refine rz_putf (fp_Rg_17) fu_4 (show (6 : Nat) ≠ 0 by decide) rfl rfl (show 1 < 4 by decide) d_Rg_init_16 ?_
  refine rz_nm fun h7 eh7 => ?_
  have g7 : rz_fr [6] h4 h7 := by rw [eh7]; exact rz_fr.one fu_4
  have F8 : rz_fo r h h7 := by rw [eh7]; exact F5.up
  have fu_7 : h7 r = some ((6, 0), .inr (9, [.null, .ref y, vi (bi wl), vi 0])) := by rw [eh7]; exact rz_up_s _ _ _
  refine rz_aload_n 0 d_Rg_init_19 rfl rfl ?_
  refine rz_iload 4 d_Rg_init_20 rfl ?_
  refine rz_putf (fp_Rg_20) fu_7 (show (6 : Nat) ≠ 0 by decide) (nz_b _) (fz_b _) (show 3 < 4 by decide) d_Rg_init_22 ?_
  refine rz_nm fun h10 eh10 => ?_
  have g10 : rz_fr [6] h7 h10 := by rw [eh10]; exact rz_fr.one fu_7
  have F11 : rz_fo r h h10 := by rw [eh10]; exact F8.up
  have fu_10 : h10 r = some ((6, 0), .inr (9, [.null, .ref y, vi (bi wl), vi (bi wu)])) := by rw [eh10]; exact rz_up_s _ _ _
  exact rz_return (st := []) rfl d_Rg_init_25 ⟨by decide, by decide⟩ ⟨rfl, fu_10, F11⟩
set_option maxRecDepth 100000 in
set_option maxHeartbeats 4000000 in
theorem c_Rg_initRN {l : Launch} {Γ : rz_G} {h : rz_H} {r : Nat} {x : Nat} {wl wu : Bool} (hr : h r = some ((6, 0), .inr (9, [.null, .null, vi 0, vi 0]))) : Ct l Γ x_Rg_init y_Rg_init rm_Rg_init [.ref r, .ref x, vi (bi wl), .null, vi (bi wu)] h (pV (fun h' => h' r = some ((6, 0), .inr (9, [.ref x, .null, vi (bi wl), vi (bi wu)])) ∧ rz_fo r h h')) := by
  refine rz_met (by decide) rfl rfl (Nat.le_of_ble_eq_true rfl) (fun K _ => ?_)
  refine rz_Leq [(0, .ref r), (1, .ref x), (2, vi (bi wl)), (3, .null), (4, vi (bi wu))] rfl ?_
  refine rz_aload_n 0 d_Rg_init_0 rfl rfl ?_
  refine rz_objInit oi_Rg oi_i oi_c (Nat.le_of_ble_eq_true rfl) (by decide) d_Rg_init_1 ?_
  refine rz_aload_n 0 d_Rg_init_4 rfl rfl ?_
  refine rz_aload_n 1 d_Rg_init_5 rfl rfl ?_
  refine rz_putf (fp_Rg_7) hr (show (6 : Nat) ≠ 0 by decide) rfl rfl (show 0 < 4 by decide) d_Rg_init_6 ?_
  refine rz_nm fun h1 eh1 => ?_
  have g1 : rz_fr [6] h h1 := by rw [eh1]; exact rz_fr.one hr
  have F2 : rz_fo r h h1 := by rw [eh1]; exact rz_fo.rf.up
  have fu_1 : h1 r = some ((6, 0), .inr (9, [.ref x, .null, vi 0, vi 0])) := by rw [eh1]; exact rz_up_s _ _ _
  refine rz_aload_n 0 d_Rg_init_9 rfl rfl ?_
  refine rz_iload_n 2 d_Rg_init_10 rfl rfl ?_
  refine rz_putf (fp_Rg_13) fu_1 (show (6 : Nat) ≠ 0 by decide) (nz_b _) (fz_b _) (show 2 < 4 by decide) d_Rg_init_11 ?_
  refine rz_nm fun h4 eh4 => ?_
  have g4 : rz_fr [6] h1 h4 := by rw [eh4]; exact rz_fr.one fu_1
  have F5 : rz_fo r h h4 := by rw [eh4]; exact F2.up
  have fu_4 : h4 r = some ((6, 0), .inr (9, [.ref x, .null, vi (bi wl), vi 0])) := by rw [eh4]; exact rz_up_s _ _ _
  refine rz_aload_n 0 d_Rg_init_14 rfl rfl ?_
  refine rz_aload_nN 3 d_Rg_init_15 rfl rfl ?_
  refine rz_putf (fp_Rg_17) fu_4 (show (6 : Nat) ≠ 0 by decide) rfl rfl (show 1 < 4 by decide) d_Rg_init_16 ?_
  refine rz_nm fun h7 eh7 => ?_
  have g7 : rz_fr [6] h4 h7 := by rw [eh7]; exact rz_fr.one fu_4
  have F8 : rz_fo r h h7 := by rw [eh7]; exact F5.up
  have fu_7 : h7 r = some ((6, 0), .inr (9, [.ref x, .null, vi (bi wl), vi 0])) := by rw [eh7]; exact rz_up_s _ _ _
  refine rz_aload_n 0 d_Rg_init_19 rfl rfl ?_
  refine rz_iload 4 d_Rg_init_20 rfl ?_
  refine rz_putf (fp_Rg_20) fu_7 (show (6 : Nat) ≠ 0 by decide) (nz_b _) (fz_b _) (show 3 < 4 by decide) d_Rg_init_22 ?_
  refine rz_nm fun h10 eh10 => ?_
  have g10 : rz_fr [6] h7 h10 := by rw [eh10]; exact rz_fr.one fu_7
  have F11 : rz_fo r h h10 := by rw [eh10]; exact F8.up
  have fu_10 : h10 r = some ((6, 0), .inr (9, [.ref x, .null, vi (bi wl), vi (bi wu)])) := by rw [eh10]; exact rz_up_s _ _ _
  exact rz_return (st := []) rfl d_Rg_init_25 ⟨by decide, by decide⟩ ⟨rfl, fu_10, F11⟩
set_option maxRecDepth 100000 in
set_option maxHeartbeats 4000000 in
theorem c_Rg_initRR {l : Launch} {Γ : rz_G} {h : rz_H} {r : Nat} {x : Nat} {y : Nat} {wl wu : Bool} (hr : h r = some ((6, 0), .inr (9, [.null, .null, vi 0, vi 0]))) : Ct l Γ x_Rg_init y_Rg_init rm_Rg_init [.ref r, .ref x, vi (bi wl), .ref y, vi (bi wu)] h (pV (fun h' => h' r = some ((6, 0), .inr (9, [.ref x, .ref y, vi (bi wl), vi (bi wu)])) ∧ rz_fo r h h')) := by
  refine rz_met (by decide) rfl rfl (Nat.le_of_ble_eq_true rfl) (fun K _ => ?_)
  refine rz_Leq [(0, .ref r), (1, .ref x), (2, vi (bi wl)), (3, .ref y), (4, vi (bi wu))] rfl ?_
  refine rz_aload_n 0 d_Rg_init_0 rfl rfl ?_
  refine rz_objInit oi_Rg oi_i oi_c (Nat.le_of_ble_eq_true rfl) (by decide) d_Rg_init_1 ?_
  refine rz_aload_n 0 d_Rg_init_4 rfl rfl ?_
  refine rz_aload_n 1 d_Rg_init_5 rfl rfl ?_
  refine rz_putf (fp_Rg_7) hr (show (6 : Nat) ≠ 0 by decide) rfl rfl (show 0 < 4 by decide) d_Rg_init_6 ?_
  refine rz_nm fun h1 eh1 => ?_
  have g1 : rz_fr [6] h h1 := by rw [eh1]; exact rz_fr.one hr
  have F2 : rz_fo r h h1 := by rw [eh1]; exact rz_fo.rf.up
  have fu_1 : h1 r = some ((6, 0), .inr (9, [.ref x, .null, vi 0, vi 0])) := by rw [eh1]; exact rz_up_s _ _ _
  refine rz_aload_n 0 d_Rg_init_9 rfl rfl ?_
  refine rz_iload_n 2 d_Rg_init_10 rfl rfl ?_
  refine rz_putf (fp_Rg_13) fu_1 (show (6 : Nat) ≠ 0 by decide) (nz_b _) (fz_b _) (show 2 < 4 by decide) d_Rg_init_11 ?_
  refine rz_nm fun h4 eh4 => ?_
  have g4 : rz_fr [6] h1 h4 := by rw [eh4]; exact rz_fr.one fu_1
  have F5 : rz_fo r h h4 := by rw [eh4]; exact F2.up
  have fu_4 : h4 r = some ((6, 0), .inr (9, [.ref x, .null, vi (bi wl), vi 0])) := by rw [eh4]; exact rz_up_s _ _ _
  refine rz_aload_n 0 d_Rg_init_14 rfl rfl ?_
  refine rz_aload_n 3 d_Rg_init_15 rfl rfl ?_
  refine rz_putf (fp_Rg_17) fu_4 (show (6 : Nat) ≠ 0 by decide) rfl rfl (show 1 < 4 by decide) d_Rg_init_16 ?_
  refine rz_nm fun h7 eh7 => ?_
  have g7 : rz_fr [6] h4 h7 := by rw [eh7]; exact rz_fr.one fu_4
  have F8 : rz_fo r h h7 := by rw [eh7]; exact F5.up
  have fu_7 : h7 r = some ((6, 0), .inr (9, [.ref x, .ref y, vi (bi wl), vi 0])) := by rw [eh7]; exact rz_up_s _ _ _
  refine rz_aload_n 0 d_Rg_init_19 rfl rfl ?_
  refine rz_iload 4 d_Rg_init_20 rfl ?_
  refine rz_putf (fp_Rg_20) fu_7 (show (6 : Nat) ≠ 0 by decide) (nz_b _) (fz_b _) (show 3 < 4 by decide) d_Rg_init_22 ?_
  refine rz_nm fun h10 eh10 => ?_
  have g10 : rz_fr [6] h7 h10 := by rw [eh10]; exact rz_fr.one fu_7
  have F11 : rz_fo r h h10 := by rw [eh10]; exact F8.up
  have fu_10 : h10 r = some ((6, 0), .inr (9, [.ref x, .ref y, vi (bi wl), vi (bi wu)])) := by rw [eh10]; exact rz_up_s _ _ _
  exact rz_return (st := []) rfl d_Rg_init_25 ⟨by decide, by decide⟩ ⟨rfl, fu_10, F11⟩
abbrev rm_Rg_holds : Room := { frames := 1, cells := 0, slots := 0, locals := 22 }
set_option maxRecDepth 100000 in
set_option maxHeartbeats 4000000 in
theorem c_Rg_holdsNN {l : Launch} {Γ : rz_G} {h : rz_H} {r v : Nat} {wl wu : Bool} {R P : Int → Int} (hv : VeAt Γ h v R P) (hr : h r = some ((6, 0), .inr (9, [.null, .null, vi (bi wl), vi (bi wu)]))) : Ct l Γ x_Rg_holds y_Rg_holds rm_Rg_holds [.ref r, .ref v] h (pE (bi (true && true)) h) := by
  refine rz_met (by decide) rfl rfl (Nat.le_of_ble_eq_true rfl) (fun K _ => ?_)
  refine rz_Leq [(0, .ref r), (1, .ref v)] rfl ?_
  refine rz_aload_n 0 d_Rg_holds_0 rfl rfl ?_
  refine rz_getf f_Rg_7 hr rfl d_Rg_holds_1 ?_
  refine rz_ifnullN 32 d_Rg_holds_4 (by decide) ?_
  refine rz_aload_n 0 d_Rg_holds_32 rfl rfl ?_
  refine rz_getf f_Rg_17 hr rfl d_Rg_holds_33 ?_
  refine rz_ifnullN 62 d_Rg_holds_36 (by decide) ?_
  refine rz_iconst d_Rg_holds_62 ?_
  refine rz_goto 67 d_Rg_holds_63 (by decide) ?_
  exact rz_zreturn (st := []) (ty := .boolean) rfl rfl d_Rg_holds_67 ⟨by decide, by decide⟩ ⟨_, rfl, bi1 rfl, rfl⟩
set_option maxRecDepth 100000 in
set_option maxHeartbeats 4000000 in
theorem c_Rg_holdsNR {l : Launch} {Γ : rz_G} {h : rz_H} {r v : Nat} {wl wu : Bool} {R P : Int → Int} (hv : VeAt Γ h v R P) {y : Nat} {Ry Py : Int → Int} (hy : VeAt Γ h y Ry Py) (hr : h r = some ((6, 0), .inr (9, [.null, .ref y, vi (bi wl), vi (bi wu)]))) : Ct l Γ x_Rg_holds y_Rg_holds rm_Rg_holds [.ref r, .ref v] h (pE (bi (true && decide (cvF R P Ry Py 12 0 ≤ (if wu = true then 0 else -1)))) h) := by
  refine rz_met (by decide) rfl rfl (Nat.le_of_ble_eq_true rfl) (fun K _ => ?_)
  refine rz_Leq [(0, .ref r), (1, .ref v)] rfl ?_
  refine rz_aload_n 0 d_Rg_holds_0 rfl rfl ?_
  refine rz_getf f_Rg_7 hr rfl d_Rg_holds_1 ?_
  refine rz_ifnullN 32 d_Rg_holds_4 (by decide) ?_
  refine rz_aload_n 0 d_Rg_holds_32 rfl rfl ?_
  refine rz_getf f_Rg_17 hr rfl d_Rg_holds_33 ?_
  refine rz_ifnullR d_Rg_holds_36 ?_
  refine rz_aload_n 1 d_Rg_holds_39 rfl rfl ?_
  refine rz_aload_n 0 d_Rg_holds_40 rfl rfl ?_
  refine rz_getf f_Rg_17 hr rfl d_Rg_holds_41 ?_
  obtain ⟨fso1, so1⟩ := hv.ob
  refine rz_callV (As := [.ref y]) (c_Ve_comparedTo hv hy) m_Rg_61 so1 rfl rfl rfl rfl (Nat.le_of_ble_eq_true rfl) ⟨by decide, by decide⟩ ⟨by decide, by decide⟩ d_Rg_holds_44 (kE (h := h) ?_)
  refine rz_top (fun cu e_cu => ?_)
  replace e_cu := e_cu.symm
  refine rz_aload_n 0 d_Rg_holds_47 rfl rfl ?_
  refine rz_getf f_Rg_20 hr rfl d_Rg_holds_48 ?_
  refine rz_if_eqB 58 d_Rg_holds_51 (by decide) (fun c51 => ?_) (fun c51 => ?_)
  · refine rz_iconst d_Rg_holds_58 ?_
    refine rz_icmp_gt 66 d_Rg_holds_59 (by decide) (by rw [← e_cu]; have := cvF_in (R := R) (P := P) (R' := Ry) (P' := Py) 12 0; omega) ⟨by decide, by decide⟩ (fun c59 => ?_) (fun c59 => ?_)
    · refine rz_iconst d_Rg_holds_66 ?_
      exact rz_zreturn (st := []) (ty := .boolean) rfl rfl d_Rg_holds_67 ⟨by decide, by decide⟩ ⟨_, rfl, bi0 (Bool.and_eq_false_iff.2 (Or.inr (decide_eq_false (by rw [e_cu, c51]; simp; omega)))), rfl⟩
    · refine rz_iconst d_Rg_holds_62 ?_
      refine rz_goto 67 d_Rg_holds_63 (by decide) ?_
      exact rz_zreturn (st := []) (ty := .boolean) rfl rfl d_Rg_holds_67 ⟨by decide, by decide⟩ ⟨_, rfl, bi1 (Bool.and_eq_true_iff.2 ⟨rfl, decide_eq_true (by rw [e_cu, c51]; simp; omega)⟩), rfl⟩
  · refine rz_iconst d_Rg_holds_54 ?_
    refine rz_goto 59 d_Rg_holds_55 (by decide) ?_
    refine rz_icmp_gt 66 d_Rg_holds_59 (by decide) (by rw [← e_cu]; have := cvF_in (R := R) (P := P) (R' := Ry) (P' := Py) 12 0; omega) ⟨by decide, by decide⟩ (fun c59 => ?_) (fun c59 => ?_)
    · refine rz_iconst d_Rg_holds_66 ?_
      exact rz_zreturn (st := []) (ty := .boolean) rfl rfl d_Rg_holds_67 ⟨by decide, by decide⟩ ⟨_, rfl, bi0 (Bool.and_eq_false_iff.2 (Or.inr (decide_eq_false (by rw [e_cu, c51]; simp; omega)))), rfl⟩
    · refine rz_iconst d_Rg_holds_62 ?_
      refine rz_goto 67 d_Rg_holds_63 (by decide) ?_
      exact rz_zreturn (st := []) (ty := .boolean) rfl rfl d_Rg_holds_67 ⟨by decide, by decide⟩ ⟨_, rfl, bi1 (Bool.and_eq_true_iff.2 ⟨rfl, decide_eq_true (by rw [e_cu, c51]; simp; omega)⟩), rfl⟩
set_option maxRecDepth 100000 in
set_option maxHeartbeats 4000000 in
theorem c_Rg_holdsRN {l : Launch} {Γ : rz_G} {h : rz_H} {r v : Nat} {wl wu : Bool} {R P : Int → Int} (hv : VeAt Γ h v R P) {x : Nat} {Rx Px : Int → Int} (hx : VeAt Γ h x Rx Px) (hr : h r = some ((6, 0), .inr (9, [.ref x, .null, vi (bi wl), vi (bi wu)]))) : Ct l Γ x_Rg_holds y_Rg_holds rm_Rg_holds [.ref r, .ref v] h (pE (bi (decide ((if wl = true then 0 else 1) ≤ cvF R P Rx Px 12 0) && true)) h) := by
  refine rz_met (by decide) rfl rfl (Nat.le_of_ble_eq_true rfl) (fun K _ => ?_)
  refine rz_Leq [(0, .ref r), (1, .ref v)] rfl ?_
  refine rz_cut (α := Unit) 0 0 32 (fun _ => decide ((if wl = true then 0 else 1) ≤ cvF R P Rx Px 12 0) = true) (fun _ => [(0, .ref r), (1, .ref v)]) (fun _ => []) (fun _ => h) (fun _ kl => ?_) (fun J32 => ?_)
  · refine rz_aload_n 0 d_Rg_holds_32 rfl rfl ?_
    refine rz_getf f_Rg_17 hr rfl d_Rg_holds_33 ?_
    refine rz_ifnullN 62 d_Rg_holds_36 (by decide) ?_
    refine rz_iconst d_Rg_holds_62 ?_
    refine rz_goto 67 d_Rg_holds_63 (by decide) ?_
    exact rz_zreturn (st := []) (ty := .boolean) rfl rfl d_Rg_holds_67 ⟨by decide, by decide⟩ ⟨_, rfl, bi1 (by rw [kl]; rfl), rfl⟩
  · refine rz_aload_n 0 d_Rg_holds_0 rfl rfl ?_
    refine rz_getf f_Rg_7 hr rfl d_Rg_holds_1 ?_
    refine rz_ifnullR d_Rg_holds_4 ?_
    refine rz_aload_n 1 d_Rg_holds_7 rfl rfl ?_
    refine rz_aload_n 0 d_Rg_holds_8 rfl rfl ?_
    refine rz_getf f_Rg_7 hr rfl d_Rg_holds_9 ?_
    obtain ⟨fso1, so1⟩ := hv.ob
    refine rz_callV (As := [.ref x]) (c_Ve_comparedTo hv hx) m_Rg_61 so1 rfl rfl rfl rfl (Nat.le_of_ble_eq_true rfl) ⟨by decide, by decide⟩ ⟨by decide, by decide⟩ d_Rg_holds_12 (kE (h := h) ?_)
    refine rz_top (fun cl e_cl => ?_)
    replace e_cl := e_cl.symm
    refine rz_aload_n 0 d_Rg_holds_15 rfl rfl ?_
    refine rz_getf f_Rg_13 hr rfl d_Rg_holds_16 ?_
    refine rz_if_eqB 26 d_Rg_holds_19 (by decide) (fun c19 => ?_) (fun c19 => ?_)
    · refine rz_iconst d_Rg_holds_26 ?_
      refine rz_icmp_ge 32 d_Rg_holds_27 (by decide) (by rw [← e_cl]; have := cvF_in (R := R) (P := P) (R' := Rx) (P' := Px) 12 0; omega) ⟨by decide, by decide⟩ (fun c27 => ?_) (fun c27 => ?_)
      · exact J32 () (decide_eq_true (by rw [e_cl, c19]; simp; omega))
      · refine rz_iconst d_Rg_holds_30 ?_
        exact rz_zreturn (st := []) (ty := .boolean) rfl rfl d_Rg_holds_31 ⟨by decide, by decide⟩ ⟨_, rfl, bi0 (Bool.and_eq_false_iff.2 (Or.inl (decide_eq_false (by rw [e_cl, c19]; simp; omega)))), rfl⟩
    · refine rz_iconst d_Rg_holds_22 ?_
      refine rz_goto 27 d_Rg_holds_23 (by decide) ?_
      refine rz_icmp_ge 32 d_Rg_holds_27 (by decide) (by rw [← e_cl]; have := cvF_in (R := R) (P := P) (R' := Rx) (P' := Px) 12 0; omega) ⟨by decide, by decide⟩ (fun c27 => ?_) (fun c27 => ?_)
      · exact J32 () (decide_eq_true (by rw [e_cl, c19]; simp; omega))
      · refine rz_iconst d_Rg_holds_30 ?_
        exact rz_zreturn (st := []) (ty := .boolean) rfl rfl d_Rg_holds_31 ⟨by decide, by decide⟩ ⟨_, rfl, bi0 (Bool.and_eq_false_iff.2 (Or.inl (decide_eq_false (by rw [e_cl, c19]; simp; omega)))), rfl⟩
set_option maxRecDepth 100000 in
set_option maxHeartbeats 4000000 in
theorem c_Rg_holdsRR {l : Launch} {Γ : rz_G} {h : rz_H} {r v : Nat} {wl wu : Bool} {R P : Int → Int} (hv : VeAt Γ h v R P) {x : Nat} {Rx Px : Int → Int} (hx : VeAt Γ h x Rx Px) {y : Nat} {Ry Py : Int → Int} (hy : VeAt Γ h y Ry Py) (hr : h r = some ((6, 0), .inr (9, [.ref x, .ref y, vi (bi wl), vi (bi wu)]))) : Ct l Γ x_Rg_holds y_Rg_holds rm_Rg_holds [.ref r, .ref v] h (pE (bi (decide ((if wl = true then 0 else 1) ≤ cvF R P Rx Px 12 0) && decide (cvF R P Ry Py 12 0 ≤ (if wu = true then 0 else -1)))) h) := by
  refine rz_met (by decide) rfl rfl (Nat.le_of_ble_eq_true rfl) (fun K _ => ?_)
  refine rz_Leq [(0, .ref r), (1, .ref v)] rfl ?_
  refine rz_cut (α := Unit) 0 0 32 (fun _ => decide ((if wl = true then 0 else 1) ≤ cvF R P Rx Px 12 0) = true) (fun _ => [(0, .ref r), (1, .ref v)]) (fun _ => []) (fun _ => h) (fun _ kl => ?_) (fun J32 => ?_)
  · refine rz_aload_n 0 d_Rg_holds_32 rfl rfl ?_
    refine rz_getf f_Rg_17 hr rfl d_Rg_holds_33 ?_
    refine rz_ifnullR d_Rg_holds_36 ?_
    refine rz_aload_n 1 d_Rg_holds_39 rfl rfl ?_
    refine rz_aload_n 0 d_Rg_holds_40 rfl rfl ?_
    refine rz_getf f_Rg_17 hr rfl d_Rg_holds_41 ?_
    obtain ⟨fso1, so1⟩ := hv.ob
    refine rz_callV (As := [.ref y]) (c_Ve_comparedTo hv hy) m_Rg_61 so1 rfl rfl rfl rfl (Nat.le_of_ble_eq_true rfl) ⟨by decide, by decide⟩ ⟨by decide, by decide⟩ d_Rg_holds_44 (kE (h := h) ?_)
    refine rz_top (fun cu e_cu => ?_)
    replace e_cu := e_cu.symm
    refine rz_aload_n 0 d_Rg_holds_47 rfl rfl ?_
    refine rz_getf f_Rg_20 hr rfl d_Rg_holds_48 ?_
    refine rz_if_eqB 58 d_Rg_holds_51 (by decide) (fun c51 => ?_) (fun c51 => ?_)
    · refine rz_iconst d_Rg_holds_58 ?_
      refine rz_icmp_gt 66 d_Rg_holds_59 (by decide) (by rw [← e_cu]; have := cvF_in (R := R) (P := P) (R' := Ry) (P' := Py) 12 0; omega) ⟨by decide, by decide⟩ (fun c59 => ?_) (fun c59 => ?_)
      · refine rz_iconst d_Rg_holds_66 ?_
        exact rz_zreturn (st := []) (ty := .boolean) rfl rfl d_Rg_holds_67 ⟨by decide, by decide⟩ ⟨_, rfl, bi0 (Bool.and_eq_false_iff.2 (Or.inr (decide_eq_false (by rw [e_cu, c51]; simp; omega)))), rfl⟩
      · refine rz_iconst d_Rg_holds_62 ?_
        refine rz_goto 67 d_Rg_holds_63 (by decide) ?_
        exact rz_zreturn (st := []) (ty := .boolean) rfl rfl d_Rg_holds_67 ⟨by decide, by decide⟩ ⟨_, rfl, bi1 (Bool.and_eq_true_iff.2 ⟨kl, decide_eq_true (by rw [e_cu, c51]; simp; omega)⟩), rfl⟩
    · refine rz_iconst d_Rg_holds_54 ?_
      refine rz_goto 59 d_Rg_holds_55 (by decide) ?_
      refine rz_icmp_gt 66 d_Rg_holds_59 (by decide) (by rw [← e_cu]; have := cvF_in (R := R) (P := P) (R' := Ry) (P' := Py) 12 0; omega) ⟨by decide, by decide⟩ (fun c59 => ?_) (fun c59 => ?_)
      · refine rz_iconst d_Rg_holds_66 ?_
        exact rz_zreturn (st := []) (ty := .boolean) rfl rfl d_Rg_holds_67 ⟨by decide, by decide⟩ ⟨_, rfl, bi0 (Bool.and_eq_false_iff.2 (Or.inr (decide_eq_false (by rw [e_cu, c51]; simp; omega)))), rfl⟩
      · refine rz_iconst d_Rg_holds_62 ?_
        refine rz_goto 67 d_Rg_holds_63 (by decide) ?_
        exact rz_zreturn (st := []) (ty := .boolean) rfl rfl d_Rg_holds_67 ⟨by decide, by decide⟩ ⟨_, rfl, bi1 (Bool.and_eq_true_iff.2 ⟨kl, decide_eq_true (by rw [e_cu, c51]; simp; omega)⟩), rfl⟩
  · refine rz_aload_n 0 d_Rg_holds_0 rfl rfl ?_
    refine rz_getf f_Rg_7 hr rfl d_Rg_holds_1 ?_
    refine rz_ifnullR d_Rg_holds_4 ?_
    refine rz_aload_n 1 d_Rg_holds_7 rfl rfl ?_
    refine rz_aload_n 0 d_Rg_holds_8 rfl rfl ?_
    refine rz_getf f_Rg_7 hr rfl d_Rg_holds_9 ?_
    obtain ⟨fso2, so2⟩ := hv.ob
    refine rz_callV (As := [.ref x]) (c_Ve_comparedTo hv hx) m_Rg_61 so2 rfl rfl rfl rfl (Nat.le_of_ble_eq_true rfl) ⟨by decide, by decide⟩ ⟨by decide, by decide⟩ d_Rg_holds_12 (kE (h := h) ?_)
    refine rz_top (fun cl e_cl => ?_)
    replace e_cl := e_cl.symm
    refine rz_aload_n 0 d_Rg_holds_15 rfl rfl ?_
    refine rz_getf f_Rg_13 hr rfl d_Rg_holds_16 ?_
    refine rz_if_eqB 26 d_Rg_holds_19 (by decide) (fun c19 => ?_) (fun c19 => ?_)
    · refine rz_iconst d_Rg_holds_26 ?_
      refine rz_icmp_ge 32 d_Rg_holds_27 (by decide) (by rw [← e_cl]; have := cvF_in (R := R) (P := P) (R' := Rx) (P' := Px) 12 0; omega) ⟨by decide, by decide⟩ (fun c27 => ?_) (fun c27 => ?_)
      · exact J32 () (decide_eq_true (by rw [e_cl, c19]; simp; omega))
      · refine rz_iconst d_Rg_holds_30 ?_
        exact rz_zreturn (st := []) (ty := .boolean) rfl rfl d_Rg_holds_31 ⟨by decide, by decide⟩ ⟨_, rfl, bi0 (Bool.and_eq_false_iff.2 (Or.inl (decide_eq_false (by rw [e_cl, c19]; simp; omega)))), rfl⟩
    · refine rz_iconst d_Rg_holds_22 ?_
      refine rz_goto 27 d_Rg_holds_23 (by decide) ?_
      refine rz_icmp_ge 32 d_Rg_holds_27 (by decide) (by rw [← e_cl]; have := cvF_in (R := R) (P := P) (R' := Rx) (P' := Px) 12 0; omega) ⟨by decide, by decide⟩ (fun c27 => ?_) (fun c27 => ?_)
      · exact J32 () (decide_eq_true (by rw [e_cl, c19]; simp; omega))
      · refine rz_iconst d_Rg_holds_30 ?_
        exact rz_zreturn (st := []) (ty := .boolean) rfl rfl d_Rg_holds_31 ⟨by decide, by decide⟩ ⟨_, rfl, bi0 (Bool.and_eq_false_iff.2 (Or.inl (decide_eq_false (by rw [e_cl, c19]; simp; omega)))), rfl⟩
theorem c_Rg_holds {l : Launch} {Γ : rz_G} {h : rz_H} {r v : Nat} {R P f : Int → Int} {n : Int} (hv : VeAt Γ h v R P) (hr : RgAt Γ h r f n) : Ct l Γ x_Rg_holds y_Rg_holds rm_Rg_holds [.ref r, .ref v] h (pE (bi (hoR R P f n)) h) := by
  obtain ⟨lo, hi, a1, a2, a3⟩ := hr
  unfold hoR hoL hoU cvB
  cases lo <;> cases hl : rLo f n <;> rw [hl] at a2 <;> simp only [BdAt] at a2 <;> cases hi <;> cases hu : rHi f n <;> rw [hu] at a3 <;> simp only [BdAt] at a3
  · exact c_Rg_holdsNN hv a1
  · exact c_Rg_holdsNR hv a3 a1
  · exact c_Rg_holdsRN hv a2 a1
  · exact c_Rg_holdsRR hv a2 a3 a1
abbrev rm_Rg_isBound : Room := { frames := 5, cells := 0, slots := 0, locals := 111 }
set_option maxRecDepth 100000 in
set_option maxHeartbeats 4000000 in
theorem c_Rg_isBound {l : Launch} {Γ : rz_G} {h : rz_H} {s n : Nat} {f : Int → Int} (hs : StrAt Γ h s n f 1) : Ct l Γ x_Rg_isBound y_Rg_isBound rm_Rg_isBound [.ref s] h (pE (bi (decide (n = 0) || ver f 0 n)) h) := by
  refine rz_met (by decide) rfl rfl (Nat.le_of_ble_eq_true rfl) (fun K _ => ?_)
  refine rz_Leq [(0, .ref s)] rfl ?_
  refine rz_aload_n 0 d_Rg_isBound_0 rfl rfl ?_
  obtain ⟨tso1, fso1, so1⟩ := hs.ob
  refine rz_callV (As := []) (c_St_isEmpty hs) m_Rg_68 so1 rfl rfl rfl rfl (Nat.le_of_ble_eq_true rfl) ⟨by decide, by decide⟩ ⟨by decide, by decide⟩ d_Rg_isBound_1 (kE (h := h) ?_)
  refine rz_if_neB 14 d_Rg_isBound_4 (by decide) (fun c4 => ?_) (fun c4 => ?_)
  · refine rz_iconst d_Rg_isBound_14 ?_
    refine rz_goto 19 d_Rg_isBound_15 (by decide) ?_
    exact rz_zreturn (st := []) (ty := .boolean) rfl rfl d_Rg_isBound_19 ⟨by decide, by decide⟩ ⟨_, rfl, bi1 (by simp [*]), rfl⟩
  · refine rz_aload_n 0 d_Rg_isBound_7 rfl rfl ?_
    refine rz_callS (As := [.ref s]) (c_Ve_isVersion hs) m_Rg_23 rfl rfl (Nat.le_of_ble_eq_true rfl) ⟨by decide, by decide⟩ ⟨by decide, by decide⟩ d_Rg_isBound_8 (kE (h := h) ?_)
    refine rz_if_eqB 18 d_Rg_isBound_11 (by decide) (fun c11 => ?_) (fun c11 => ?_)
    · refine rz_iconst d_Rg_isBound_18 ?_
      exact rz_zreturn (st := []) (ty := .boolean) rfl rfl d_Rg_isBound_19 ⟨by decide, by decide⟩ ⟨_, rfl, bi0 (by simp [*]), rfl⟩
    · refine rz_iconst d_Rg_isBound_14 ?_
      refine rz_goto 19 d_Rg_isBound_15 (by decide) ?_
      exact rz_zreturn (st := []) (ty := .boolean) rfl rfl d_Rg_isBound_19 ⟨by decide, by decide⟩ ⟨_, rfl, bi1 (by simp [*]), rfl⟩
theorem rz_fr.k6 {h h' : rz_H} {rs : List Nat} {q : Nat} {e : va_E} (hq : h q = some ((6, 0), e)) (hf : rz_fr rs h h') (hr : 6 ∉ rs) : h' q = some ((6, 0), e) := hf _ _ _ hq hr
theorem VeAt.sub {Γ : rz_G} {h : rz_H} {v : Nat} {f : Int → Int} {a e : Int} {m : Nat} (hv : VeAt Γ h v (vR (fun j => f (a + j)) 0 m) (vP (fun j => f (a + j)) 0 m)) (hm : (m : Int) = e - a) : VeAt Γ h v (vR f a e) (vP f a e) := hv.c (fun j _ _ => vR_sub f hm j)
theorem VeAt.in1 {Γ : rz_G} {h : rz_H} {v : Nat} {g : Int → Int} {a b : Int} (hv : VeAt Γ h v (vR (fun j => g (1 + j)) a b) (vP (fun j => g (1 + j)) a b)) (hab : a ≤ b) : VeAt Γ h v (vR g (a + 1) (b + 1)) (vP g (a + 1) (b + 1)) := hv.c (fun j _ _ => vR_1 g hab j)
def rdX (Γ : rz_G) (h : rz_H) (r : Option Nat) (f : Int → Int) (n : Nat) : Prop := match r with
  | none => ver f 0 n = false
  | some a => ver f 0 n = true ∧ ∃ v, h a = some ((6, 0), .inr (9, [.ref v, .ref v, vi (bi true), vi (bi true)])) ∧ VeAt Γ h v (vR f 0 n) (vP f 0 n)
def bdT (f : Int → Int) (n : Nat) (k : Int) : Bool := (decide (k = 0) || ver f 0 k) && (decide (k + 1 = n) || ver f (k + 1) n)
def rdB (Γ : rz_G) (h : rz_H) (r : Option Nat) (f : Int → Int) (n : Nat) (k : Int) (wl wu : Bool) : Prop := match r with
  | none => bdT f n k = false
  | some a => bdT f n k = true ∧ ∃ lo hi : Option Nat, h a = some ((6, 0), .inr (9, [va_rf lo, va_rf hi, vi (bi wl), vi (bi wu)])) ∧ BdAt Γ h lo f (if k = 0 then none else some (0, k)) ∧ BdAt Γ h hi f (if k + 1 = n then none else some (k + 1, (n : Int)))
abbrev rm_Rg_readExact : Room := { frames := 7, cells := 28, slots := 486, locals := 181 }
set_option maxRecDepth 100000 in
set_option maxHeartbeats 4000000 in
theorem c_Rg_readExact {l : Launch} {Γ : rz_G} {h : rz_H} {s n : Nat} {f : Int → Int} (hs : StrAt Γ h s n f 1) (hk : KsAt Γ h) : Ct l Γ x_Rg_readExact y_Rg_readExact rm_Rg_readExact [.ref s] h (pO (fun r h' => rdX Γ h' r f n ∧ rz_fr [] h h')) := by
  refine rz_met (by decide) rfl rfl (Nat.le_of_ble_eq_true rfl) (fun K _ => ?_)
  refine rz_Leq [(0, .ref s)] rfl ?_
  refine rz_aload_n 0 d_Rg_readExact_0 rfl rfl ?_
  refine rz_callS (As := [.ref s]) (c_Ve_isVersion hs) m_Rg_23 rfl rfl (Nat.le_of_ble_eq_true rfl) ⟨by decide, by decide⟩ ⟨by decide, by decide⟩ d_Rg_readExact_1 (kE (h := h) ?_)
  refine rz_if_neB 9 d_Rg_readExact_4 (by decide) (fun c4 => ?_) (fun c4 => ?_)
  · refine rz_new (ci := 5) (q0 := ("ReleaseSolver$Version", k_T5, 2)) (3, 0) (show (3 : Nat) ≠ 0 by decide) rfl rfl cl_Rg_24 ⟨by decide, by decide⟩ d_Rg_readExact_9 (fun q1 zq1 => ?_)
    refine rz_nm fun h2 eh2 => ?_
    have g2 : rz_fr [] h h2 := by rw [eh2]; exact rz_fr.nw zq1
    have z2 : h q1 = none := rz_fr.rf.nn zq1
    have F3 : rz_fr [] h h2 := rz_fr.rf.tr (g2.mono (by decide))
    have hs_4 : StrAt Γ h2 s n f 1 := StrAt.fr hs g2 (by decide)
    have hk_4 : KsAt Γ h2 := KsAt.fr hk g2 (by decide)
    have fn_2 : h2 q1 = some ((3, 0), .inr (5, [.null, .null])) := by rw [eh2]; exact rz_up_s _ _ _
    refine rz_dup d_Rg_readExact_12 rfl ?_
    refine rz_aload_n 0 d_Rg_readExact_13 rfl rfl ?_
    refine rz_callI (As := [.ref s]) (c_Ve_init fn_2 hs_4 hk_4 c4) m_Rg_29 rfl rfl (Nat.le_of_ble_eq_true rfl) ⟨by decide, by decide⟩ ⟨by decide, by decide⟩ d_Rg_readExact_14 (kV (h := h2) fun h5 q5 => ?_)
    obtain ⟨p5, G5⟩ := q5
    have R5 : rz_fr [3] h2 h5 := rz_fo.fr1 fn_2 G5
    have F5 : rz_fr [] h h5 := fun a t x ha hr => G5 a (t, x) (fun z => by rw [z, z2] at ha; cases ha) (F3 a t x ha hr)
    have hs_6 : StrAt Γ h5 s n f 1 := StrAt.fr hs_4 R5 (by decide)
    have hk_6 : KsAt Γ h5 := KsAt.fr hk_4 R5 (by decide)
    have vq1_5 : VeAt Γ h5 q1 (vR f 0 (n : Nat)) (vP f 0 (n : Nat)) := p5
    refine rz_astore_n [(1, .ref q1), (0, .ref s)] d_Rg_readExact_17 rfl (by decide) rfl ?_
    refine rz_new (ci := 9) (q0 := ("ReleaseSolver$Range", k_T9, 4)) (6, 0) (show (6 : Nat) ≠ 0 by decide) rfl rfl cl_Rg_8 ⟨by decide, by decide⟩ d_Rg_readExact_18 (fun q7 zq7 => ?_)
    refine rz_nm fun h8 eh8 => ?_
    have g8 : rz_fr [] h5 h8 := by rw [eh8]; exact rz_fr.nw zq7
    have z8 : h q7 = none := F5.nn zq7
    have F9 : rz_fr [] h h8 := F5.tr (g8.mono (by decide))
    have hs_10 : StrAt Γ h8 s n f 1 := StrAt.fr hs_6 g8 (by decide)
    have hk_10 : KsAt Γ h8 := KsAt.fr hk_6 g8 (by decide)
    have vq1_10 : VeAt Γ h8 q1 (vR f 0 (n : Nat)) (vP f 0 (n : Nat)) := VeAt.fr vq1_5 g8 (by decide)
    have fn_8 : h8 q7 = some ((6, 0), .inr (9, [.null, .null, vi 0, vi 0])) := by rw [eh8]; exact rz_up_s _ _ _
    refine rz_dup d_Rg_readExact_21 rfl ?_
    refine rz_aload_n 0 d_Rg_readExact_22 rfl rfl ?_
    refine rz_iconst d_Rg_readExact_23 ?_
    refine rz_aload_n 0 d_Rg_readExact_24 rfl rfl ?_
    refine rz_iconst d_Rg_readExact_25 ?_
    refine rz_callI (As := [.ref q1, vi 1, .ref q1, vi 1]) (c_Rg_initRR (wl := true) (wu := true) fn_8) m_Rg_32 rfl rfl (Nat.le_of_ble_eq_true rfl) ⟨by decide, by decide⟩ ⟨by decide, by decide⟩ d_Rg_readExact_26 (kV (h := h8) fun h11 q11 => ?_)
    obtain ⟨p11, G11⟩ := q11
    have R11 : rz_fr [6] h8 h11 := rz_fo.fr1 fn_8 G11
    have F11 : rz_fr [] h h11 := fun a t x ha hr => G11 a (t, x) (fun z => by rw [z, z8] at ha; cases ha) (F9 a t x ha hr)
    have hs_12 : StrAt Γ h11 s n f 1 := StrAt.fr hs_10 R11 (by decide)
    have hk_12 : KsAt Γ h11 := KsAt.fr hk_10 R11 (by decide)
    have vq1_12 : VeAt Γ h11 q1 (vR f 0 (n : Nat)) (vP f 0 (n : Nat)) := VeAt.fr vq1_10 R11 (by decide)
    have vq7_11 : h11 q7 = some ((6, 0), .inr (9, [.ref q1, .ref q1, vi (bi (true)), vi (bi (true))])) := p11
    exact rz_areturn (st := []) (r := some q7) rfl (Or.inl ⟨_, rfl⟩) d_Rg_readExact_29 ⟨by decide, by decide⟩ ⟨some q7, rfl, ⟨c4, q1, vq7_11, vq1_12⟩, F11⟩
  · refine rz_null d_Rg_readExact_7 ?_
    exact rz_areturn (st := []) (r := none) rfl (Or.inl ⟨_, rfl⟩) d_Rg_readExact_8 ⟨by decide, by decide⟩ ⟨none, rfl, c4, rz_fr.rf⟩
abbrev rm_Rg_readBounds : Room := { frames := 7, cells := 59, slots := 1044, locals := 181 }
set_option maxRecDepth 100000 in
set_option maxHeartbeats 4000000 in
theorem c_Rg_readBounds {l : Launch} {Γ : rz_G} {h : rz_H} {s n : Nat} {f : Int → Int} (hs : StrAt Γ h s n f 1) (hk : KsAt Γ h) (hn : n ≤ 24) {k : Int} (hkd : idF f 44 n 0 = k) (hk0 : 0 ≤ k) {wl wu : Bool} : Ct l Γ x_Rg_readBounds y_Rg_readBounds rm_Rg_readBounds [.ref s, vi (bi wl), vi (bi wu)] h (pO (fun r h' => rdB Γ h' r f n k wl wu ∧ rz_fr [] h h')) := by
  refine rz_met (by decide) rfl rfl (Nat.le_of_ble_eq_true rfl) (fun K _ => ?_)
  refine rz_Leq [(0, .ref s), (1, vi (bi wl)), (2, vi (bi wu))] rfl ?_
  have hkn := idF_in f 44 n 0
  rw [hkd] at hkn
  refine rz_aload_n 0 d_Rg_readBounds_0 rfl rfl ?_
  refine rz_bipush (v := 44) d_Rg_readBounds_1 (by decide) ?_
  obtain ⟨tso1, fso1, so1⟩ := hs.ob
  refine rz_callV (As := [vi 44]) (c_St_indexOf hs (c := 44) (by decide)) m_Rg_49 so1 rfl rfl rfl rfl (Nat.le_of_ble_eq_true rfl) ⟨by decide, by decide⟩ ⟨by decide, by decide⟩ d_Rg_readBounds_3 (kE (h := h) ?_)
  refine rz_Seq [vi k] (by rw [hkd]) ?_
  refine rz_istore_n [(3, vi k), (0, .ref s), (1, vi (bi wl)), (2, vi (bi wu))] d_Rg_readBounds_6 rfl (by decide) rfl ?_
  refine rz_aload_n 1 d_Rg_readBounds_7 rfl rfl ?_
  refine rz_iconst d_Rg_readBounds_8 ?_
  refine rz_iload_n 0 d_Rg_readBounds_9 rfl rfl ?_
  obtain ⟨tso5, fso5, so5⟩ := hs.ob
  refine rz_callV (As := [vi 0, vi k]) (c_St_substring hs (i := 0) (e := k) (N := k.toNat) (by omega) (by omega) (by omega) (by omega) hk.2.1) m_Rg_45 so5 rfl rfl rfl rfl (Nat.le_of_ble_eq_true rfl) ⟨by decide, by decide⟩ ⟨by decide, by decide⟩ d_Rg_readBounds_10 (kR (h := h) fun s2 h2 q2 => ?_)
  obtain ⟨hs2, G2⟩ := q2
  have F3 : rz_fr [] h h2 := rz_fr.rf.tr (G2.mono (by decide))
  have hs_4 : StrAt Γ h2 s n f 1 := StrAt.fr hs G2 (by decide)
  have hk_4 : KsAt Γ h2 := KsAt.fr hk G2 (by decide)
  refine rz_astore [(4, .ref s2), (3, vi k), (0, .ref s), (1, vi (bi wl)), (2, vi (bi wu))] d_Rg_readBounds_13 (by decide) rfl ?_
  refine rz_aload_n 2 d_Rg_readBounds_15 rfl rfl ?_
  refine rz_iload_n 1 d_Rg_readBounds_16 rfl rfl ?_
  refine rz_iconst d_Rg_readBounds_17 ?_
  refine rz_iadd d_Rg_readBounds_18 ?_
  refine rz_aload_n 2 d_Rg_readBounds_19 rfl rfl ?_
  obtain ⟨tso6, fso6, so6⟩ := hs_4.ob
  refine rz_callV (As := []) (c_St_length hs_4) m_Rg_35 so6 rfl rfl rfl rfl (Nat.le_of_ble_eq_true rfl) ⟨by decide, by decide⟩ ⟨by decide, by decide⟩ d_Rg_readBounds_20 (kE (h := h2) ?_)
  obtain ⟨tso10, fso10, so10⟩ := hs_4.ob
  refine rz_callV (As := [vi (k + 1), vi (n : Int)]) (c_St_substring hs_4 (i := (k + 1)) (e := (n : Int)) (N := (((n : Int) - (k + 1)).toNat)) (by omega) (by omega) (by omega) (by omega) hk_4.2.1) m_Rg_45 so10 rfl rfl rfl rfl (Nat.le_of_ble_eq_true rfl) ⟨by decide, by decide⟩ ⟨by decide, by decide⟩ d_Rg_readBounds_23 (kR (h := h2) fun s7 h7 q7 => ?_)
  obtain ⟨hs7, G7⟩ := q7
  have F8 : rz_fr [] h h7 := F3.tr (G7.mono (by decide))
  have hs_9 : StrAt Γ h7 s n f 1 := StrAt.fr hs_4 G7 (by decide)
  have hk_9 : KsAt Γ h7 := KsAt.fr hk_4 G7 (by decide)
  have hs2_9 : StrAt Γ h7 s2 k.toNat (fun j => f (0 + j)) 1 := StrAt.fr hs2 G7 (by decide)
  refine rz_astore [(5, .ref s7), (4, .ref s2), (3, vi k), (0, .ref s), (1, vi (bi wl)), (2, vi (bi wu))] d_Rg_readBounds_26 (by decide) rfl ?_
  refine rz_aload 1 d_Rg_readBounds_28 rfl ?_
  refine rz_callS (As := [.ref s2]) (c_Rg_isBound hs2_9) m_Rg_65 rfl rfl (Nat.le_of_ble_eq_true rfl) ⟨by decide, by decide⟩ ⟨by decide, by decide⟩ d_Rg_readBounds_30 (kE (h := h7) ?_)
  refine rz_if_eqB 44 d_Rg_readBounds_33 (by decide) (fun c33 => ?_) (fun c33 => ?_)
  · refine rz_null d_Rg_readBounds_44 ?_
    exact rz_areturn (st := []) (r := none) rfl (Or.inl ⟨_, rfl⟩) d_Rg_readBounds_45 ⟨by decide, by decide⟩ ⟨none, rfl, (by show bdT f n k = false; rw [bdT, (show (decide (k = 0) || ver f 0 k) = (decide (k.toNat = 0) || ver (fun j => f (0 + j)) 0 (k.toNat : Nat)) from by rw [(ver_sub f (a := 0) (e := k) (by omega))]; congr 1; simp; omega), (show (decide (k + 1 = (n : Int)) || ver f (k + 1) n) = (decide (((n : Int) - (k + 1)).toNat = 0) || ver (fun j => f (k + 1 + j)) 0 (((n : Int) - (k + 1)).toNat : Nat)) from by rw [(ver_sub f (a := k + 1) (e := (n : Int)) (by omega))]; congr 1; simp; omega)]; first | (rw [c33]; rfl) | (rw [c41, Bool.and_false])), F8⟩
  · refine rz_aload 0 d_Rg_readBounds_36 rfl ?_
    refine rz_callS (As := [.ref s7]) (c_Rg_isBound hs7) m_Rg_65 rfl rfl (Nat.le_of_ble_eq_true rfl) ⟨by decide, by decide⟩ ⟨by decide, by decide⟩ d_Rg_readBounds_38 (kE (h := h7) ?_)
    refine rz_if_neB 46 d_Rg_readBounds_41 (by decide) (fun c41 => ?_) (fun c41 => ?_)
    · refine rz_aload 1 d_Rg_readBounds_46 rfl ?_
      obtain ⟨tso11, fso11, so11⟩ := hs2_9.ob
      refine rz_callV (As := []) (c_St_isEmpty hs2_9) m_Rg_68 so11 rfl rfl rfl rfl (Nat.le_of_ble_eq_true rfl) ⟨by decide, by decide⟩ ⟨by decide, by decide⟩ d_Rg_readBounds_48 (kE (h := h7) ?_)
      refine rz_if_eqB 58 d_Rg_readBounds_51 (by decide) (fun c51 => ?_) (fun c51 => ?_)
      · refine rz_new (ci := 5) (q0 := ("ReleaseSolver$Version", k_T5, 2)) (3, 0) (show (3 : Nat) ≠ 0 by decide) rfl rfl cl_Rg_24 ⟨by decide, by decide⟩ d_Rg_readBounds_58 (fun q12 zq12 => ?_)
        refine rz_nm fun h13 eh13 => ?_
        have g13 : rz_fr [] h7 h13 := by rw [eh13]; exact rz_fr.nw zq12
        have z13 : h q12 = none := F8.nn zq12
        have F14 : rz_fr [] h h13 := F8.tr (g13.mono (by decide))
        have hs_15 : StrAt Γ h13 s n f 1 := StrAt.fr hs_9 g13 (by decide)
        have hk_15 : KsAt Γ h13 := KsAt.fr hk_9 g13 (by decide)
        have hs2_15 : StrAt Γ h13 s2 k.toNat (fun j => f (0 + j)) 1 := StrAt.fr hs2_9 g13 (by decide)
        have hs7_15 : StrAt Γ h13 s7 (((n : Int) - (k + 1)).toNat) (fun j => f (k + 1 + j)) 1 := StrAt.fr hs7 g13 (by decide)
        have fn_13 : h13 q12 = some ((3, 0), .inr (5, [.null, .null])) := by rw [eh13]; exact rz_up_s _ _ _
        refine rz_dup d_Rg_readBounds_61 rfl ?_
        refine rz_aload 1 d_Rg_readBounds_62 rfl ?_
        refine rz_callI (As := [.ref s2]) (c_Ve_init fn_13 hs2_15 hk_15 (by have z := c33; rw [c51, Bool.false_or] at z; exact z)) m_Rg_29 rfl rfl (Nat.le_of_ble_eq_true rfl) ⟨by decide, by decide⟩ ⟨by decide, by decide⟩ d_Rg_readBounds_64 (kV (h := h13) fun h16 q16 => ?_)
        obtain ⟨p16, G16⟩ := q16
        have R16 : rz_fr [3] h13 h16 := rz_fo.fr1 fn_13 G16
        have F16 : rz_fr [] h h16 := fun a t x ha hr => G16 a (t, x) (fun z => by rw [z, z13] at ha; cases ha) (F14 a t x ha hr)
        have hs_17 : StrAt Γ h16 s n f 1 := StrAt.fr hs_15 R16 (by decide)
        have hk_17 : KsAt Γ h16 := KsAt.fr hk_15 R16 (by decide)
        have hs2_17 : StrAt Γ h16 s2 k.toNat (fun j => f (0 + j)) 1 := StrAt.fr hs2_15 R16 (by decide)
        have hs7_17 : StrAt Γ h16 s7 (((n : Int) - (k + 1)).toNat) (fun j => f (k + 1 + j)) 1 := StrAt.fr hs7_15 R16 (by decide)
        have vq12_16 : VeAt Γ h16 q12 (vR (fun j => f (0 + j)) 0 (k.toNat : Nat)) (vP (fun j => f (0 + j)) 0 (k.toNat : Nat)) := p16
        refine rz_astore [(6, .ref q12), (5, .ref s7), (4, .ref s2), (3, vi k), (0, .ref s), (1, vi (bi wl)), (2, vi (bi wu))] d_Rg_readBounds_67 (by decide) rfl ?_
        refine rz_aload 1 d_Rg_readBounds_69 rfl ?_
        obtain ⟨tso18, fso18, so18⟩ := hs7_17.ob
        refine rz_callV (As := []) (c_St_isEmpty hs7_17) m_Rg_68 so18 rfl rfl rfl rfl (Nat.le_of_ble_eq_true rfl) ⟨by decide, by decide⟩ ⟨by decide, by decide⟩ d_Rg_readBounds_71 (kE (h := h16) ?_)
        refine rz_if_eqB 81 d_Rg_readBounds_74 (by decide) (fun c74 => ?_) (fun c74 => ?_)
        · refine rz_new (ci := 5) (q0 := ("ReleaseSolver$Version", k_T5, 2)) (3, 0) (show (3 : Nat) ≠ 0 by decide) rfl rfl cl_Rg_24 ⟨by decide, by decide⟩ d_Rg_readBounds_81 (fun q19 zq19 => ?_)
          refine rz_nm fun h20 eh20 => ?_
          have g20 : rz_fr [] h16 h20 := by rw [eh20]; exact rz_fr.nw zq19
          have z20 : h q19 = none := F16.nn zq19
          have F21 : rz_fr [] h h20 := F16.tr (g20.mono (by decide))
          have hs_22 : StrAt Γ h20 s n f 1 := StrAt.fr hs_17 g20 (by decide)
          have hk_22 : KsAt Γ h20 := KsAt.fr hk_17 g20 (by decide)
          have hs2_22 : StrAt Γ h20 s2 k.toNat (fun j => f (0 + j)) 1 := StrAt.fr hs2_17 g20 (by decide)
          have hs7_22 : StrAt Γ h20 s7 (((n : Int) - (k + 1)).toNat) (fun j => f (k + 1 + j)) 1 := StrAt.fr hs7_17 g20 (by decide)
          have vq12_22 : VeAt Γ h20 q12 (vR (fun j => f (0 + j)) 0 (k.toNat : Nat)) (vP (fun j => f (0 + j)) 0 (k.toNat : Nat)) := VeAt.fr vq12_16 g20 (by decide)
          have fn_20 : h20 q19 = some ((3, 0), .inr (5, [.null, .null])) := by rw [eh20]; exact rz_up_s _ _ _
          refine rz_dup d_Rg_readBounds_84 rfl ?_
          refine rz_aload 1 d_Rg_readBounds_85 rfl ?_
          refine rz_callI (As := [.ref s7]) (c_Ve_init fn_20 hs7_22 hk_22 (by have z := c41; rw [c74, Bool.false_or] at z; exact z)) m_Rg_29 rfl rfl (Nat.le_of_ble_eq_true rfl) ⟨by decide, by decide⟩ ⟨by decide, by decide⟩ d_Rg_readBounds_87 (kV (h := h20) fun h23 q23 => ?_)
          obtain ⟨p23, G23⟩ := q23
          have R23 : rz_fr [3] h20 h23 := rz_fo.fr1 fn_20 G23
          have F23 : rz_fr [] h h23 := fun a t x ha hr => G23 a (t, x) (fun z => by rw [z, z20] at ha; cases ha) (F21 a t x ha hr)
          have hs_24 : StrAt Γ h23 s n f 1 := StrAt.fr hs_22 R23 (by decide)
          have hk_24 : KsAt Γ h23 := KsAt.fr hk_22 R23 (by decide)
          have hs2_24 : StrAt Γ h23 s2 k.toNat (fun j => f (0 + j)) 1 := StrAt.fr hs2_22 R23 (by decide)
          have hs7_24 : StrAt Γ h23 s7 (((n : Int) - (k + 1)).toNat) (fun j => f (k + 1 + j)) 1 := StrAt.fr hs7_22 R23 (by decide)
          have vq12_23 : VeAt Γ h23 q12 (vR (fun j => f (0 + j)) 0 (k.toNat : Nat)) (vP (fun j => f (0 + j)) 0 (k.toNat : Nat)) := VeAt.fo vq12_22 G23 fn_20
          have vq19_23 : VeAt Γ h23 q19 (vR (fun j => f (k + 1 + j)) 0 (((n : Int) - (k + 1)).toNat : Nat)) (vP (fun j => f (k + 1 + j)) 0 (((n : Int) - (k + 1)).toNat : Nat)) := p23
          refine rz_astore [(7, .ref q19), (6, .ref q12), (5, .ref s7), (4, .ref s2), (3, vi k), (0, .ref s), (1, vi (bi wl)), (2, vi (bi wu))] d_Rg_readBounds_90 (by decide) rfl ?_
          refine rz_new (ci := 9) (q0 := ("ReleaseSolver$Range", k_T9, 4)) (6, 0) (show (6 : Nat) ≠ 0 by decide) rfl rfl cl_Rg_8 ⟨by decide, by decide⟩ d_Rg_readBounds_92 (fun q25 zq25 => ?_)
          refine rz_nm fun h26 eh26 => ?_
          have g26 : rz_fr [] h23 h26 := by rw [eh26]; exact rz_fr.nw zq25
          have z26 : h q25 = none := F23.nn zq25
          have F27 : rz_fr [] h h26 := F23.tr (g26.mono (by decide))
          have hs_28 : StrAt Γ h26 s n f 1 := StrAt.fr hs_24 g26 (by decide)
          have hk_28 : KsAt Γ h26 := KsAt.fr hk_24 g26 (by decide)
          have hs2_28 : StrAt Γ h26 s2 k.toNat (fun j => f (0 + j)) 1 := StrAt.fr hs2_24 g26 (by decide)
          have hs7_28 : StrAt Γ h26 s7 (((n : Int) - (k + 1)).toNat) (fun j => f (k + 1 + j)) 1 := StrAt.fr hs7_24 g26 (by decide)
          have vq12_28 : VeAt Γ h26 q12 (vR (fun j => f (0 + j)) 0 (k.toNat : Nat)) (vP (fun j => f (0 + j)) 0 (k.toNat : Nat)) := VeAt.fr vq12_23 g26 (by decide)
          have vq19_28 : VeAt Γ h26 q19 (vR (fun j => f (k + 1 + j)) 0 (((n : Int) - (k + 1)).toNat : Nat)) (vP (fun j => f (k + 1 + j)) 0 (((n : Int) - (k + 1)).toNat : Nat)) := VeAt.fr vq19_23 g26 (by decide)
          have fn_26 : h26 q25 = some ((6, 0), .inr (9, [.null, .null, vi 0, vi 0])) := by rw [eh26]; exact rz_up_s _ _ _
          refine rz_dup d_Rg_readBounds_95 rfl ?_
          refine rz_aload 1 d_Rg_readBounds_96 rfl ?_
          refine rz_iload_n 6 d_Rg_readBounds_98 rfl rfl ?_
          refine rz_aload 0 d_Rg_readBounds_99 rfl ?_
          refine rz_iload_n 7 d_Rg_readBounds_101 rfl rfl ?_
          refine rz_callI (As := [.ref q12, vi (bi wl), .ref q19, vi (bi wu)]) (c_Rg_initRR (wl := wl) (wu := wu) fn_26) m_Rg_32 rfl rfl (Nat.le_of_ble_eq_true rfl) ⟨by decide, by decide⟩ ⟨by decide, by decide⟩ d_Rg_readBounds_102 (kV (h := h26) fun h29 q29 => ?_)
          obtain ⟨p29, G29⟩ := q29
          have R29 : rz_fr [6] h26 h29 := rz_fo.fr1 fn_26 G29
          have F29 : rz_fr [] h h29 := fun a t x ha hr => G29 a (t, x) (fun z => by rw [z, z26] at ha; cases ha) (F27 a t x ha hr)
          have hs_30 : StrAt Γ h29 s n f 1 := StrAt.fr hs_28 R29 (by decide)
          have hk_30 : KsAt Γ h29 := KsAt.fr hk_28 R29 (by decide)
          have hs2_30 : StrAt Γ h29 s2 k.toNat (fun j => f (0 + j)) 1 := StrAt.fr hs2_28 R29 (by decide)
          have hs7_30 : StrAt Γ h29 s7 (((n : Int) - (k + 1)).toNat) (fun j => f (k + 1 + j)) 1 := StrAt.fr hs7_28 R29 (by decide)
          have vq12_30 : VeAt Γ h29 q12 (vR (fun j => f (0 + j)) 0 (k.toNat : Nat)) (vP (fun j => f (0 + j)) 0 (k.toNat : Nat)) := VeAt.fr vq12_28 R29 (by decide)
          have vq19_30 : VeAt Γ h29 q19 (vR (fun j => f (k + 1 + j)) 0 (((n : Int) - (k + 1)).toNat : Nat)) (vP (fun j => f (k + 1 + j)) 0 (((n : Int) - (k + 1)).toNat : Nat)) := VeAt.fr vq19_28 R29 (by decide)
          have vq25_29 : h29 q25 = some ((6, 0), .inr (9, [.ref q12, .ref q19, vi (bi (wl)), vi (bi (wu))])) := p29
          exact rz_areturn (st := []) (r := some q25) rfl (Or.inl ⟨_, rfl⟩) d_Rg_readBounds_105 ⟨by decide, by decide⟩ ⟨some q25, rfl, ⟨(by rw [bdT, (show (decide (k = 0) || ver f 0 k) = (decide (k.toNat = 0) || ver (fun j => f (0 + j)) 0 (k.toNat : Nat)) from by rw [(ver_sub f (a := 0) (e := k) (by omega))]; congr 1; simp; omega), (show (decide (k + 1 = (n : Int)) || ver f (k + 1) n) = (decide (((n : Int) - (k + 1)).toNat = 0) || ver (fun j => f (k + 1 + j)) 0 (((n : Int) - (k + 1)).toNat : Nat)) from by rw [(ver_sub f (a := k + 1) (e := (n : Int)) (by omega))]; congr 1; simp; omega), c33, c41]; rfl), some q12, some q19, vq25_29, (by rw [if_neg (by have := of_decide_eq_false c51; omega)]; exact VeAt.sub vq12_30 (by omega)), (by rw [if_neg (by have := of_decide_eq_false c74; omega)]; exact VeAt.sub vq19_30 (by omega))⟩, F29⟩
        · refine rz_null d_Rg_readBounds_77 ?_
          refine rz_goto 90 d_Rg_readBounds_78 (by decide) ?_
          refine rz_astoreN [(7, .null), (6, .ref q12), (5, .ref s7), (4, .ref s2), (3, vi k), (0, .ref s), (1, vi (bi wl)), (2, vi (bi wu))] d_Rg_readBounds_90 (by decide) rfl ?_
          refine rz_new (ci := 9) (q0 := ("ReleaseSolver$Range", k_T9, 4)) (6, 0) (show (6 : Nat) ≠ 0 by decide) rfl rfl cl_Rg_8 ⟨by decide, by decide⟩ d_Rg_readBounds_92 (fun q31 zq31 => ?_)
          refine rz_nm fun h32 eh32 => ?_
          have g32 : rz_fr [] h16 h32 := by rw [eh32]; exact rz_fr.nw zq31
          have z32 : h q31 = none := F16.nn zq31
          have F33 : rz_fr [] h h32 := F16.tr (g32.mono (by decide))
          have hs_34 : StrAt Γ h32 s n f 1 := StrAt.fr hs_17 g32 (by decide)
          have hk_34 : KsAt Γ h32 := KsAt.fr hk_17 g32 (by decide)
          have hs2_34 : StrAt Γ h32 s2 k.toNat (fun j => f (0 + j)) 1 := StrAt.fr hs2_17 g32 (by decide)
          have hs7_34 : StrAt Γ h32 s7 (((n : Int) - (k + 1)).toNat) (fun j => f (k + 1 + j)) 1 := StrAt.fr hs7_17 g32 (by decide)
          have vq12_34 : VeAt Γ h32 q12 (vR (fun j => f (0 + j)) 0 (k.toNat : Nat)) (vP (fun j => f (0 + j)) 0 (k.toNat : Nat)) := VeAt.fr vq12_16 g32 (by decide)
          have fn_32 : h32 q31 = some ((6, 0), .inr (9, [.null, .null, vi 0, vi 0])) := by rw [eh32]; exact rz_up_s _ _ _
          refine rz_dup d_Rg_readBounds_95 rfl ?_
          refine rz_aload 1 d_Rg_readBounds_96 rfl ?_
          refine rz_iload_n 6 d_Rg_readBounds_98 rfl rfl ?_
          refine rz_aloadN 0 d_Rg_readBounds_99 rfl ?_
          refine rz_iload_n 7 d_Rg_readBounds_101 rfl rfl ?_
          refine rz_callI (As := [.ref q12, vi (bi wl), .null, vi (bi wu)]) (c_Rg_initRN (wl := wl) (wu := wu) fn_32) m_Rg_32 rfl rfl (Nat.le_of_ble_eq_true rfl) ⟨by decide, by decide⟩ ⟨by decide, by decide⟩ d_Rg_readBounds_102 (kV (h := h32) fun h35 q35 => ?_)
          obtain ⟨p35, G35⟩ := q35
          have R35 : rz_fr [6] h32 h35 := rz_fo.fr1 fn_32 G35
          have F35 : rz_fr [] h h35 := fun a t x ha hr => G35 a (t, x) (fun z => by rw [z, z32] at ha; cases ha) (F33 a t x ha hr)
          have hs_36 : StrAt Γ h35 s n f 1 := StrAt.fr hs_34 R35 (by decide)
          have hk_36 : KsAt Γ h35 := KsAt.fr hk_34 R35 (by decide)
          have hs2_36 : StrAt Γ h35 s2 k.toNat (fun j => f (0 + j)) 1 := StrAt.fr hs2_34 R35 (by decide)
          have hs7_36 : StrAt Γ h35 s7 (((n : Int) - (k + 1)).toNat) (fun j => f (k + 1 + j)) 1 := StrAt.fr hs7_34 R35 (by decide)
          have vq12_36 : VeAt Γ h35 q12 (vR (fun j => f (0 + j)) 0 (k.toNat : Nat)) (vP (fun j => f (0 + j)) 0 (k.toNat : Nat)) := VeAt.fr vq12_34 R35 (by decide)
          have vq31_35 : h35 q31 = some ((6, 0), .inr (9, [.ref q12, .null, vi (bi (wl)), vi (bi (wu))])) := p35
          exact rz_areturn (st := []) (r := some q31) rfl (Or.inl ⟨_, rfl⟩) d_Rg_readBounds_105 ⟨by decide, by decide⟩ ⟨some q31, rfl, ⟨(by rw [bdT, (show (decide (k = 0) || ver f 0 k) = (decide (k.toNat = 0) || ver (fun j => f (0 + j)) 0 (k.toNat : Nat)) from by rw [(ver_sub f (a := 0) (e := k) (by omega))]; congr 1; simp; omega), (show (decide (k + 1 = (n : Int)) || ver f (k + 1) n) = (decide (((n : Int) - (k + 1)).toNat = 0) || ver (fun j => f (k + 1 + j)) 0 (((n : Int) - (k + 1)).toNat : Nat)) from by rw [(ver_sub f (a := k + 1) (e := (n : Int)) (by omega))]; congr 1; simp; omega), c33, c41]; rfl), some q12, none, vq31_35, (by rw [if_neg (by have := of_decide_eq_false c51; omega)]; exact VeAt.sub vq12_36 (by omega)), (by rw [if_pos (by have := of_decide_eq_true c74; omega)]; trivial)⟩, F35⟩
      · refine rz_null d_Rg_readBounds_54 ?_
        refine rz_goto 67 d_Rg_readBounds_55 (by decide) ?_
        refine rz_astoreN [(6, .null), (5, .ref s7), (4, .ref s2), (3, vi k), (0, .ref s), (1, vi (bi wl)), (2, vi (bi wu))] d_Rg_readBounds_67 (by decide) rfl ?_
        refine rz_aload 1 d_Rg_readBounds_69 rfl ?_
        obtain ⟨tso37, fso37, so37⟩ := hs7.ob
        refine rz_callV (As := []) (c_St_isEmpty hs7) m_Rg_68 so37 rfl rfl rfl rfl (Nat.le_of_ble_eq_true rfl) ⟨by decide, by decide⟩ ⟨by decide, by decide⟩ d_Rg_readBounds_71 (kE (h := h7) ?_)
        refine rz_if_eqB 81 d_Rg_readBounds_74 (by decide) (fun c74 => ?_) (fun c74 => ?_)
        · refine rz_new (ci := 5) (q0 := ("ReleaseSolver$Version", k_T5, 2)) (3, 0) (show (3 : Nat) ≠ 0 by decide) rfl rfl cl_Rg_24 ⟨by decide, by decide⟩ d_Rg_readBounds_81 (fun q38 zq38 => ?_)
          refine rz_nm fun h39 eh39 => ?_
          have g39 : rz_fr [] h7 h39 := by rw [eh39]; exact rz_fr.nw zq38
          have z39 : h q38 = none := F8.nn zq38
          have F40 : rz_fr [] h h39 := F8.tr (g39.mono (by decide))
          have hs_41 : StrAt Γ h39 s n f 1 := StrAt.fr hs_9 g39 (by decide)
          have hk_41 : KsAt Γ h39 := KsAt.fr hk_9 g39 (by decide)
          have hs2_41 : StrAt Γ h39 s2 k.toNat (fun j => f (0 + j)) 1 := StrAt.fr hs2_9 g39 (by decide)
          have hs7_41 : StrAt Γ h39 s7 (((n : Int) - (k + 1)).toNat) (fun j => f (k + 1 + j)) 1 := StrAt.fr hs7 g39 (by decide)
          have fn_39 : h39 q38 = some ((3, 0), .inr (5, [.null, .null])) := by rw [eh39]; exact rz_up_s _ _ _
          refine rz_dup d_Rg_readBounds_84 rfl ?_
          refine rz_aload 1 d_Rg_readBounds_85 rfl ?_
          refine rz_callI (As := [.ref s7]) (c_Ve_init fn_39 hs7_41 hk_41 (by have z := c41; rw [c74, Bool.false_or] at z; exact z)) m_Rg_29 rfl rfl (Nat.le_of_ble_eq_true rfl) ⟨by decide, by decide⟩ ⟨by decide, by decide⟩ d_Rg_readBounds_87 (kV (h := h39) fun h42 q42 => ?_)
          obtain ⟨p42, G42⟩ := q42
          have R42 : rz_fr [3] h39 h42 := rz_fo.fr1 fn_39 G42
          have F42 : rz_fr [] h h42 := fun a t x ha hr => G42 a (t, x) (fun z => by rw [z, z39] at ha; cases ha) (F40 a t x ha hr)
          have hs_43 : StrAt Γ h42 s n f 1 := StrAt.fr hs_41 R42 (by decide)
          have hk_43 : KsAt Γ h42 := KsAt.fr hk_41 R42 (by decide)
          have hs2_43 : StrAt Γ h42 s2 k.toNat (fun j => f (0 + j)) 1 := StrAt.fr hs2_41 R42 (by decide)
          have hs7_43 : StrAt Γ h42 s7 (((n : Int) - (k + 1)).toNat) (fun j => f (k + 1 + j)) 1 := StrAt.fr hs7_41 R42 (by decide)
          have vq38_42 : VeAt Γ h42 q38 (vR (fun j => f (k + 1 + j)) 0 (((n : Int) - (k + 1)).toNat : Nat)) (vP (fun j => f (k + 1 + j)) 0 (((n : Int) - (k + 1)).toNat : Nat)) := p42
          refine rz_astore [(7, .ref q38), (6, .null), (5, .ref s7), (4, .ref s2), (3, vi k), (0, .ref s), (1, vi (bi wl)), (2, vi (bi wu))] d_Rg_readBounds_90 (by decide) rfl ?_
          refine rz_new (ci := 9) (q0 := ("ReleaseSolver$Range", k_T9, 4)) (6, 0) (show (6 : Nat) ≠ 0 by decide) rfl rfl cl_Rg_8 ⟨by decide, by decide⟩ d_Rg_readBounds_92 (fun q44 zq44 => ?_)
          refine rz_nm fun h45 eh45 => ?_
          have g45 : rz_fr [] h42 h45 := by rw [eh45]; exact rz_fr.nw zq44
          have z45 : h q44 = none := F42.nn zq44
          have F46 : rz_fr [] h h45 := F42.tr (g45.mono (by decide))
          have hs_47 : StrAt Γ h45 s n f 1 := StrAt.fr hs_43 g45 (by decide)
          have hk_47 : KsAt Γ h45 := KsAt.fr hk_43 g45 (by decide)
          have hs2_47 : StrAt Γ h45 s2 k.toNat (fun j => f (0 + j)) 1 := StrAt.fr hs2_43 g45 (by decide)
          have hs7_47 : StrAt Γ h45 s7 (((n : Int) - (k + 1)).toNat) (fun j => f (k + 1 + j)) 1 := StrAt.fr hs7_43 g45 (by decide)
          have vq38_47 : VeAt Γ h45 q38 (vR (fun j => f (k + 1 + j)) 0 (((n : Int) - (k + 1)).toNat : Nat)) (vP (fun j => f (k + 1 + j)) 0 (((n : Int) - (k + 1)).toNat : Nat)) := VeAt.fr vq38_42 g45 (by decide)
          have fn_45 : h45 q44 = some ((6, 0), .inr (9, [.null, .null, vi 0, vi 0])) := by rw [eh45]; exact rz_up_s _ _ _
          refine rz_dup d_Rg_readBounds_95 rfl ?_
          refine rz_aloadN 1 d_Rg_readBounds_96 rfl ?_
          refine rz_iload_n 6 d_Rg_readBounds_98 rfl rfl ?_
          refine rz_aload 0 d_Rg_readBounds_99 rfl ?_
          refine rz_iload_n 7 d_Rg_readBounds_101 rfl rfl ?_
          refine rz_callI (As := [.null, vi (bi wl), .ref q38, vi (bi wu)]) (c_Rg_initNR (wl := wl) (wu := wu) fn_45) m_Rg_32 rfl rfl (Nat.le_of_ble_eq_true rfl) ⟨by decide, by decide⟩ ⟨by decide, by decide⟩ d_Rg_readBounds_102 (kV (h := h45) fun h48 q48 => ?_)
          obtain ⟨p48, G48⟩ := q48
          have R48 : rz_fr [6] h45 h48 := rz_fo.fr1 fn_45 G48
          have F48 : rz_fr [] h h48 := fun a t x ha hr => G48 a (t, x) (fun z => by rw [z, z45] at ha; cases ha) (F46 a t x ha hr)
          have hs_49 : StrAt Γ h48 s n f 1 := StrAt.fr hs_47 R48 (by decide)
          have hk_49 : KsAt Γ h48 := KsAt.fr hk_47 R48 (by decide)
          have hs2_49 : StrAt Γ h48 s2 k.toNat (fun j => f (0 + j)) 1 := StrAt.fr hs2_47 R48 (by decide)
          have hs7_49 : StrAt Γ h48 s7 (((n : Int) - (k + 1)).toNat) (fun j => f (k + 1 + j)) 1 := StrAt.fr hs7_47 R48 (by decide)
          have vq38_49 : VeAt Γ h48 q38 (vR (fun j => f (k + 1 + j)) 0 (((n : Int) - (k + 1)).toNat : Nat)) (vP (fun j => f (k + 1 + j)) 0 (((n : Int) - (k + 1)).toNat : Nat)) := VeAt.fr vq38_47 R48 (by decide)
          have vq44_48 : h48 q44 = some ((6, 0), .inr (9, [.null, .ref q38, vi (bi (wl)), vi (bi (wu))])) := p48
          exact rz_areturn (st := []) (r := some q44) rfl (Or.inl ⟨_, rfl⟩) d_Rg_readBounds_105 ⟨by decide, by decide⟩ ⟨some q44, rfl, ⟨(by rw [bdT, (show (decide (k = 0) || ver f 0 k) = (decide (k.toNat = 0) || ver (fun j => f (0 + j)) 0 (k.toNat : Nat)) from by rw [(ver_sub f (a := 0) (e := k) (by omega))]; congr 1; simp; omega), (show (decide (k + 1 = (n : Int)) || ver f (k + 1) n) = (decide (((n : Int) - (k + 1)).toNat = 0) || ver (fun j => f (k + 1 + j)) 0 (((n : Int) - (k + 1)).toNat : Nat)) from by rw [(ver_sub f (a := k + 1) (e := (n : Int)) (by omega))]; congr 1; simp; omega), c33, c41]; rfl), none, some q38, vq44_48, (by rw [if_pos (by have := of_decide_eq_true c51; omega)]; trivial), (by rw [if_neg (by have := of_decide_eq_false c74; omega)]; exact VeAt.sub vq38_49 (by omega))⟩, F48⟩
        · refine rz_null d_Rg_readBounds_77 ?_
          refine rz_goto 90 d_Rg_readBounds_78 (by decide) ?_
          refine rz_astoreN [(7, .null), (6, .null), (5, .ref s7), (4, .ref s2), (3, vi k), (0, .ref s), (1, vi (bi wl)), (2, vi (bi wu))] d_Rg_readBounds_90 (by decide) rfl ?_
          refine rz_new (ci := 9) (q0 := ("ReleaseSolver$Range", k_T9, 4)) (6, 0) (show (6 : Nat) ≠ 0 by decide) rfl rfl cl_Rg_8 ⟨by decide, by decide⟩ d_Rg_readBounds_92 (fun q50 zq50 => ?_)
          refine rz_nm fun h51 eh51 => ?_
          have g51 : rz_fr [] h7 h51 := by rw [eh51]; exact rz_fr.nw zq50
          have z51 : h q50 = none := F8.nn zq50
          have F52 : rz_fr [] h h51 := F8.tr (g51.mono (by decide))
          have hs_53 : StrAt Γ h51 s n f 1 := StrAt.fr hs_9 g51 (by decide)
          have hk_53 : KsAt Γ h51 := KsAt.fr hk_9 g51 (by decide)
          have hs2_53 : StrAt Γ h51 s2 k.toNat (fun j => f (0 + j)) 1 := StrAt.fr hs2_9 g51 (by decide)
          have hs7_53 : StrAt Γ h51 s7 (((n : Int) - (k + 1)).toNat) (fun j => f (k + 1 + j)) 1 := StrAt.fr hs7 g51 (by decide)
          have fn_51 : h51 q50 = some ((6, 0), .inr (9, [.null, .null, vi 0, vi 0])) := by rw [eh51]; exact rz_up_s _ _ _
          refine rz_dup d_Rg_readBounds_95 rfl ?_
          refine rz_aloadN 1 d_Rg_readBounds_96 rfl ?_
          refine rz_iload_n 6 d_Rg_readBounds_98 rfl rfl ?_
          refine rz_aloadN 0 d_Rg_readBounds_99 rfl ?_
          refine rz_iload_n 7 d_Rg_readBounds_101 rfl rfl ?_
          refine rz_callI (As := [.null, vi (bi wl), .null, vi (bi wu)]) (c_Rg_initNN (wl := wl) (wu := wu) fn_51) m_Rg_32 rfl rfl (Nat.le_of_ble_eq_true rfl) ⟨by decide, by decide⟩ ⟨by decide, by decide⟩ d_Rg_readBounds_102 (kV (h := h51) fun h54 q54 => ?_)
          obtain ⟨p54, G54⟩ := q54
          have R54 : rz_fr [6] h51 h54 := rz_fo.fr1 fn_51 G54
          have F54 : rz_fr [] h h54 := fun a t x ha hr => G54 a (t, x) (fun z => by rw [z, z51] at ha; cases ha) (F52 a t x ha hr)
          have hs_55 : StrAt Γ h54 s n f 1 := StrAt.fr hs_53 R54 (by decide)
          have hk_55 : KsAt Γ h54 := KsAt.fr hk_53 R54 (by decide)
          have hs2_55 : StrAt Γ h54 s2 k.toNat (fun j => f (0 + j)) 1 := StrAt.fr hs2_53 R54 (by decide)
          have hs7_55 : StrAt Γ h54 s7 (((n : Int) - (k + 1)).toNat) (fun j => f (k + 1 + j)) 1 := StrAt.fr hs7_53 R54 (by decide)
          have vq50_54 : h54 q50 = some ((6, 0), .inr (9, [.null, .null, vi (bi (wl)), vi (bi (wu))])) := p54
          exact rz_areturn (st := []) (r := some q50) rfl (Or.inl ⟨_, rfl⟩) d_Rg_readBounds_105 ⟨by decide, by decide⟩ ⟨some q50, rfl, ⟨(by rw [bdT, (show (decide (k = 0) || ver f 0 k) = (decide (k.toNat = 0) || ver (fun j => f (0 + j)) 0 (k.toNat : Nat)) from by rw [(ver_sub f (a := 0) (e := k) (by omega))]; congr 1; simp; omega), (show (decide (k + 1 = (n : Int)) || ver f (k + 1) n) = (decide (((n : Int) - (k + 1)).toNat = 0) || ver (fun j => f (k + 1 + j)) 0 (((n : Int) - (k + 1)).toNat : Nat)) from by rw [(ver_sub f (a := k + 1) (e := (n : Int)) (by omega))]; congr 1; simp; omega), c33, c41]; rfl), none, none, vq50_54, (by rw [if_pos (by have := of_decide_eq_true c51; omega)]; trivial), (by rw [if_pos (by have := of_decide_eq_true c74; omega)]; trivial)⟩, F54⟩
    · refine rz_null d_Rg_readBounds_44 ?_
      exact rz_areturn (st := []) (r := none) rfl (Or.inl ⟨_, rfl⟩) d_Rg_readBounds_45 ⟨by decide, by decide⟩ ⟨none, rfl, (by show bdT f n k = false; rw [bdT, (show (decide (k = 0) || ver f 0 k) = (decide (k.toNat = 0) || ver (fun j => f (0 + j)) 0 (k.toNat : Nat)) from by rw [(ver_sub f (a := 0) (e := k) (by omega))]; congr 1; simp; omega), (show (decide (k + 1 = (n : Int)) || ver f (k + 1) n) = (decide (((n : Int) - (k + 1)).toNat = 0) || ver (fun j => f (k + 1 + j)) 0 (((n : Int) - (k + 1)).toNat : Nat)) from by rw [(ver_sub f (a := k + 1) (e := (n : Int)) (by omega))]; congr 1; simp; omega)]; first | (rw [c33]; rfl) | (rw [c41, Bool.and_false])), F8⟩
theorem BdAt.in1 {Γ : rz_G} {h : rz_H} {o : Option Nat} {g : Int → Int} {k : Int} (hb : BdAt Γ h o (fun j => g (1 + j)) (if k = 0 then none else some (0, k))) (hk : 0 ≤ k) : BdAt Γ h o g (if k = 0 then none else some (0 + 1, k + 1)) := by
  by_cases c : k = 0
  · rw [if_pos c] at hb ⊢; cases o <;> simp only [BdAt] at hb ⊢
  · rw [if_neg c] at hb ⊢
    cases o <;> simp only [BdAt] at hb ⊢
    exact hb.in1 hk
theorem BdAt.in1' {Γ : rz_G} {h : rz_H} {o : Option Nat} {g : Int → Int} {k : Int} {m : Nat} (hb : BdAt Γ h o (fun j => g (1 + j)) (if k + 1 = m then none else some (k + 1, (m : Int)))) (hk : k + 1 ≤ m) : BdAt Γ h o g (if k + 1 = m then none else some (k + 1 + 1, (m : Int) + 1)) := by
  by_cases c : k + 1 = m
  · rw [if_pos c] at hb ⊢; cases o <;> simp only [BdAt] at hb ⊢
  · rw [if_neg c] at hb ⊢
    cases o <;> simp only [BdAt] at hb ⊢
    exact hb.in1 hk
theorem VeAt.sub1 {Γ : rz_G} {h : rz_H} {v n : Nat} {g : Int → Int} (hv : VeAt Γ h v (vR (fun j => g (1 + j)) 0 (n - 2 : Nat)) (vP (fun j => g (1 + j)) 0 (n - 2 : Nat))) (hn : 2 ≤ n) : VeAt Γ h v (vR g 1 ((n : Int) - 1)) (vP g 1 ((n : Int) - 1)) := hv.sub (by omega)
abbrev rm_Rg_read : Room := { frames := 8, cells := 61, slots := 1082, locals := 208 }
set_option maxRecDepth 100000 in
set_option maxHeartbeats 4000000 in
theorem c_Rg_read {l : Launch} {Γ : rz_G} {h : rz_H} {s n : Nat} {f : Int → Int} (hs : StrAt Γ h s n f 1) (hk : KsAt Γ h) (hn : n ≤ 24) : Ct l Γ x_Rg_read y_Rg_read rm_Rg_read [.ref s] h (pO (fun r h' => rdR Γ h' r f n ∧ rz_fr [] h h')) := by
  refine rz_met (by decide) rfl rfl (Nat.le_of_ble_eq_true rfl) (fun K _ => ?_)
  refine rz_Leq [(0, .ref s)] rfl ?_
  refine rz_aload_n 0 d_Rg_read_0 rfl rfl ?_
  refine rz_callS (As := [.ref s]) (c_Ve_isVersion hs) m_Rg_23 rfl rfl (Nat.le_of_ble_eq_true rfl) ⟨by decide, by decide⟩ ⟨by decide, by decide⟩ d_Rg_read_1 (kE (h := h) ?_)
  refine rz_if_eqB 26 d_Rg_read_4 (by decide) (fun c4 => ?_) (fun c4 => ?_)
  · refine rz_aload_n 0 d_Rg_read_26 rfl rfl ?_
    obtain ⟨tso1, fso1, so1⟩ := hs.ob
    refine rz_callV (As := []) (c_St_length hs) m_Rg_35 so1 rfl rfl rfl rfl (Nat.le_of_ble_eq_true rfl) ⟨by decide, by decide⟩ ⟨by decide, by decide⟩ d_Rg_read_27 (kE (h := h) ?_)
    refine rz_iconst d_Rg_read_30 ?_
    refine rz_isub d_Rg_read_31 ?_
    refine rz_istore_n [(1, vi ((n : Int) - 1)), (0, .ref s)] d_Rg_read_32 rfl (by decide) rfl ?_
    refine rz_iload_n 0 d_Rg_read_33 rfl rfl ?_
    refine rz_iconst d_Rg_read_34 ?_
    refine rz_icmp_ge 40 d_Rg_read_35 (by decide) (by omega) ⟨by decide, by decide⟩ (fun c35 => ?_) (fun c35 => ?_)
    · have r0 := hs.ok.2 0 (by omega) (by omega)
      have r1 := hs.ok.2 ((n : Int) - 1) (by omega) (by omega)
      refine rz_cut (α := Unit) 0 0 55 (fun _ => True) (fun _ => [(1, vi ((n : Int) - 1)), (0, .ref s)]) (fun _ => [vi (bi (decide (f 0 = 91)))]) (fun _ => h) (fun _ _ => ?_) (fun J55 => ?_)
      · refine rz_istore_n [(2, vi (bi (decide (f 0 = 91)))), (1, vi ((n : Int) - 1)), (0, .ref s)] d_Rg_read_55 rfl (by decide) rfl ?_
        refine rz_cut (α := Unit) 0 0 71 (fun _ => True) (fun _ => [(2, vi (bi (decide (f 0 = 91)))), (1, vi ((n : Int) - 1)), (0, .ref s)]) (fun _ => [vi (bi (decide (f ((n : Int) - 1) = 93)))]) (fun _ => h) (fun _ _ => ?_) (fun J71 => ?_)
        · refine rz_istore_n [(3, vi (bi (decide (f ((n : Int) - 1) = 93)))), (2, vi (bi (decide (f 0 = 91)))), (1, vi ((n : Int) - 1)), (0, .ref s)] d_Rg_read_71 rfl (by decide) rfl ?_
          refine rz_cut (α := Unit) 0 0 86 (fun _ => f 0 = 91 ∨ f 0 = 40) (fun _ => [(3, vi (bi (decide (f ((n : Int) - 1) = 93)))), (2, vi (bi (decide (f 0 = 91)))), (1, vi ((n : Int) - 1)), (0, .ref s)]) (fun _ => []) (fun _ => h) (fun _ k86 => ?_) (fun J86 => ?_)
          · refine rz_cut (α := Unit) 0 0 102 (fun _ => f ((n : Int) - 1) = 93 ∨ f ((n : Int) - 1) = 41) (fun _ => [(3, vi (bi (decide (f ((n : Int) - 1) = 93)))), (2, vi (bi (decide (f 0 = 91)))), (1, vi ((n : Int) - 1)), (0, .ref s)]) (fun _ => []) (fun _ => h) (fun _ k102 => ?_) (fun J102 => ?_)
            · refine rz_aload_n 3 d_Rg_read_102 rfl rfl ?_
              refine rz_iconst d_Rg_read_103 ?_
              refine rz_iload_n 2 d_Rg_read_104 rfl rfl ?_
              obtain ⟨tso5, fso5, so5⟩ := hs.ob
              refine rz_callV (As := [vi 1, vi ((n : Int) - 1)]) (c_St_substring hs (i := 1) (e := ((n : Int) - 1)) (N := (n - 2)) (by omega) (by omega) (by omega) (by omega) hk.2.1) m_Rg_45 so5 rfl rfl rfl rfl (Nat.le_of_ble_eq_true rfl) ⟨by decide, by decide⟩ ⟨by decide, by decide⟩ d_Rg_read_105 (kR (h := h) fun s2 h2 q2 => ?_)
              obtain ⟨hs2, G2⟩ := q2
              have F3 : rz_fr [] h h2 := rz_fr.rf.tr (G2.mono (by decide))
              have hs_4 : StrAt Γ h2 s n f 1 := StrAt.fr hs G2 (by decide)
              have hk_4 : KsAt Γ h2 := KsAt.fr hk G2 (by decide)
              refine rz_astore [(4, .ref s2), (3, vi (bi (decide (f ((n : Int) - 1) = 93)))), (2, vi (bi (decide (f 0 = 91)))), (1, vi ((n : Int) - 1)), (0, .ref s)] d_Rg_read_108 (by decide) rfl ?_
              refine rz_aload 0 d_Rg_read_110 rfl ?_
              refine rz_bipush (v := 44) d_Rg_read_112 (by decide) ?_
              obtain ⟨tso6, fso6, so6⟩ := hs2.ob
              refine rz_callV (As := [vi 44]) (c_St_indexOf hs2 (c := 44) (by decide)) m_Rg_49 so6 rfl rfl rfl rfl (Nat.le_of_ble_eq_true rfl) ⟨by decide, by decide⟩ ⟨by decide, by decide⟩ d_Rg_read_114 (kE (h := h2) ?_)
              have idn := idF_in (fun j => f (1 + j)) 44 (n - 2) 0
              refine rz_if_lt 128 d_Rg_read_117 (by decide) (by omega) (fun c117 => ?_) (fun c117 => ?_)
              · refine rz_iload_n 2 d_Rg_read_128 rfl rfl ?_
                refine rz_if_eqB 144 d_Rg_read_129 (by decide) (fun c129 => ?_) (fun c129 => ?_)
                · refine rz_null d_Rg_read_144 ?_
                  exact rz_areturn (st := []) (r := none) rfl (Or.inl ⟨_, rfl⟩) d_Rg_read_145 ⟨by decide, by decide⟩ ⟨none, rfl, (by show rng f n = false; rw [(rd_ex c4 (by omega) k86 k102 (by omega)).1]; first | (rw [c129]; rfl) | (rw [c133, Bool.and_false]; rfl)), F3⟩
                · refine rz_iload_n 1 d_Rg_read_132 rfl rfl ?_
                  refine rz_if_eqB 144 d_Rg_read_133 (by decide) (fun c133 => ?_) (fun c133 => ?_)
                  · refine rz_null d_Rg_read_144 ?_
                    exact rz_areturn (st := []) (r := none) rfl (Or.inl ⟨_, rfl⟩) d_Rg_read_145 ⟨by decide, by decide⟩ ⟨none, rfl, (by show rng f n = false; rw [(rd_ex c4 (by omega) k86 k102 (by omega)).1]; first | (rw [c129]; rfl) | (rw [c133, Bool.and_false]; rfl)), F3⟩
                  · refine rz_aload 0 d_Rg_read_136 rfl ?_
                    refine rz_callS (As := [.ref s2]) (c_Rg_readExact hs2 hk_4) m_Rg_57 rfl rfl (Nat.le_of_ble_eq_true rfl) ⟨by decide, by decide⟩ ⟨by decide, by decide⟩ d_Rg_read_138 (kO (h := h2) (fun h7 q7 => ?_) (fun a7 h7 q7 => ?_))
                    · refine rz_goto 145 d_Rg_read_141 (by decide) ?_
                      exact rz_areturn (st := []) (r := none) rfl (Or.inl ⟨_, rfl⟩) d_Rg_read_145 ⟨by decide, by decide⟩ ⟨none, rfl, (by show rng f n = false; rw [(rd_ex c4 (by omega) k86 k102 (by omega)).1, show ver (fun j => f (1 + j)) 0 (n - 2 : Nat) = false from q7.1, Bool.and_false]), (F3.tr q7.2)⟩
                    · refine rz_goto 145 d_Rg_read_141 (by decide) ?_
                      exact rz_areturn (st := []) (r := some a7) rfl (Or.inl ⟨_, rfl⟩) d_Rg_read_145 ⟨by decide, by decide⟩ ⟨some a7, rfl, (by obtain ⟨b1, v, b2, b3⟩ := q7.1; obtain ⟨d1, d2, d3, d4, d5⟩ := rd_ex c4 (by omega) k86 k102 (by omega); exact ⟨by rw [d1, c129, c133, b1]; rfl, some v, some v, by rw [d4, d5, c129, c133]; exact b2, by rw [d2]; exact VeAt.sub1 b3 (by omega), by rw [d3]; exact VeAt.sub1 b3 (by omega)⟩), (F3.tr q7.2)⟩
              · refine rz_aload 0 d_Rg_read_120 rfl ?_
                refine rz_iload_n 2 d_Rg_read_122 rfl rfl ?_
                refine rz_iload_n 1 d_Rg_read_123 rfl rfl ?_
                refine rz_callS (As := [.ref s2, vi (bi (decide (f 0 = 91))), vi (bi (decide (f ((n : Int) - 1) = 93)))]) (c_Rg_readBounds hs2 hk_4 (by omega) rfl (by omega)) m_Rg_53 rfl rfl (Nat.le_of_ble_eq_true rfl) ⟨by decide, by decide⟩ ⟨by decide, by decide⟩ d_Rg_read_124 (kO (h := h2) (fun h8 q8 => ?_) (fun a8 h8 q8 => ?_))
                · exact rz_areturn (st := []) (r := none) rfl (Or.inl ⟨_, rfl⟩) d_Rg_read_127 ⟨by decide, by decide⟩ ⟨none, rfl, (by show rng f n = false; rw [(rd_bd c4 (by omega) k86 k102 rfl (by omega)).1]; exact q8.1), (F3.tr q8.2)⟩
                · exact rz_areturn (st := []) (r := some a8) rfl (Or.inl ⟨_, rfl⟩) d_Rg_read_127 ⟨by decide, by decide⟩ ⟨some a8, rfl, (by obtain ⟨b1, lo, hi, b2, b3, b4⟩ := q8.1; obtain ⟨d1, d2, d3, d4, d5⟩ := rd_bd c4 (by omega) k86 k102 rfl (by omega); exact ⟨by rw [d1]; exact b1, lo, hi, by rw [d4, d5]; exact b2, by rw [d2]; exact BdAt.in1 b3 (by omega), by rw [d3]; exact BdAt.in1' b4 (by have := idF_in (fun j => f (1 + j)) 44 (n - 2) 0; omega)⟩), (F3.tr q8.2)⟩
            · refine rz_iload_n 0 d_Rg_read_86 rfl rfl ?_
              refine rz_if_neB 102 d_Rg_read_87 (by decide) (fun c87 => ?_) (fun c87 => ?_)
              · exact J102 () (by first | exact Or.inl (of_decide_eq_true c87) | exact Or.inr (by omega))
              · refine rz_aload_n 3 d_Rg_read_90 rfl rfl ?_
                refine rz_iload_n 2 d_Rg_read_91 rfl rfl ?_
                obtain ⟨tso9, fso9, so9⟩ := hs.ob
                refine rz_callV (As := [vi ((n : Int) - 1)]) (c_St_charAt hs (by omega)) m_Rg_41 so9 rfl rfl rfl rfl (Nat.le_of_ble_eq_true rfl) ⟨by decide, by decide⟩ ⟨by decide, by decide⟩ d_Rg_read_92 (kE (h := h) ?_)
                refine rz_bipush (v := 41) d_Rg_read_95 (by decide) ?_
                refine rz_icmp_eq 102 d_Rg_read_97 (by decide) (by omega) ⟨by decide, by decide⟩ (fun c97 => ?_) (fun c97 => ?_)
                · exact J102 () (by first | exact Or.inl (of_decide_eq_true c87) | exact Or.inr (by omega))
                · refine rz_null d_Rg_read_100 ?_
                  exact rz_areturn (st := []) (r := none) rfl (Or.inl ⟨_, rfl⟩) d_Rg_read_101 ⟨by decide, by decide⟩ ⟨none, rfl, rng_br c4 (by first | exact Or.inl (by have := of_decide_eq_false c73; omega) | exact Or.inr (by have := of_decide_eq_false c87; omega)), rz_fr.rf⟩
          · refine rz_iload_n 1 d_Rg_read_72 rfl rfl ?_
            refine rz_if_neB 86 d_Rg_read_73 (by decide) (fun c73 => ?_) (fun c73 => ?_)
            · exact J86 () (by first | exact Or.inl (of_decide_eq_true c73) | exact Or.inr (by omega))
            · refine rz_aload_n 3 d_Rg_read_76 rfl rfl ?_
              refine rz_iconst d_Rg_read_77 ?_
              obtain ⟨tso10, fso10, so10⟩ := hs.ob
              refine rz_callV (As := [vi 0]) (c_St_charAt hs (by omega)) m_Rg_41 so10 rfl rfl rfl rfl (Nat.le_of_ble_eq_true rfl) ⟨by decide, by decide⟩ ⟨by decide, by decide⟩ d_Rg_read_78 (kE (h := h) ?_)
              refine rz_bipush (v := 40) d_Rg_read_81 (by decide) ?_
              refine rz_icmp_ne 100 d_Rg_read_83 (by decide) (by omega) ⟨by decide, by decide⟩ (fun c83 => ?_) (fun c83 => ?_)
              · refine rz_null d_Rg_read_100 ?_
                exact rz_areturn (st := []) (r := none) rfl (Or.inl ⟨_, rfl⟩) d_Rg_read_101 ⟨by decide, by decide⟩ ⟨none, rfl, rng_br c4 (by first | exact Or.inl (by have := of_decide_eq_false c73; omega) | exact Or.inr (by have := of_decide_eq_false c87; omega)), rz_fr.rf⟩
              · exact J86 () (by first | exact Or.inl (of_decide_eq_true c73) | exact Or.inr (by omega))
        · refine rz_aload_n 2 d_Rg_read_56 rfl rfl ?_
          refine rz_iload_n 1 d_Rg_read_57 rfl rfl ?_
          obtain ⟨tso11, fso11, so11⟩ := hs.ob
          refine rz_callV (As := [vi ((n : Int) - 1)]) (c_St_charAt hs (by omega)) m_Rg_41 so11 rfl rfl rfl rfl (Nat.le_of_ble_eq_true rfl) ⟨by decide, by decide⟩ ⟨by decide, by decide⟩ d_Rg_read_58 (kE (h := h) ?_)
          refine rz_bipush (v := 93) d_Rg_read_61 (by decide) ?_
          refine rz_icmp_ne 70 d_Rg_read_63 (by decide) (by omega) ⟨by decide, by decide⟩ (fun c63 => ?_) (fun c63 => ?_)
          · refine rz_iconst d_Rg_read_70 ?_
            refine rz_Seq [vi (bi (decide (f ((n : Int) - 1) = 93)))] (by rw [decide_eq_false (show ¬ f ((n : Int) - 1) = 93 by omega)]; rfl) ?_
            exact J71 () trivial
          · refine rz_iconst d_Rg_read_66 ?_
            refine rz_goto 71 d_Rg_read_67 (by decide) ?_
            refine rz_Seq [vi (bi (decide (f ((n : Int) - 1) = 93)))] (by rw [decide_eq_true (show f ((n : Int) - 1) = 93 by omega)]; rfl) ?_
            exact J71 () trivial
      · refine rz_aload_n 1 d_Rg_read_40 rfl rfl ?_
        refine rz_iconst d_Rg_read_41 ?_
        obtain ⟨tso12, fso12, so12⟩ := hs.ob
        refine rz_callV (As := [vi 0]) (c_St_charAt hs (by omega)) m_Rg_41 so12 rfl rfl rfl rfl (Nat.le_of_ble_eq_true rfl) ⟨by decide, by decide⟩ ⟨by decide, by decide⟩ d_Rg_read_42 (kE (h := h) ?_)
        refine rz_bipush (v := 91) d_Rg_read_45 (by decide) ?_
        refine rz_icmp_ne 54 d_Rg_read_47 (by decide) (by omega) ⟨by decide, by decide⟩ (fun c47 => ?_) (fun c47 => ?_)
        · refine rz_iconst d_Rg_read_54 ?_
          refine rz_Seq [vi (bi (decide (f 0 = 91)))] (by rw [decide_eq_false (show ¬ f 0 = 91 by omega)]; rfl) ?_
          exact J55 () trivial
        · refine rz_iconst d_Rg_read_50 ?_
          refine rz_goto 55 d_Rg_read_51 (by decide) ?_
          refine rz_Seq [vi (bi (decide (f 0 = 91)))] (by rw [decide_eq_true (show f 0 = 91 by omega)]; rfl) ?_
          exact J55 () trivial
    · refine rz_null d_Rg_read_38 ?_
      exact rz_areturn (st := []) (r := none) rfl (Or.inl ⟨_, rfl⟩) d_Rg_read_39 ⟨by decide, by decide⟩ ⟨none, rfl, rng_2 c4 (by omega), rz_fr.rf⟩
  · refine rz_new (ci := 9) (q0 := ("ReleaseSolver$Range", k_T9, 4)) (6, 0) (show (6 : Nat) ≠ 0 by decide) rfl rfl cl_Rg_8 ⟨by decide, by decide⟩ d_Rg_read_7 (fun q13 zq13 => ?_)
    refine rz_nm fun h14 eh14 => ?_
    have g14 : rz_fr [] h h14 := by rw [eh14]; exact rz_fr.nw zq13
    have z14 : h q13 = none := rz_fr.rf.nn zq13
    have F15 : rz_fr [] h h14 := rz_fr.rf.tr (g14.mono (by decide))
    have hs_16 : StrAt Γ h14 s n f 1 := StrAt.fr hs g14 (by decide)
    have hk_16 : KsAt Γ h14 := KsAt.fr hk g14 (by decide)
    have fn_14 : h14 q13 = some ((6, 0), .inr (9, [.null, .null, vi 0, vi 0])) := by rw [eh14]; exact rz_up_s _ _ _
    refine rz_dup d_Rg_read_10 rfl ?_
    refine rz_new (ci := 5) (q0 := ("ReleaseSolver$Version", k_T5, 2)) (3, 0) (show (3 : Nat) ≠ 0 by decide) rfl rfl cl_Rg_24 ⟨by decide, by decide⟩ d_Rg_read_11 (fun q17 zq17 => ?_)
    refine rz_nm fun h18 eh18 => ?_
    have g18 : rz_fr [] h14 h18 := by rw [eh18]; exact rz_fr.nw zq17
    have z18 : h q17 = none := F15.nn zq17
    have F19 : rz_fr [] h h18 := F15.tr (g18.mono (by decide))
    have fc_20_0 : h18 q13 = some ((6, 0), .inr (9, [.null, .null, vi 0, vi 0])) := g18 _ _ _ fn_14 (by simp)
    have hs_20 : StrAt Γ h18 s n f 1 := StrAt.fr hs_16 g18 (by decide)
    have hk_20 : KsAt Γ h18 := KsAt.fr hk_16 g18 (by decide)
    have fn_18 : h18 q17 = some ((3, 0), .inr (5, [.null, .null])) := by rw [eh18]; exact rz_up_s _ _ _
    refine rz_dup d_Rg_read_14 rfl ?_
    refine rz_aload_n 0 d_Rg_read_15 rfl rfl ?_
    refine rz_callI (As := [.ref s]) (c_Ve_init fn_18 hs_20 hk_20 c4) m_Rg_29 rfl rfl (Nat.le_of_ble_eq_true rfl) ⟨by decide, by decide⟩ ⟨by decide, by decide⟩ d_Rg_read_16 (kV (h := h18) fun h21 q21 => ?_)
    obtain ⟨p21, G21⟩ := q21
    have R21 : rz_fr [3] h18 h21 := rz_fo.fr1 fn_18 G21
    have F21 : rz_fr [] h h21 := fun a t x ha hr => G21 a (t, x) (fun z => by rw [z, z18] at ha; cases ha) (F19 a t x ha hr)
    have fc_22_0 : h21 q13 = some ((6, 0), .inr (9, [.null, .null, vi 0, vi 0])) := R21 _ _ _ fc_20_0 (show 6 ∉ ([3] : List Nat) by decide)
    have hs_22 : StrAt Γ h21 s n f 1 := StrAt.fr hs_20 R21 (by decide)
    have hk_22 : KsAt Γ h21 := KsAt.fr hk_20 R21 (by decide)
    have vq17_21 : VeAt Γ h21 q17 (vR f 0 (n : Nat)) (vP f 0 (n : Nat)) := p21
    refine rz_iconst d_Rg_read_19 ?_
    refine rz_null d_Rg_read_20 ?_
    refine rz_iconst d_Rg_read_21 ?_
    refine rz_callI (As := [.ref q17, vi 1, .null, vi 1]) (c_Rg_initRN (wl := true) (wu := true) fc_22_0) m_Rg_32 rfl rfl (Nat.le_of_ble_eq_true rfl) ⟨by decide, by decide⟩ ⟨by decide, by decide⟩ d_Rg_read_22 (kV (h := h21) fun h23 q23 => ?_)
    obtain ⟨p23, G23⟩ := q23
    have R23 : rz_fr [6] h21 h23 := rz_fo.fr1 fc_22_0 G23
    have F23 : rz_fr [] h h23 := fun a t x ha hr => G23 a (t, x) (fun z => by rw [z, z14] at ha; cases ha) (F21 a t x ha hr)
    have hs_24 : StrAt Γ h23 s n f 1 := StrAt.fr hs_22 R23 (by decide)
    have hk_24 : KsAt Γ h23 := KsAt.fr hk_22 R23 (by decide)
    have vq17_24 : VeAt Γ h23 q17 (vR f 0 (n : Nat)) (vP f 0 (n : Nat)) := VeAt.fr vq17_21 R23 (by decide)
    have vq13_23 : h23 q13 = some ((6, 0), .inr (9, [.ref q17, .null, vi (bi (true)), vi (bi (true))])) := p23
    exact rz_areturn (st := []) (r := some q13) rfl (Or.inl ⟨_, rfl⟩) d_Rg_read_25 ⟨by decide, by decide⟩ ⟨some q13, rfl, ⟨by rw [rng, if_pos c4], some q17, none, (by rw [show rWl f n = true from by rw [rWl, if_pos c4], show rWu f n = true from by rw [rWu, if_pos c4]]; exact vq13_23), (by rw [rLo, if_pos c4]; exact vq17_24), (by rw [rHi, if_pos c4]; trivial)⟩, F23⟩

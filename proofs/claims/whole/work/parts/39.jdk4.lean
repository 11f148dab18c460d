/-! JDK: ArrayList, Arrays.fill -/
/-- the array of all empty lists -/
def rz_ae (Γ : rz_G) (h : rz_H) : Prop := h (Γ.2.2.2.2 0) = some ((0, 4), aR Γ 4 0 (fun _ => none))
theorem rz_ae.fr {Γ : rz_G} {h h' : rz_H} {rs : List Nat} (ha : rz_ae Γ h) (hf : rz_fr rs h h') (hr : 0 ∉ rs) : rz_ae Γ h' := hf _ _ _ ha hr
/-- a list's cells: nothing yet, or room for ten -/
def AlD (Γ : rz_G) (h : rz_H) (o d n : Nat) (e : Int → Option Nat) : Prop := (n = 0 ∧ d = Γ.2.2.2.2 0 ∧ rz_ae Γ h) ∨ ∃ e', h d = some ((36, o), aR Γ 4 10 e') ∧ n ≤ 10 ∧ ∀ j, 0 ≤ j → j < (n : Int) → e' j = e j
/-- an ArrayList at a, number o: n elements e -/
def AlAt (Γ : rz_G) (h : rz_H) (a o n : Nat) (e : Int → Option Nat) : Prop := ∃ (d : Nat) (mc : Int), h a = some ((35, o), .inr (2, [.ref d, vi (n : Int), vi mc])) ∧ AlD Γ h o d n e
theorem AlAt.ft {Γ : rz_G} {h h' : rz_H} {a o n : Nat} {e : Int → Option Nat} {ts : List (Nat × Nat)} (ha : AlAt Γ h a o n e) (hf : rz_ft ts h h') (h1 : (35, o) ∉ ts) (h2 : (36, o) ∉ ts) (h3 : (0, 4) ∉ ts) : AlAt Γ h' a o n e := by
  obtain ⟨d, mc, a1, ⟨a2, a3, a4⟩ | ⟨e', b1, b2, b3⟩⟩ := ha
  · exact ⟨d, mc, hf _ _ _ a1 h1, Or.inl ⟨a2, a3, hf _ _ _ a4 h3⟩⟩
  · exact ⟨d, mc, hf _ _ _ a1 h1, Or.inr ⟨e', hf _ _ _ b1 h2, b2, b3⟩⟩
theorem AlAt.fr {Γ : rz_G} {h h' : rz_H} {a o n : Nat} {e : Int → Option Nat} {rs : List Nat} (ha : AlAt Γ h a o n e) (hf : rz_fr rs h h') (h1 : 35 ∉ rs) (h2 : 36 ∉ rs) (h3 : 0 ∉ rs) : AlAt Γ h' a o n e := by
  obtain ⟨d, mc, a1, ⟨a2, a3, a4⟩ | ⟨e', b1, b2, b3⟩⟩ := ha
  · exact ⟨d, mc, hf _ _ _ a1 h1, Or.inl ⟨a2, a3, hf _ _ _ a4 h3⟩⟩
  · exact ⟨d, mc, hf _ _ _ a1 h1, Or.inr ⟨e', hf _ _ _ b1 h2, b2, b3⟩⟩
theorem AlAt.c {Γ : rz_G} {h : rz_H} {a o n : Nat} {e f : Int → Option Nat} (ha : AlAt Γ h a o n e) (he : ∀ j, 0 ≤ j → j < (n : Int) → f j = e j) : AlAt Γ h a o n f := by
  obtain ⟨d, mc, a1, a2 | ⟨e', b1, b2, b3⟩⟩ := ha
  · exact ⟨d, mc, a1, Or.inl a2⟩
  · exact ⟨d, mc, a1, Or.inr ⟨e', b1, b2, fun j p q => by rw [he j p q]; exact b3 j p q⟩⟩
abbrev rm_Ac_init : Room := { frames := 1, cells := 0, slots := 0, locals := 24 }
set_option maxRecDepth 100000 in
set_option maxHeartbeats 4000000 in
theorem c_Ac_init {l : Launch} {Γ : rz_G} {h : rz_H} {a : Nat} : Ct l Γ x_Ac_init y_Ac_init rm_Ac_init [.ref a] h (pV (fun h' => h' = h)) := by
  refine rz_met (by decide) rfl rfl (Nat.le_of_ble_eq_true rfl) (fun K _ => ?_)
  refine rz_Leq [(0, .ref a)] rfl ?_
  refine rz_aload_n 0 d_Ac_init_0 rfl rfl ?_
  refine rz_objInit oi_Ac oi_i oi_c (Nat.le_of_ble_eq_true rfl) (by decide) d_Ac_init_1 ?_
  exact rz_return (st := []) rfl d_Ac_init_4 ⟨by decide, by decide⟩ ⟨rfl, rfl⟩
abbrev rm_Ax_init : Room := { frames := 2, cells := 0, slots := 0, locals := 44 }
set_option maxRecDepth 100000 in
set_option maxHeartbeats 4000000 in
theorem c_Ax_init {l : Launch} {Γ : rz_G} {h : rz_H} {a o : Nat} (ha : h a = some ((35, o), .inr (2, [.null, vi 0, vi 0]))) : Ct l Γ x_Ax_init y_Ax_init rm_Ax_init [.ref a] h (pV (fun h' => h' a = some ((35, o), .inr (2, [.null, vi 0, vi 0])) ∧ rz_fo a h h')) := by
  refine rz_met (by decide) rfl rfl (Nat.le_of_ble_eq_true rfl) (fun K _ => ?_)
  refine rz_Leq [(0, .ref a)] rfl ?_
  refine rz_aload_n 0 d_Ax_init_0 rfl rfl ?_
  refine rz_callI (As := []) c_Ac_init m_Ax_1 rfl rfl (Nat.le_of_ble_eq_true rfl) ⟨by decide, by decide⟩ ⟨by decide, by decide⟩ d_Ax_init_1 (kV (h := h) fun hv ev => ?_)
  rw [ev]
  refine rz_aload_n 0 d_Ax_init_4 rfl rfl ?_
  refine rz_iconst d_Ax_init_5 ?_
  refine rz_putf (fp_Ax_7 _) ha (show (35 : Nat) ≠ 0 by decide) rfl rfl (show 2 < 3 by decide) d_Ax_init_6 ?_
  refine rz_nm fun h1 eh1 => ?_
  have g1 : rz_fr [35] h h1 := by rw [eh1]; exact rz_fr.one ha
  have F2 : rz_fo a h h1 := by rw [eh1]; exact rz_fo.rf.up
  have fu_1 : h1 a = some ((35, o), .inr (2, [.null, vi 0, vi 0])) := by rw [eh1]; exact rz_up_s _ _ _
  exact rz_return (st := []) rfl d_Ax_init_9 ⟨by decide, by decide⟩ ⟨rfl, fu_1, F2⟩
abbrev rm_Al_init : Room := { frames := 3, cells := 0, slots := 0, locals := 64 }
set_option maxRecDepth 100000 in
set_option maxHeartbeats 4000000 in
theorem c_Al_init {l : Launch} {Γ : rz_G} {h : rz_H} {a o : Nat} {e : Int → Option Nat} (ha : h a = some ((35, o), .inr (2, [.null, vi 0, vi 0]))) (he : rz_ae Γ h) : Ct l Γ x_Al_init y_Al_init rm_Al_init [.ref a] h (pV (fun h' => AlAt Γ h' a o 0 e ∧ rz_fo a h h')) := by
  refine rz_met (by decide) rfl rfl (Nat.le_of_ble_eq_true rfl) (fun K _ => ?_)
  refine rz_Leq [(0, .ref a)] rfl ?_
  refine rz_aload_n 0 d_Al_init_0 rfl rfl ?_
  refine rz_callI (As := []) (c_Ax_init ha) m_Al_1 rfl rfl (Nat.le_of_ble_eq_true rfl) ⟨by decide, by decide⟩ ⟨by decide, by decide⟩ d_Al_init_1 (kV (h := h) fun h1 q1 => ?_)
  obtain ⟨f1, G1⟩ := q1
  have pe1 : rz_ae Γ h1 := G1 _ _ (fun z => by have q := he; rw [rz_ae, z, ha] at q; cases q) he
  refine rz_aload_n 0 d_Al_init_4 rfl rfl ?_
  refine rz_gets (List.mem_of_getElem? (i := 1) rfl) g_Al_39 (Or.inl rfl) d_Al_init_5 ?_
  refine rz_putf (fp_Al_9 _) f1 (show (35 : Nat) ≠ 0 by decide) rfl rfl (show 0 < 3 by decide) d_Al_init_8 ?_
  refine rz_nm fun h2 eh2 => ?_
  have g2 : rz_fr [35] h1 h2 := by rw [eh2]; exact rz_fr.one f1
  have F3 : rz_fo a h h2 := by rw [eh2]; exact G1.up
  have fu_2 : h2 a = some ((35, o), .inr (2, [.ref (Γ.2.2.2.2 0), vi 0, vi 0])) := by rw [eh2]; exact rz_up_s _ _ _
  exact rz_return (st := []) rfl d_Al_init_11 ⟨by decide, by decide⟩ ⟨rfl, ⟨_, 0, fu_2, Or.inl ⟨rfl, rfl, F3 _ _ (fun z => by have q := he; rw [rz_ae, z, ha] at q; cases q) he⟩⟩, F3⟩
abbrev rm_Al_size : Room := { frames := 0, cells := 0, slots := 0, locals := 0 }
set_option maxRecDepth 100000 in
set_option maxHeartbeats 4000000 in
theorem c_Al_size {l : Launch} {Γ : rz_G} {h : rz_H} {a o n : Nat} {e : Int → Option Nat} (hl : AlAt Γ h a o n e) : Ct l Γ x_Al_size y_Al_size rm_Al_size [.ref a] h (pE (n : Int) h) := by
  refine rz_met (by decide) rfl rfl (Nat.le_of_ble_eq_true rfl) (fun K _ => ?_)
  refine rz_Leq [(0, .ref a)] rfl ?_
  obtain ⟨d, mc, ha, hd⟩ := hl
  refine rz_aload_n 0 d_Al_size_0 rfl rfl ?_
  refine rz_getf f_Al_48 ha rfl d_Al_size_1 ?_
  exact rz_ireturn (st := []) rfl d_Al_size_4 ⟨by decide, by decide⟩ ⟨_, rfl, rfl, rfl⟩
abbrev rm_Al_elementData : Room := { frames := 0, cells := 0, slots := 0, locals := 0 }
set_option maxRecDepth 100000 in
set_option maxHeartbeats 4000000 in
theorem c_Al_elementData {l : Launch} {Γ : rz_G} {h : rz_H} {a o d n : Nat} {mc : Int} (ha : h a = some ((35, o), .inr (2, [.ref d, vi (n : Int), vi mc]))) {e' : Int → Option Nat} (hd : h d = some ((36, o), aR Γ 4 10 e')) {i : Int} {y : Nat} (hi : 0 ≤ i ∧ i < 10) (hy : e' i = some y) : Ct l Γ x_Al_elementData y_Al_elementData rm_Al_elementData [.ref a, vi i] h (pR (fun b h' => b = y ∧ h' = h)) := by
  refine rz_met (by decide) rfl rfl (Nat.le_of_ble_eq_true rfl) (fun K _ => ?_)
  refine rz_Leq [(0, .ref a), (1, vi i)] rfl ?_
  refine rz_aload_n 0 d_Al_elementData_0 rfl rfl ?_
  refine rz_getf f_Al_9 ha rfl d_Al_elementData_1 ?_
  refine rz_iload_n 1 d_Al_elementData_4 rfl rfl ?_
  refine rz_aaload hd rfl (show (36 : Nat) ≠ 0 by decide) (by omega) d_Al_elementData_5 ?_
  refine rz_Seq [.ref y] (by rw [hy]; rfl) ?_
  exact rz_areturn (st := []) (r := some y) rfl (Or.inl ⟨_, rfl⟩) d_Al_elementData_6 ⟨by decide, by decide⟩ ⟨y, rfl, rfl, rfl⟩
abbrev rm_Al_get : Room := { frames := 2, cells := 0, slots := 0, locals := 43 }
set_option maxRecDepth 100000 in
set_option maxHeartbeats 4000000 in
theorem c_Al_get {l : Launch} {Γ : rz_G} {h : rz_H} {a o n : Nat} {e : Int → Option Nat} (hl : AlAt Γ h a o n e) {i : Int} {y : Nat} (hi : 0 ≤ i ∧ i < (n : Int)) (hn : n ≤ 10) (hy : e i = some y) : Ct l Γ x_Al_get y_Al_get rm_Al_get [.ref a, vi i] h (pR (fun b h' => b = y ∧ h' = h)) := by
  refine rz_met (by decide) rfl rfl (Nat.le_of_ble_eq_true rfl) (fun K _ => ?_)
  refine rz_Leq [(0, .ref a), (1, vi i)] rfl ?_
  obtain ⟨d, mc, ha, ⟨z0, -⟩ | ⟨e', hd, hl10, he⟩⟩ := hl
  · omega
  refine rz_iload_n 1 d_Al_get_0 rfl rfl ?_
  refine rz_aload_n 0 d_Al_get_1 rfl rfl ?_
  refine rz_getf f_Al_48 ha rfl d_Al_get_2 ?_
  refine rz_callS (As := [vi i, vi (n : Int)]) (c_Ob_checkIndex (by omega) (by omega)) m_Al_118 rfl rfl (Nat.le_of_ble_eq_true rfl) ⟨by decide, by decide⟩ ⟨by decide, by decide⟩ d_Al_get_5 (kE (h := h) ?_)
  refine rz_pop d_Al_get_8 rfl ?_
  refine rz_aload_n 0 d_Al_get_9 rfl rfl ?_
  refine rz_iload_n 1 d_Al_get_10 rfl rfl ?_
  refine rz_callV (As := [vi i]) (c_Al_elementData ha hd (by omega) (by rw [he i hi.1 hi.2]; exact hy)) m_Al_123 ha rfl rfl rfl rfl (Nat.le_of_ble_eq_true rfl) ⟨by decide, by decide⟩ ⟨by decide, by decide⟩ d_Al_get_11 (kR (h := h) fun b1 h1 q1 => ?_)
  exact rz_areturn (st := []) (r := some b1) rfl (Or.inl ⟨_, rfl⟩) d_Al_get_14 ⟨by decide, by decide⟩ ⟨b1, rfl, q1⟩
theorem al_u {e e' : Int → Option Nat} {n : Nat} (he : ∀ j, 0 ≤ j → j < (n : Int) → e' j = e j) (x : Option Nat) : ∀ j, 0 ≤ j → j < ((n + 1 : Nat) : Int) → rz_u e' n x j = rz_u e n x j := fun j p q => by
  by_cases z : j = n
  · rw [z, rz_u_s, rz_u_s]
  · rw [rz_u_n z, rz_u_n z]; exact he j p (by omega)
/-- e without its i-th -/
def rz_rm (e : Int → Option Nat) (i : Int) : Int → Option Nat := fun j => if j < i then e j else e (j + 1)
theorem al_rm {e e' : Int → Option Nat} {n : Nat} {i : Int} (he : ∀ j, 0 ≤ j → j < (n : Int) → e' j = e j) (hi : 0 ≤ i ∧ i < (n : Int)) : ∀ j, 0 ≤ j → j < ((n - 1 : Nat) : Int) → rz_u (rz_cp e' e' (i + 1) i (((n : Int) - 1) - i)) ((n : Int) - 1) none j = rz_rm e i j := fun j p q => by
  rw [rz_u_n (by omega), rz_cp, rz_rm]
  by_cases z : j < i
  · rw [if_neg (by omega), if_pos z]; exact he j p (by omega)
  · rw [if_pos (by omega), if_neg z, show i + 1 + (j - i) = j + 1 by omega]; exact he (j + 1) (by omega) (by omega)
theorem fl_u {g : Int → Int} {v i : Int} (h : ∀ j, 0 ≤ j → j < i → g j = v) : ∀ j, 0 ≤ j → j < i + 1 → rz_u g i v j = v := fun j p q => by
  by_cases z : j = i
  · rw [z, rz_u_s]
  · rw [rz_u_n z]; exact h j p (by omega)
abbrev rm_Al_grow2 : Room := { frames := 2, cells := 1, slots := 10, locals := 63 }
set_option maxRecDepth 100000 in
set_option maxHeartbeats 4000000 in
theorem c_Al_grow2 {l : Launch} {Γ : rz_G} {h : rz_H} {a o : Nat} {mc : Int} (ha : h a = some ((35, o), .inr (2, [.ref (Γ.2.2.2.2 0), vi 0, vi mc]))) (he : rz_ae Γ h) : Ct l Γ x_Al_grow2 y_Al_grow2 rm_Al_grow2 [.ref a, vi 1] h (pR (fun q h' => h' a = some ((35, o), .inr (2, [.ref q, vi 0, vi mc])) ∧ h' q = some ((36, o), aR Γ 4 10 (fun _ => none)) ∧ rz_ft [(35, o), (36, o)] h h')) := by
  refine rz_met (by decide) rfl rfl (Nat.le_of_ble_eq_true rfl) (fun K _ => ?_)
  refine rz_Leq [(0, .ref a), (1, vi 1)] rfl ?_
  refine rz_aload_n 0 d_Al_grow2_0 rfl rfl ?_
  refine rz_getf f_Al_9 ha rfl d_Al_grow2_1 ?_
  refine rz_alenQ he rfl d_Al_grow2_4 ?_
  refine rz_istore_n [(2, vi 0), (0, .ref a), (1, vi 1)] d_Al_grow2_5 rfl (by decide) rfl ?_
  refine rz_iload_n 0 d_Al_grow2_6 rfl rfl ?_
  refine rz_if_gt 20 d_Al_grow2_7 (by decide) ⟨by decide, by decide⟩ (fun c7 => absurd c7 (by decide)) (fun c7 => ?_)
  refine rz_aload_n 1 d_Al_grow2_10 rfl rfl ?_
  refine rz_getf f_Al_9 ha rfl d_Al_grow2_11 ?_
  refine rz_gets (List.mem_of_getElem? (i := 1) rfl) g_Al_39 (Or.inl rfl) d_Al_grow2_14 ?_
  refine rz_acmp_eq 45 d_Al_grow2_17 (by decide) (fun c17 => ?_) (fun c17 => absurd rfl c17)
  refine rz_aload_n 1 d_Al_grow2_45 rfl rfl ?_
  refine rz_bipush (v := 10) d_Al_grow2_46 (by decide) ?_
  refine rz_iload_n 2 d_Al_grow2_48 rfl rfl ?_
  refine rz_mmax 10 mm_Al_79 ⟨by decide, by decide⟩ ⟨by decide, by decide⟩ (by omega) (by decide) (Nat.le_of_ble_eq_true rfl) ⟨by decide, by decide⟩ d_Al_grow2_49 ?_
  refine rz_anew (k := 4) 10 (36, o) (show (36 : Nat) ≠ 0 by decide) rfl cl_Al_7 (by decide) rfl (by decide) ⟨by decide, by decide⟩ d_Al_grow2_52 (fun q1 zq1 => ?_)
  refine rz_nm fun h2 eh2 => ?_
  have g2 : rz_fr [] h h2 := by rw [eh2]; exact rz_fr.nw zq1
  have F3 : rz_ft [(35, o), (36, o)] h h2 := rz_ft.rf.fr g2
  have fc_4_0 : h2 a = some ((35, o), .inr (2, [.ref (Γ.2.2.2.2 0), vi 0, vi mc])) := g2 _ _ _ ha (by simp)
  have fc_4_1 : h2 (Γ.2.2.2.2 0) = some ((0, 4), aR Γ 4 0 (fun _ => none)) := g2 _ _ _ he (by simp)
  have fn_2 : h2 q1 = some ((36, o), aR Γ 4 10 (fun _ => none)) := by rw [eh2]; exact rz_up_s _ _ _
  refine rz_dup_x1 d_Al_grow2_55 rfl rfl ?_
  refine rz_putf (fp_Al_9 _) fc_4_0 (show (35 : Nat) ≠ 0 by decide) rfl rfl (show 0 < 3 by decide) d_Al_grow2_56 ?_
  refine rz_nm fun h5 eh5 => ?_
  have g5 : rz_fr [35] h2 h5 := by rw [eh5]; exact rz_fr.one fc_4_0
  have F6 : rz_ft [(35, o), (36, o)] h h5 := by rw [eh5]; exact F3.up fc_4_0 (by simp)
  have fc_7_0 : h5 (Γ.2.2.2.2 0) = some ((0, 4), aR Γ 4 0 (fun _ => none)) := g5 _ _ _ fc_4_1 (show 0 ∉ ([35] : List Nat) by decide)
  have fc_7_1 : h5 q1 = some ((36, o), aR Γ 4 10 (fun _ => none)) := g5 _ _ _ fn_2 (show 36 ∉ ([35] : List Nat) by decide)
  have fu_5 : h5 a = some ((35, o), .inr (2, [.ref q1, vi 0, vi mc])) := by rw [eh5]; exact rz_up_s _ _ _
  exact rz_areturn (st := []) (r := some q1) rfl (Or.inr ⟨_, rfl⟩) d_Al_grow2_59 ⟨by decide, by decide⟩ ⟨q1, rfl, fu_5, fc_7_1, F6⟩
abbrev rm_Al_grow : Room := { frames := 3, cells := 1, slots := 10, locals := 86 }
set_option maxRecDepth 100000 in
set_option maxHeartbeats 4000000 in
theorem c_Al_grow {l : Launch} {Γ : rz_G} {h : rz_H} {a o : Nat} {mc : Int} (ha : h a = some ((35, o), .inr (2, [.ref (Γ.2.2.2.2 0), vi 0, vi mc]))) (he : rz_ae Γ h) : Ct l Γ x_Al_grow y_Al_grow rm_Al_grow [.ref a] h (pR (fun q h' => h' a = some ((35, o), .inr (2, [.ref q, vi 0, vi mc])) ∧ h' q = some ((36, o), aR Γ 4 10 (fun _ => none)) ∧ rz_ft [(35, o), (36, o)] h h')) := by
  refine rz_met (by decide) rfl rfl (Nat.le_of_ble_eq_true rfl) (fun K _ => ?_)
  refine rz_Leq [(0, .ref a)] rfl ?_
  refine rz_aload_n 0 d_Al_grow_0 rfl rfl ?_
  refine rz_aload_n 0 d_Al_grow_1 rfl rfl ?_
  refine rz_getf f_Al_48 ha rfl d_Al_grow_2 ?_
  refine rz_iconst d_Al_grow_5 ?_
  refine rz_iadd d_Al_grow_6 ?_
  refine rz_Seq [vi 1, .ref a] rfl ?_
  refine rz_callV (As := [vi 1]) (c_Al_grow2 ha he) m_Al_69 ha rfl rfl rfl rfl (Nat.le_of_ble_eq_true rfl) ⟨by decide, by decide⟩ ⟨by decide, by decide⟩ d_Al_grow_7 (kR (h := h) fun b1 h1 q1 => ?_)
  exact rz_areturn (st := []) (r := some b1) rfl (Or.inr ⟨_, rfl⟩) d_Al_grow_10 ⟨by decide, by decide⟩ ⟨b1, rfl, q1⟩
abbrev rm_Al_add2 : Room := { frames := 4, cells := 1, slots := 10, locals := 106 }
set_option maxRecDepth 100000 in
set_option maxHeartbeats 4000000 in
theorem c_Al_add2E {l : Launch} {Γ : rz_G} {h : rz_H} {a o : Nat} {mc : Int} (ha : h a = some ((35, o), .inr (2, [.ref (Γ.2.2.2.2 0), vi 0, vi mc]))) (he : rz_ae Γ h) {e : Int → Option Nat} {x ci : Nat} {tx : Nat × Nat} {vs : List Value} {q0 : vw_C} (hx : h x = some (tx, .inr (ci, vs))) (htx : tx.1 ≠ 0) (hxs : tx.1 ≠ 35 ∧ tx.1 ≠ 36) (hc : rz_cl[ci]? = some q0) (hca : (q0.1, "java/lang/Object") ∈ rz_NC) : Ct l Γ x_Al_add2 y_Al_add2 rm_Al_add2 [.ref a, .ref x, .ref (Γ.2.2.2.2 0), vi 0] h (pV (fun h' => AlAt Γ h' a o (0 + 1) (rz_u e 0 (some x)) ∧ rz_ft [(35, o), (36, o)] h h')) := by
  refine rz_met (by decide) rfl rfl (Nat.le_of_ble_eq_true rfl) (fun K _ => ?_)
  refine rz_Leq [(0, .ref a), (1, .ref x), (2, .ref (Γ.2.2.2.2 0)), (3, vi 0)] rfl ?_
  refine rz_iload_n 3 d_Al_add2_0 rfl rfl ?_
  refine rz_aload_n 2 d_Al_add2_1 rfl rfl ?_
  refine rz_alenQ he rfl d_Al_add2_2 ?_
  refine rz_icmp_ne 11 d_Al_add2_3 (by decide) ⟨by decide, by decide⟩ ⟨by decide, by decide⟩ (fun c3 => absurd c3 (by decide)) (fun c3 => ?_)
  refine rz_aload_n 0 d_Al_add2_6 rfl rfl ?_
  refine rz_callV (As := []) (c_Al_grow ha he) m_Al_129 ha rfl rfl rfl rfl (Nat.le_of_ble_eq_true rfl) ⟨by decide, by decide⟩ ⟨by decide, by decide⟩ d_Al_add2_7 (kR (h := h) fun b1 h1 q1 => ?_)
  obtain ⟨fa1, fd1, G1⟩ := q1
  have fx1 : h1 x = some (tx, .inr (ci, vs)) := G1 _ _ _ hx (by simp [Prod.ext_iff]; omega)
  refine rz_astore_n [(2, .ref b1), (0, .ref a), (1, .ref x), (3, vi 0)] d_Al_add2_10 rfl (by decide) rfl ?_
  refine rz_aload_n 0 d_Al_add2_11 rfl rfl ?_
  refine rz_iload_n 3 d_Al_add2_12 rfl rfl ?_
  refine rz_aload_n 2 d_Al_add2_13 rfl rfl ?_
  refine rz_aastore fd1 rfl (show (36 : Nat) ≠ 0 by decide) fx1 htx hc (Or.inr hca) (by omega) d_Al_add2_14 ?_
  refine rz_nm fun h2 eh2 => ?_
  have g2 : rz_fr [36] h1 h2 := by rw [eh2]; exact rz_fr.one fd1
  have F3 : rz_ft [(35, o), (36, o)] h h2 := by rw [eh2]; exact G1.up fd1 (by simp)
  have fc_4_0 : h2 a = some ((35, o), .inr (2, [.ref b1, vi 0, vi mc])) := g2 _ _ _ fa1 (show 35 ∉ ([36] : List Nat) by decide)
  have fc_4_1 : h2 x = some (tx, .inr (ci, vs)) := g2 _ _ _ fx1 (by simp; omega)
  have fu_2 : h2 b1 = some ((36, o), aR Γ 4 10 (rz_u (fun _ => none) 0 (some x))) := by rw [eh2]; exact rz_up_s _ _ _
  refine rz_aload_n 1 d_Al_add2_15 rfl rfl ?_
  refine rz_iload_n 3 d_Al_add2_16 rfl rfl ?_
  refine rz_iconst d_Al_add2_17 ?_
  refine rz_iadd d_Al_add2_18 ?_
  refine rz_putf (fp_Al_48 _) fc_4_0 (show (35 : Nat) ≠ 0 by decide) rfl rfl (show 1 < 3 by decide) d_Al_add2_19 ?_
  refine rz_nm fun h5 eh5 => ?_
  have g5 : rz_fr [35] h2 h5 := by rw [eh5]; exact rz_fr.one fc_4_0
  have F6 : rz_ft [(35, o), (36, o)] h h5 := by rw [eh5]; exact F3.up fc_4_0 (by simp)
  have fc_7_0 : h5 x = some (tx, .inr (ci, vs)) := g5 _ _ _ fc_4_1 (by simp; omega)
  have fc_7_1 : h5 b1 = some ((36, o), aR Γ 4 10 (rz_u (fun _ => none) 0 (some x))) := g5 _ _ _ fu_2 (show 36 ∉ ([35] : List Nat) by decide)
  have fu_5 : h5 a = some ((35, o), .inr (2, [.ref b1, vi (0 + 1), vi mc])) := by rw [eh5]; exact rz_up_s _ _ _
  exact rz_return (st := []) rfl d_Al_add2_22 ⟨by decide, by decide⟩ ⟨rfl, ⟨b1, mc, fu_5, Or.inr ⟨_, fc_7_1, by decide, fun j p q => by rw [show j = 0 by omega]; rfl⟩⟩, F6⟩
set_option maxRecDepth 100000 in
set_option maxHeartbeats 4000000 in
theorem c_Al_add2F {l : Launch} {Γ : rz_G} {h : rz_H} {a o d n : Nat} {mc : Int} (ha : h a = some ((35, o), .inr (2, [.ref d, vi (n : Int), vi mc]))) {e e' : Int → Option Nat} (hd : h d = some ((36, o), aR Γ 4 10 e')) (hn : n < 10) (he : ∀ j, 0 ≤ j → j < (n : Int) → e' j = e j) {x ci : Nat} {tx : Nat × Nat} {vs : List Value} {q0 : vw_C} (hx : h x = some (tx, .inr (ci, vs))) (htx : tx.1 ≠ 0) (hxs : tx.1 ≠ 35 ∧ tx.1 ≠ 36) (hc : rz_cl[ci]? = some q0) (hca : (q0.1, "java/lang/Object") ∈ rz_NC) : Ct l Γ x_Al_add2 y_Al_add2 rm_Al_add2 [.ref a, .ref x, .ref d, vi (n : Int)] h (pV (fun h' => AlAt Γ h' a o (n + 1) (rz_u e n (some x)) ∧ rz_ft [(35, o), (36, o)] h h')) := by
  refine rz_met (by decide) rfl rfl (Nat.le_of_ble_eq_true rfl) (fun K _ => ?_)
  refine rz_Leq [(0, .ref a), (1, .ref x), (2, .ref d), (3, vi (n : Int))] rfl ?_
  refine rz_iload_n 3 d_Al_add2_0 rfl rfl ?_
  refine rz_aload_n 2 d_Al_add2_1 rfl rfl ?_
  refine rz_alen (v := 10) hd (show (36 : Nat) ≠ 0 by decide) rfl rfl d_Al_add2_2 ?_
  refine rz_icmp_ne 11 d_Al_add2_3 (by decide) (by omega) ⟨by decide, by decide⟩ (fun c3 => ?_) (fun c3 => absurd c3 (by omega))
  refine rz_aload_n 2 d_Al_add2_11 rfl rfl ?_
  refine rz_iload_n 3 d_Al_add2_12 rfl rfl ?_
  refine rz_aload_n 1 d_Al_add2_13 rfl rfl ?_
  refine rz_aastore hd rfl (show (36 : Nat) ≠ 0 by decide) hx htx hc (Or.inr hca) (by omega) d_Al_add2_14 ?_
  refine rz_nm fun h1 eh1 => ?_
  have g1 : rz_fr [36] h h1 := by rw [eh1]; exact rz_fr.one hd
  have F2 : rz_ft [(35, o), (36, o)] h h1 := by rw [eh1]; exact rz_ft.rf.up hd (by simp)
  have fc_3_0 : h1 a = some ((35, o), .inr (2, [.ref d, vi (n : Int), vi mc])) := g1 _ _ _ ha (show 35 ∉ ([36] : List Nat) by decide)
  have fc_3_1 : h1 x = some (tx, .inr (ci, vs)) := g1 _ _ _ hx (by simp; omega)
  have fu_1 : h1 d = some ((36, o), aR Γ 4 10 (rz_u e' (n : Int) (some x))) := by rw [eh1]; exact rz_up_s _ _ _
  refine rz_aload_n 0 d_Al_add2_15 rfl rfl ?_
  refine rz_iload_n 3 d_Al_add2_16 rfl rfl ?_
  refine rz_iconst d_Al_add2_17 ?_
  refine rz_iadd d_Al_add2_18 ?_
  refine rz_putf (fp_Al_48 _) fc_3_0 (show (35 : Nat) ≠ 0 by decide) rfl rfl (show 1 < 3 by decide) d_Al_add2_19 ?_
  refine rz_nm fun h4 eh4 => ?_
  have g4 : rz_fr [35] h1 h4 := by rw [eh4]; exact rz_fr.one fc_3_0
  have F5 : rz_ft [(35, o), (36, o)] h h4 := by rw [eh4]; exact F2.up fc_3_0 (by simp)
  have fc_6_0 : h4 x = some (tx, .inr (ci, vs)) := g4 _ _ _ fc_3_1 (by simp; omega)
  have fc_6_1 : h4 d = some ((36, o), aR Γ 4 10 (rz_u e' (n : Int) (some x))) := g4 _ _ _ fu_1 (show 36 ∉ ([35] : List Nat) by decide)
  have fu_4 : h4 a = some ((35, o), .inr (2, [.ref d, vi ((n : Int) + 1), vi mc])) := by rw [eh4]; exact rz_up_s _ _ _
  exact rz_return (st := []) rfl d_Al_add2_22 ⟨by decide, by decide⟩ ⟨rfl, ⟨d, mc, (by rw [show ((n + 1 : Nat) : Int) = (n : Int) + 1 by omega]; exact fu_4), Or.inr ⟨_, fc_6_1, by omega, al_u he _⟩⟩, F5⟩
abbrev rm_Al_add : Room := { frames := 5, cells := 1, slots := 10, locals := 129 }
set_option maxRecDepth 100000 in
set_option maxHeartbeats 4000000 in
theorem c_Al_addE {l : Launch} {Γ : rz_G} {h : rz_H} {a o : Nat} {mc : Int} (ha : h a = some ((35, o), .inr (2, [.ref (Γ.2.2.2.2 0), vi 0, vi mc]))) (he : rz_ae Γ h) {e : Int → Option Nat} {x ci : Nat} {tx : Nat × Nat} {vs : List Value} {q0 : vw_C} (hx : h x = some (tx, .inr (ci, vs))) (htx : tx.1 ≠ 0) (hxs : tx.1 ≠ 35 ∧ tx.1 ≠ 36) (hc : rz_cl[ci]? = some q0) (hca : (q0.1, "java/lang/Object") ∈ rz_NC) : Ct l Γ x_Al_add y_Al_add rm_Al_add [.ref a, .ref x] h (pI (fun r h' => r = 1 ∧ AlAt Γ h' a o (0 + 1) (rz_u e 0 (some x)) ∧ rz_ft [(35, o), (36, o)] h h')) := by
  refine rz_met (by decide) rfl rfl (Nat.le_of_ble_eq_true rfl) (fun K _ => ?_)
  refine rz_Leq [(0, .ref a), (1, .ref x)] rfl ?_
  refine rz_aload_n 0 d_Al_add_0 rfl rfl ?_
  refine rz_dup d_Al_add_1 rfl ?_
  refine rz_getf f_Al_63 ha rfl d_Al_add_2 ?_
  refine rz_iconst d_Al_add_5 ?_
  refine rz_iadd d_Al_add_6 ?_
  refine rz_putf (fp_Al_63 _) ha (show (35 : Nat) ≠ 0 by decide) rfl rfl (show 2 < 3 by decide) d_Al_add_7 ?_
  refine rz_nm fun h1 eh1 => ?_
  have g1 : rz_fr [35] h h1 := by rw [eh1]; exact rz_fr.one ha
  have F2 : rz_ft [(35, o), (36, o)] h h1 := by rw [eh1]; exact rz_ft.rf.up ha (by simp)
  have fc_3_0 : h1 (Γ.2.2.2.2 0) = some ((0, 4), aR Γ 4 0 (fun _ => none)) := g1 _ _ _ he (show 0 ∉ ([35] : List Nat) by decide)
  have fc_3_1 : h1 x = some (tx, .inr (ci, vs)) := g1 _ _ _ hx (by simp; omega)
  have fu_1 : h1 a = some ((35, o), .inr (2, [.ref (Γ.2.2.2.2 0), vi 0, vi (mc + 1)])) := by rw [eh1]; exact rz_up_s _ _ _
  refine rz_aload_n 0 d_Al_add_10 rfl rfl ?_
  refine rz_aload_n 1 d_Al_add_11 rfl rfl ?_
  refine rz_aload_n 0 d_Al_add_12 rfl rfl ?_
  refine rz_getf f_Al_9 fu_1 rfl d_Al_add_13 ?_
  refine rz_aload_n 0 d_Al_add_16 rfl rfl ?_
  refine rz_getf f_Al_48 fu_1 rfl d_Al_add_17 ?_
  refine rz_callV (As := [.ref x, .ref (Γ.2.2.2.2 0), vi 0]) (c_Al_add2E (e := e) fu_1 fc_3_0 fc_3_1 htx hxs hc hca) m_Al_131 fu_1 rfl rfl rfl rfl (Nat.le_of_ble_eq_true rfl) ⟨by decide, by decide⟩ ⟨by decide, by decide⟩ d_Al_add_20 (kV (h := h1) fun h4 q4 => ?_)
  obtain ⟨qa4, G4⟩ := q4
  have H4 := F2.tr G4
  refine rz_iconst d_Al_add_23 ?_
  exact rz_zreturn (st := []) (ty := .boolean) rfl rfl d_Al_add_24 ⟨by decide, by decide⟩ ⟨_, rfl, rfl, qa4, H4⟩
set_option maxRecDepth 100000 in
set_option maxHeartbeats 4000000 in
theorem c_Al_addF {l : Launch} {Γ : rz_G} {h : rz_H} {a o d n : Nat} {mc : Int} (ha : h a = some ((35, o), .inr (2, [.ref d, vi (n : Int), vi mc]))) {e e' : Int → Option Nat} (hd : h d = some ((36, o), aR Γ 4 10 e')) (hn : n < 10) (he : ∀ j, 0 ≤ j → j < (n : Int) → e' j = e j) {x ci : Nat} {tx : Nat × Nat} {vs : List Value} {q0 : vw_C} (hx : h x = some (tx, .inr (ci, vs))) (htx : tx.1 ≠ 0) (hxs : tx.1 ≠ 35 ∧ tx.1 ≠ 36) (hc : rz_cl[ci]? = some q0) (hca : (q0.1, "java/lang/Object") ∈ rz_NC) : Ct l Γ x_Al_add y_Al_add rm_Al_add [.ref a, .ref x] h (pI (fun r h' => r = 1 ∧ AlAt Γ h' a o (n + 1) (rz_u e n (some x)) ∧ rz_ft [(35, o), (36, o)] h h')) := by
  refine rz_met (by decide) rfl rfl (Nat.le_of_ble_eq_true rfl) (fun K _ => ?_)
  refine rz_Leq [(0, .ref a), (1, .ref x)] rfl ?_
  refine rz_aload_n 0 d_Al_add_0 rfl rfl ?_
  refine rz_dup d_Al_add_1 rfl ?_
  refine rz_getf f_Al_63 ha rfl d_Al_add_2 ?_
  refine rz_iconst d_Al_add_5 ?_
  refine rz_iadd d_Al_add_6 ?_
  refine rz_putf (fp_Al_63 _) ha (show (35 : Nat) ≠ 0 by decide) rfl rfl (show 2 < 3 by decide) d_Al_add_7 ?_
  refine rz_nm fun h1 eh1 => ?_
  have g1 : rz_fr [35] h h1 := by rw [eh1]; exact rz_fr.one ha
  have F2 : rz_ft [(35, o), (36, o)] h h1 := by rw [eh1]; exact rz_ft.rf.up ha (by simp)
  have fc_3_0 : h1 d = some ((36, o), aR Γ 4 10 e') := g1 _ _ _ hd (show 36 ∉ ([35] : List Nat) by decide)
  have fc_3_1 : h1 x = some (tx, .inr (ci, vs)) := g1 _ _ _ hx (by simp; omega)
  have fu_1 : h1 a = some ((35, o), .inr (2, [.ref d, vi (n : Int), vi (mc + 1)])) := by rw [eh1]; exact rz_up_s _ _ _
  refine rz_aload_n 0 d_Al_add_10 rfl rfl ?_
  refine rz_aload_n 1 d_Al_add_11 rfl rfl ?_
  refine rz_aload_n 0 d_Al_add_12 rfl rfl ?_
  refine rz_getf f_Al_9 fu_1 rfl d_Al_add_13 ?_
  refine rz_aload_n 0 d_Al_add_16 rfl rfl ?_
  refine rz_getf f_Al_48 fu_1 rfl d_Al_add_17 ?_
  refine rz_callV (As := [.ref x, .ref d, vi (n : Int)]) (c_Al_add2F (e := e) fu_1 fc_3_0 hn he fc_3_1 htx hxs hc hca) m_Al_131 fu_1 rfl rfl rfl rfl (Nat.le_of_ble_eq_true rfl) ⟨by decide, by decide⟩ ⟨by decide, by decide⟩ d_Al_add_20 (kV (h := h1) fun h4 q4 => ?_)
  obtain ⟨qa4, G4⟩ := q4
  have H4 := F2.tr G4
  refine rz_iconst d_Al_add_23 ?_
  exact rz_zreturn (st := []) (ty := .boolean) rfl rfl d_Al_add_24 ⟨by decide, by decide⟩ ⟨_, rfl, rfl, qa4, H4⟩
theorem c_Al_add {l : Launch} {Γ : rz_G} {h : rz_H} {a o n : Nat} {e : Int → Option Nat} (hl : AlAt Γ h a o n e) (hn : n < 10) {x ci : Nat} {tx : Nat × Nat} {vs : List Value} {q0 : vw_C} (hx : h x = some (tx, .inr (ci, vs))) (htx : tx.1 ≠ 0) (hxs : tx.1 ≠ 35 ∧ tx.1 ≠ 36) (hc : rz_cl[ci]? = some q0) (hca : (q0.1, "java/lang/Object") ∈ rz_NC) : Ct l Γ x_Al_add y_Al_add rm_Al_add [.ref a, .ref x] h (pI (fun r h' => r = 1 ∧ AlAt Γ h' a o (n + 1) (rz_u e n (some x)) ∧ rz_ft [(35, o), (36, o)] h h')) := by
  obtain ⟨d, mc, ha, ⟨rfl, rfl, he⟩ | ⟨e', hd, hl10, he⟩⟩ := hl
  · exact c_Al_addE ha he hx htx hxs hc hca
  · exact c_Al_addF ha hd hn he hx htx hxs hc hca
abbrev rm_Al_fastRemove : Room := { frames := 1, cells := 0, slots := 0, locals := 40 }
set_option maxRecDepth 100000 in
set_option maxHeartbeats 4000000 in
theorem c_Al_fastRemove {l : Launch} {Γ : rz_G} {h : rz_H} {a o d n : Nat} {mc : Int} (ha : h a = some ((35, o), .inr (2, [.ref d, vi (n : Int), vi mc]))) {e e' : Int → Option Nat} (hd : h d = some ((36, o), aR Γ 4 10 e')) (hn : n ≤ 10) (he : ∀ j, 0 ≤ j → j < (n : Int) → e' j = e j) {i : Int} (hi : 0 ≤ i ∧ i < (n : Int)) {ci : Nat} {q0 : vw_C} (hc : rz_cl[ci]? = some q0) (hca : (q0.1, "java/lang/Object") ∈ rz_NC) (hel : ∀ j y, 0 ≤ j → j < (n : Int) → e j = some y → ∃ (ty : Nat × Nat) (vs : List Value), h y = some (ty, .inr (ci, vs)) ∧ ty.1 ≠ 35) : Ct l Γ x_Al_fastRemove y_Al_fastRemove rm_Al_fastRemove [.ref a, .ref d, vi i] h (pV (fun h' => AlAt Γ h' a o (n - 1) (rz_rm e i) ∧ rz_ft [(35, o), (36, o)] h h')) := by
  refine rz_met (by decide) rfl rfl (Nat.le_of_ble_eq_true rfl) (fun K _ => ?_)
  refine rz_Leq [(0, .ref a), (1, .ref d), (2, vi i)] rfl ?_
  refine rz_aload_n 0 d_Al_fastRemove_0 rfl rfl ?_
  refine rz_dup d_Al_fastRemove_1 rfl ?_
  refine rz_getf f_Al_63 ha rfl d_Al_fastRemove_2 ?_
  refine rz_iconst d_Al_fastRemove_5 ?_
  refine rz_iadd d_Al_fastRemove_6 ?_
  refine rz_putf (fp_Al_63 _) ha (show (35 : Nat) ≠ 0 by decide) rfl rfl (show 2 < 3 by decide) d_Al_fastRemove_7 ?_
  refine rz_nm fun h1 eh1 => ?_
  have g1 : rz_fr [35] h h1 := by rw [eh1]; exact rz_fr.one ha
  have F2 : rz_ft [(35, o), (36, o)] h h1 := by rw [eh1]; exact rz_ft.rf.up ha (by simp)
  have fc_3_0 : h1 d = some ((36, o), aR Γ 4 10 e') := g1 _ _ _ hd (show 36 ∉ ([35] : List Nat) by decide)
  have fu_1 : h1 a = some ((35, o), .inr (2, [.ref d, vi (n : Int), vi (mc + 1)])) := by rw [eh1]; exact rz_up_s _ _ _
  refine rz_aload_n 0 d_Al_fastRemove_10 rfl rfl ?_
  refine rz_getf f_Al_48 fu_1 rfl d_Al_fastRemove_11 ?_
  refine rz_iconst d_Al_fastRemove_14 ?_
  refine rz_isub d_Al_fastRemove_15 ?_
  refine rz_dup d_Al_fastRemove_16 rfl ?_
  refine rz_istore_n [(3, vi ((n : Int) - 1)), (0, .ref a), (1, .ref d), (2, vi i)] d_Al_fastRemove_17 rfl (by decide) rfl ?_
  refine rz_iload_n 3 d_Al_fastRemove_18 rfl rfl ?_
  refine rz_icmp_le 34 d_Al_fastRemove_19 (by decide) (by omega) (by omega) (fun c19 => ?_) (fun c19 => ?_)
  · refine rz_aload_n 2 d_Al_fastRemove_34 rfl rfl ?_
    refine rz_aload_n 1 d_Al_fastRemove_35 rfl rfl ?_
    refine rz_iload_n 0 d_Al_fastRemove_36 rfl rfl ?_
    refine rz_dup_x1 d_Al_fastRemove_37 rfl rfl ?_
    refine rz_putf (fp_Al_48 _) fu_1 (show (35 : Nat) ≠ 0 by decide) rfl rfl (show 1 < 3 by decide) d_Al_fastRemove_38 ?_
    refine rz_nm fun h4 eh4 => ?_
    have g4 : rz_fr [35] h1 h4 := by rw [eh4]; exact rz_fr.one fu_1
    have F5 : rz_ft [(35, o), (36, o)] h h4 := by rw [eh4]; exact F2.up fu_1 (by simp)
    have fc_6_0 : h4 d = some ((36, o), aR Γ 4 10 e') := g4 _ _ _ fc_3_0 (show 36 ∉ ([35] : List Nat) by decide)
    have fu_4 : h4 a = some ((35, o), .inr (2, [.ref d, vi ((n : Int) - 1), vi (mc + 1)])) := by rw [eh4]; exact rz_up_s _ _ _
    refine rz_null d_Al_fastRemove_41 ?_
    refine rz_aastoreN fc_6_0 rfl (show (36 : Nat) ≠ 0 by decide) (by omega) d_Al_fastRemove_42 ?_
    refine rz_nm fun h7 eh7 => ?_
    have g7 : rz_fr [36] h4 h7 := by rw [eh7]; exact rz_fr.one fc_6_0
    have F8 : rz_ft [(35, o), (36, o)] h h7 := by rw [eh7]; exact F5.up fc_6_0 (by simp)
    have fc_9_0 : h7 a = some ((35, o), .inr (2, [.ref d, vi ((n : Int) - 1), vi (mc + 1)])) := g7 _ _ _ fu_4 (show 35 ∉ ([36] : List Nat) by decide)
    have fu_7 : h7 d = some ((36, o), aR Γ 4 10 (rz_u e' ((n : Int) - 1) (none))) := by rw [eh7]; exact rz_up_s _ _ _
    exact rz_return (st := []) rfl d_Al_fastRemove_43 ⟨by decide, by decide⟩ ⟨rfl, ⟨d, mc + 1, (by rw [show ((n - 1 : Nat) : Int) = (n : Int) - 1 by omega]; exact fc_9_0), Or.inr ⟨_, fu_7, by omega, fun j p q => by rw [rz_u_n (by omega), rz_rm, if_pos (by omega), he j p (by omega)]⟩⟩, F8⟩
  · have GG : rz_fr [35] h h1 := g1
    refine rz_aload_n 2 d_Al_fastRemove_22 rfl rfl ?_
    refine rz_iload_n 3 d_Al_fastRemove_23 rfl rfl ?_
    refine rz_iconst d_Al_fastRemove_24 ?_
    refine rz_iadd d_Al_fastRemove_25 ?_
    refine rz_aload_n 2 d_Al_fastRemove_26 rfl rfl ?_
    refine rz_iload_n 3 d_Al_fastRemove_27 rfl rfl ?_
    refine rz_iload_n 0 d_Al_fastRemove_28 rfl rfl ?_
    refine rz_iload_n 3 d_Al_fastRemove_29 rfl rfl ?_
    refine rz_isub d_Al_fastRemove_30 ?_
    refine rz_copyQ cp_Al_112 fc_3_0 (show (36 : Nat) ≠ 0 by decide) rfl hc hca (fun j y p q z => by obtain ⟨ty, vs, t1, t2⟩ := hel (i + 1 + j) y (by omega) (by omega) (by rw [← he _ (by omega) (by omega)]; exact z); exact ⟨ty, vs, GG _ _ _ t1 (by simp; omega)⟩) (by omega) (by omega) (by omega) (by decide) (Nat.le_of_ble_eq_true rfl) d_Al_fastRemove_31 ?_
    refine rz_nm fun h10 eh10 => ?_
    have g10 : rz_fr [36] h1 h10 := by rw [eh10]; exact rz_fr.one fc_3_0
    have F11 : rz_ft [(35, o), (36, o)] h h10 := by rw [eh10]; exact F2.up fc_3_0 (by simp)
    have fc_12_0 : h10 a = some ((35, o), .inr (2, [.ref d, vi (n : Int), vi (mc + 1)])) := g10 _ _ _ fu_1 (show 35 ∉ ([36] : List Nat) by decide)
    have fu_10 : h10 d = some ((36, o), aR Γ 4 10 (rz_cp e' e' (i + 1) i (((n : Int) - 1) - i))) := by rw [eh10]; exact rz_up_s _ _ _
    refine rz_aload_n 2 d_Al_fastRemove_34 rfl rfl ?_
    refine rz_aload_n 1 d_Al_fastRemove_35 rfl rfl ?_
    refine rz_iload_n 0 d_Al_fastRemove_36 rfl rfl ?_
    refine rz_dup_x1 d_Al_fastRemove_37 rfl rfl ?_
    refine rz_putf (fp_Al_48 _) fc_12_0 (show (35 : Nat) ≠ 0 by decide) rfl rfl (show 1 < 3 by decide) d_Al_fastRemove_38 ?_
    refine rz_nm fun h13 eh13 => ?_
    have g13 : rz_fr [35] h10 h13 := by rw [eh13]; exact rz_fr.one fc_12_0
    have F14 : rz_ft [(35, o), (36, o)] h h13 := by rw [eh13]; exact F11.up fc_12_0 (by simp)
    have fc_15_0 : h13 d = some ((36, o), aR Γ 4 10 (rz_cp e' e' (i + 1) i (((n : Int) - 1) - i))) := g13 _ _ _ fu_10 (show 36 ∉ ([35] : List Nat) by decide)
    have fu_13 : h13 a = some ((35, o), .inr (2, [.ref d, vi ((n : Int) - 1), vi (mc + 1)])) := by rw [eh13]; exact rz_up_s _ _ _
    refine rz_null d_Al_fastRemove_41 ?_
    refine rz_aastoreN fc_15_0 rfl (show (36 : Nat) ≠ 0 by decide) (by omega) d_Al_fastRemove_42 ?_
    refine rz_nm fun h16 eh16 => ?_
    have g16 : rz_fr [36] h13 h16 := by rw [eh16]; exact rz_fr.one fc_15_0
    have F17 : rz_ft [(35, o), (36, o)] h h16 := by rw [eh16]; exact F14.up fc_15_0 (by simp)
    have fc_18_0 : h16 a = some ((35, o), .inr (2, [.ref d, vi ((n : Int) - 1), vi (mc + 1)])) := g16 _ _ _ fu_13 (show 35 ∉ ([36] : List Nat) by decide)
    have fu_16 : h16 d = some ((36, o), aR Γ 4 10 (rz_u (rz_cp e' e' (i + 1) i (((n : Int) - 1) - i)) ((n : Int) - 1) (none))) := by rw [eh16]; exact rz_up_s _ _ _
    exact rz_return (st := []) rfl d_Al_fastRemove_43 ⟨by decide, by decide⟩ ⟨rfl, ⟨d, mc + 1, (by rw [show ((n - 1 : Nat) : Int) = (n : Int) - 1 by omega]; exact fc_18_0), Or.inr ⟨_, fu_16, by omega, al_rm he hi⟩⟩, F17⟩
abbrev rm_Al_remove : Room := { frames := 2, cells := 0, slots := 0, locals := 63 }
set_option maxRecDepth 100000 in
set_option maxHeartbeats 4000000 in
theorem c_Al_removeF {l : Launch} {Γ : rz_G} {h : rz_H} {a o d n : Nat} {mc : Int} (ha : h a = some ((35, o), .inr (2, [.ref d, vi (n : Int), vi mc]))) {e e' : Int → Option Nat} (hd : h d = some ((36, o), aR Γ 4 10 e')) (hn : n ≤ 10) (he : ∀ j, 0 ≤ j → j < (n : Int) → e' j = e j) {i : Int} (hi : 0 ≤ i ∧ i < (n : Int)) {ci : Nat} {q0 : vw_C} (hc : rz_cl[ci]? = some q0) (hca : (q0.1, "java/lang/Object") ∈ rz_NC) (hel : ∀ j y, 0 ≤ j → j < (n : Int) → e j = some y → ∃ (ty : Nat × Nat) (vs : List Value), h y = some (ty, .inr (ci, vs)) ∧ ty.1 ≠ 35) {y : Nat} (hy : e i = some y) : Ct l Γ x_Al_remove y_Al_remove rm_Al_remove [.ref a, vi i] h (pR (fun _ h' => AlAt Γ h' a o (n - 1) (rz_rm e i) ∧ rz_ft [(35, o), (36, o)] h h')) := by
  refine rz_met (by decide) rfl rfl (Nat.le_of_ble_eq_true rfl) (fun K _ => ?_)
  refine rz_Leq [(0, .ref a), (1, vi i)] rfl ?_
  have hy' : e' i = some y := by rw [he i hi.1 hi.2]; exact hy
  refine rz_iload_n 1 d_Al_remove_0 rfl rfl ?_
  refine rz_aload_n 0 d_Al_remove_1 rfl rfl ?_
  refine rz_getf f_Al_48 ha rfl d_Al_remove_2 ?_
  refine rz_callS (As := [vi i, vi (n : Int)]) (c_Ob_checkIndex (by omega) (by omega)) m_Al_118 rfl rfl (Nat.le_of_ble_eq_true rfl) ⟨by decide, by decide⟩ ⟨by decide, by decide⟩ d_Al_remove_5 (kE (h := h) ?_)
  refine rz_pop d_Al_remove_8 rfl ?_
  refine rz_aload_n 0 d_Al_remove_9 rfl rfl ?_
  refine rz_getf f_Al_9 ha rfl d_Al_remove_10 ?_
  refine rz_astore_n [(2, .ref d), (0, .ref a), (1, vi i)] d_Al_remove_13 rfl (by decide) rfl ?_
  refine rz_aload_n 0 d_Al_remove_14 rfl rfl ?_
  refine rz_iload_n 2 d_Al_remove_15 rfl rfl ?_
  refine rz_aaload hd rfl (show (36 : Nat) ≠ 0 by decide) (by omega) d_Al_remove_16 ?_
  refine rz_Seq [.ref y] (by rw [hy']; rfl) ?_
  refine rz_astore_n [(3, .ref y), (2, .ref d), (0, .ref a), (1, vi i)] d_Al_remove_17 rfl (by decide) rfl ?_
  refine rz_aload_n 2 d_Al_remove_18 rfl rfl ?_
  refine rz_aload_n 1 d_Al_remove_19 rfl rfl ?_
  refine rz_iload_n 3 d_Al_remove_20 rfl rfl ?_
  refine rz_callV (As := [.ref d, vi i]) (c_Al_fastRemove ha hd hn he hi hc hca hel) m_Al_144 ha rfl rfl rfl rfl (Nat.le_of_ble_eq_true rfl) ⟨by decide, by decide⟩ ⟨by decide, by decide⟩ d_Al_remove_21 (kV (h := h) fun h1 q1 => ?_)
  refine rz_aload_n 0 d_Al_remove_24 rfl rfl ?_
  exact rz_areturn (st := []) (r := some y) rfl (Or.inl ⟨_, rfl⟩) d_Al_remove_25 ⟨by decide, by decide⟩ ⟨y, rfl, q1⟩
theorem c_Al_remove {l : Launch} {Γ : rz_G} {h : rz_H} {a o n : Nat} {e : Int → Option Nat} (hl : AlAt Γ h a o n e) (hn : n ≤ 10) {i : Int} (hi : 0 ≤ i ∧ i < (n : Int)) {ci : Nat} {q0 : vw_C} (hc : rz_cl[ci]? = some q0) (hca : (q0.1, "java/lang/Object") ∈ rz_NC) (hel : ∀ j y, 0 ≤ j → j < (n : Int) → e j = some y → ∃ (ty : Nat × Nat) (vs : List Value), h y = some (ty, .inr (ci, vs)) ∧ ty.1 ≠ 35) {y : Nat} (hy : e i = some y) : Ct l Γ x_Al_remove y_Al_remove rm_Al_remove [.ref a, vi i] h (pR (fun _ h' => AlAt Γ h' a o (n - 1) (rz_rm e i) ∧ rz_ft [(35, o), (36, o)] h h')) := by
  obtain ⟨d, mc, ha, ⟨z0, -⟩ | ⟨e', hd, hl10, he⟩⟩ := hl
  · omega
  · exact c_Al_removeF ha hd hn he hi hc hca hel hy
abbrev rm_Ar_fill : Room := { frames := 0, cells := 0, slots := 0, locals := 0 }
set_option maxRecDepth 100000 in
set_option maxHeartbeats 4000000 in
theorem c_Ar_fill {l : Launch} {Γ : rz_G} {h : rz_H} {a n : Nat} {t : Nat × Nat} {g : Int → Int} {v : Int} (ha : h a = some (t, aI Γ 0 n g)) (ht : t.1 ≠ 0) (hn : n ≤ 1000) : Ct l Γ x_Ar_fill y_Ar_fill rm_Ar_fill [.ref a, vi v] h (pV (fun h' => ∃ g', h' a = some (t, aI Γ 0 n g') ∧ (∀ j, 0 ≤ j → j < (n : Int) → g' j = v) ∧ rz_fo a h h')) := by
  refine rz_met (by decide) rfl rfl (Nat.le_of_ble_eq_true rfl) (fun K _ => ?_)
  refine rz_Leq [(0, .ref a), (1, vi v)] rfl ?_
  refine rz_iconst d_Ar_fill_0 ?_
  refine rz_istore_n [(2, vi 0), (0, .ref a), (1, vi v)] d_Ar_fill_1 rfl (by decide) rfl ?_
  refine rz_aload_n 1 d_Ar_fill_2 rfl rfl ?_
  refine rz_alen (v := (n : Int)) ha ht rfl rfl d_Ar_fill_3 ?_
  refine rz_istore_n [(3, vi (n : Int)), (2, vi 0), (0, .ref a), (1, vi v)] d_Ar_fill_4 rfl (by decide) rfl ?_
  refine rz_loop (α := Int × rz_H × (Int → Int)) 0 0 5 (fun (i, hA, gA) => (n - i).toNat) (fun (i, hA, gA) => 0 ≤ i ∧ i ≤ n ∧ hA a = some (t, aI Γ 0 n gA) ∧ rz_fo a h hA ∧ (∀ j, 0 ≤ j → j < i → gA j = v)) (fun (i, hA, gA) => [(2, vi i), (3, vi (n : Int)), (0, .ref a), (1, vi v)]) (fun (i, hA, gA) => []) (fun (i, hA, gA) => hA) (fun y hy ih5 => ?_) (fun LP => ?_)
  · obtain ⟨i, hA, gA⟩ := y
    try dsimp only at hy ih5 ⊢
    obtain ⟨hi0, hi1, fA, FA, eA⟩ := hy
    refine rz_iload_n 0 d_Ar_fill_5 rfl rfl ?_
    refine rz_iload_n 1 d_Ar_fill_6 rfl rfl ?_
    refine rz_icmp_ge 20 d_Ar_fill_7 (by decide) (by omega) (by omega) (fun c7 => ?_) (fun c7 => ?_)
    · exact rz_return (st := []) rfl d_Ar_fill_20 ⟨by decide, by decide⟩ ⟨rfl, gA, fA, (fun j p q => eA j p (by omega)), FA⟩
    · refine rz_aload_n 2 d_Ar_fill_10 rfl rfl ?_
      refine rz_iload_n 0 d_Ar_fill_11 rfl rfl ?_
      refine rz_iload_n 3 d_Ar_fill_12 rfl rfl ?_
      refine rz_iastore fA ht (by omega) d_Ar_fill_13 ?_
      refine rz_nm fun h1 eh1 => ?_
      have g1 : rz_fr [t.1] hA h1 := by rw [eh1]; exact rz_fr.one fA
      have F2 : rz_fo a h h1 := by rw [eh1]; exact FA.up
      have fu_1 : h1 a = some (t, aI Γ 0 n (rz_u gA i v)) := by rw [eh1]; exact rz_up_s _ _ _
      refine rz_iinc (i + 1) 0 [(2, vi (i + 1)), (3, vi (n : Int)), (0, .ref a), (1, vi v)] d_Ar_fill_14 rfl (by first | rfl | omega) (by decide) rfl ?_
      refine rz_goto 5 d_Ar_fill_17 (by decide) ?_
      refine rz_Lsub [(2, vi (i + 1)), (3, vi (n : Int)), (0, .ref a), (1, vi v)] [0, 1, 2, 3] rfl ?_
      refine ih5 (i + 1, h1, (rz_u gA i v)) ?_ ?_
      · try dsimp only
        exact ⟨by omega, by omega, fu_1, F2, fl_u eA⟩
      · exact (by first | omega | (dsimp only; omega))
  · refine rz_Lsub [(2, vi 0), (3, vi (n : Int)), (0, .ref a), (1, vi v)] [1, 0, 2, 3] rfl ?_
    refine LP (0, h, g) ?_
    try dsimp only
    exact ⟨by omega, by omega, ha, rz_fo.rf, (fun j p q => absurd q (by omega))⟩

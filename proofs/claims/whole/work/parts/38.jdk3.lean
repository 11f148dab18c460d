/-! JDK: StringBuilder -/
/-- a StringBuilder at sb: n letters f, room for m -/
def SbC (Γ : rz_G) (h : rz_H) (sb n : Nat) (f : Int → Int) (m : Int) : Prop := ∃ (va cap k : Nat) (g : Int → Int) (ml : Int), h sb = some ((31, 0), .inr (1, [.ref va, vi 0, vi ml, vi (n : Int)])) ∧ h va = some ((32, k), aI Γ 2 cap g) ∧ (cap = 16 ∧ k = 0 ∨ cap = 34 ∧ k = 1) ∧ n ≤ cap ∧ n ≤ 24 ∧ m ≤ cap ∧ (∀ j, 0 ≤ j → j < (n : Int) → g j = f j ∧ 0 ≤ f j ∧ f j ≤ 127) ∧ (∀ j, 0 ≤ j → j < (cap : Int) → -128 ≤ g j ∧ g j ≤ 127) ∧ (ml = 0 ∨ ml = 1)
theorem SbC.fr {Γ : rz_G} {h h' : rz_H} {sb n : Nat} {f : Int → Int} {m : Int} {rs : List Nat} (hs : SbC Γ h sb n f m) (hf : rz_fr rs h h') (h1 : 31 ∉ rs) (h2 : 32 ∉ rs) : SbC Γ h' sb n f m := by
  obtain ⟨va, cap, k, g, ml, a1, a2, a3⟩ := hs
  exact ⟨va, cap, k, g, ml, hf _ _ _ a1 h1, hf _ _ _ a2 h2, a3⟩
theorem SbC.le {Γ : rz_G} {h : rz_H} {sb n : Nat} {f : Int → Int} {m m' : Int} (hs : SbC Γ h sb n f m) (hm : m' ≤ m) : SbC Γ h sb n f m' := by
  obtain ⟨va, cap, k, g, ml, a1, a2, a3, a4, a5, a6, a7⟩ := hs
  exact ⟨va, cap, k, g, ml, a1, a2, a3, a4, a5, by omega, a7⟩
theorem SbC.in24 {Γ : rz_G} {h : rz_H} {sb n : Nat} {f : Int → Int} {m : Int} (hs : SbC Γ h sb n f m) : n ≤ 24 ∧ ∀ j, 0 ≤ j → j < (n : Int) → 0 ≤ f j ∧ f j ≤ 127 := by
  obtain ⟨va, cap, k, g, ml, a1, a2, a3, a4, a5, a6, a7, a8⟩ := hs
  exact ⟨a5, fun j p q => (a7 j p q).2⟩
theorem SbC.c {Γ : rz_G} {h : rz_H} {sb n : Nat} {f f' : Int → Int} {m : Int} (hs : SbC Γ h sb n f m) (e : ∀ j, 0 ≤ j → j < (n : Int) → f' j = f j) : SbC Γ h sb n f' m := by
  obtain ⟨va, cap, k, g, ml, a1, a2, a3, a4, a5, a6, a7, a8⟩ := hs
  exact ⟨va, cap, k, g, ml, a1, a2, a3, a4, a5, a6, fun j p q => by rw [e j p q]; exact a7 j p q, a8⟩
abbrev rm_Ab_init : Room := { frames := 1, cells := 1, slots := 16, locals := 24 }
set_option maxRecDepth 100000 in
set_option maxHeartbeats 4000000 in
theorem c_Ab_init {l : Launch} {Γ : rz_G} {h : rz_H} {sb : Nat} (hs : h sb = some ((31, 0), .inr (1, [.null, vi 0, vi 0, vi 0]))) {f : Int → Int} : Ct l Γ x_Ab_init y_Ab_init rm_Ab_init [.ref sb, vi 16] h (pV (fun h' => SbC Γ h' sb 0 f 0 ∧ rz_fo sb h h')) := by
  refine rz_met (by decide) rfl rfl (Nat.le_of_ble_eq_true rfl) (fun K _ => ?_)
  refine rz_Leq [(0, .ref sb), (1, vi 16)] rfl ?_
  refine rz_aload_n 0 d_Ab_init_0 rfl rfl ?_
  refine rz_objInit oi_Ab oi_i oi_c (Nat.le_of_ble_eq_true rfl) (by decide) d_Ab_init_1 ?_
  refine rz_gets (List.mem_of_getElem? (i := 0) rfl) g_Ab_18 (Or.inl rfl) d_Ab_init_4 ?_
  refine rz_if_eq 25 d_Ab_init_7 (by decide) ⟨by decide, by decide⟩ (fun c7 => absurd c7 (by decide)) (fun c7 => ?_)
  refine rz_aload_n 0 d_Ab_init_10 rfl rfl ?_
  refine rz_iload_n 1 d_Ab_init_11 rfl rfl ?_
  refine rz_newB 16 (32, 0) (show (32 : Nat) ≠ 0 by decide) aw_byte rfl (by decide) ⟨by decide, by decide⟩ d_Ab_init_12 (fun q1 zq1 => ?_)
  refine rz_nm fun h2 eh2 => ?_
  have g2 : rz_fr [] h h2 := by rw [eh2]; exact rz_fr.nw zq1
  have z2 : h q1 = none := rz_fo.rf.nn zq1 (rz_ne zq1 hs)
  have F3 : rz_fo sb h h2 := rz_fo.rf.fr g2
  have fc_4_0 : h2 sb = some ((31, 0), .inr (1, [.null, vi 0, vi 0, vi 0])) := g2 _ _ _ hs (by simp)
  have fn_2 : h2 q1 = some ((32, 0), aI Γ 2 16 (fun _ => 0)) := by rw [eh2]; exact rz_up_s _ _ _
  refine rz_putf (fp_Ab_15 _) fc_4_0 (show (31 : Nat) ≠ 0 by decide) rfl rfl (show 0 < 4 by decide) d_Ab_init_14 ?_
  refine rz_nm fun h5 eh5 => ?_
  have g5 : rz_fr [31] h2 h5 := by rw [eh5]; exact rz_fr.one fc_4_0
  have F6 : rz_fo sb h h5 := by rw [eh5]; exact F3.up
  have fc_7_0 : h5 q1 = some ((32, 0), aI Γ 2 16 (fun _ => 0)) := g5 _ _ _ fn_2 (show 32 ∉ ([31] : List Nat) by decide)
  have fu_5 : h5 sb = some ((31, 0), .inr (1, [.ref q1, vi 0, vi 0, vi 0])) := by rw [eh5]; exact rz_up_s _ _ _
  refine rz_aload_n 0 d_Ab_init_17 rfl rfl ?_
  refine rz_iconst d_Ab_init_18 ?_
  refine rz_putf (fp_Ab_22 _) fu_5 (show (31 : Nat) ≠ 0 by decide) rfl rfl (show 1 < 4 by decide) d_Ab_init_19 ?_
  refine rz_nm fun h8 eh8 => ?_
  have g8 : rz_fr [31] h5 h8 := by rw [eh8]; exact rz_fr.one fu_5
  have F9 : rz_fo sb h h8 := by rw [eh8]; exact F6.up
  have fc_10_0 : h8 q1 = some ((32, 0), aI Γ 2 16 (fun _ => 0)) := g8 _ _ _ fc_7_0 (show 32 ∉ ([31] : List Nat) by decide)
  have fu_8 : h8 sb = some ((31, 0), .inr (1, [.ref q1, vi 0, vi 0, vi 0])) := by rw [eh8]; exact rz_up_s _ _ _
  refine rz_goto 38 d_Ab_init_22 (by decide) ?_
  exact rz_return (st := []) rfl d_Ab_init_38 ⟨by decide, by decide⟩ ⟨rfl, ⟨q1, 16, 0, _, 0, fu_8, fc_10_0, by decide, by decide, by decide, by decide, fun j p q => absurd q (by simp; omega), fun j p q => by simp, Or.inl rfl⟩, F9⟩
abbrev rm_Sb_init : Room := { frames := 2, cells := 1, slots := 16, locals := 45 }
set_option maxRecDepth 100000 in
set_option maxHeartbeats 4000000 in
theorem c_Sb_init {l : Launch} {Γ : rz_G} {h : rz_H} {sb : Nat} (hs : h sb = some ((31, 0), .inr (1, [.null, vi 0, vi 0, vi 0]))) {f : Int → Int} : Ct l Γ x_Sb_init y_Sb_init rm_Sb_init [.ref sb] h (pV (fun h' => SbC Γ h' sb 0 f 0 ∧ rz_fo sb h h')) := by
  refine rz_met (by decide) rfl rfl (Nat.le_of_ble_eq_true rfl) (fun K _ => ?_)
  refine rz_Leq [(0, .ref sb)] rfl ?_
  refine rz_aload_n 0 d_Sb_init_0 rfl rfl ?_
  refine rz_bipush (v := 16) d_Sb_init_1 (by decide) ?_
  refine rz_callI (As := [vi 16]) (c_Ab_init hs (f := f)) m_Sb_1 rfl rfl (Nat.le_of_ble_eq_true rfl) ⟨by decide, by decide⟩ ⟨by decide, by decide⟩ d_Sb_init_3 (kV (h := h) fun h1 q1 => ?_)
  exact rz_return (st := []) rfl d_Sb_init_6 ⟨by decide, by decide⟩ ⟨rfl, q1⟩
abbrev rm_Ab_length : Room := { frames := 0, cells := 0, slots := 0, locals := 0 }
set_option maxRecDepth 100000 in
set_option maxHeartbeats 4000000 in
theorem c_Ab_length {l : Launch} {Γ : rz_G} {h : rz_H} {sb va : Nat} {ml c : Int} (hs : h sb = some ((31, 0), .inr (1, [.ref va, vi 0, vi ml, vi c]))) : Ct l Γ x_Ab_length y_Ab_length rm_Ab_length [.ref sb] h (pE c h) := by
  refine rz_met (by decide) rfl rfl (Nat.le_of_ble_eq_true rfl) (fun K _ => ?_)
  refine rz_Leq [(0, .ref sb)] rfl ?_
  refine rz_aload_n 0 d_Ab_length_0 rfl rfl ?_
  refine rz_getf f_Ab_79 hs rfl d_Ab_length_1 ?_
  exact rz_ireturn (st := []) rfl d_Ab_length_4 ⟨by decide, by decide⟩ ⟨_, rfl, rfl, rfl⟩
abbrev rm_Ab_getValue : Room := { frames := 0, cells := 0, slots := 0, locals := 0 }
set_option maxRecDepth 100000 in
set_option maxHeartbeats 4000000 in
theorem c_Ab_getValue {l : Launch} {Γ : rz_G} {h : rz_H} {sb va : Nat} {ml c : Int} (hs : h sb = some ((31, 0), .inr (1, [.ref va, vi 0, vi ml, vi c]))) : Ct l Γ x_Ab_getValue y_Ab_getValue rm_Ab_getValue [.ref sb] h (pR (fun a h' => a = va ∧ h' = h)) := by
  refine rz_met (by decide) rfl rfl (Nat.le_of_ble_eq_true rfl) (fun K _ => ?_)
  refine rz_Leq [(0, .ref sb)] rfl ?_
  refine rz_aload_n 0 d_Ab_getValue_0 rfl rfl ?_
  refine rz_getf f_Ab_15 hs rfl d_Ab_getValue_1 ?_
  exact rz_areturn (st := []) (r := some va) rfl (Or.inr ⟨_, rfl⟩) d_Ab_getValue_4 ⟨by decide, by decide⟩ ⟨va, rfl, rfl, rfl⟩
abbrev rm_Ab_isLatin1 : Room := { frames := 0, cells := 0, slots := 0, locals := 0 }
set_option maxRecDepth 100000 in
set_option maxHeartbeats 4000000 in
theorem c_Ab_isLatin1 {l : Launch} {Γ : rz_G} {h : rz_H} {sb va : Nat} {ml c : Int} (hs : h sb = some ((31, 0), .inr (1, [.ref va, vi 0, vi ml, vi c]))) : Ct l Γ x_Ab_isLatin1 y_Ab_isLatin1 rm_Ab_isLatin1 [.ref sb] h (pE 1 h) := by
  refine rz_met (by decide) rfl rfl (Nat.le_of_ble_eq_true rfl) (fun K _ => ?_)
  refine rz_Leq [(0, .ref sb)] rfl ?_
  refine rz_gets (List.mem_of_getElem? (i := 0) rfl) g_Ab_18 (Or.inl rfl) d_Ab_isLatin1_0 ?_
  refine rz_if_eq 17 d_Ab_isLatin1_3 (by decide) ⟨by decide, by decide⟩ (fun c3 => absurd c3 (by decide)) (fun c3 => ?_)
  refine rz_aload_n 0 d_Ab_isLatin1_6 rfl rfl ?_
  refine rz_getf f_Ab_22 hs rfl d_Ab_isLatin1_7 ?_
  refine rz_if_ne 17 d_Ab_isLatin1_10 (by decide) ⟨by decide, by decide⟩ (fun c10 => absurd c10 (by decide)) (fun c10 => ?_)
  refine rz_iconst d_Ab_isLatin1_13 ?_
  refine rz_goto 18 d_Ab_isLatin1_14 (by decide) ?_
  exact rz_zreturn (st := []) (ty := .boolean) rfl rfl d_Ab_isLatin1_18 ⟨by decide, by decide⟩ ⟨_, rfl, rfl, rfl⟩
abbrev rm_Sb_length : Room := { frames := 1, cells := 0, slots := 0, locals := 20 }
set_option maxRecDepth 100000 in
set_option maxHeartbeats 4000000 in
theorem c_Sb_length {l : Launch} {Γ : rz_G} {h : rz_H} {sb va : Nat} {ml c : Int} (hs : h sb = some ((31, 0), .inr (1, [.ref va, vi 0, vi ml, vi c]))) : Ct l Γ x_Sb_length y_Sb_length rm_Sb_length [.ref sb] h (pE c h) := by
  refine rz_met (by decide) rfl rfl (Nat.le_of_ble_eq_true rfl) (fun K _ => ?_)
  refine rz_Leq [(0, .ref sb)] rfl ?_
  refine rz_aload_n 0 d_Sb_length_0 rfl rfl ?_
  refine rz_callSU (As := []) (c_Ab_length hs) m_Sb_343 hs rfl rfl rfl rfl (Nat.le_of_ble_eq_true rfl) ⟨by decide, by decide⟩ ⟨by decide, by decide⟩ d_Sb_length_1 (kE (h := h) ?_)
  exact rz_ireturn (st := []) rfl d_Sb_length_4 ⟨by decide, by decide⟩ ⟨_, rfl, rfl, rfl⟩
abbrev rm_As_newLength : Room := { frames := 1, cells := 0, slots := 0, locals := 40 }
set_option maxRecDepth 100000 in
set_option maxHeartbeats 4000000 in
theorem c_As_newLength {l : Launch} {Γ : rz_G} {h : rz_H} {a b c M : Int} (ha : 0 ≤ a ∧ a ≤ 1000) (hb : 0 ≤ b ∧ b ≤ 1000) (hc : 0 ≤ c ∧ c ≤ 1000) (hM : M = b ∧ c ≤ b ∨ M = c ∧ b ≤ c) (hp : 0 < a + M) : Ct l Γ x_As_newLength y_As_newLength rm_As_newLength [vi a, vi b, vi c] h (pE (a + M) h) := by
  refine rz_met (by decide) rfl rfl (Nat.le_of_ble_eq_true rfl) (fun K _ => ?_)
  refine rz_Leq [(0, vi a), (1, vi b), (2, vi c)] rfl ?_
  refine rz_iload_n 0 d_As_newLength_0 rfl rfl ?_
  refine rz_iload_n 1 d_As_newLength_1 rfl rfl ?_
  refine rz_iload_n 2 d_As_newLength_2 rfl rfl ?_
  refine rz_mmax M mm_As_194 (by omega) (by omega) (by omega) (by decide) (Nat.le_of_ble_eq_true rfl) ⟨by decide, by decide⟩ d_As_newLength_3 ?_
  refine rz_iadd d_As_newLength_6 ?_
  refine rz_istore_n [(3, vi (a + M)), (0, vi a), (1, vi b), (2, vi c)] d_As_newLength_7 rfl (by decide) rfl ?_
  refine rz_iconst d_As_newLength_8 ?_
  refine rz_iload_n 0 d_As_newLength_9 rfl rfl ?_
  refine rz_icmp_ge 21 d_As_newLength_10 (by decide) ⟨by decide, by decide⟩ (by omega) (fun c10 => absurd c10 (by omega)) (fun c10 => ?_)
  refine rz_iload_n 0 d_As_newLength_13 rfl rfl ?_
  refine rz_ldc (v := 2147483639) k_As_200 d_As_newLength_14 ?_
  refine rz_icmp_gt 21 d_As_newLength_16 (by decide) (by omega) ⟨by decide, by decide⟩ (fun c16 => absurd c16 (by omega)) (fun c16 => ?_)
  refine rz_iload_n 0 d_As_newLength_19 rfl rfl ?_
  exact rz_ireturn (st := []) rfl d_As_newLength_20 ⟨by decide, by decide⟩ ⟨_, rfl, rfl, rfl⟩
abbrev rm_Ab_newCapacity : Room := { frames := 2, cells := 0, slots := 0, locals := 63 }
set_option maxRecDepth 100000 in
set_option maxHeartbeats 4000000 in
theorem c_Ab_newCapacity {l : Launch} {Γ : rz_G} {h : rz_H} {sb va : Nat} {ml c : Int} (hs : h sb = some ((31, 0), .inr (1, [.ref va, vi 0, vi ml, vi c]))) {k : Nat} {g : Int → Int} (hv : h va = some ((32, k), aI Γ 2 16 g)) {m : Int} (hm : 17 ≤ m ∧ m ≤ 24) : Ct l Γ x_Ab_newCapacity y_Ab_newCapacity rm_Ab_newCapacity [.ref sb, vi m] h (pE 34 h) := by
  refine rz_met (by decide) rfl rfl (Nat.le_of_ble_eq_true rfl) (fun K _ => ?_)
  refine rz_Leq [(0, .ref sb), (1, vi m)] rfl ?_
  refine rz_aload_n 0 d_Ab_newCapacity_0 rfl rfl ?_
  refine rz_getf f_Ab_15 hs rfl d_Ab_newCapacity_1 ?_
  refine rz_alen (v := 16) hv (show (32 : Nat) ≠ 0 by decide) rfl rfl d_Ab_newCapacity_4 ?_
  refine rz_istore_n [(2, vi 16), (0, .ref sb), (1, vi m)] d_Ab_newCapacity_5 rfl (by decide) rfl ?_
  refine rz_iload_n 2 d_Ab_newCapacity_6 rfl rfl ?_
  refine rz_aload_n 1 d_Ab_newCapacity_7 rfl rfl ?_
  refine rz_getf f_Ab_22 hs rfl d_Ab_newCapacity_8 ?_
  refine rz_ishl m (sh_l0 _) d_Ab_newCapacity_11 ?_
  refine rz_istore_n [(3, vi m), (2, vi 16), (0, .ref sb), (1, vi m)] d_Ab_newCapacity_12 rfl (by decide) rfl ?_
  refine rz_iload_n 0 d_Ab_newCapacity_13 rfl rfl ?_
  refine rz_iload_n 1 d_Ab_newCapacity_14 rfl rfl ?_
  refine rz_isub d_Ab_newCapacity_15 ?_
  refine rz_istore [(4, vi (m - 16)), (3, vi m), (2, vi 16), (0, .ref sb), (1, vi m)] d_Ab_newCapacity_16 (by decide) rfl ?_
  refine rz_iload_n 2 d_Ab_newCapacity_18 rfl rfl ?_
  refine rz_iload 0 d_Ab_newCapacity_19 rfl ?_
  refine rz_iload_n 2 d_Ab_newCapacity_21 rfl rfl ?_
  refine rz_iconst d_Ab_newCapacity_22 ?_
  refine rz_aload_n 3 d_Ab_newCapacity_23 rfl rfl ?_
  refine rz_getf f_Ab_22 hs rfl d_Ab_newCapacity_24 ?_
  refine rz_ishl 2 (sh_l0 _) d_Ab_newCapacity_27 ?_
  refine rz_iadd d_Ab_newCapacity_28 ?_
  refine rz_callS (As := [vi 16, vi (m - 16), vi (16 + 2)]) (c_As_newLength (M := 18) (by omega) (by omega) (by omega) (by omega) (by omega)) m_Ab_114 rfl rfl (Nat.le_of_ble_eq_true rfl) ⟨by decide, by decide⟩ ⟨by decide, by decide⟩ d_Ab_newCapacity_29 (kE (h := h) ?_)
  refine rz_Seq [vi 34] rfl ?_
  refine rz_istore [(5, vi 34), (4, vi (m - 16)), (3, vi m), (2, vi 16), (0, .ref sb), (1, vi m)] d_Ab_newCapacity_32 (by decide) rfl ?_
  refine rz_iload 0 d_Ab_newCapacity_34 rfl ?_
  refine rz_ldc (v := 2147483647) k_Ab_39 d_Ab_newCapacity_36 ?_
  refine rz_icmp_ne 51 d_Ab_newCapacity_38 (by decide) ⟨by decide, by decide⟩ ⟨by decide, by decide⟩ (fun c38 => ?_) (fun c38 => absurd c38 (by decide))
  refine rz_iload 0 d_Ab_newCapacity_51 rfl ?_
  refine rz_aload_n 4 d_Ab_newCapacity_53 rfl rfl ?_
  refine rz_getf f_Ab_22 hs rfl d_Ab_newCapacity_54 ?_
  refine rz_ishr 34 (sh_r0 _) d_Ab_newCapacity_57 ?_
  exact rz_ireturn (st := []) rfl d_Ab_newCapacity_58 ⟨by decide, by decide⟩ ⟨_, rfl, rfl, rfl⟩
abbrev rm_Ar_copyOf : Room := { frames := 1, cells := 1, slots := 34, locals := 40 }
set_option maxRecDepth 100000 in
set_option maxHeartbeats 4000000 in
theorem c_Ar_copyOf {l : Launch} {Γ : rz_G} {h : rz_H} {va : Nat} {g : Int → Int} (ha : h va = some ((32, 0), aI Γ 2 16 g)) (hg : ∀ j, 0 ≤ j → j < 16 → -128 ≤ g j ∧ g j ≤ 127) : Ct l Γ x_Ar_copyOf y_Ar_copyOf rm_Ar_copyOf [.ref va, vi 34] h (pR (fun q h' => ∃ g', h' q = some ((32, 1), aI Γ 2 34 g') ∧ (∀ j, 0 ≤ j → j < 16 → g' j = g j) ∧ (∀ j, 0 ≤ j → j < 34 → -128 ≤ g' j ∧ g' j ≤ 127) ∧ rz_fr [] h h')) := by
  refine rz_met (by decide) rfl rfl (Nat.le_of_ble_eq_true rfl) (fun K _ => ?_)
  refine rz_Leq [(0, .ref va), (1, vi 34)] rfl ?_
  refine rz_iload_n 1 d_Ar_copyOf_0 rfl rfl ?_
  refine rz_aload_n 0 d_Ar_copyOf_1 rfl rfl ?_
  refine rz_alen (v := 16) ha (show (32 : Nat) ≠ 0 by decide) rfl rfl d_Ar_copyOf_2 ?_
  refine rz_icmp_ne 14 d_Ar_copyOf_3 (by decide) ⟨by decide, by decide⟩ ⟨by decide, by decide⟩ (fun c3 => ?_) (fun c3 => absurd c3 (by decide))
  refine rz_iload_n 1 d_Ar_copyOf_14 rfl rfl ?_
  refine rz_newB 34 (32, 1) (show (32 : Nat) ≠ 0 by decide) aw_byte rfl (by decide) ⟨by decide, by decide⟩ d_Ar_copyOf_15 (fun q1 zq1 => ?_)
  refine rz_nm fun h2 eh2 => ?_
  have g2 : rz_fr [] h h2 := by rw [eh2]; exact rz_fr.nw zq1
  have z2 : h q1 = none := rz_fr.rf.nn zq1
  have F3 : rz_fr [] h h2 := rz_fr.rf.tr (g2.mono (by decide))
  have fc_4_0 : h2 va = some ((32, 0), aI Γ 2 16 g) := g2 _ _ _ ha (by simp)
  have fn_2 : h2 q1 = some ((32, 1), aI Γ 2 34 (fun _ => 0)) := by rw [eh2]; exact rz_up_s _ _ _
  refine rz_astore_n [(2, .ref q1), (0, .ref va), (1, vi 34)] d_Ar_copyOf_17 rfl (by decide) rfl ?_
  refine rz_aload_n 1 d_Ar_copyOf_18 rfl rfl ?_
  refine rz_iconst d_Ar_copyOf_19 ?_
  refine rz_aload_n 0 d_Ar_copyOf_20 rfl rfl ?_
  refine rz_iconst d_Ar_copyOf_21 ?_
  refine rz_aload_n 1 d_Ar_copyOf_22 rfl rfl ?_
  refine rz_alen (v := 16) fc_4_0 (show (32 : Nat) ≠ 0 by decide) rfl rfl d_Ar_copyOf_23 ?_
  refine rz_iload_n 2 d_Ar_copyOf_24 rfl rfl ?_
  refine rz_mmin 16 mm_Ar_304 ⟨by decide, by decide⟩ ⟨by decide, by decide⟩ (by omega) (by decide) (Nat.le_of_ble_eq_true rfl) ⟨by decide, by decide⟩ d_Ar_copyOf_25 ?_
  refine rz_copyB cp_Ar_150 fc_4_0 (show (32 : Nat) ≠ 0 by decide) fn_2 (show (32 : Nat) ≠ 0 by decide) (by omega) (by omega) (by omega) (fun j p r => hg _ (by omega) (by omega)) (by decide) (Nat.le_of_ble_eq_true rfl) d_Ar_copyOf_28 ?_
  refine rz_nm fun h5 eh5 => ?_
  have g5 : rz_fr [32] h2 h5 := by rw [eh5]; exact rz_fr.one fn_2
  have F6 : rz_fr [] h h5 := by rw [eh5]; exact F3.upn z2
  have fu_5 : h5 q1 = some ((32, 1), aI Γ 2 34 (rz_cp g (fun _ => 0) 0 0 16)) := by rw [eh5]; exact rz_up_s _ _ _
  have fs_5 : h5 va = some ((32, 0), aI Γ 2 16 g) := by rw [eh5]; exact rz_up_t fn_2 fc_4_0 (by decide)
  refine rz_aload_n 0 d_Ar_copyOf_31 rfl rfl ?_
  exact rz_areturn (st := []) (r := some q1) rfl (Or.inr ⟨_, rfl⟩) d_Ar_copyOf_32 ⟨by decide, by decide⟩ ⟨q1, rfl, _, fu_5, (fun j p q => by rw [rz_cp, if_pos (by omega)]; congr 1; omega), (fun j p q => by rw [rz_cp]; split; exact hg _ (by omega) (by omega); omega), F6⟩
abbrev rm_Ab_ensureCapacityInternal : Room := { frames := 3, cells := 1, slots := 34, locals := 88 }
set_option maxRecDepth 100000 in
set_option maxHeartbeats 4000000 in
theorem c_ens16 {l : Launch} {Γ : rz_G} {h : rz_H} {sb va n : Nat} {f g : Int → Int} {ml m : Int} (hs : h sb = some ((31, 0), .inr (1, [.ref va, vi 0, vi ml, vi (n : Int)]))) (hv : h va = some ((32, 0), aI Γ 2 16 g)) (s4 : n ≤ 16) (s5 : n ≤ 24) (s7 : ∀ j, 0 ≤ j → j < (n : Int) → g j = f j ∧ 0 ≤ f j ∧ f j ≤ 127) (s8 : ∀ j, 0 ≤ j → j < (16 : Int) → -128 ≤ g j ∧ g j ≤ 127) (s9 : ml = 0 ∨ ml = 1) (hm : 0 ≤ m ∧ m ≤ 24) : Ct l Γ x_Ab_ensureCapacityInternal y_Ab_ensureCapacityInternal rm_Ab_ensureCapacityInternal [.ref sb, vi m] h (pV (fun h' => SbC Γ h' sb n f m ∧ rz_fr [31, 32] h h')) := by
  refine rz_met (by decide) rfl rfl (Nat.le_of_ble_eq_true rfl) (fun K _ => ?_)
  refine rz_Leq [(0, .ref sb), (1, vi m)] rfl ?_
  refine rz_aload_n 0 d_Ab_ensureCapacityInternal_0 rfl rfl ?_
  refine rz_getf f_Ab_15 hs rfl d_Ab_ensureCapacityInternal_1 ?_
  refine rz_alen (v := 16) hv (show (32 : Nat) ≠ 0 by decide) rfl rfl d_Ab_ensureCapacityInternal_4 ?_
  refine rz_aload_n 0 d_Ab_ensureCapacityInternal_5 rfl rfl ?_
  refine rz_getf f_Ab_22 hs rfl d_Ab_ensureCapacityInternal_6 ?_
  refine rz_ishr 16 (sh_r0 _) d_Ab_ensureCapacityInternal_9 ?_
  refine rz_istore_n [(2, vi 16), (0, .ref sb), (1, vi m)] d_Ab_ensureCapacityInternal_10 rfl (by decide) rfl ?_
  refine rz_iload_n 2 d_Ab_ensureCapacityInternal_11 rfl rfl ?_
  refine rz_iload_n 0 d_Ab_ensureCapacityInternal_12 rfl rfl ?_
  refine rz_isub d_Ab_ensureCapacityInternal_13 ?_
  refine rz_if_le 38 d_Ab_ensureCapacityInternal_14 (by decide) (by omega) (fun c14 => ?_) (fun c14 => ?_)
  · exact rz_return (st := []) rfl d_Ab_ensureCapacityInternal_38 ⟨by decide, by decide⟩ ⟨rfl, ⟨va, 16, 0, g, ml, hs, hv, by decide, s4, s5, by omega, s7, fun j p q => s8 j p (by omega), s9⟩, rz_fr.rf⟩
  · refine rz_aload_n 1 d_Ab_ensureCapacityInternal_17 rfl rfl ?_
    refine rz_aload_n 1 d_Ab_ensureCapacityInternal_18 rfl rfl ?_
    refine rz_getf f_Ab_15 hs rfl d_Ab_ensureCapacityInternal_19 ?_
    refine rz_aload_n 1 d_Ab_ensureCapacityInternal_22 rfl rfl ?_
    refine rz_iload_n 2 d_Ab_ensureCapacityInternal_23 rfl rfl ?_
    refine rz_callV (As := [vi m]) (c_Ab_newCapacity hs hv (by omega)) m_Ab_104 hs rfl rfl rfl rfl (Nat.le_of_ble_eq_true rfl) ⟨by decide, by decide⟩ ⟨by decide, by decide⟩ d_Ab_ensureCapacityInternal_24 (kE (h := h) ?_)
    refine rz_aload_n 1 d_Ab_ensureCapacityInternal_27 rfl rfl ?_
    refine rz_getf f_Ab_22 hs rfl d_Ab_ensureCapacityInternal_28 ?_
    refine rz_ishl 34 (sh_l0 _) d_Ab_ensureCapacityInternal_31 ?_
    refine rz_callS (As := [.ref va, vi 34]) (c_Ar_copyOf hv (fun j p q => s8 j p (by omega))) m_Ab_108 rfl rfl (Nat.le_of_ble_eq_true rfl) ⟨by decide, by decide⟩ ⟨by decide, by decide⟩ d_Ab_ensureCapacityInternal_32 (kR (h := h) fun b1 h1 q1 => ?_)
    obtain ⟨g1, fb1, eg1, bg1, G1⟩ := q1
    have F2 : rz_fr [31, 32] h h1 := rz_fr.rf.tr (G1.mono (by decide))
    have fc_3_0 : h1 sb = some ((31, 0), .inr (1, [.ref va, vi 0, vi ml, vi (n : Int)])) := G1 _ _ _ hs (by simp)
    have fc_3_1 : h1 va = some ((32, 0), aI Γ 2 16 g) := G1 _ _ _ hv (by simp)
    refine rz_putf (fp_Ab_15 _) fc_3_0 (show (31 : Nat) ≠ 0 by decide) rfl rfl (show 0 < 4 by decide) d_Ab_ensureCapacityInternal_35 ?_
    refine rz_nm fun h4 eh4 => ?_
    have g4 : rz_fr [31] h1 h4 := by rw [eh4]; exact rz_fr.one fc_3_0
    have F5 : rz_fr [31, 32] h h4 := F2.tr (g4.mono (by decide))
    have fc_6_0 : h4 va = some ((32, 0), aI Γ 2 16 g) := g4 _ _ _ fc_3_1 (show 32 ∉ ([31] : List Nat) by decide)
    have fc_6_1 : h4 b1 = some ((32, 1), aI Γ 2 34 g1) := g4 _ _ _ fb1 (show 32 ∉ ([31] : List Nat) by decide)
    have fu_4 : h4 sb = some ((31, 0), .inr (1, [.ref b1, vi 0, vi ml, vi (n : Int)])) := by rw [eh4]; exact rz_up_s _ _ _
    exact rz_return (st := []) rfl d_Ab_ensureCapacityInternal_38 ⟨by decide, by decide⟩ ⟨rfl, ⟨b1, 34, 1, g1, ml, fu_4, fc_6_1, by decide, by omega, s5, by omega, fun j p q => by rw [eg1 j p (by omega)]; exact s7 j p q, fun j p q => bg1 j p (by omega), s9⟩, F5⟩
set_option maxRecDepth 100000 in
set_option maxHeartbeats 4000000 in
theorem c_ens34 {l : Launch} {Γ : rz_G} {h : rz_H} {sb va n : Nat} {f g : Int → Int} {ml m : Int} (hs : h sb = some ((31, 0), .inr (1, [.ref va, vi 0, vi ml, vi (n : Int)]))) (hv : h va = some ((32, 1), aI Γ 2 34 g)) (s4 : n ≤ 34) (s5 : n ≤ 24) (s7 : ∀ j, 0 ≤ j → j < (n : Int) → g j = f j ∧ 0 ≤ f j ∧ f j ≤ 127) (s8 : ∀ j, 0 ≤ j → j < (34 : Int) → -128 ≤ g j ∧ g j ≤ 127) (s9 : ml = 0 ∨ ml = 1) (hm : 0 ≤ m ∧ m ≤ 24) : Ct l Γ x_Ab_ensureCapacityInternal y_Ab_ensureCapacityInternal rm_Ab_ensureCapacityInternal [.ref sb, vi m] h (pV (fun h' => SbC Γ h' sb n f m ∧ rz_fr [31, 32] h h')) := by
  refine rz_met (by decide) rfl rfl (Nat.le_of_ble_eq_true rfl) (fun K _ => ?_)
  refine rz_Leq [(0, .ref sb), (1, vi m)] rfl ?_
  refine rz_aload_n 0 d_Ab_ensureCapacityInternal_0 rfl rfl ?_
  refine rz_getf f_Ab_15 hs rfl d_Ab_ensureCapacityInternal_1 ?_
  refine rz_alen (v := 34) hv (show (32 : Nat) ≠ 0 by decide) rfl rfl d_Ab_ensureCapacityInternal_4 ?_
  refine rz_aload_n 0 d_Ab_ensureCapacityInternal_5 rfl rfl ?_
  refine rz_getf f_Ab_22 hs rfl d_Ab_ensureCapacityInternal_6 ?_
  refine rz_ishr 34 (sh_r0 _) d_Ab_ensureCapacityInternal_9 ?_
  refine rz_istore_n [(2, vi 34), (0, .ref sb), (1, vi m)] d_Ab_ensureCapacityInternal_10 rfl (by decide) rfl ?_
  refine rz_iload_n 2 d_Ab_ensureCapacityInternal_11 rfl rfl ?_
  refine rz_iload_n 0 d_Ab_ensureCapacityInternal_12 rfl rfl ?_
  refine rz_isub d_Ab_ensureCapacityInternal_13 ?_
  refine rz_if_le 38 d_Ab_ensureCapacityInternal_14 (by decide) (by omega) (fun c14 => ?_) (fun c14 => absurd c14 (by omega))
  exact rz_return (st := []) rfl d_Ab_ensureCapacityInternal_38 ⟨by decide, by decide⟩ ⟨rfl, ⟨va, 34, 1, g, ml, hs, hv, by decide, s4, s5, by omega, s7, fun j p q => s8 j p (by omega), s9⟩, rz_fr.rf⟩
theorem c_Ab_ensureCapacityInternal {l : Launch} {Γ : rz_G} {h : rz_H} {sb n : Nat} {f : Int → Int} {m0 m : Int} (hs : SbC Γ h sb n f m0) (hm : 0 ≤ m ∧ m ≤ 24) : Ct l Γ x_Ab_ensureCapacityInternal y_Ab_ensureCapacityInternal rm_Ab_ensureCapacityInternal [.ref sb, vi m] h (pV (fun h' => SbC Γ h' sb n f m ∧ rz_fr [31, 32] h h')) := by
  obtain ⟨va, cap, k, g, ml, a1, a2, a3, a4, a5, a6, a7, a8, a9⟩ := hs
  rcases a3 with ⟨rfl, rfl⟩ | ⟨rfl, rfl⟩
  · exact c_ens16 a1 a2 a4 a5 a7 a8 a9 hm
  · exact c_ens34 a1 a2 a4 a5 a7 a8 a9 hm
abbrev rm_S1_canEncode : Room := { frames := 0, cells := 0, slots := 0, locals := 0 }
set_option maxRecDepth 100000 in
set_option maxHeartbeats 4000000 in
theorem c_S1_canEncode {l : Launch} {Γ : rz_G} {h : rz_H} {c : Int} (rc : -2147483648 ≤ c ∧ c ≤ 2147483647) (hc : 0 ≤ c ∧ c ≤ 255) : Ct l Γ x_S1_canEncode y_S1_canEncode rm_S1_canEncode [vi c] h (pE 1 h) := by
  refine rz_met (by decide) rfl rfl (Nat.le_of_ble_eq_true rfl) (fun K _ => ?_)
  refine rz_Leq [(0, vi c)] rfl ?_
  refine rz_iload_n 0 d_S1_canEncode_0 rfl rfl ?_
  refine rz_sipush (v := 255) d_S1_canEncode_1 (by decide) ?_
  refine rz_icmp_gt 11 d_S1_canEncode_4 (by decide) (by omega) ⟨by decide, by decide⟩ (fun c4 => absurd c4 (by omega)) (fun c4 => ?_)
  refine rz_iconst d_S1_canEncode_7 ?_
  refine rz_goto 12 d_S1_canEncode_8 (by decide) ?_
  exact rz_zreturn (st := []) (ty := .boolean) rfl rfl d_S1_canEncode_12 ⟨by decide, by decide⟩ ⟨_, rfl, rfl, rfl⟩
theorem sb_ap {n : Nat} {f g : Int → Int} {c : Int} (h : ∀ j, 0 ≤ j → j < (n : Int) → g j = f j ∧ 0 ≤ f j ∧ f j ≤ 127) (hc : 0 ≤ c ∧ c ≤ 127) : ∀ j, 0 ≤ j → j < ((n + 1 : Nat) : Int) → rz_u g n c j = rz_u f n c j ∧ 0 ≤ rz_u f n c j ∧ rz_u f n c j ≤ 127 := fun j p q => by
  by_cases z : j = n
  · rw [z, rz_u_s, rz_u_s]; exact ⟨rfl, hc⟩
  · rw [rz_u_n z, rz_u_n z]; exact h j p (by omega)
theorem sb_bp {n cap : Nat} {g : Int → Int} {c : Int} (h : ∀ j, 0 ≤ j → j < (cap : Int) → -128 ≤ g j ∧ g j ≤ 127) (hc : 0 ≤ c ∧ c ≤ 127) : ∀ j, 0 ≤ j → j < (cap : Int) → -128 ≤ rz_u g n c j ∧ rz_u g n c j ≤ 127 := fun j p q => by
  by_cases z : j = n
  · rw [z, rz_u_s]; omega
  · rw [rz_u_n z]; exact h j p q
abbrev rm_Ab_append : Room := { frames := 4, cells := 1, slots := 34, locals := 110 }
set_option maxRecDepth 100000 in
set_option maxHeartbeats 4000000 in
theorem c_Ab_append {l : Launch} {Γ : rz_G} {h : rz_H} {sb n : Nat} {f : Int → Int} {m0 : Int} (hs : SbC Γ h sb n f m0) {c : Int} (hc : 0 ≤ c ∧ c ≤ 127) (hn : n < 24) : Ct l Γ x_Ab_append y_Ab_append rm_Ab_append [.ref sb, vi c] h (pR (fun a h' => a = sb ∧ SbC Γ h' sb (n + 1) (rz_u f n c) 0 ∧ rz_fr [31, 32] h h')) := by
  refine rz_met (by decide) rfl rfl (Nat.le_of_ble_eq_true rfl) (fun K _ => ?_)
  refine rz_Leq [(0, .ref sb), (1, vi c)] rfl ?_
  obtain ⟨va0, cap0, k0, g0, ml0, a1, a2, a3, a4, a5, a6, a7, a8, a9⟩ := hs
  refine rz_aload_n 0 d_Ab_append_0 rfl rfl ?_
  refine rz_aload_n 0 d_Ab_append_1 rfl rfl ?_
  refine rz_getf f_Ab_79 a1 rfl d_Ab_append_2 ?_
  refine rz_iconst d_Ab_append_5 ?_
  refine rz_iadd d_Ab_append_6 ?_
  refine rz_callV (As := [vi ((n : Int) + 1)]) (c_Ab_ensureCapacityInternal (⟨va0, cap0, k0, g0, ml0, a1, a2, a3, a4, a5, a6, a7, a8, a9⟩ : SbC Γ _ sb n f m0) (m := ((n : Int) + 1)) (by omega)) m_Ab_100 a1 rfl rfl rfl rfl (Nat.le_of_ble_eq_true rfl) ⟨by decide, by decide⟩ ⟨by decide, by decide⟩ d_Ab_append_7 (kV (h := h) fun h1 q1 => ?_)
  obtain ⟨⟨va1, cap1, k1, g1, ml1, s11, s21, s31, s41, s51, s61, s71, s81, s91⟩, G1⟩ := q1
  have F2 : rz_fr [31, 32] h h1 := rz_fr.rf.tr (G1.mono (by decide))
  refine rz_aload_n 0 d_Ab_append_10 rfl rfl ?_
  refine rz_callV (As := []) (c_Ab_isLatin1 s11) m_Ab_83 s11 rfl rfl rfl rfl (Nat.le_of_ble_eq_true rfl) ⟨by decide, by decide⟩ ⟨by decide, by decide⟩ d_Ab_append_11 (kE (h := h1) ?_)
  refine rz_if_eq 45 d_Ab_append_14 (by decide) ⟨by decide, by decide⟩ (fun c14 => absurd c14 (by decide)) (fun c14 => ?_)
  refine rz_iload_n 1 d_Ab_append_17 rfl rfl ?_
  refine rz_callS (As := [vi c]) (c_S1_canEncode (by omega) (by omega)) m_Ab_191 rfl rfl (Nat.le_of_ble_eq_true rfl) ⟨by decide, by decide⟩ ⟨by decide, by decide⟩ d_Ab_append_18 (kE (h := h1) ?_)
  refine rz_if_eq 45 d_Ab_append_21 (by decide) ⟨by decide, by decide⟩ (fun c21 => absurd c21 (by decide)) (fun c21 => ?_)
  refine rz_aload_n 0 d_Ab_append_24 rfl rfl ?_
  refine rz_getf f_Ab_15 s11 rfl d_Ab_append_25 ?_
  refine rz_aload_n 0 d_Ab_append_28 rfl rfl ?_
  refine rz_dup d_Ab_append_29 rfl ?_
  refine rz_getf f_Ab_79 s11 rfl d_Ab_append_30 ?_
  refine rz_dup_x1 d_Ab_append_33 rfl rfl ?_
  refine rz_iconst d_Ab_append_34 ?_
  refine rz_iadd d_Ab_append_35 ?_
  refine rz_putf (fp_Ab_79 _) s11 (show (31 : Nat) ≠ 0 by decide) rfl rfl (show 3 < 4 by decide) d_Ab_append_36 ?_
  refine rz_nm fun h3 eh3 => ?_
  have g3 : rz_fr [31] h1 h3 := by rw [eh3]; exact rz_fr.one s11
  have F4 : rz_fr [31, 32] h h3 := F2.tr (g3.mono (by decide))
  have fc_5_0 : h3 va1 = some ((32, k1), aI Γ 2 cap1 g1) := g3 _ _ _ s21 (show 32 ∉ ([31] : List Nat) by decide)
  have fu_3 : h3 sb = some ((31, 0), .inr (1, [.ref va1, vi 0, vi ml1, vi ((n : Int) + 1)])) := by rw [eh3]; exact rz_up_s _ _ _
  refine rz_iload_n 1 d_Ab_append_39 rfl rfl ?_
  refine rz_i2b (by omega) d_Ab_append_40 ?_
  refine rz_bastore fc_5_0 (show (32 : Nat) ≠ 0 by decide) (by omega) (by omega) d_Ab_append_41 ?_
  refine rz_nm fun h6 eh6 => ?_
  have g6 : rz_fr [32] h3 h6 := by rw [eh6]; exact rz_fr.one fc_5_0
  have F7 : rz_fr [31, 32] h h6 := F4.tr (g6.mono (by decide))
  have fc_8_0 : h6 sb = some ((31, 0), .inr (1, [.ref va1, vi 0, vi ml1, vi ((n : Int) + 1)])) := g6 _ _ _ fu_3 (show 31 ∉ ([32] : List Nat) by decide)
  have fu_6 : h6 va1 = some ((32, k1), aI Γ 2 cap1 (rz_u g1 (n : Int) c)) := by rw [eh6]; exact rz_up_s _ _ _
  refine rz_goto 75 d_Ab_append_42 (by decide) ?_
  refine rz_aload_n 0 d_Ab_append_75 rfl rfl ?_
  exact rz_areturn (st := []) (r := some sb) rfl (Or.inl ⟨_, rfl⟩) d_Ab_append_76 ⟨by decide, by decide⟩ ⟨sb, rfl, rfl, ⟨va1, cap1, k1, _, ml1, (by rw [show ((n + 1 : Nat) : Int) = (n : Int) + 1 by omega]; exact fc_8_0), fu_6, s31, by omega, by omega, by omega, sb_ap s71 hc, sb_bp s81 hc, s91⟩, F7⟩
abbrev rm_Sb_append : Room := { frames := 5, cells := 1, slots := 34, locals := 131 }
set_option maxRecDepth 100000 in
set_option maxHeartbeats 4000000 in
theorem c_Sb_append {l : Launch} {Γ : rz_G} {h : rz_H} {sb n : Nat} {f : Int → Int} {m0 : Int} (hs : SbC Γ h sb n f m0) {c : Int} (hc : 0 ≤ c ∧ c ≤ 127) (hn : n < 24) : Ct l Γ x_Sb_append y_Sb_append rm_Sb_append [.ref sb, vi c] h (pR (fun a h' => SbC Γ h' sb (n + 1) (rz_u f n c) 0 ∧ rz_fr [31, 32] h h')) := by
  refine rz_met (by decide) rfl rfl (Nat.le_of_ble_eq_true rfl) (fun K _ => ?_)
  refine rz_Leq [(0, .ref sb), (1, vi c)] rfl ?_
  obtain ⟨va0, cap0, k0, g0, ml0, a1, a2, a3, a4, a5, a6, a7, a8, a9⟩ := hs
  refine rz_aload_n 0 d_Sb_append_0 rfl rfl ?_
  refine rz_iload_n 1 d_Sb_append_1 rfl rfl ?_
  refine rz_callSU (As := [vi c]) (c_Ab_append (⟨va0, cap0, k0, g0, ml0, a1, a2, a3, a4, a5, a6, a7, a8, a9⟩ : SbC Γ _ sb n f m0) hc hn) m_Sb_50 a1 rfl rfl rfl rfl (Nat.le_of_ble_eq_true rfl) ⟨by decide, by decide⟩ ⟨by decide, by decide⟩ d_Sb_append_2 (kR (h := h) fun a1 h1 q1 => ?_)
  refine rz_pop d_Sb_append_5 rfl ?_
  refine rz_aload_n 0 d_Sb_append_6 rfl rfl ?_
  exact rz_areturn (st := []) (r := some sb) rfl (Or.inl ⟨_, rfl⟩) d_Sb_append_7 ⟨by decide, by decide⟩ ⟨sb, rfl, q1.2.1, q1.2.2⟩
abbrev rm_Ab_setLength : Room := { frames := 4, cells := 1, slots := 34, locals := 110 }
set_option maxRecDepth 100000 in
set_option maxHeartbeats 4000000 in
theorem c_Ab_setLength {l : Launch} {Γ : rz_G} {h : rz_H} {sb n : Nat} {f : Int → Int} {m0 : Int} (hs : SbC Γ h sb n f m0) {f' : Int → Int} : Ct l Γ x_Ab_setLength y_Ab_setLength rm_Ab_setLength [.ref sb, vi 0] h (pV (fun h' => SbC Γ h' sb 0 f' 0 ∧ rz_fr [31, 32] h h')) := by
  refine rz_met (by decide) rfl rfl (Nat.le_of_ble_eq_true rfl) (fun K _ => ?_)
  refine rz_Leq [(0, .ref sb), (1, vi 0)] rfl ?_
  obtain ⟨va0, cap0, k0, g0, ml0, a1, a2, a3, a4, a5, a6, a7, a8, a9⟩ := hs
  refine rz_iload_n 1 d_Ab_setLength_0 rfl rfl ?_
  refine rz_if_ge 13 d_Ab_setLength_1 (by decide) ⟨by decide, by decide⟩ (fun c1 => ?_) (fun c1 => absurd c1 (by decide))
  refine rz_aload_n 0 d_Ab_setLength_13 rfl rfl ?_
  refine rz_iload_n 1 d_Ab_setLength_14 rfl rfl ?_
  refine rz_callV (As := [vi 0]) (c_Ab_ensureCapacityInternal (⟨va0, cap0, k0, g0, ml0, a1, a2, a3, a4, a5, a6, a7, a8, a9⟩ : SbC Γ _ sb n f m0) (m := 0) (by omega)) m_Ab_100 a1 rfl rfl rfl rfl (Nat.le_of_ble_eq_true rfl) ⟨by decide, by decide⟩ ⟨by decide, by decide⟩ d_Ab_setLength_15 (kV (h := h) fun h1 q1 => ?_)
  obtain ⟨⟨va1, cap1, k1, g1, ml1, s11, s21, s31, s41, s51, s61, s71, s81, s91⟩, G1⟩ := q1
  have F2 : rz_fr [31, 32] h h1 := rz_fr.rf.tr (G1.mono (by decide))
  refine rz_aload_n 0 d_Ab_setLength_18 rfl rfl ?_
  refine rz_getf f_Ab_79 s11 rfl d_Ab_setLength_19 ?_
  refine rz_iload_n 1 d_Ab_setLength_22 rfl rfl ?_
  refine rz_icmp_ge 63 d_Ab_setLength_23 (by decide) (by omega) ⟨by decide, by decide⟩ (fun c23 => ?_) (fun c23 => absurd c23 (by omega))
  refine rz_aload_n 0 d_Ab_setLength_63 rfl rfl ?_
  refine rz_getf f_Ab_79 s11 rfl d_Ab_setLength_64 ?_
  refine rz_iload_n 1 d_Ab_setLength_67 rfl rfl ?_
  refine rz_icmp_le 76 d_Ab_setLength_68 (by decide) (by omega) ⟨by decide, by decide⟩ (fun c68 => ?_) (fun c68 => ?_)
  · refine rz_aload_n 0 d_Ab_setLength_76 rfl rfl ?_
    refine rz_iload_n 1 d_Ab_setLength_77 rfl rfl ?_
    refine rz_putf (fp_Ab_79 _) s11 (show (31 : Nat) ≠ 0 by decide) rfl rfl (show 3 < 4 by decide) d_Ab_setLength_78 ?_
    refine rz_nm fun h3 eh3 => ?_
    have g3 : rz_fr [31] h1 h3 := by rw [eh3]; exact rz_fr.one s11
    have F4 : rz_fr [31, 32] h h3 := F2.tr (g3.mono (by decide))
    have fc_5_0 : h3 va1 = some ((32, k1), aI Γ 2 cap1 g1) := g3 _ _ _ s21 (show 32 ∉ ([31] : List Nat) by decide)
    have fu_3 : h3 sb = some ((31, 0), .inr (1, [.ref va1, vi 0, vi ml1, vi 0])) := by rw [eh3]; exact rz_up_s _ _ _
    exact rz_return (st := []) rfl d_Ab_setLength_81 ⟨by decide, by decide⟩ ⟨rfl, ⟨va1, cap1, k1, g1, ml1, fu_3, fc_5_0, s31, by omega, by omega, by omega, fun j p q => absurd q (by simp; omega), s81, s91⟩, F4⟩
  · refine rz_aload_n 0 d_Ab_setLength_71 rfl rfl ?_
    refine rz_iconst d_Ab_setLength_72 ?_
    refine rz_putf (fp_Ab_73 _) s11 (show (31 : Nat) ≠ 0 by decide) rfl rfl (show 2 < 4 by decide) d_Ab_setLength_73 ?_
    refine rz_nm fun h6 eh6 => ?_
    have g6 : rz_fr [31] h1 h6 := by rw [eh6]; exact rz_fr.one s11
    have F7 : rz_fr [31, 32] h h6 := F2.tr (g6.mono (by decide))
    have fc_8_0 : h6 va1 = some ((32, k1), aI Γ 2 cap1 g1) := g6 _ _ _ s21 (show 32 ∉ ([31] : List Nat) by decide)
    have fu_6 : h6 sb = some ((31, 0), .inr (1, [.ref va1, vi 0, vi 1, vi (n : Int)])) := by rw [eh6]; exact rz_up_s _ _ _
    refine rz_aload_n 0 d_Ab_setLength_76 rfl rfl ?_
    refine rz_iload_n 1 d_Ab_setLength_77 rfl rfl ?_
    refine rz_putf (fp_Ab_79 _) fu_6 (show (31 : Nat) ≠ 0 by decide) rfl rfl (show 3 < 4 by decide) d_Ab_setLength_78 ?_
    refine rz_nm fun h9 eh9 => ?_
    have g9 : rz_fr [31] h6 h9 := by rw [eh9]; exact rz_fr.one fu_6
    have F10 : rz_fr [31, 32] h h9 := F7.tr (g9.mono (by decide))
    have fc_11_0 : h9 va1 = some ((32, k1), aI Γ 2 cap1 g1) := g9 _ _ _ fc_8_0 (show 32 ∉ ([31] : List Nat) by decide)
    have fu_9 : h9 sb = some ((31, 0), .inr (1, [.ref va1, vi 0, vi 1, vi 0])) := by rw [eh9]; exact rz_up_s _ _ _
    exact rz_return (st := []) rfl d_Ab_setLength_81 ⟨by decide, by decide⟩ ⟨rfl, ⟨va1, cap1, k1, g1, 1, fu_9, fc_11_0, s31, by omega, by omega, by omega, fun j p q => absurd q (by simp; omega), s81, Or.inr rfl⟩, F10⟩
abbrev rm_Sb_setLength : Room := { frames := 5, cells := 1, slots := 34, locals := 131 }
set_option maxRecDepth 100000 in
set_option maxHeartbeats 4000000 in
theorem c_Sb_setLength {l : Launch} {Γ : rz_G} {h : rz_H} {sb n : Nat} {f : Int → Int} {m0 : Int} (hs : SbC Γ h sb n f m0) {f' : Int → Int} : Ct l Γ x_Sb_setLength y_Sb_setLength rm_Sb_setLength [.ref sb, vi 0] h (pV (fun h' => SbC Γ h' sb 0 f' 0 ∧ rz_fr [31, 32] h h')) := by
  refine rz_met (by decide) rfl rfl (Nat.le_of_ble_eq_true rfl) (fun K _ => ?_)
  refine rz_Leq [(0, .ref sb), (1, vi 0)] rfl ?_
  obtain ⟨va0, cap0, k0, g0, ml0, a1, a2, a3, a4, a5, a6, a7, a8, a9⟩ := hs
  refine rz_aload_n 0 d_Sb_setLength_0 rfl rfl ?_
  refine rz_iload_n 1 d_Sb_setLength_1 rfl rfl ?_
  refine rz_callSU (As := [vi 0]) (c_Ab_setLength (⟨va0, cap0, k0, g0, ml0, a1, a2, a3, a4, a5, a6, a7, a8, a9⟩ : SbC Γ _ sb n f m0) (f' := f')) m_Sb_333 a1 rfl rfl rfl rfl (Nat.le_of_ble_eq_true rfl) ⟨by decide, by decide⟩ ⟨by decide, by decide⟩ d_Sb_setLength_2 (kV (h := h) fun h1 q1 => ?_)
  exact rz_return (st := []) rfl d_Sb_setLength_5 ⟨by decide, by decide⟩ ⟨rfl, q1⟩
abbrev rm_St_init3 : Room := { frames := 3, cells := 1, slots := 34, locals := 86 }
set_option maxRecDepth 100000 in
set_option maxHeartbeats 4000000 in
theorem c_St_init3 {l : Launch} {Γ : rz_G} {h : rz_H} {s : Nat} (hs0 : h s = some ((1, 0), .inr (0, [.null, vi 0, vi 0, vi 0]))) {sb n : Nat} {f : Int → Int} {m0 : Int} (hs : SbC Γ h sb n f m0) : Ct l Γ x_St_init3 y_St_init3 rm_St_init3 [.ref s, .ref sb, .null] h (pV (fun h' => StrAt Γ h' s n f 1 ∧ rz_fo s h h')) := by
  refine rz_met (by decide) rfl rfl (Nat.le_of_ble_eq_true rfl) (fun K _ => ?_)
  refine rz_Leq [(0, .ref s), (1, .ref sb), (2, .null)] rfl ?_
  obtain ⟨va0, cap0, k0, g0, ml0, a1, a2, a3, a4, a5, a6, a7, a8, a9⟩ := hs
  refine rz_aload_n 0 d_St_init3_0 rfl rfl ?_
  refine rz_objInit oi_St oi_i oi_c (Nat.le_of_ble_eq_true rfl) (by decide) d_St_init3_1 ?_
  refine rz_aload_n 1 d_St_init3_4 rfl rfl ?_
  refine rz_callV (As := []) (c_Ab_getValue a1) m_St_552 a1 rfl rfl rfl rfl (Nat.le_of_ble_eq_true rfl) ⟨by decide, by decide⟩ ⟨by decide, by decide⟩ d_St_init3_5 (kR (h := h) fun av1 h1 q1 => ?_)
  rw [q1.1, q1.2]
  refine rz_astore_n [(3, .ref va0), (0, .ref s), (1, .ref sb), (2, .null)] d_St_init3_8 rfl (by decide) rfl ?_
  refine rz_aload_n 2 d_St_init3_9 rfl rfl ?_
  refine rz_callU (As := []) (c_Sb_length a1) m_St_549 a1 rfl rfl rfl rfl (Nat.le_of_ble_eq_true rfl) ⟨by decide, by decide⟩ ⟨by decide, by decide⟩ d_St_init3_10 (kE (h := h) ?_)
  refine rz_istore [(4, vi (n : Int)), (3, .ref va0), (0, .ref s), (1, .ref sb), (2, .null)] d_St_init3_13 (by decide) rfl ?_
  refine rz_aload_n 3 d_St_init3_15 rfl rfl ?_
  refine rz_callV (As := []) (c_Ab_isLatin1 a1) m_St_1047 a1 rfl rfl rfl rfl (Nat.le_of_ble_eq_true rfl) ⟨by decide, by decide⟩ ⟨by decide, by decide⟩ d_St_init3_16 (kE (h := h) ?_)
  refine rz_if_eq 41 d_St_init3_19 (by decide) ⟨by decide, by decide⟩ (fun c19 => absurd c19 (by decide)) (fun c19 => ?_)
  refine rz_aload_n 2 d_St_init3_22 rfl rfl ?_
  refine rz_iconst d_St_init3_23 ?_
  refine rz_putf (fp_St_15) hs0 (show (1 : Nat) ≠ 0 by decide) rfl rfl (show 1 < 4 by decide) d_St_init3_24 ?_
  refine rz_nm fun h2 eh2 => ?_
  have g2 : rz_fr [1] h h2 := by rw [eh2]; exact rz_fr.one hs0
  have F3 : rz_fo s h h2 := by rw [eh2]; exact rz_fo.rf.up
  have fc_4_0 : h2 sb = some ((31, 0), .inr (1, [.ref va0, vi 0, vi ml0, vi (n : Int)])) := g2 _ _ _ a1 (show 31 ∉ ([1] : List Nat) by decide)
  have fc_4_1 : h2 va0 = some ((32, k0), aI Γ 2 cap0 g0) := g2 _ _ _ a2 (show 32 ∉ ([1] : List Nat) by decide)
  have fu_2 : h2 s = some ((1, 0), .inr (0, [.null, vi 0, vi 0, vi 0])) := by rw [eh2]; exact rz_up_s _ _ _
  refine rz_aload_n 2 d_St_init3_27 rfl rfl ?_
  refine rz_aload_n 1 d_St_init3_28 rfl rfl ?_
  refine rz_iconst d_St_init3_29 ?_
  refine rz_iload 0 d_St_init3_30 rfl ?_
  refine rz_callS (As := [.ref va0, vi 0, vi (n : Int)]) (c_Ar_copyOfRange fc_4_1 (by simp) (by omega) (i := 0) (N := n) (by omega) (by omega) (by omega) (fun j p q => a8 j p q)) m_St_54 rfl rfl (Nat.le_of_ble_eq_true rfl) ⟨by decide, by decide⟩ ⟨by decide, by decide⟩ d_St_init3_32 (kR (h := h2) fun b5 h5 q5 => ?_)
  obtain ⟨g5, fb5, eg5, G5⟩ := q5
  have F6 : rz_fo s h h5 := F3.fr G5
  have fc_7_0 : h5 sb = some ((31, 0), .inr (1, [.ref va0, vi 0, vi ml0, vi (n : Int)])) := G5 _ _ _ fc_4_0 (by simp)
  have fc_7_1 : h5 va0 = some ((32, k0), aI Γ 2 cap0 g0) := G5 _ _ _ fc_4_1 (by simp)
  have fc_7_2 : h5 s = some ((1, 0), .inr (0, [.null, vi 0, vi 0, vi 0])) := G5 _ _ _ fu_2 (by simp)
  refine rz_putf (fp_St_9) fc_7_2 (show (1 : Nat) ≠ 0 by decide) rfl rfl (show 0 < 4 by decide) d_St_init3_35 ?_
  refine rz_nm fun h8 eh8 => ?_
  have g8 : rz_fr [1] h5 h8 := by rw [eh8]; exact rz_fr.one fc_7_2
  have F9 : rz_fo s h h8 := by rw [eh8]; exact F6.up
  have fc_10_0 : h8 sb = some ((31, 0), .inr (1, [.ref va0, vi 0, vi ml0, vi (n : Int)])) := g8 _ _ _ fc_7_0 (show 31 ∉ ([1] : List Nat) by decide)
  have fc_10_1 : h8 va0 = some ((32, k0), aI Γ 2 cap0 g0) := g8 _ _ _ fc_7_1 (show 32 ∉ ([1] : List Nat) by decide)
  have fc_10_2 : h8 b5 = some ((2, 0), aI Γ 2 n g5) := g8 _ _ _ fb5 (show 2 ∉ ([1] : List Nat) by decide)
  have fu_8 : h8 s = some ((1, 0), .inr (0, [.ref b5, vi 0, vi 0, vi 0])) := by rw [eh8]; exact rz_up_s _ _ _
  refine rz_goto 97 d_St_init3_38 (by decide) ?_
  exact rz_return (st := []) rfl d_St_init3_97 ⟨by decide, by decide⟩ ⟨rfl, ⟨_, _, b5, _, g5, fu_8, by decide, rfl, rfl, fc_10_2, by decide, (fun z => absurd z (by decide)), ⟨by omega, fun j p q => (a7 j p q).2⟩, fun j p q => by rw [eg5 j p q, (a7 _ (by omega) (by omega)).1]; congr 1; omega⟩, F9⟩
abbrev rm_St_init2 : Room := { frames := 4, cells := 1, slots := 34, locals := 110 }
set_option maxRecDepth 100000 in
set_option maxHeartbeats 4000000 in
theorem c_St_init2 {l : Launch} {Γ : rz_G} {h : rz_H} {s : Nat} (hs0 : h s = some ((1, 0), .inr (0, [.null, vi 0, vi 0, vi 0]))) {sb n : Nat} {f : Int → Int} {m0 : Int} (hs : SbC Γ h sb n f m0) : Ct l Γ x_St_init2 y_St_init2 rm_St_init2 [.ref s, .ref sb] h (pV (fun h' => StrAt Γ h' s n f 1 ∧ rz_fo s h h')) := by
  refine rz_met (by decide) rfl rfl (Nat.le_of_ble_eq_true rfl) (fun K _ => ?_)
  refine rz_Leq [(0, .ref s), (1, .ref sb)] rfl ?_
  refine rz_aload_n 0 d_St_init2_0 rfl rfl ?_
  refine rz_aload_n 1 d_St_init2_1 rfl rfl ?_
  refine rz_null d_St_init2_2 ?_
  refine rz_callI (As := [.ref sb, .null]) (c_St_init3 hs0 hs) m_St_489 rfl rfl (Nat.le_of_ble_eq_true rfl) ⟨by decide, by decide⟩ ⟨by decide, by decide⟩ d_St_init2_3 (kV (h := h) fun h1 q1 => ?_)
  exact rz_return (st := []) rfl d_St_init2_6 ⟨by decide, by decide⟩ ⟨rfl, q1⟩
abbrev rm_Sb_toString : Room := { frames := 5, cells := 2, slots := 38, locals := 131 }
set_option maxRecDepth 100000 in
set_option maxHeartbeats 4000000 in
theorem c_Sb_toString {l : Launch} {Γ : rz_G} {h : rz_H} {sb n : Nat} {f : Int → Int} {m0 : Int} (hs : SbC Γ h sb n f m0) : Ct l Γ x_Sb_toString y_Sb_toString rm_Sb_toString [.ref sb] h (pR (fun s h' => StrAt Γ h' s n f 1 ∧ rz_fr [] h h')) := by
  refine rz_met (by decide) rfl rfl (Nat.le_of_ble_eq_true rfl) (fun K _ => ?_)
  refine rz_Leq [(0, .ref sb)] rfl ?_
  refine rz_new (ci := 0) (q0 := ("java/lang/String", k_T0, 4)) (1, 0) (show (1 : Nat) ≠ 0 by decide) rfl rfl cl_Sb_18 ⟨by decide, by decide⟩ d_Sb_toString_0 (fun q1 zq1 => ?_)
  refine rz_nm fun h2 eh2 => ?_
  have g2 : rz_fr [] h h2 := by rw [eh2]; exact rz_fr.nw zq1
  have fn_2 : h2 q1 = some ((1, 0), .inr (0, [.null, vi 0, vi 0, vi 0])) := by rw [eh2]; exact rz_up_s _ _ _
  refine rz_dup d_Sb_toString_3 rfl ?_
  refine rz_aload_n 0 d_Sb_toString_4 rfl rfl ?_
  refine rz_callI (As := [.ref sb]) (c_St_init2 fn_2 (hs.fr g2 (by decide) (by decide))) m_Sb_137 rfl rfl (Nat.le_of_ble_eq_true rfl) ⟨by decide, by decide⟩ ⟨by decide, by decide⟩ d_Sb_toString_5 (kV (h := h2) fun h4 q4 => ?_)
  obtain ⟨t4, G4⟩ := q4
  rw [eh2] at G4
  exact rz_areturn (st := []) (r := some q1) rfl (Or.inl ⟨_, rfl⟩) d_Sb_toString_8 ⟨by decide, by decide⟩ ⟨q1, rfl, t4, rz_fo.fr0 zq1 G4⟩

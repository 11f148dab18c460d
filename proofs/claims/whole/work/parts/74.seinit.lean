/-! the beginning of the search's tables -/
def rwAt (Γ : rz_G) (h : rz_H) (ti N K : Nat) (r : Nat → Nat) : Prop := ∀ i, i < N → h (r i) = some ((ti, i), aI Γ 0 K (fun _ => 0))
theorem rwAt.fr {Γ : rz_G} {h h' : rz_H} {ti N K : Nat} {r : Nat → Nat} {rs : List Nat} (ha : rwAt Γ h ti N K r) (hf : rz_fr rs h h') (hr : ti ∉ rs) : rwAt Γ h' ti N K r := fun i q => hf _ _ _ (ha i q) hr
abbrev oF (N : Nat) (r : Nat → Nat) : Int → Option Nat := fun j => if 0 ≤ j ∧ j < (N : Int) then some (r j.toNat) else none
theorem SeAt.mk {Γ : rz_G} {h : rz_H} {se a0 a1 a2 a3 a4 a5 a8 : Nat} {r0 r2 r8 : Nat → Nat} (h0 : h se = some ((40, 0), .inr (4, [.ref a0, .ref a1, .ref a2, .ref a3, .ref a4, .ref a5, vi 0, vi 0, .ref a8])))
    (o0 : h a0 = some ((60, 0), aR Γ 6 6 (oF 6 r0))) (o2 : h a2 = some ((62, 0), aR Γ 6 30 (oF 30 r2))) (o8 : h a8 = some ((68, 0), aR Γ 6 7 (oF 7 r8)))
    (w0 : rwAt Γ h 50 6 5 r0) (w2 : rwAt Γ h 52 30 6 r2) (w8 : rwAt Γ h 58 7 6 r8)
    (f1 : h a1 = some ((51, 0), aI Γ 0 6 (fun _ => 0))) (f3 : h a3 = some ((53, 0), aI Γ 0 30 (fun _ => 0))) (f4 : h a4 = some ((54, 0), aI Γ 0 4 (fun _ => 0))) (f5 : h a5 = some ((55, 0), aI Γ 0 4 (fun _ => 0))) : ∃ B S, SeAt Γ h se B S := by
  refine ⟨fun c i => if c = 20 then a0 else if c = 1 then a1 else if c = 22 then a2 else if c = 3 then a3 else if c = 4 then a4 else if c = 5 then a5 else if c = 28 then a8 else if c = 0 then r0 i.toNat else if c = 2 then r2 i.toNat else r8 i.toNat, fun _ _ _ => 0, h0, fun q hq => ?_, fun q hq i a b => ?_⟩
  · simp only [se_O, List.mem_cons, List.not_mem_nil, or_false] at hq
    rcases hq with rfl | rfl | rfl
    · exact ⟨_, o0, fun i a b => if_pos ⟨a, b⟩⟩
    · exact ⟨_, o2, fun i a b => if_pos ⟨a, b⟩⟩
    · exact ⟨_, o8, fun i a b => if_pos ⟨a, b⟩⟩
  · simp only [se_L, List.mem_cons, List.not_mem_nil, or_false] at hq
    rcases hq with rfl | rfl | rfl | rfl | rfl | rfl | rfl
    · exact w0 i.toNat (by have : i < 6 := b; omega)
    · have : i = 0 := by have : i < 1 := b; omega
      subst this; exact f1
    · exact w2 i.toNat (by have : i < 30 := b; omega)
    · have : i = 0 := by have : i < 1 := b; omega
      subst this; exact f3
    · have : i = 0 := by have : i < 1 := b; omega
      subst this; exact f4
    · have : i = 0 := by have : i < 1 := b; omega
      subst this; exact f5
    · exact w8 i.toNat (by have : i < 7 := b; omega)
abbrev rm_Se_init : Room := { frames := 1, cells := 50, slots := 339, locals := 24 }
set_option maxRecDepth 100000 in
set_option maxHeartbeats 4000000 in
theorem c_Se_init {l : Launch} {Γ : rz_G} {h : rz_H} {se : Nat} (hx : h se = some ((40, 0), .inr (4, [.null, .null, .null, .null, .null, .null, vi 0, vi 0, .null]))) : Ct l Γ x_Se_init y_Se_init rm_Se_init [.ref se] h (pV (fun h' => (∃ B S, SeAt Γ h' se B S) ∧ rz_fo se h h')) := by
  refine rz_met (by decide) rfl rfl (Nat.le_of_ble_eq_true rfl) (fun K _ => ?_)
  refine rz_Leq [(0, .ref se)] rfl ?_
  refine rz_aload_n 0 d_Se_init_0 rfl rfl ?_
  refine rz_objInit oi_Se oi_i oi_c (Nat.le_of_ble_eq_true rfl) (by decide) d_Se_init_1 ?_
  refine rz_aload_n 0 d_Se_init_4 rfl rfl ?_
  refine rz_bipush (v := 6) d_Se_init_5 (by decide) ?_
  refine rz_iconst d_Se_init_7 ?_
  refine rz_mna 6 5 (60, 0) 50 (by decide) (by decide) cl_Se_11 aw_int rfl rfl (by decide) ⟨by decide, by decide⟩ d_Se_init_8 (fun q1 r1 h1 _ _ fq1 fr1 g1 => ?_)
  have F2 : rz_fo se h h1 := rz_fo.rf.fr g1
  have fc_3_0 : h1 se = some ((40, 0), .inr (4, [.null, .null, .null, .null, .null, .null, vi 0, vi 0, .null])) := g1 _ _ _ hx (by simp)
  have rw1 : rwAt Γ h1 50 6 5 r1 := fr1
  refine rz_putf (fp_Se_13) fc_3_0 (show (40 : Nat) ≠ 0 by decide) rfl rfl (show 0 < 9 by decide) d_Se_init_12 ?_
  refine rz_nm fun h4 eh4 => ?_
  have g4 : rz_fr [40] h1 h4 := by rw [eh4]; exact rz_fr.one fc_3_0
  have F5 : rz_fo se h h4 := by rw [eh4]; exact F2.up
  have fc_6_0 : h4 q1 = some ((60, 0), aR Γ 6 6 (oF 6 r1)) := g4 _ _ _ fq1 (show 60 ∉ ([40] : List Nat) by decide)
  have rw1_6 : rwAt Γ h4 50 6 5 r1 := rwAt.fr rw1 g4 (by decide)
  have fu_4 : h4 se = some ((40, 0), .inr (4, [.ref q1, .null, .null, .null, .null, .null, vi 0, vi 0, .null])) := by rw [eh4]; exact rz_up_s _ _ _
  refine rz_aload_n 0 d_Se_init_15 rfl rfl ?_
  refine rz_bipush (v := 6) d_Se_init_16 (by decide) ?_
  refine rz_newI 6 (51, 0) (show (51 : Nat) ≠ 0 by decide) aw_int rfl (by decide) ⟨by decide, by decide⟩ d_Se_init_18 (fun q7 zq7 => ?_)
  refine rz_nm fun h8 eh8 => ?_
  have g8 : rz_fr [] h4 h8 := by rw [eh8]; exact rz_fr.nw zq7
  have z8 : h q7 = none := F5.nn zq7 (rz_ne zq7 fu_4)
  have F9 : rz_fo se h h8 := F5.fr g8
  have fc_10_0 : h8 q1 = some ((60, 0), aR Γ 6 6 (oF 6 r1)) := g8 _ _ _ fc_6_0 (by simp)
  have fc_10_1 : h8 se = some ((40, 0), .inr (4, [.ref q1, .null, .null, .null, .null, .null, vi 0, vi 0, .null])) := g8 _ _ _ fu_4 (by simp)
  have rw1_10 : rwAt Γ h8 50 6 5 r1 := rwAt.fr rw1_6 g8 (by decide)
  have fn_8 : h8 q7 = some ((51, 0), aI Γ 0 6 (fun _ => 0)) := by rw [eh8]; exact rz_up_s _ _ _
  refine rz_putf (fp_Se_16) fc_10_1 (show (40 : Nat) ≠ 0 by decide) rfl rfl (show 1 < 9 by decide) d_Se_init_20 ?_
  refine rz_nm fun h11 eh11 => ?_
  have g11 : rz_fr [40] h8 h11 := by rw [eh11]; exact rz_fr.one fc_10_1
  have F12 : rz_fo se h h11 := by rw [eh11]; exact F9.up
  have fc_13_0 : h11 q1 = some ((60, 0), aR Γ 6 6 (oF 6 r1)) := g11 _ _ _ fc_10_0 (show 60 ∉ ([40] : List Nat) by decide)
  have fc_13_1 : h11 q7 = some ((51, 0), aI Γ 0 6 (fun _ => 0)) := g11 _ _ _ fn_8 (show 51 ∉ ([40] : List Nat) by decide)
  have rw1_13 : rwAt Γ h11 50 6 5 r1 := rwAt.fr rw1_10 g11 (by decide)
  have fu_11 : h11 se = some ((40, 0), .inr (4, [.ref q1, .ref q7, .null, .null, .null, .null, vi 0, vi 0, .null])) := by rw [eh11]; exact rz_up_s _ _ _
  refine rz_aload_n 0 d_Se_init_23 rfl rfl ?_
  refine rz_bipush (v := 30) d_Se_init_24 (by decide) ?_
  refine rz_bipush (v := 6) d_Se_init_26 (by decide) ?_
  refine rz_mna 30 6 (62, 0) 52 (by decide) (by decide) cl_Se_11 aw_int rfl rfl (by decide) ⟨by decide, by decide⟩ d_Se_init_28 (fun q14 r14 h14 _ _ fq14 fr14 g14 => ?_)
  have F15 : rz_fo se h h14 := F12.fr g14
  have fc_16_0 : h14 q1 = some ((60, 0), aR Γ 6 6 (oF 6 r1)) := g14 _ _ _ fc_13_0 (by simp)
  have fc_16_1 : h14 q7 = some ((51, 0), aI Γ 0 6 (fun _ => 0)) := g14 _ _ _ fc_13_1 (by simp)
  have fc_16_2 : h14 se = some ((40, 0), .inr (4, [.ref q1, .ref q7, .null, .null, .null, .null, vi 0, vi 0, .null])) := g14 _ _ _ fu_11 (by simp)
  have rw1_16 : rwAt Γ h14 50 6 5 r1 := rwAt.fr rw1_13 g14 (by decide)
  have rw14 : rwAt Γ h14 52 30 6 r14 := fr14
  refine rz_putf (fp_Se_20) fc_16_2 (show (40 : Nat) ≠ 0 by decide) rfl rfl (show 2 < 9 by decide) d_Se_init_32 ?_
  refine rz_nm fun h17 eh17 => ?_
  have g17 : rz_fr [40] h14 h17 := by rw [eh17]; exact rz_fr.one fc_16_2
  have F18 : rz_fo se h h17 := by rw [eh17]; exact F15.up
  have fc_19_0 : h17 q1 = some ((60, 0), aR Γ 6 6 (oF 6 r1)) := g17 _ _ _ fc_16_0 (show 60 ∉ ([40] : List Nat) by decide)
  have fc_19_1 : h17 q7 = some ((51, 0), aI Γ 0 6 (fun _ => 0)) := g17 _ _ _ fc_16_1 (show 51 ∉ ([40] : List Nat) by decide)
  have fc_19_2 : h17 q14 = some ((62, 0), aR Γ 6 30 (oF 30 r14)) := g17 _ _ _ fq14 (show 62 ∉ ([40] : List Nat) by decide)
  have rw1_19 : rwAt Γ h17 50 6 5 r1 := rwAt.fr rw1_16 g17 (by decide)
  have rw14_19 : rwAt Γ h17 52 30 6 r14 := rwAt.fr rw14 g17 (by decide)
  have fu_17 : h17 se = some ((40, 0), .inr (4, [.ref q1, .ref q7, .ref q14, .null, .null, .null, vi 0, vi 0, .null])) := by rw [eh17]; exact rz_up_s _ _ _
  refine rz_aload_n 0 d_Se_init_35 rfl rfl ?_
  refine rz_bipush (v := 30) d_Se_init_36 (by decide) ?_
  refine rz_newI 30 (53, 0) (show (53 : Nat) ≠ 0 by decide) aw_int rfl (by decide) ⟨by decide, by decide⟩ d_Se_init_38 (fun q20 zq20 => ?_)
  refine rz_nm fun h21 eh21 => ?_
  have g21 : rz_fr [] h17 h21 := by rw [eh21]; exact rz_fr.nw zq20
  have z21 : h q20 = none := F18.nn zq20 (rz_ne zq20 fu_17)
  have F22 : rz_fo se h h21 := F18.fr g21
  have fc_23_0 : h21 q1 = some ((60, 0), aR Γ 6 6 (oF 6 r1)) := g21 _ _ _ fc_19_0 (by simp)
  have fc_23_1 : h21 q7 = some ((51, 0), aI Γ 0 6 (fun _ => 0)) := g21 _ _ _ fc_19_1 (by simp)
  have fc_23_2 : h21 q14 = some ((62, 0), aR Γ 6 30 (oF 30 r14)) := g21 _ _ _ fc_19_2 (by simp)
  have fc_23_3 : h21 se = some ((40, 0), .inr (4, [.ref q1, .ref q7, .ref q14, .null, .null, .null, vi 0, vi 0, .null])) := g21 _ _ _ fu_17 (by simp)
  have rw1_23 : rwAt Γ h21 50 6 5 r1 := rwAt.fr rw1_19 g21 (by decide)
  have rw14_23 : rwAt Γ h21 52 30 6 r14 := rwAt.fr rw14_19 g21 (by decide)
  have fn_21 : h21 q20 = some ((53, 0), aI Γ 0 30 (fun _ => 0)) := by rw [eh21]; exact rz_up_s _ _ _
  refine rz_putf (fp_Se_23) fc_23_3 (show (40 : Nat) ≠ 0 by decide) rfl rfl (show 3 < 9 by decide) d_Se_init_40 ?_
  refine rz_nm fun h24 eh24 => ?_
  have g24 : rz_fr [40] h21 h24 := by rw [eh24]; exact rz_fr.one fc_23_3
  have F25 : rz_fo se h h24 := by rw [eh24]; exact F22.up
  have fc_26_0 : h24 q1 = some ((60, 0), aR Γ 6 6 (oF 6 r1)) := g24 _ _ _ fc_23_0 (show 60 ∉ ([40] : List Nat) by decide)
  have fc_26_1 : h24 q7 = some ((51, 0), aI Γ 0 6 (fun _ => 0)) := g24 _ _ _ fc_23_1 (show 51 ∉ ([40] : List Nat) by decide)
  have fc_26_2 : h24 q14 = some ((62, 0), aR Γ 6 30 (oF 30 r14)) := g24 _ _ _ fc_23_2 (show 62 ∉ ([40] : List Nat) by decide)
  have fc_26_3 : h24 q20 = some ((53, 0), aI Γ 0 30 (fun _ => 0)) := g24 _ _ _ fn_21 (show 53 ∉ ([40] : List Nat) by decide)
  have rw1_26 : rwAt Γ h24 50 6 5 r1 := rwAt.fr rw1_23 g24 (by decide)
  have rw14_26 : rwAt Γ h24 52 30 6 r14 := rwAt.fr rw14_23 g24 (by decide)
  have fu_24 : h24 se = some ((40, 0), .inr (4, [.ref q1, .ref q7, .ref q14, .ref q20, .null, .null, vi 0, vi 0, .null])) := by rw [eh24]; exact rz_up_s _ _ _
  refine rz_aload_n 0 d_Se_init_43 rfl rfl ?_
  refine rz_iconst d_Se_init_44 ?_
  refine rz_newI 4 (54, 0) (show (54 : Nat) ≠ 0 by decide) aw_int rfl (by decide) ⟨by decide, by decide⟩ d_Se_init_45 (fun q27 zq27 => ?_)
  refine rz_nm fun h28 eh28 => ?_
  have g28 : rz_fr [] h24 h28 := by rw [eh28]; exact rz_fr.nw zq27
  have z28 : h q27 = none := F25.nn zq27 (rz_ne zq27 fu_24)
  have F29 : rz_fo se h h28 := F25.fr g28
  have fc_30_0 : h28 q1 = some ((60, 0), aR Γ 6 6 (oF 6 r1)) := g28 _ _ _ fc_26_0 (by simp)
  have fc_30_1 : h28 q7 = some ((51, 0), aI Γ 0 6 (fun _ => 0)) := g28 _ _ _ fc_26_1 (by simp)
  have fc_30_2 : h28 q14 = some ((62, 0), aR Γ 6 30 (oF 30 r14)) := g28 _ _ _ fc_26_2 (by simp)
  have fc_30_3 : h28 q20 = some ((53, 0), aI Γ 0 30 (fun _ => 0)) := g28 _ _ _ fc_26_3 (by simp)
  have fc_30_4 : h28 se = some ((40, 0), .inr (4, [.ref q1, .ref q7, .ref q14, .ref q20, .null, .null, vi 0, vi 0, .null])) := g28 _ _ _ fu_24 (by simp)
  have rw1_30 : rwAt Γ h28 50 6 5 r1 := rwAt.fr rw1_26 g28 (by decide)
  have rw14_30 : rwAt Γ h28 52 30 6 r14 := rwAt.fr rw14_26 g28 (by decide)
  have fn_28 : h28 q27 = some ((54, 0), aI Γ 0 4 (fun _ => 0)) := by rw [eh28]; exact rz_up_s _ _ _
  refine rz_putf (fp_Se_26) fc_30_4 (show (40 : Nat) ≠ 0 by decide) rfl rfl (show 4 < 9 by decide) d_Se_init_47 ?_
  refine rz_nm fun h31 eh31 => ?_
  have g31 : rz_fr [40] h28 h31 := by rw [eh31]; exact rz_fr.one fc_30_4
  have F32 : rz_fo se h h31 := by rw [eh31]; exact F29.up
  have fc_33_0 : h31 q1 = some ((60, 0), aR Γ 6 6 (oF 6 r1)) := g31 _ _ _ fc_30_0 (show 60 ∉ ([40] : List Nat) by decide)
  have fc_33_1 : h31 q7 = some ((51, 0), aI Γ 0 6 (fun _ => 0)) := g31 _ _ _ fc_30_1 (show 51 ∉ ([40] : List Nat) by decide)
  have fc_33_2 : h31 q14 = some ((62, 0), aR Γ 6 30 (oF 30 r14)) := g31 _ _ _ fc_30_2 (show 62 ∉ ([40] : List Nat) by decide)
  have fc_33_3 : h31 q20 = some ((53, 0), aI Γ 0 30 (fun _ => 0)) := g31 _ _ _ fc_30_3 (show 53 ∉ ([40] : List Nat) by decide)
  have fc_33_4 : h31 q27 = some ((54, 0), aI Γ 0 4 (fun _ => 0)) := g31 _ _ _ fn_28 (show 54 ∉ ([40] : List Nat) by decide)
  have rw1_33 : rwAt Γ h31 50 6 5 r1 := rwAt.fr rw1_30 g31 (by decide)
  have rw14_33 : rwAt Γ h31 52 30 6 r14 := rwAt.fr rw14_30 g31 (by decide)
  have fu_31 : h31 se = some ((40, 0), .inr (4, [.ref q1, .ref q7, .ref q14, .ref q20, .ref q27, .null, vi 0, vi 0, .null])) := by rw [eh31]; exact rz_up_s _ _ _
  refine rz_aload_n 0 d_Se_init_50 rfl rfl ?_
  refine rz_iconst d_Se_init_51 ?_
  refine rz_newI 4 (55, 0) (show (55 : Nat) ≠ 0 by decide) aw_int rfl (by decide) ⟨by decide, by decide⟩ d_Se_init_52 (fun q34 zq34 => ?_)
  refine rz_nm fun h35 eh35 => ?_
  have g35 : rz_fr [] h31 h35 := by rw [eh35]; exact rz_fr.nw zq34
  have z35 : h q34 = none := F32.nn zq34 (rz_ne zq34 fu_31)
  have F36 : rz_fo se h h35 := F32.fr g35
  have fc_37_0 : h35 q1 = some ((60, 0), aR Γ 6 6 (oF 6 r1)) := g35 _ _ _ fc_33_0 (by simp)
  have fc_37_1 : h35 q7 = some ((51, 0), aI Γ 0 6 (fun _ => 0)) := g35 _ _ _ fc_33_1 (by simp)
  have fc_37_2 : h35 q14 = some ((62, 0), aR Γ 6 30 (oF 30 r14)) := g35 _ _ _ fc_33_2 (by simp)
  have fc_37_3 : h35 q20 = some ((53, 0), aI Γ 0 30 (fun _ => 0)) := g35 _ _ _ fc_33_3 (by simp)
  have fc_37_4 : h35 q27 = some ((54, 0), aI Γ 0 4 (fun _ => 0)) := g35 _ _ _ fc_33_4 (by simp)
  have fc_37_5 : h35 se = some ((40, 0), .inr (4, [.ref q1, .ref q7, .ref q14, .ref q20, .ref q27, .null, vi 0, vi 0, .null])) := g35 _ _ _ fu_31 (by simp)
  have rw1_37 : rwAt Γ h35 50 6 5 r1 := rwAt.fr rw1_33 g35 (by decide)
  have rw14_37 : rwAt Γ h35 52 30 6 r14 := rwAt.fr rw14_33 g35 (by decide)
  have fn_35 : h35 q34 = some ((55, 0), aI Γ 0 4 (fun _ => 0)) := by rw [eh35]; exact rz_up_s _ _ _
  refine rz_putf (fp_Se_29) fc_37_5 (show (40 : Nat) ≠ 0 by decide) rfl rfl (show 5 < 9 by decide) d_Se_init_54 ?_
  refine rz_nm fun h38 eh38 => ?_
  have g38 : rz_fr [40] h35 h38 := by rw [eh38]; exact rz_fr.one fc_37_5
  have F39 : rz_fo se h h38 := by rw [eh38]; exact F36.up
  have fc_40_0 : h38 q1 = some ((60, 0), aR Γ 6 6 (oF 6 r1)) := g38 _ _ _ fc_37_0 (show 60 ∉ ([40] : List Nat) by decide)
  have fc_40_1 : h38 q7 = some ((51, 0), aI Γ 0 6 (fun _ => 0)) := g38 _ _ _ fc_37_1 (show 51 ∉ ([40] : List Nat) by decide)
  have fc_40_2 : h38 q14 = some ((62, 0), aR Γ 6 30 (oF 30 r14)) := g38 _ _ _ fc_37_2 (show 62 ∉ ([40] : List Nat) by decide)
  have fc_40_3 : h38 q20 = some ((53, 0), aI Γ 0 30 (fun _ => 0)) := g38 _ _ _ fc_37_3 (show 53 ∉ ([40] : List Nat) by decide)
  have fc_40_4 : h38 q27 = some ((54, 0), aI Γ 0 4 (fun _ => 0)) := g38 _ _ _ fc_37_4 (show 54 ∉ ([40] : List Nat) by decide)
  have fc_40_5 : h38 q34 = some ((55, 0), aI Γ 0 4 (fun _ => 0)) := g38 _ _ _ fn_35 (show 55 ∉ ([40] : List Nat) by decide)
  have rw1_40 : rwAt Γ h38 50 6 5 r1 := rwAt.fr rw1_37 g38 (by decide)
  have rw14_40 : rwAt Γ h38 52 30 6 r14 := rwAt.fr rw14_37 g38 (by decide)
  have fu_38 : h38 se = some ((40, 0), .inr (4, [.ref q1, .ref q7, .ref q14, .ref q20, .ref q27, .ref q34, vi 0, vi 0, .null])) := by rw [eh38]; exact rz_up_s _ _ _
  refine rz_aload_n 0 d_Se_init_57 rfl rfl ?_
  refine rz_iconst d_Se_init_58 ?_
  refine rz_putf (fp_Se_32 _) fu_38 (show (40 : Nat) ≠ 0 by decide) rfl rfl (show 6 < 9 by decide) d_Se_init_59 ?_
  refine rz_nm fun h41 eh41 => ?_
  have g41 : rz_fr [40] h38 h41 := by rw [eh41]; exact rz_fr.one fu_38
  have F42 : rz_fo se h h41 := by rw [eh41]; exact F39.up
  have fc_43_0 : h41 q1 = some ((60, 0), aR Γ 6 6 (oF 6 r1)) := g41 _ _ _ fc_40_0 (show 60 ∉ ([40] : List Nat) by decide)
  have fc_43_1 : h41 q7 = some ((51, 0), aI Γ 0 6 (fun _ => 0)) := g41 _ _ _ fc_40_1 (show 51 ∉ ([40] : List Nat) by decide)
  have fc_43_2 : h41 q14 = some ((62, 0), aR Γ 6 30 (oF 30 r14)) := g41 _ _ _ fc_40_2 (show 62 ∉ ([40] : List Nat) by decide)
  have fc_43_3 : h41 q20 = some ((53, 0), aI Γ 0 30 (fun _ => 0)) := g41 _ _ _ fc_40_3 (show 53 ∉ ([40] : List Nat) by decide)
  have fc_43_4 : h41 q27 = some ((54, 0), aI Γ 0 4 (fun _ => 0)) := g41 _ _ _ fc_40_4 (show 54 ∉ ([40] : List Nat) by decide)
  have fc_43_5 : h41 q34 = some ((55, 0), aI Γ 0 4 (fun _ => 0)) := g41 _ _ _ fc_40_5 (show 55 ∉ ([40] : List Nat) by decide)
  have rw1_43 : rwAt Γ h41 50 6 5 r1 := rwAt.fr rw1_40 g41 (by decide)
  have rw14_43 : rwAt Γ h41 52 30 6 r14 := rwAt.fr rw14_40 g41 (by decide)
  have fu_41 : h41 se = some ((40, 0), .inr (4, [.ref q1, .ref q7, .ref q14, .ref q20, .ref q27, .ref q34, vi 0, vi 0, .null])) := by rw [eh41]; exact rz_up_s _ _ _
  refine rz_aload_n 0 d_Se_init_62 rfl rfl ?_
  refine rz_iconst d_Se_init_63 ?_
  refine rz_putf (fp_Se_36 _) fu_41 (show (40 : Nat) ≠ 0 by decide) rfl rfl (show 7 < 9 by decide) d_Se_init_64 ?_
  refine rz_nm fun h44 eh44 => ?_
  have g44 : rz_fr [40] h41 h44 := by rw [eh44]; exact rz_fr.one fu_41
  have F45 : rz_fo se h h44 := by rw [eh44]; exact F42.up
  have fc_46_0 : h44 q1 = some ((60, 0), aR Γ 6 6 (oF 6 r1)) := g44 _ _ _ fc_43_0 (show 60 ∉ ([40] : List Nat) by decide)
  have fc_46_1 : h44 q7 = some ((51, 0), aI Γ 0 6 (fun _ => 0)) := g44 _ _ _ fc_43_1 (show 51 ∉ ([40] : List Nat) by decide)
  have fc_46_2 : h44 q14 = some ((62, 0), aR Γ 6 30 (oF 30 r14)) := g44 _ _ _ fc_43_2 (show 62 ∉ ([40] : List Nat) by decide)
  have fc_46_3 : h44 q20 = some ((53, 0), aI Γ 0 30 (fun _ => 0)) := g44 _ _ _ fc_43_3 (show 53 ∉ ([40] : List Nat) by decide)
  have fc_46_4 : h44 q27 = some ((54, 0), aI Γ 0 4 (fun _ => 0)) := g44 _ _ _ fc_43_4 (show 54 ∉ ([40] : List Nat) by decide)
  have fc_46_5 : h44 q34 = some ((55, 0), aI Γ 0 4 (fun _ => 0)) := g44 _ _ _ fc_43_5 (show 55 ∉ ([40] : List Nat) by decide)
  have rw1_46 : rwAt Γ h44 50 6 5 r1 := rwAt.fr rw1_43 g44 (by decide)
  have rw14_46 : rwAt Γ h44 52 30 6 r14 := rwAt.fr rw14_43 g44 (by decide)
  have fu_44 : h44 se = some ((40, 0), .inr (4, [.ref q1, .ref q7, .ref q14, .ref q20, .ref q27, .ref q34, vi 0, vi 0, .null])) := by rw [eh44]; exact rz_up_s _ _ _
  refine rz_aload_n 0 d_Se_init_67 rfl rfl ?_
  refine rz_bipush (v := 7) d_Se_init_68 (by decide) ?_
  refine rz_bipush (v := 6) d_Se_init_70 (by decide) ?_
  refine rz_mna 7 6 (68, 0) 58 (by decide) (by decide) cl_Se_11 aw_int rfl rfl (by decide) ⟨by decide, by decide⟩ d_Se_init_72 (fun q47 r47 h47 _ _ fq47 fr47 g47 => ?_)
  have F48 : rz_fo se h h47 := F45.fr g47
  have fc_49_0 : h47 q1 = some ((60, 0), aR Γ 6 6 (oF 6 r1)) := g47 _ _ _ fc_46_0 (by simp)
  have fc_49_1 : h47 q7 = some ((51, 0), aI Γ 0 6 (fun _ => 0)) := g47 _ _ _ fc_46_1 (by simp)
  have fc_49_2 : h47 q14 = some ((62, 0), aR Γ 6 30 (oF 30 r14)) := g47 _ _ _ fc_46_2 (by simp)
  have fc_49_3 : h47 q20 = some ((53, 0), aI Γ 0 30 (fun _ => 0)) := g47 _ _ _ fc_46_3 (by simp)
  have fc_49_4 : h47 q27 = some ((54, 0), aI Γ 0 4 (fun _ => 0)) := g47 _ _ _ fc_46_4 (by simp)
  have fc_49_5 : h47 q34 = some ((55, 0), aI Γ 0 4 (fun _ => 0)) := g47 _ _ _ fc_46_5 (by simp)
  have fc_49_6 : h47 se = some ((40, 0), .inr (4, [.ref q1, .ref q7, .ref q14, .ref q20, .ref q27, .ref q34, vi 0, vi 0, .null])) := g47 _ _ _ fu_44 (by simp)
  have rw1_49 : rwAt Γ h47 50 6 5 r1 := rwAt.fr rw1_46 g47 (by decide)
  have rw14_49 : rwAt Γ h47 52 30 6 r14 := rwAt.fr rw14_46 g47 (by decide)
  have rw47 : rwAt Γ h47 58 7 6 r47 := fr47
  refine rz_putf (fp_Se_39) fc_49_6 (show (40 : Nat) ≠ 0 by decide) rfl rfl (show 8 < 9 by decide) d_Se_init_76 ?_
  refine rz_nm fun h50 eh50 => ?_
  have g50 : rz_fr [40] h47 h50 := by rw [eh50]; exact rz_fr.one fc_49_6
  have F51 : rz_fo se h h50 := by rw [eh50]; exact F48.up
  have fc_52_0 : h50 q1 = some ((60, 0), aR Γ 6 6 (oF 6 r1)) := g50 _ _ _ fc_49_0 (show 60 ∉ ([40] : List Nat) by decide)
  have fc_52_1 : h50 q7 = some ((51, 0), aI Γ 0 6 (fun _ => 0)) := g50 _ _ _ fc_49_1 (show 51 ∉ ([40] : List Nat) by decide)
  have fc_52_2 : h50 q14 = some ((62, 0), aR Γ 6 30 (oF 30 r14)) := g50 _ _ _ fc_49_2 (show 62 ∉ ([40] : List Nat) by decide)
  have fc_52_3 : h50 q20 = some ((53, 0), aI Γ 0 30 (fun _ => 0)) := g50 _ _ _ fc_49_3 (show 53 ∉ ([40] : List Nat) by decide)
  have fc_52_4 : h50 q27 = some ((54, 0), aI Γ 0 4 (fun _ => 0)) := g50 _ _ _ fc_49_4 (show 54 ∉ ([40] : List Nat) by decide)
  have fc_52_5 : h50 q34 = some ((55, 0), aI Γ 0 4 (fun _ => 0)) := g50 _ _ _ fc_49_5 (show 55 ∉ ([40] : List Nat) by decide)
  have fc_52_6 : h50 q47 = some ((68, 0), aR Γ 6 7 (oF 7 r47)) := g50 _ _ _ fq47 (show 68 ∉ ([40] : List Nat) by decide)
  have rw1_52 : rwAt Γ h50 50 6 5 r1 := rwAt.fr rw1_49 g50 (by decide)
  have rw14_52 : rwAt Γ h50 52 30 6 r14 := rwAt.fr rw14_49 g50 (by decide)
  have rw47_52 : rwAt Γ h50 58 7 6 r47 := rwAt.fr rw47 g50 (by decide)
  have fu_50 : h50 se = some ((40, 0), .inr (4, [.ref q1, .ref q7, .ref q14, .ref q20, .ref q27, .ref q34, vi 0, vi 0, .ref q47])) := by rw [eh50]; exact rz_up_s _ _ _
  exact rz_return (st := []) rfl d_Se_init_79 ⟨by decide, by decide⟩ ⟨rfl, SeAt.mk fu_50 fc_52_0 fc_52_2 fc_52_6 rw1_52 rw14_52 rw47_52 fc_52_1 fc_52_3 fc_52_4 fc_52_5, F51⟩

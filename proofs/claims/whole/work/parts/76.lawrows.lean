/-! the law: rows, links -/
abbrev x_law (nm : String) : rz_X := (code, "ReleaseSolverLaw", 4, ret, nm)
def lwP : Option Value → rz_H → Prop := fun v _ => v = some (vi 1)
/-- the script -/
def lwE (Γ : rz_G) (K : rz_K) (b Lx : Nat) (xs : Nat → Int32) : Prop := va_X b Lx xs K.2.2.2.1 K.2.2.2.1.heap ∧ b < K.2.2.2.1.heap.size ∧ ¬ rz_A Γ b
def sx (xs : Nat → Int32) (i : Int) : Int := (xs i.toNat).toInt
theorem sx_r (xs : Nat → Int32) (i : Int) : -2147483648 ≤ sx xs i ∧ sx xs i ≤ 2147483647 := by
  have h1 := (xs i.toNat).toInt_lt; have h2 := (xs i.toNat).le_toInt
  unfold sx
  omega
theorem rz_sld {Γ : rz_G} {X : rz_X} {rm : Room} {post : Option Value → rz_H → Prop} {K : rz_K} {cells slots pc : Nat} {L : List (Nat × Value)} {st : List Value} {h : rz_H} {b Lx : Nat} {xs : Nat → Int32} {i : Int} (E : lwE Γ K b Lx xs) (hi : 0 ≤ i ∧ i < (Lx : Int) ∧ i ≤ 2147483647) (hd : decode X.1 pc = .ok (.iaload, 1)) (kk : Wk Γ X rm post K cells slots (pc + 1) L (vi (sx xs i) :: st) h) : Wk Γ X rm post K cells slots pc L (vi i :: .ref b :: st) h := by
  intro C H locs ls hO hS hl
  refine va_sld C.1 C.2.1 E.1 E.2.1 E.2.2 hS (rz_in hi) hd ?_
  have e : Value.int (xs (Int32.ofInt i).toNatClampNeg) = vi (sx xs i) := by
    rw [rz_cl_i (by omega)]
    unfold sx vi
    rw [Int32.ofInt_toInt]
  rw [e]
  exact kk C H locs ls hO hS hl
theorem rz_slen {Γ : rz_G} {X : rz_X} {rm : Room} {post : Option Value → rz_H → Prop} {K : rz_K} {cells slots pc : Nat} {L : List (Nat × Value)} {st : List Value} {h : rz_H} {b Lx : Nat} {xs : Nat → Int32} (E : lwE Γ K b Lx xs) (hd : decode X.1 pc = .ok (.arraylength, 1)) (kk : Wk Γ X rm post K cells slots (pc + 1) L (vi (Lx : Int) :: st) h) : Wk Γ X rm post K cells slots pc L (.ref b :: st) h := by
  intro C H locs ls hO hS hl
  refine va_slen C.1 C.2.1 E.1 E.2.1 E.2.2 hS hd ?_
  have e : vi (Lx : Int) = Value.int (nI Lx) := by unfold nI; rw [← Int32.ofInt_eq_ofNat]
  rw [e] at kk
  exact kk C H locs ls hO hS hl
theorem rz_icmp_same {Γ : rz_G} {X : rz_X} {rm : Room} {post : Option Value → rz_H → Prop} {K : rz_K} {cells slots pc : Nat} {L : List (Nat × Value)} {st : List Value} {h : rz_H} {a off : Int} (tgt : Nat) (hd : decode X.1 pc = .ok (.if_icmp .eq off, 3)) (ht : (pc : Int) + off = (tgt : Int)) (kt : Wk Γ X rm post K cells slots tgt L st h) : Wk Γ X rm post K cells slots pc L (vi a :: vi a :: st) h :=
  fun C H locs ls hO hS hl => lv_icmp_eq C.1 C.2.1 hd ht (fun _ => kt C H locs ls hO hS hl) (fun q => absurd rfl q)
theorem and31 {a : Int} (ra : -2147483648 ≤ a ∧ a ≤ 2147483647) : Int32.ofInt a &&& Int32.ofInt 31 = Int32.ofInt (a % 32) := by
  rw [← Int32.toInt_inj, Kit.i32_mask _ _ (k := 5) (by decide) (by decide), rz_ti ra, rz_ti (by omega)]
  rfl
theorem lw_rm {c s k n : Nat} (hcs : c + 100 ≤ 600000 ∧ s + 2000 ≤ 7302250) (hk : k ≤ 100) (hn : n ≤ 2000) : c + k ≤ room_1.cells ∧ s + n ≤ room_1.slots := ⟨by show c + k ≤ 600000; omega, by show s + n ≤ 7302250; omega⟩
theorem RsAt.k {Γ : rz_G} {h : rz_H} {x : Nat} {A : Nat → Int → Nat} {B : Nat → Int → Nat} {S : Nat → Int → Int → Int} {M M' : Nat → Int → Int} {F : Int → Int → Int} (hR : RsAt Γ h x A B S M F) (hw : mWF M) (e : ∀ k, k ∉ [10, 11, 16, 17, 18, 19] → M' k = M k) : RsAt Γ h x A B S M' F := by
  obtain ⟨⟨bl, a1, a2⟩, b, c, d, se, f, ⟨g, g1, g2⟩, k⟩ := hR
  have at_ : ∀ t, mAt M' t = mAt M t := fun t => by
    funext i
    simp only [mAt, e 1 (by decide), e 0 (by decide)]
  have tx : ∀ t, txE M M' t := fun t => ⟨at_ t, by rw [e 1 (by decide)]⟩
  have eb : blF4 M' = blF4 M := by
    funext a
    simp only [blF4, e 13 (by decide), e 15 (by decide)]
  refine ⟨⟨bl, ?_, ?_⟩, ?_, PsAt.mv c hw (fun _ _ _ => rfl) (fun c hc => e c ((by decide : ∀ c ∈ [2, 3, 4, 5, 6, 7], c ∉ [10, 11, 16, 17, 18, 19]) c hc)) (fun t _ _ => tx t), AsAt.mv d hw (fun _ _ _ => rfl) (by rw [e 8 (by decide)]) (fun a _ _ => by rw [e 9 (by decide)]) (fun a _ _ => tx _), se, VeAt.t f (tx 1), ⟨g, g1, fun p p0 p1 => ?_⟩, k⟩
  · simpa only [rs_F, e 12 (by decide)] using a1
  · rw [eb]; exact a2
  · rw [e 1 (by decide), at_]; exact b
  · rw [g2 p p0 p1]
    simp only [slN, e 12 (by decide), e 14 (by decide)]
theorem RsAt.s2 {Γ : rz_G} {h : rz_H} {x : Nat} {A : Nat → Int → Nat} {B : Nat → Int → Nat} {S : Nat → Int → Int → Int} {M M' : Nat → Int → Int} {F : Int → Int → Int} (hR : RsAt Γ h x A B S M F) (hw : mWF M) (hs : mS2 M M') : RsAt Γ h x A B S M' F := hR.k hw (fun k hk => hs k (by rintro rfl; exact hk (by decide)) (by rintro rfl; exact hk (by decide)))
theorem RsAt.um {Γ : rz_G} {h : rz_H} {x : Nat} {A : Nat → Int → Nat} {B : Nat → Int → Nat} {S : Nat → Int → Int → Int} {M : Nat → Int → Int} {F : Int → Int → Int} (hR : RsAt Γ h x A B S M F) (hw : mWF M) : RsAt Γ h x A B S (sp_unmet M).2 F := by
  unfold sp_unmet
  split
  · exact hR
  · exact hR.k hw (fun k hk => mu_n (by rintro rfl; exact hk (by decide)))
theorem MdAt.fq {Γ : rz_G} {h h' : rz_H} {y : Nat} {ad : Nat → Nat} {M : Nat → Int → Int} (hM : MdAt Γ h y ad M) (hf : rz_fr CR h h') : MdAt Γ h' y ad M := ⟨hf _ _ _ hM.1 (show (10 : Nat) ∉ CR by decide), fun q hq => hf _ _ _ (hM.2 q hq) (show (11 : Nat) ∉ CR by decide)⟩
theorem Big.rank {M : Nat → Int → Int} {F : Int → Int → Int} (h : Big M F) (i : Int) : Big (sp_rank M i).2 F := by
  unfold sp_rank; split <;> exact h.use
theorem Big.within {M : Nat → Int → Int} {F : Int → Int → Int} (h : Big M F) (p r : Int) : Big (sp_within M p r).2 F := by
  unfold sp_within
  split
  · exact h
  · split <;> exact h.use
theorem m_Lw_9 : rz_mI "ReleaseSolverLaw" 9 y_Rs_init x_Rs_init 0 := ⟨Or.inl (rz_mem 75 (by decide +kernel) rfl), (rz_mem 76 (by decide +kernel) rfl), rfl, rfl, ⟨(rz_mem 49 (by decide +kernel) rfl), (rz_mem 77 (by decide +kernel) rfl), ⟨by decide, by decide⟩, by decide +kernel⟩⟩
theorem m_Lw_12 : rz_mI "ReleaseSolverLaw" 12 y_Md_init x_Md_init 0 := ⟨Or.inl (rz_mem 985 (by decide +kernel) rfl), (rz_mem 986 (by decide +kernel) rfl), rfl, rfl, ⟨(rz_mem 65 (by decide +kernel) rfl), (rz_mem 987 (by decide +kernel) rfl), ⟨by decide, by decide⟩, by decide +kernel⟩⟩
theorem m_Lw_13 : rz_mV "ReleaseSolverLaw" 13 "ReleaseSolver" y_Rs_write x_Rs_write 4 := ⟨Or.inl (rz_mem 416 (by decide +kernel) rfl), (rz_mem 417 (by decide +kernel) rfl), (rz_mem 418 (by decide +kernel) rfl), ⟨(rz_mem 49 (by decide +kernel) rfl), (rz_mem 419 (by decide +kernel) rfl), ⟨by decide, by decide⟩, by decide +kernel⟩⟩
theorem m_Lw_17 : rz_mV "ReleaseSolverLaw" 17 "ReleaseSolverModel" y_Md_write x_Md_write 4 := ⟨Or.inl (rz_mem 1051 (by decide +kernel) rfl), (rz_mem 1052 (by decide +kernel) rfl), (rz_mem 1053 (by decide +kernel) rfl), ⟨(rz_mem 65 (by decide +kernel) rfl), (rz_mem 1054 (by decide +kernel) rfl), ⟨by decide, by decide⟩, by decide +kernel⟩⟩
theorem m_Lw_18 : rz_mV "ReleaseSolverLaw" 18 "ReleaseSolver" y_Rs_wipe x_Rs_wipe 0 := ⟨Or.inl (rz_mem 493 (by decide +kernel) rfl), (rz_mem 494 (by decide +kernel) rfl), (rz_mem 495 (by decide +kernel) rfl), ⟨(rz_mem 49 (by decide +kernel) rfl), (rz_mem 496 (by decide +kernel) rfl), ⟨by decide, by decide⟩, by decide +kernel⟩⟩
theorem m_Lw_22 : rz_mV "ReleaseSolverLaw" 22 "ReleaseSolverModel" y_Md_wipe x_Md_wipe 0 := ⟨Or.inl (rz_mem 1071 (by decide +kernel) rfl), (rz_mem 1072 (by decide +kernel) rfl), (rz_mem 1073 (by decide +kernel) rfl), ⟨(rz_mem 65 (by decide +kernel) rfl), (rz_mem 1074 (by decide +kernel) rfl), ⟨by decide, by decide⟩, by decide +kernel⟩⟩
theorem m_Lw_23 : rz_mV "ReleaseSolverLaw" 23 "ReleaseSolver" y_Rs_release x_Rs_release 1 := ⟨Or.inl (rz_mem 517 (by decide +kernel) rfl), (rz_mem 518 (by decide +kernel) rfl), (rz_mem 519 (by decide +kernel) rfl), ⟨(rz_mem 49 (by decide +kernel) rfl), (rz_mem 520 (by decide +kernel) rfl), ⟨by decide, by decide⟩, by decide +kernel⟩⟩
theorem m_Lw_27 : rz_mV "ReleaseSolverLaw" 27 "ReleaseSolverModel" y_Md_release x_Md_release 1 := ⟨Or.inl (rz_mem 1075 (by decide +kernel) rfl), (rz_mem 1076 (by decide +kernel) rfl), (rz_mem 1077 (by decide +kernel) rfl), ⟨(rz_mem 65 (by decide +kernel) rfl), (rz_mem 1078 (by decide +kernel) rfl), ⟨by decide, by decide⟩, by decide +kernel⟩⟩
theorem m_Lw_28 : rz_mV "ReleaseSolverLaw" 28 "ReleaseSolver" y_Rs_need x_Rs_need 4 := ⟨Or.inl (rz_mem 663 (by decide +kernel) rfl), (rz_mem 664 (by decide +kernel) rfl), (rz_mem 665 (by decide +kernel) rfl), ⟨(rz_mem 49 (by decide +kernel) rfl), (rz_mem 666 (by decide +kernel) rfl), ⟨by decide, by decide⟩, by decide +kernel⟩⟩
theorem m_Lw_32 : rz_mV "ReleaseSolverLaw" 32 "ReleaseSolverModel" y_Md_need x_Md_need 4 := ⟨Or.inl (rz_mem 1142 (by decide +kernel) rfl), (rz_mem 1143 (by decide +kernel) rfl), (rz_mem 1144 (by decide +kernel) rfl), ⟨(rz_mem 65 (by decide +kernel) rfl), (rz_mem 1145 (by decide +kernel) rfl), ⟨by decide, by decide⟩, by decide +kernel⟩⟩
theorem m_Lw_33 : rz_mV "ReleaseSolverLaw" 33 "ReleaseSolver" y_Rs_needHost x_Rs_needHost 2 := ⟨Or.inl (rz_mem 783 (by decide +kernel) rfl), (rz_mem 784 (by decide +kernel) rfl), (rz_mem 785 (by decide +kernel) rfl), ⟨(rz_mem 49 (by decide +kernel) rfl), (rz_mem 786 (by decide +kernel) rfl), ⟨by decide, by decide⟩, by decide +kernel⟩⟩
theorem m_Lw_37 : rz_mV "ReleaseSolverLaw" 37 "ReleaseSolverModel" y_Md_needHost x_Md_needHost 2 := ⟨Or.inl (rz_mem 1158 (by decide +kernel) rfl), (rz_mem 1159 (by decide +kernel) rfl), (rz_mem 1160 (by decide +kernel) rfl), ⟨(rz_mem 65 (by decide +kernel) rfl), (rz_mem 1161 (by decide +kernel) rfl), ⟨by decide, by decide⟩, by decide +kernel⟩⟩
theorem m_Lw_38 : rz_mV "ReleaseSolverLaw" 38 "ReleaseSolver" y_Rs_withdraw x_Rs_withdraw 3 := ⟨Or.inl (rz_mem 788 (by decide +kernel) rfl), (rz_mem 789 (by decide +kernel) rfl), (rz_mem 790 (by decide +kernel) rfl), ⟨(rz_mem 49 (by decide +kernel) rfl), (rz_mem 791 (by decide +kernel) rfl), ⟨by decide, by decide⟩, by decide +kernel⟩⟩
theorem m_Lw_42 : rz_mV "ReleaseSolverLaw" 42 "ReleaseSolverModel" y_Md_withdraw x_Md_withdraw 3 := ⟨Or.inl (rz_mem 1162 (by decide +kernel) rfl), (rz_mem 1163 (by decide +kernel) rfl), (rz_mem 1164 (by decide +kernel) rfl), ⟨(rz_mem 65 (by decide +kernel) rfl), (rz_mem 1165 (by decide +kernel) rfl), ⟨by decide, by decide⟩, by decide +kernel⟩⟩
theorem m_Lw_43 : rz_mV "ReleaseSolverLaw" 43 "ReleaseSolver" y_Rs_host x_Rs_host 0 := ⟨Or.inl (rz_mem 792 (by decide +kernel) rfl), (rz_mem 793 (by decide +kernel) rfl), (rz_mem 794 (by decide +kernel) rfl), ⟨(rz_mem 49 (by decide +kernel) rfl), (rz_mem 795 (by decide +kernel) rfl), ⟨by decide, by decide⟩, by decide +kernel⟩⟩
theorem m_Lw_46 : rz_mV "ReleaseSolverLaw" 46 "ReleaseSolverModel" y_Md_host x_Md_host 0 := ⟨Or.inl (rz_mem 1166 (by decide +kernel) rfl), (rz_mem 1167 (by decide +kernel) rfl), (rz_mem 1168 (by decide +kernel) rfl), ⟨(rz_mem 65 (by decide +kernel) rfl), (rz_mem 1169 (by decide +kernel) rfl), ⟨by decide, by decide⟩, by decide +kernel⟩⟩
theorem m_Lw_47 : rz_mV "ReleaseSolverLaw" 47 "ReleaseSolver" y_Rs_ask x_Rs_ask 1 := ⟨Or.inl (rz_mem 796 (by decide +kernel) rfl), (rz_mem 797 (by decide +kernel) rfl), (rz_mem 798 (by decide +kernel) rfl), ⟨(rz_mem 49 (by decide +kernel) rfl), (rz_mem 799 (by decide +kernel) rfl), ⟨by decide, by decide⟩, by decide +kernel⟩⟩
theorem m_Lw_50 : rz_mV "ReleaseSolverLaw" 50 "ReleaseSolverModel" y_Md_ask x_Md_ask 1 := ⟨Or.inl (rz_mem 1170 (by decide +kernel) rfl), (rz_mem 1171 (by decide +kernel) rfl), (rz_mem 1172 (by decide +kernel) rfl), ⟨(rz_mem 65 (by decide +kernel) rfl), (rz_mem 1173 (by decide +kernel) rfl), ⟨by decide, by decide⟩, by decide +kernel⟩⟩
theorem m_Lw_51 : rz_mV "ReleaseSolverLaw" 51 "ReleaseSolver" y_Rs_unask x_Rs_unask 1 := ⟨Or.inl (rz_mem 817 (by decide +kernel) rfl), (rz_mem 818 (by decide +kernel) rfl), (rz_mem 819 (by decide +kernel) rfl), ⟨(rz_mem 49 (by decide +kernel) rfl), (rz_mem 820 (by decide +kernel) rfl), ⟨by decide, by decide⟩, by decide +kernel⟩⟩
theorem m_Lw_54 : rz_mV "ReleaseSolverLaw" 54 "ReleaseSolverModel" y_Md_unask x_Md_unask 1 := ⟨Or.inl (rz_mem 1174 (by decide +kernel) rfl), (rz_mem 1175 (by decide +kernel) rfl), (rz_mem 1176 (by decide +kernel) rfl), ⟨(rz_mem 65 (by decide +kernel) rfl), (rz_mem 1177 (by decide +kernel) rfl), ⟨by decide, by decide⟩, by decide +kernel⟩⟩
theorem m_Lw_55 : rz_mV "ReleaseSolverLaw" 55 "ReleaseSolver" y_Rs_compare x_Rs_compare 4 := ⟨Or.inl (rz_mem 830 (by decide +kernel) rfl), (rz_mem 831 (by decide +kernel) rfl), (rz_mem 832 (by decide +kernel) rfl), ⟨(rz_mem 49 (by decide +kernel) rfl), (rz_mem 833 (by decide +kernel) rfl), ⟨by decide, by decide⟩, by decide +kernel⟩⟩
theorem m_Lw_58 : rz_mV "ReleaseSolverLaw" 58 "ReleaseSolverModel" y_Md_compare x_Md_compare 4 := ⟨Or.inl (rz_mem 1178 (by decide +kernel) rfl), (rz_mem 1179 (by decide +kernel) rfl), (rz_mem 1180 (by decide +kernel) rfl), ⟨(rz_mem 65 (by decide +kernel) rfl), (rz_mem 1181 (by decide +kernel) rfl), ⟨by decide, by decide⟩, by decide +kernel⟩⟩
theorem m_Lw_59 : rz_mV "ReleaseSolverLaw" 59 "ReleaseSolver" y_Rs_rank x_Rs_rank 1 := ⟨Or.inl (rz_mem 835 (by decide +kernel) rfl), (rz_mem 836 (by decide +kernel) rfl), (rz_mem 837 (by decide +kernel) rfl), ⟨(rz_mem 49 (by decide +kernel) rfl), (rz_mem 838 (by decide +kernel) rfl), ⟨by decide, by decide⟩, by decide +kernel⟩⟩
theorem m_Lw_62 : rz_mV "ReleaseSolverLaw" 62 "ReleaseSolverModel" y_Md_rank x_Md_rank 1 := ⟨Or.inl (rz_mem 1186 (by decide +kernel) rfl), (rz_mem 1187 (by decide +kernel) rfl), (rz_mem 1188 (by decide +kernel) rfl), ⟨(rz_mem 65 (by decide +kernel) rfl), (rz_mem 1189 (by decide +kernel) rfl), ⟨by decide, by decide⟩, by decide +kernel⟩⟩
theorem m_Lw_63 : rz_mV "ReleaseSolverLaw" 63 "ReleaseSolver" y_Rs_within x_Rs_within 2 := ⟨Or.inl (rz_mem 843 (by decide +kernel) rfl), (rz_mem 844 (by decide +kernel) rfl), (rz_mem 845 (by decide +kernel) rfl), ⟨(rz_mem 49 (by decide +kernel) rfl), (rz_mem 846 (by decide +kernel) rfl), ⟨by decide, by decide⟩, by decide +kernel⟩⟩
theorem m_Lw_66 : rz_mV "ReleaseSolverLaw" 66 "ReleaseSolverModel" y_Md_within x_Md_within 2 := ⟨Or.inl (rz_mem 1190 (by decide +kernel) rfl), (rz_mem 1191 (by decide +kernel) rfl), (rz_mem 1192 (by decide +kernel) rfl), ⟨(rz_mem 65 (by decide +kernel) rfl), (rz_mem 1193 (by decide +kernel) rfl), ⟨by decide, by decide⟩, by decide +kernel⟩⟩
theorem m_Lw_67 : rz_mV "ReleaseSolverLaw" 67 "ReleaseSolver" y_Rs_solve x_Rs_solve 0 := ⟨Or.inl (rz_mem 852 (by decide +kernel) rfl), (rz_mem 853 (by decide +kernel) rfl), (rz_mem 854 (by decide +kernel) rfl), ⟨(rz_mem 49 (by decide +kernel) rfl), (rz_mem 855 (by decide +kernel) rfl), ⟨by decide, by decide⟩, by decide +kernel⟩⟩
theorem m_Lw_70 : rz_mV "ReleaseSolverLaw" 70 "ReleaseSolverModel" y_Md_solve x_Md_solve 0 := ⟨Or.inl (rz_mem 1198 (by decide +kernel) rfl), (rz_mem 1199 (by decide +kernel) rfl), (rz_mem 1200 (by decide +kernel) rfl), ⟨(rz_mem 65 (by decide +kernel) rfl), (rz_mem 1201 (by decide +kernel) rfl), ⟨by decide, by decide⟩, by decide +kernel⟩⟩
theorem m_Lw_71 : rz_mV "ReleaseSolverLaw" 71 "ReleaseSolver" y_Rs_chosen x_Rs_chosen 1 := ⟨Or.inl (rz_mem 940 (by decide +kernel) rfl), (rz_mem 941 (by decide +kernel) rfl), (rz_mem 942 (by decide +kernel) rfl), ⟨(rz_mem 49 (by decide +kernel) rfl), (rz_mem 943 (by decide +kernel) rfl), ⟨by decide, by decide⟩, by decide +kernel⟩⟩
theorem m_Lw_74 : rz_mV "ReleaseSolverLaw" 74 "ReleaseSolverModel" y_Md_chosen x_Md_chosen 1 := ⟨Or.inl (rz_mem 1234 (by decide +kernel) rfl), (rz_mem 1235 (by decide +kernel) rfl), (rz_mem 1236 (by decide +kernel) rfl), ⟨(rz_mem 65 (by decide +kernel) rfl), (rz_mem 1237 (by decide +kernel) rfl), ⟨by decide, by decide⟩, by decide +kernel⟩⟩
theorem m_Lw_75 : rz_mV "ReleaseSolverLaw" 75 "ReleaseSolver" y_Rs_blamed x_Rs_blamed 1 := ⟨Or.inl (rz_mem 944 (by decide +kernel) rfl), (rz_mem 945 (by decide +kernel) rfl), (rz_mem 946 (by decide +kernel) rfl), ⟨(rz_mem 49 (by decide +kernel) rfl), (rz_mem 947 (by decide +kernel) rfl), ⟨by decide, by decide⟩, by decide +kernel⟩⟩
theorem m_Lw_79 : rz_mV "ReleaseSolverLaw" 79 "ReleaseSolverModel" y_Md_blamed x_Md_blamed 1 := ⟨Or.inl (rz_mem 1238 (by decide +kernel) rfl), (rz_mem 1239 (by decide +kernel) rfl), (rz_mem 1240 (by decide +kernel) rfl), ⟨(rz_mem 65 (by decide +kernel) rfl), (rz_mem 1241 (by decide +kernel) rfl), ⟨by decide, by decide⟩, by decide +kernel⟩⟩
theorem m_Lw_80 : rz_mV "ReleaseSolverLaw" 80 "ReleaseSolver" y_Rs_unmet x_Rs_unmet 0 := ⟨Or.inl (rz_mem 949 (by decide +kernel) rfl), (rz_mem 950 (by decide +kernel) rfl), (rz_mem 951 (by decide +kernel) rfl), ⟨(rz_mem 49 (by decide +kernel) rfl), (rz_mem 952 (by decide +kernel) rfl), ⟨by decide, by decide⟩, by decide +kernel⟩⟩
theorem m_Lw_83 : rz_mV "ReleaseSolverLaw" 83 "ReleaseSolverModel" y_Md_unmet x_Md_unmet 0 := ⟨Or.inl (rz_mem 1242 (by decide +kernel) rfl), (rz_mem 1243 (by decide +kernel) rfl), (rz_mem 1244 (by decide +kernel) rfl), ⟨(rz_mem 65 (by decide +kernel) rfl), (rz_mem 1245 (by decide +kernel) rfl), ⟨by decide, by decide⟩, by decide +kernel⟩⟩
theorem m_Lw_84 : rz_mV "ReleaseSolverLaw" 84 "ReleaseSolver" y_Rs_count x_Rs_count 1 := ⟨Or.inl (rz_mem 958 (by decide +kernel) rfl), (rz_mem 959 (by decide +kernel) rfl), (rz_mem 960 (by decide +kernel) rfl), ⟨(rz_mem 49 (by decide +kernel) rfl), (rz_mem 961 (by decide +kernel) rfl), ⟨by decide, by decide⟩, by decide +kernel⟩⟩
theorem m_Lw_87 : rz_mV "ReleaseSolverLaw" 87 "ReleaseSolverModel" y_Md_count x_Md_count 1 := ⟨Or.inl (rz_mem 1246 (by decide +kernel) rfl), (rz_mem 1247 (by decide +kernel) rfl), (rz_mem 1248 (by decide +kernel) rfl), ⟨(rz_mem 65 (by decide +kernel) rfl), (rz_mem 1249 (by decide +kernel) rfl), ⟨by decide, by decide⟩, by decide +kernel⟩⟩
theorem cl_Lw_7 : Cond.classLink "ReleaseSolverLaw" 7 "ReleaseSolver" ∈ rz_W := (rz_mem 73 (by decide +kernel) rfl)
theorem cl_Lw_10 : Cond.classLink "ReleaseSolverLaw" 10 "ReleaseSolverModel" ∈ rz_W := (rz_mem 983 (by decide +kernel) rfl)

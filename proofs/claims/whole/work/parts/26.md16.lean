/-! the reference: allLed -/
def cOK (M : Nat → Int → Int) : Prop := ∀ a, 0 ≤ a → a < 4 → M 10 a = 0 ∨ M 10 a = 1
theorem mu_self (M : Nat → Int → Int) (k : Nat) : mu M k (M k) = M := by
  funext j
  unfold mu
  split
  · rename_i e; rw [e]
  · rfl
def eq6 (l l' : Int → Int) : Prop := ∀ q, 0 ≤ q → q < 6 → l q = l' q
theorem eq6_u {l l' : Int → Int} (h : eq6 l l') (i v : Int) : eq6 (rz_u l i v) (rz_u l' i v) := fun q a b => by
  by_cases e : q = i
  · rw [e, rz_u_s, rz_u_s]
  · rw [rz_u_n e, rz_u_n e]; exact h q a b
theorem ldA_s (M : Nat → Int → Int) {a : Int} (ha : 0 ≤ a) : ldA M (a + 1).toNat = if M 10 a = 0 then ldA M a.toNat else rz_u (ldA M a.toNat) (M 9 a) 1 := by
  rw [show (a + 1).toNat = a.toNat + 1 by omega]
  simp only [ldA, show ((a.toNat : Nat) : Int) = a by omega]
theorem ldB_s (M : Nat → Int → Int) (l0 : Int → Int) {j : Int} (hj : 0 ≤ j) : ldB M l0 (j + 1).toNat = if ldB M l0 j.toNat (j / 3 % 6) = 0 ∨ M 11 (j / 3 % 6) < 0 ∨ M 5 (4 * (j / 3 % 6) + M 11 (j / 3 % 6)) ≤ j % 3 ∨ ¬ M 7 (3 * (4 * (j / 3 % 6) + M 11 (j / 3 % 6)) + j % 3) = 0 then ldB M l0 j.toNat else rz_u (ldB M l0 j.toNat) (M 6 (3 * (4 * (j / 3 % 6) + M 11 (j / 3 % 6)) + j % 3)) 1 := by
  rw [show (j + 1).toNat = j.toNat + 1 by omega]
  simp only [ldB, show ((j.toNat : Nat) : Int) = j by omega]
def b6 (l : Int → Int) : Prop := ∀ q, 0 ≤ q → q < 6 → l q = 0 ∨ l q = 1
theorem b6_u {l : Int → Int} (h : b6 l) (i : Int) {v : Int} (hv : v = 0 ∨ v = 1) : b6 (rz_u l i v) := fun q a b => by
  by_cases e : q = i
  · rw [e, rz_u_s]; exact hv
  · rw [rz_u_n e]; exact h q a b
theorem zu {l : Int → Int} {p : Int} (h : ∀ q, 0 ≤ q → q < p → l q = 0) : ∀ q, 0 ≤ q → q < p + 1 → rz_u l p 0 q = 0 := fun q a b => by
  by_cases e : q = p
  · rw [e, rz_u_s]
  · rw [rz_u_n e]; exact h q a (by omega)
abbrev rm_Md_allLed : Room := { frames := 1, cells := 0, slots := 0, locals := 21 }
set_option maxRecDepth 100000 in
set_option maxHeartbeats 4000000 in
theorem c_Md_allLed {l : Launch} {Γ : rz_G} {h : rz_H} {x : Nat} {ad : Nat → Nat} {M : Nat → Int → Int} (hM : MdAt Γ h x ad M) (hw : mWF M) (hno : nowOK M) (hco : cOK M) : Ct l Γ x_Md_allLed y_Md_allLed rm_Md_allLed [.ref x] h (pI (fun r h' => r = bi (ledP M) ∧ ∃ M', MdAt Γ h' x ad M' ∧ mSk [16] M M' ∧ rz_fr [10, 11] h h')) := by
  refine rz_met (by decide) rfl rfl (Nat.le_of_ble_eq_true rfl) (fun K _ => ?_)
  refine rz_Leq [(0, .ref x)] rfl ?_
  have l8 := hw.2.2.2.2.2.1
  refine rz_iconst d_Md_allLed_0 ?_
  refine rz_istore_n [(1, vi 0), (0, .ref x)] d_Md_allLed_1 rfl (by decide) rfl ?_
  refine rz_loop (α := Int × rz_H × (Int → Int)) 0 0 2 (fun (p, hA, lA) => (6 - p).toNat) (fun (p, hA, lA) => 0 ≤ p ∧ p ≤ 6 ∧ MdAt Γ hA x ad (mu M 16 lA) ∧ rz_fr [10, 11] h hA ∧ (∀ q, 0 ≤ q → q < p → lA q = 0)) (fun (p, hA, lA) => [(1, vi p), (0, .ref x)]) (fun (p, hA, lA) => []) (fun (p, hA, lA) => hA) (fun y hy ih2 => ?_) (fun LP => ?_)
  · obtain ⟨p, hA, lA⟩ := y
    try dsimp only at hy ih2 ⊢
    obtain ⟨hp0, hp1, hMA, hFA, hz⟩ := hy
    refine rz_iload_n 0 d_Md_allLed_2 rfl rfl ?_
    refine rz_bipush (v := 6) d_Md_allLed_3 (by decide) ?_
    refine rz_icmp_ge 21 d_Md_allLed_5 (by decide) (by omega) ⟨by decide, by decide⟩ (fun c5 => ?_) (fun c5 => ?_)
    · refine rz_iconst d_Md_allLed_21 ?_
      refine rz_istore_n [(1, vi 0), (0, .ref x)] d_Md_allLed_22 rfl (by decide) rfl ?_
      refine rz_loop (α := Int × rz_H × (Int → Int)) 0 0 23 (fun (a, hB, lB) => (M 8 0 - a).toNat) (fun (a, hB, lB) => 0 ≤ a ∧ a ≤ M 8 0 ∧ MdAt Γ hB x ad (mu M 16 lB) ∧ rz_fr [10, 11] h hB ∧ b6 lB ∧ eq6 lB (ldA M a.toNat)) (fun (a, hB, lB) => [(1, vi a), (0, .ref x)]) (fun (a, hB, lB) => []) (fun (a, hB, lB) => hB) (fun y hy ih23 => ?_) (fun LP => ?_)
      · obtain ⟨a, hB, lB⟩ := y
        try dsimp only at hy ih23 ⊢
        obtain ⟨ha0, ha1, hMB, hFB, hb, he⟩ := hy
        refine rz_iload_n 0 d_Md_allLed_23 rfl rfl ?_
        refine rz_aload_n 1 d_Md_allLed_24 rfl rfl ?_
        refine rz_getf f_Md_167 hMB.1 rfl d_Md_allLed_25 ?_
        refine rz_Seq [vi (M 8 0), vi a] rfl ?_
        refine rz_icmp_ge 58 d_Md_allLed_28 (by decide) (by omega) (by omega) (fun c28 => ?_) (fun c28 => ?_)
        · refine rz_iconst d_Md_allLed_58 ?_
          refine rz_istore_n [(1, vi 0), (0, .ref x)] d_Md_allLed_59 rfl (by decide) rfl ?_
          refine rz_loop (α := Int × rz_H × (Int → Int)) 0 0 60 (fun (j, hC, lC) => (108 - j).toNat) (fun (j, hC, lC) => 0 ≤ j ∧ j ≤ 108 ∧ MdAt Γ hC x ad (mu M 16 lC) ∧ rz_fr [10, 11] h hC ∧ b6 lC ∧ eq6 lC (ldB M (ldA M (M 8 0).toNat) j.toNat)) (fun (j, hC, lC) => [(1, vi j), (0, .ref x)]) (fun (j, hC, lC) => []) (fun (j, hC, lC) => hC) (fun y hy ih60 => ?_) (fun LP => ?_)
          · obtain ⟨j, hC, lC⟩ := y
            try dsimp only at hy ih60 ⊢
            obtain ⟨hj0, hj1, hMC, hFC, hb, he⟩ := hy
            refine rz_iload_n 0 d_Md_allLed_60 rfl rfl ?_
            refine rz_bipush (v := 108) d_Md_allLed_61 (by decide) ?_
            refine rz_icmp_ge 149 d_Md_allLed_63 (by decide) (by omega) ⟨by decide, by decide⟩ (fun c63 => ?_) (fun c63 => ?_)
            · refine rz_iconst d_Md_allLed_149 ?_
              refine rz_istore_n [(1, vi 0), (0, .ref x)] d_Md_allLed_150 rfl (by decide) rfl ?_
              refine rz_loop (α := Int) 0 0 151 (fun p => (6 - p).toNat) (fun p => 0 ≤ p ∧ p ≤ 6 ∧ ldF M lC 6 0 = ldF M lC (6 - p).toNat p) (fun p => [(1, vi p), (0, .ref x)]) (fun p => []) (fun p => hC) (fun y hy ih151 => ?_) (fun LP => ?_)
              · obtain ⟨p, rfl⟩ : ∃ z, z = y := ⟨_, rfl⟩
                try dsimp only at hy ih151 ⊢
                obtain ⟨hp0, hp1, hv⟩ := hy
                refine rz_iload_n 0 d_Md_allLed_151 rfl rfl ?_
                refine rz_bipush (v := 6) d_Md_allLed_152 (by decide) ?_
                refine rz_icmp_ge 183 d_Md_allLed_154 (by decide) (by omega) ⟨by decide, by decide⟩ (fun c154 => ?_) (fun c154 => ?_)
                · refine rz_iconst d_Md_allLed_183 ?_
                  exact rz_zreturn (st := []) (ty := .boolean) rfl rfl d_Md_allLed_184 ⟨by decide, by decide⟩ ⟨_, rfl, bi1 (by rw [ledP, ldE, ← ldF_c M 6 0 (by omega) (by omega) (show eq6 lC _ from by have e : j = 108 := (by omega); rw [e] at he; exact he), hv, show (6 - p).toNat = 0 by omega]; rfl), _, hMC, mSk.rf.mu (by decide) _, hFC⟩
                · have lb := hb p (by omega) (by omega)
                  have l11 := hno p (by omega) (by omega)
                  have l2 := hw.2.2.1 p (by omega) (by omega)
                  refine rz_aload_n 1 d_Md_allLed_157 rfl rfl ?_
                  refine rz_getf f_Md_41 hMC.1 rfl d_Md_allLed_158 ?_
                  refine rz_iload_n 0 d_Md_allLed_161 rfl rfl ?_
                  refine rz_iaload (md_a11 hMC) (by decide) (by omega) d_Md_allLed_162 ?_
                  refine rz_Seq [vi (M 11 p)] rfl ?_
                  refine rz_if_lt 177 d_Md_allLed_163 (by decide) (by omega) (fun c163 => ?_) (fun c163 => ?_)
                  · refine rz_iinc (p + 1) 0 [(1, vi (p + 1)), (0, .ref x)] d_Md_allLed_177 rfl (by first | rfl | omega) (by decide) rfl ?_
                    refine rz_goto 151 d_Md_allLed_180 (by decide) ?_
                    refine rz_Lsub [(1, vi (p + 1)), (0, .ref x)] [0, 1] rfl ?_
                    refine ih151 (p + 1) ?_ ?_
                    · try dsimp only
                      exact ⟨by omega, by omega, (by rw [hv, ldF_e _ _ (by omega), if_neg (by omega)]; congr 1; omega)⟩
                    · exact (by first | omega | (dsimp only; omega))
                  · refine rz_aload_n 1 d_Md_allLed_166 rfl rfl ?_
                    refine rz_getf f_Md_50 hMC.1 rfl d_Md_allLed_167 ?_
                    refine rz_iload_n 0 d_Md_allLed_170 rfl rfl ?_
                    refine rz_zaload (md_a16 hMC) (by decide) (by omega) d_Md_allLed_171 ?_
                    refine rz_Seq [vi (lC p)] rfl ?_
                    refine rz_if_ne 177 d_Md_allLed_172 (by decide) (by omega) (fun c172 => ?_) (fun c172 => ?_)
                    · refine rz_iinc (p + 1) 0 [(1, vi (p + 1)), (0, .ref x)] d_Md_allLed_177 rfl (by first | rfl | omega) (by decide) rfl ?_
                      refine rz_goto 151 d_Md_allLed_180 (by decide) ?_
                      refine rz_Lsub [(1, vi (p + 1)), (0, .ref x)] [0, 1] rfl ?_
                      refine ih151 (p + 1) ?_ ?_
                      · try dsimp only
                        exact ⟨by omega, by omega, (by rw [hv, ldF_e _ _ (by omega), if_neg (by omega)]; congr 1; omega)⟩
                      · exact (by first | omega | (dsimp only; omega))
                    · refine rz_iconst d_Md_allLed_175 ?_
                      exact rz_zreturn (st := []) (ty := .boolean) rfl rfl d_Md_allLed_176 ⟨by decide, by decide⟩ ⟨_, rfl, bi0 (by rw [ledP, ldE, ← ldF_c M 6 0 (by omega) (by omega) (show eq6 lC _ from by have e : j = 108 := (by omega); rw [e] at he; exact he), hv, ldF_e _ _ (by omega), if_pos ⟨by omega, by omega⟩]), _, hMC, mSk.rf.mu (by decide) _, hFC⟩
              · refine rz_Lsub [(1, vi 0), (0, .ref x)] [0, 1] rfl ?_
                refine LP 0 ?_
                try dsimp only
                exact ⟨by decide, by decide, rfl⟩
            · refine rz_iload_n 0 d_Md_allLed_66 rfl rfl ?_
              refine rz_iconst d_Md_allLed_67 ?_
              refine rz_idiv (by omega) (by omega) d_Md_allLed_68 ?_
              refine rz_bipush (v := 6) d_Md_allLed_69 (by decide) ?_
              refine rz_irem (by omega) (by omega) d_Md_allLed_71 ?_
              refine rz_top (fun p2 e_p2 => ?_)
              replace e_p2 := e_p2.symm
              refine rz_istore_n [(2, vi p2), (1, vi j), (0, .ref x)] d_Md_allLed_72 rfl (by decide) rfl ?_
              have lb := hb p2 (by omega) (by omega)
              have l11 := hno p2 (by omega) (by omega)
              have l2 := hw.2.2.1 p2 (by omega) (by omega)
              refine rz_aload_n 2 d_Md_allLed_73 rfl rfl ?_
              refine rz_getf f_Md_50 hMC.1 rfl d_Md_allLed_74 ?_
              refine rz_iload_n 0 d_Md_allLed_77 rfl rfl ?_
              refine rz_zaload (md_a16 hMC) (by decide) (by omega) d_Md_allLed_78 ?_
              refine rz_Seq [vi (lC p2)] rfl ?_
              refine rz_if_eq 143 d_Md_allLed_79 (by decide) (by omega) (fun c79 => ?_) (fun c79 => ?_)
              · refine rz_iinc (j + 1) 1 [(1, vi (j + 1)), (2, vi p2), (0, .ref x)] d_Md_allLed_143 rfl (by first | rfl | omega) (by decide) rfl ?_
                refine rz_goto 60 d_Md_allLed_146 (by decide) ?_
                refine rz_Lsub [(1, vi (j + 1)), (0, .ref x)] [0, 2] rfl ?_
                refine ih60 (j + 1, hC, lC) ?_ ?_
                · try dsimp only
                  exact ⟨by omega, by omega, hMC, hFC, hb, (by rw [ldB_s _ _ hj0, e_p2, if_pos (by rw [← he p2 (by omega) (by omega)]; first | exact Or.inl c79 | exact Or.inr (Or.inl c88) | exact Or.inr (Or.inr (Or.inl (by omega))) | exact Or.inr (Or.inr (Or.inr (by rw [e_i]; exact c128))))]; exact he)⟩
                · exact (by first | omega | (dsimp only; omega))
              · refine rz_aload_n 2 d_Md_allLed_82 rfl rfl ?_
                refine rz_getf f_Md_41 hMC.1 rfl d_Md_allLed_83 ?_
                refine rz_iload_n 0 d_Md_allLed_86 rfl rfl ?_
                refine rz_iaload (md_a11 hMC) (by decide) (by omega) d_Md_allLed_87 ?_
                refine rz_Seq [vi (M 11 p2)] rfl ?_
                refine rz_if_lt 143 d_Md_allLed_88 (by decide) (by omega) (fun c88 => ?_) (fun c88 => ?_)
                · refine rz_iinc (j + 1) 1 [(1, vi (j + 1)), (2, vi p2), (0, .ref x)] d_Md_allLed_143 rfl (by first | rfl | omega) (by decide) rfl ?_
                  refine rz_goto 60 d_Md_allLed_146 (by decide) ?_
                  refine rz_Lsub [(1, vi (j + 1)), (0, .ref x)] [0, 2] rfl ?_
                  refine ih60 (j + 1, hC, lC) ?_ ?_
                  · try dsimp only
                    exact ⟨by omega, by omega, hMC, hFC, hb, (by rw [ldB_s _ _ hj0, e_p2, if_pos (by rw [← he p2 (by omega) (by omega)]; first | exact Or.inl c79 | exact Or.inr (Or.inl c88) | exact Or.inr (Or.inr (Or.inl (by omega))) | exact Or.inr (Or.inr (Or.inr (by rw [e_i]; exact c128))))]; exact he)⟩
                  · exact (by first | omega | (dsimp only; omega))
                · have l5 := hw.2.2.2.1 (4 * p2 + M 11 p2) (by omega) (by omega)
                  refine rz_iload_n 1 d_Md_allLed_91 rfl rfl ?_
                  refine rz_iconst d_Md_allLed_92 ?_
                  refine rz_irem (by omega) (by omega) d_Md_allLed_93 ?_
                  refine rz_aload_n 2 d_Md_allLed_94 rfl rfl ?_
                  refine rz_getf f_Md_26 hMC.1 rfl d_Md_allLed_95 ?_
                  refine rz_aload_n 2 d_Md_allLed_98 rfl rfl ?_
                  refine rz_iload_n 0 d_Md_allLed_99 rfl rfl ?_
                  refine rz_callV (As := [vi p2]) (c_Md_slot hMC (by omega)) m_Md_176 hMC.1 rfl rfl rfl rfl (Nat.le_of_ble_eq_true rfl) ⟨by decide, by decide⟩ ⟨by decide, by decide⟩ d_Md_allLed_100 (kE (h := hC) ?_)
                  refine rz_Seq [vi (4 * p2 + M 11 p2), .ref (ad 5), vi (j % 3)] rfl ?_
                  refine rz_iaload (md_a5 hMC) (by decide) (by omega) d_Md_allLed_103 ?_
                  refine rz_Seq [vi (M 5 (4 * p2 + M 11 p2)), vi (j % 3)] rfl ?_
                  refine rz_icmp_lt 110 d_Md_allLed_104 (by decide) (by omega) (by omega) (fun c104 => ?_) (fun c104 => ?_)
                  · refine rz_iconst d_Md_allLed_110 ?_
                    refine rz_aload_n 2 d_Md_allLed_111 rfl rfl ?_
                    refine rz_iload_n 0 d_Md_allLed_112 rfl rfl ?_
                    refine rz_callV (As := [vi p2]) (c_Md_slot hMC (by omega)) m_Md_176 hMC.1 rfl rfl rfl rfl (Nat.le_of_ble_eq_true rfl) ⟨by decide, by decide⟩ ⟨by decide, by decide⟩ d_Md_allLed_113 (kE (h := hC) ?_)
                    refine rz_Seq [vi (4 * p2 + M 11 p2), vi 3] rfl ?_
                    refine rz_imul d_Md_allLed_116 ?_
                    refine rz_iload_n 1 d_Md_allLed_117 rfl rfl ?_
                    refine rz_iconst d_Md_allLed_118 ?_
                    refine rz_irem (by omega) (by omega) d_Md_allLed_119 ?_
                    refine rz_iadd d_Md_allLed_120 ?_
                    refine rz_top (fun i e_i => ?_)
                    replace e_i := e_i.symm
                    refine rz_istore_n [(3, vi i), (2, vi p2), (1, vi j), (0, .ref x)] d_Md_allLed_121 rfl (by decide) rfl ?_
                    have l7 := hw.2.2.2.2.2.2.2.2.2.1 i (by omega) (by omega)
                    have l6 := hw.2.2.2.2.1 i (by omega) (by omega)
                    refine rz_aload_n 3 d_Md_allLed_122 rfl rfl ?_
                    refine rz_getf f_Md_32 hMC.1 rfl d_Md_allLed_123 ?_
                    refine rz_iload_n 0 d_Md_allLed_126 rfl rfl ?_
                    refine rz_zaload (md_a7 hMC) (by decide) (by omega) d_Md_allLed_127 ?_
                    refine rz_Seq [vi (M 7 i)] rfl ?_
                    refine rz_if_ne 143 d_Md_allLed_128 (by decide) (by omega) (fun c128 => ?_) (fun c128 => ?_)
                    · refine rz_iinc (j + 1) 2 [(1, vi (j + 1)), (3, vi i), (2, vi p2), (0, .ref x)] d_Md_allLed_143 rfl (by first | rfl | omega) (by decide) rfl ?_
                      refine rz_goto 60 d_Md_allLed_146 (by decide) ?_
                      refine rz_Lsub [(1, vi (j + 1)), (0, .ref x)] [0, 3] rfl ?_
                      refine ih60 (j + 1, hC, lC) ?_ ?_
                      · try dsimp only
                        exact ⟨by omega, by omega, hMC, hFC, hb, (by rw [ldB_s _ _ hj0, e_p2, if_pos (by rw [← he p2 (by omega) (by omega)]; first | exact Or.inl c79 | exact Or.inr (Or.inl c88) | exact Or.inr (Or.inr (Or.inl (by omega))) | exact Or.inr (Or.inr (Or.inr (by rw [e_i]; exact c128))))]; exact he)⟩
                      · exact (by first | omega | (dsimp only; omega))
                    · refine rz_aload_n 3 d_Md_allLed_131 rfl rfl ?_
                      refine rz_getf f_Md_50 hMC.1 rfl d_Md_allLed_132 ?_
                      refine rz_aload_n 3 d_Md_allLed_135 rfl rfl ?_
                      refine rz_getf f_Md_29 hMC.1 rfl d_Md_allLed_136 ?_
                      refine rz_iload_n 0 d_Md_allLed_139 rfl rfl ?_
                      refine rz_iaload (md_a6 hMC) (by decide) (by omega) d_Md_allLed_140 ?_
                      refine rz_Seq [vi (M 6 i), .ref (ad 16)] rfl ?_
                      refine rz_iconst d_Md_allLed_141 ?_
                      refine md_st16 hMC hFC (by omega) (by decide) d_Md_allLed_142 (fun h1 hM1 hF1 => ?_)
                      rw [mu_mu, mu_s] at hM1
                      refine rz_iinc (j + 1) 2 [(1, vi (j + 1)), (3, vi i), (2, vi p2), (0, .ref x)] d_Md_allLed_143 rfl (by first | rfl | omega) (by decide) rfl ?_
                      refine rz_goto 60 d_Md_allLed_146 (by decide) ?_
                      refine rz_Lsub [(1, vi (j + 1)), (0, .ref x)] [0, 3] rfl ?_
                      refine ih60 (j + 1, h1, (rz_u lC (M 6 i) 1)) ?_ ?_
                      · try dsimp only
                        exact ⟨by omega, by omega, hM1, hF1, (b6_u hb _ (Or.inr rfl)), (by rw [ldB_s _ _ hj0, e_p2, if_neg (by rw [← he p2 (by omega) (by omega), e_i]; intro q; rcases q with q | q | q | q; exact c79 q; exact c88 q; omega; exact q c128), e_i]; exact eq6_u he _ _)⟩
                      · exact (by first | omega | (dsimp only; omega))
                  · refine rz_goto 143 d_Md_allLed_107 (by decide) ?_
                    refine rz_iinc (j + 1) 1 [(1, vi (j + 1)), (2, vi p2), (0, .ref x)] d_Md_allLed_143 rfl (by first | rfl | omega) (by decide) rfl ?_
                    refine rz_goto 60 d_Md_allLed_146 (by decide) ?_
                    refine rz_Lsub [(1, vi (j + 1)), (0, .ref x)] [0, 2] rfl ?_
                    refine ih60 (j + 1, hC, lC) ?_ ?_
                    · try dsimp only
                      exact ⟨by omega, by omega, hMC, hFC, hb, (by rw [ldB_s _ _ hj0, e_p2, if_pos (by rw [← he p2 (by omega) (by omega)]; first | exact Or.inl c79 | exact Or.inr (Or.inl c88) | exact Or.inr (Or.inr (Or.inl (by omega))) | exact Or.inr (Or.inr (Or.inr (by rw [e_i]; exact c128))))]; exact he)⟩
                    · exact (by first | omega | (dsimp only; omega))
          · refine rz_Lsub [(1, vi 0), (0, .ref x)] [0, 1] rfl ?_
            refine LP (0, hB, lB) ?_
            try dsimp only
            exact ⟨by decide, by decide, hMB, hFB, hb, (by have e : a = M 8 0 := (by omega); rw [e] at he; exact he)⟩
        · have l10 := hco a (by omega) (by omega)
          have l9 := hw.2.2.2.2.2.2.1 a (by omega) (by omega)
          refine rz_aload_n 1 d_Md_allLed_31 rfl rfl ?_
          refine rz_getf f_Md_38 hMB.1 rfl d_Md_allLed_32 ?_
          refine rz_iload_n 0 d_Md_allLed_35 rfl rfl ?_
          refine rz_zaload (md_a10 hMB) (by decide) (by omega) d_Md_allLed_36 ?_
          refine rz_Seq [vi (M 10 a)] rfl ?_
          refine rz_if_eq 52 d_Md_allLed_37 (by decide) (by omega) (fun c37 => ?_) (fun c37 => ?_)
          · refine rz_iinc (a + 1) 0 [(1, vi (a + 1)), (0, .ref x)] d_Md_allLed_52 rfl (by first | rfl | omega) (by decide) rfl ?_
            refine rz_goto 23 d_Md_allLed_55 (by decide) ?_
            refine rz_Lsub [(1, vi (a + 1)), (0, .ref x)] [0, 1] rfl ?_
            refine ih23 (a + 1, hB, lB) ?_ ?_
            · try dsimp only
              exact ⟨by omega, by omega, hMB, hFB, hb, (by rw [ldA_s M ha0, if_pos c37]; exact he)⟩
            · exact (by first | omega | (dsimp only; omega))
          · refine rz_aload_n 1 d_Md_allLed_40 rfl rfl ?_
            refine rz_getf f_Md_50 hMB.1 rfl d_Md_allLed_41 ?_
            refine rz_aload_n 1 d_Md_allLed_44 rfl rfl ?_
            refine rz_getf f_Md_35 hMB.1 rfl d_Md_allLed_45 ?_
            refine rz_iload_n 0 d_Md_allLed_48 rfl rfl ?_
            refine rz_iaload (md_a9 hMB) (by decide) (by omega) d_Md_allLed_49 ?_
            refine rz_Seq [vi (M 9 a), .ref (ad 16)] rfl ?_
            refine rz_iconst d_Md_allLed_50 ?_
            refine md_st16 hMB hFB (by omega) (by decide) d_Md_allLed_51 (fun h2 hM2 hF2 => ?_)
            rw [mu_mu, mu_s] at hM2
            refine rz_iinc (a + 1) 0 [(1, vi (a + 1)), (0, .ref x)] d_Md_allLed_52 rfl (by first | rfl | omega) (by decide) rfl ?_
            refine rz_goto 23 d_Md_allLed_55 (by decide) ?_
            refine rz_Lsub [(1, vi (a + 1)), (0, .ref x)] [0, 1] rfl ?_
            refine ih23 (a + 1, h2, (rz_u lB (M 9 a) 1)) ?_ ?_
            · try dsimp only
              exact ⟨by omega, by omega, hM2, hF2, (b6_u hb _ (Or.inr rfl)), (by rw [ldA_s M ha0, if_neg c37]; exact eq6_u he _ _)⟩
            · exact (by first | omega | (dsimp only; omega))
      · refine rz_Lsub [(1, vi 0), (0, .ref x)] [0, 1] rfl ?_
        refine LP (0, hA, lA) ?_
        try dsimp only
        exact ⟨by omega, by omega, hMA, hFA, (fun q a b => Or.inl (hz q a (by omega))), (fun q a b => hz q a (by omega))⟩
    · refine rz_aload_n 1 d_Md_allLed_8 rfl rfl ?_
      refine rz_getf f_Md_50 hMA.1 rfl d_Md_allLed_9 ?_
      refine rz_iload_n 0 d_Md_allLed_12 rfl rfl ?_
      refine rz_iconst d_Md_allLed_13 ?_
      refine md_st16 hMA hFA (by omega) (by decide) d_Md_allLed_14 (fun h3 hM3 hF3 => ?_)
      rw [mu_mu, mu_s] at hM3
      refine rz_iinc (p + 1) 0 [(1, vi (p + 1)), (0, .ref x)] d_Md_allLed_15 rfl (by first | rfl | omega) (by decide) rfl ?_
      refine rz_goto 2 d_Md_allLed_18 (by decide) ?_
      refine rz_Lsub [(1, vi (p + 1)), (0, .ref x)] [0, 1] rfl ?_
      refine ih2 (p + 1, h3, (rz_u lA p 0)) ?_ ?_
      · try dsimp only
        exact ⟨by omega, by omega, hM3, hF3, (zu hz)⟩
      · exact (by first | omega | (dsimp only; omega))
  · refine rz_Lsub [(1, vi 0), (0, .ref x)] [0, 1] rfl ?_
    refine LP (0, h, (M 16)) ?_
    try dsimp only
    exact ⟨by decide, by decide, (by rw [mu_self]; exact hM), rz_fr.rf, (fun q a b => absurd b (by omega))⟩

/-! the law's start and loop -/
set_option maxRecDepth 100000 in
set_option maxHeartbeats 4000000 in
theorem law_loop {Γ : rz_G} {K : rz_K} {nm : String} {b Lx x y : Nat} {xs : Nat → Int32} {B : Nat → Int → Nat} {ad : Nat → Nat} (E : lwE Γ K b Lx xs) (hL : Lx ≤ 2560) : ∀ (n : Nat) (i : Int) (h : rz_H) (A : Nat → Int → Nat) (S : Nat → Int → Int → Int) (M : Nat → Int → Int) (F : Int → Int → Int), (Lx - i).toNat < n → 0 ≤ i ∧ i ≤ (Lx : Int) → RsAt Γ h x A B S M F → MdAt Γ h y ad M → Big M F → Wk Γ (x_law nm) room_1 lwP K (118 + 20 * i.toNat) (4379 + 400 * i.toNat) 18 [(3, vi i), (2, .ref y), (1, .ref x), (0, .ref b)] [] h := by
  intro n
  induction n with
  | zero => intro i h A S M F hn; exact absurd hn (Nat.not_lt_zero _)
  | succ n ih =>
    intro i h A S M F hn hi hR hM hB
    refine rz_iload_n 0 d_law_18 rfl rfl ?_
    refine rz_aload_n 3 d_law_19 rfl rfl ?_
    refine rz_slen E d_law_20 ?_
    refine rz_iconst d_law_21 ?_
    refine rz_isub d_law_22 ?_
    refine rz_icmp_gt 635 d_law_23 (by decide) (by omega) (by omega) (fun c23 => ?_) (fun c23 => ?_)
    · refine rz_iconst d_law_635 ?_
      exact rz_zreturn (st := []) (ty := .boolean) rfl rfl d_law_636 ⟨by show 118 + 20 * i.toNat ≤ 600000; omega, by show 4379 + 400 * i.toNat ≤ 7302250; omega⟩ rfl
    · have hcs : (118 + 20 * i.toNat) + 100 ≤ 600000 ∧ (4379 + 400 * i.toNat) + 2000 ≤ 7302250 := by omega
      have NX : ∀ (h' : rz_H) (A' : Nat → Int → Nat) (S' : Nat → Int → Int → Int) (M' : Nat → Int → Int) (F' : Int → Int → Int), RsAt Γ h' x A' B S' M' F' → MdAt Γ h' y ad M' → Big M' F' → Wk Γ (x_law nm) room_1 lwP K ((118 + 20 * i.toNat) + 100) ((4379 + 400 * i.toNat) + 2000) 629 [(3, vi i), (2, .ref y), (1, .ref x), (0, .ref b)] [] h' := by
        intro h' A' S' M' F' hR' hM' hB'
        refine rz_iinc (i + 5) 0 [(3, vi (i + 5)), (2, .ref y), (1, .ref x), (0, .ref b)] d_law_629 rfl rfl (show 3 < 4 by decide) rfl ?_
        refine rz_goto 18 d_law_632 (by decide) ?_
        exact Wk.widen (by omega) (by omega) (ih (i + 5) h' A' S' M' F' (by omega) (by omega) hR' hM' hB')
      refine rz_aload_n 3 d_law_26 rfl rfl ?_
      refine rz_iload_n 0 d_law_27 rfl rfl ?_
      refine rz_sld E (by omega) d_law_28 ?_
      refine rz_bipush (v := 31) d_law_29 (by decide) ?_
      refine rz_iand (sx xs i % 32) (and31 (sx_r xs i)) d_law_31 ?_
      generalize hr : sx xs i % 32 = r
      have hr2 : 0 ≤ r ∧ r < 32 := by omega
      by_cases hout : 16 < r
      · refine rz_tsOut 629 (by omega) (Or.inr hout) d_law_32 (by decide) ?_
        exact Wk.widen (by omega) (by omega) (NX h A S M F hR hM hB)
      have hrs : r = 0 ∨ r = 1 ∨ r = 2 ∨ r = 3 ∨ r = 4 ∨ r = 5 ∨ r = 6 ∨ r = 7 ∨ r = 8 ∨ r = 9 ∨ r = 10 ∨ r = 11 ∨ r = 12 ∨ r = 13 ∨ r = 14 ∨ r = 15 ∨ r = 16 := by omega
      rcases hrs with e | e | e | e | e | e | e | e | e | e | e | e | e | e | e | e | e
      · exact rz_tsIn 116 (by omega) (by omega) (by omega) (by rw [e]; rfl) d_law_32 (by decide) (lw_c0 E ⟨hi.1, by omega, hL⟩ hcs hR hM hB NX)
      · exact rz_tsIn 169 (by omega) (by omega) (by omega) (by rw [e]; rfl) d_law_32 (by decide) (lw_c1 E ⟨hi.1, by omega, hL⟩ hcs hR hM hB NX)
      · exact rz_tsIn 182 (by omega) (by omega) (by omega) (by rw [e]; rfl) d_law_32 (by decide) (lw_c2 E ⟨hi.1, by omega, hL⟩ hcs hR hM hB NX)
      · exact rz_tsIn 205 (by omega) (by omega) (by omega) (by rw [e]; rfl) d_law_32 (by decide) (lw_c3 E ⟨hi.1, by omega, hL⟩ hcs hR hM hB NX)
      · exact rz_tsIn 274 (by omega) (by omega) (by omega) (by rw [e]; rfl) d_law_32 (by decide) (lw_c4 E ⟨hi.1, by omega, hL⟩ hcs hR hM hB NX)
      · exact rz_tsIn 307 (by omega) (by omega) (by omega) (by rw [e]; rfl) d_law_32 (by decide) (lw_c5 E ⟨hi.1, by omega, hL⟩ hcs hR hM hB NX)
      · exact rz_tsIn 366 (by omega) (by omega) (by omega) (by rw [e]; rfl) d_law_32 (by decide) (lw_c6 E ⟨hi.1, by omega, hL⟩ hcs hR hM hB NX)
      · exact rz_tsIn 379 (by omega) (by omega) (by omega) (by rw [e]; rfl) d_law_32 (by decide) (lw_c7 E ⟨hi.1, by omega, hL⟩ hcs hR hM hB NX)
      · exact rz_tsIn 402 (by omega) (by omega) (by omega) (by rw [e]; rfl) d_law_32 (by decide) (lw_c8 E ⟨hi.1, by omega, hL⟩ hcs hR hM hB NX)
      · exact rz_tsIn 425 (by omega) (by omega) (by omega) (by rw [e]; rfl) d_law_32 (by decide) (lw_c9 E ⟨hi.1, by omega, hL⟩ hcs hR hM hB NX)
      · exact rz_tsIn 478 (by omega) (by omega) (by omega) (by rw [e]; rfl) d_law_32 (by decide) (lw_c10 E ⟨hi.1, by omega, hL⟩ hcs hR hM hB NX)
      · exact rz_tsIn 501 (by omega) (by omega) (by omega) (by rw [e]; rfl) d_law_32 (by decide) (lw_c11 E ⟨hi.1, by omega, hL⟩ hcs hR hM hB NX)
      · exact rz_tsIn 534 (by omega) (by omega) (by omega) (by rw [e]; rfl) d_law_32 (by decide) (lw_c12 E ⟨hi.1, by omega, hL⟩ hcs hR hM hB NX)
      · exact rz_tsIn 547 (by omega) (by omega) (by omega) (by rw [e]; rfl) d_law_32 (by decide) (lw_c13 E ⟨hi.1, by omega, hL⟩ hcs hR hM hB NX)
      · exact rz_tsIn 570 (by omega) (by omega) (by omega) (by rw [e]; rfl) d_law_32 (by decide) (lw_c14 E ⟨hi.1, by omega, hL⟩ hcs hR hM hB NX)
      · exact rz_tsIn 593 (by omega) (by omega) (by omega) (by rw [e]; rfl) d_law_32 (by decide) (lw_c15 E ⟨hi.1, by omega, hL⟩ hcs hR hM hB NX)
      · exact rz_tsIn 606 (by omega) (by omega) (by omega) (by rw [e]; rfl) d_law_32 (by decide) (lw_c16 E ⟨hi.1, by omega, hL⟩ hcs hR hM hB NX)
set_option maxRecDepth 100000 in
set_option maxHeartbeats 4000000 in
theorem law_all {Γ : rz_G} {K : rz_K} {nm : String} {b Lx : Nat} {xs : Nat → Int32} {h : rz_H} (E : lwE Γ K b Lx xs) (hL : Lx ≤ 2560) (hk : KsAt Γ h) : Wk Γ (x_law nm) room_1 lwP K 0 0 0 [(0, .ref b)] [] h := by
  refine rz_new (ci := 7) (q0 := ("ReleaseSolver", k_T7, 8)) (30, 0) (show (30 : Nat) ≠ 0 by decide) rfl rfl cl_Lw_7 ⟨by decide, by decide⟩ d_law_0 (fun x zx => ?_)
  refine rz_nm fun h1 eh1 => ?_
  have fx : h1 x = some ((30, 0), .inr (7, [.null, .null, .null, .null, .null, vi 0, .null, vi 0])) := by rw [eh1]; exact rz_up_s _ _ _
  have g1 : rz_fr [] h h1 := by rw [eh1]; exact rz_fr.nw zx
  have hk1 := hk.fr g1 (by decide)
  refine rz_dup d_law_3 rfl ?_
  refine rz_callI (As := []) (c_Rs_init fx hk1) m_Lw_9 rfl rfl (Nat.le_of_ble_eq_true rfl) ⟨by decide, by decide⟩ ⟨by decide, by decide⟩ d_law_4 (kV (h := h1) fun h2 q2 => ?_)
  obtain ⟨⟨A, B, S, hR⟩, G2⟩ := q2
  refine rz_astore_n [(1, .ref x), (0, .ref b)] d_law_7 rfl (show 1 < 4 by decide) rfl ?_
  refine rz_new (ci := 3) (q0 := ("ReleaseSolverModel", k_T3, 20)) (10, 0) (show (10 : Nat) ≠ 0 by decide) rfl rfl cl_Lw_10 ⟨by decide, by decide⟩ d_law_8 (fun y zy => ?_)
  refine rz_nm fun h3 eh3 => ?_
  have fy : h3 y = some ((10, 0), .inr (3, [.null, .null, .null, .null, .null, .null, .null, .null, vi 0, .null, .null, .null, vi 0, vi 0, .null, .null, .null, vi 0, vi 0, .null])) := by rw [eh3]; exact rz_up_s _ _ _
  have g3 : rz_fr [] h2 h3 := by rw [eh3]; exact rz_fr.nw zy
  have hR3 := hR.md (g3.mono (by decide))
  refine rz_dup d_law_11 rfl ?_
  refine rz_callI (As := []) (c_Md_init fy) m_Lw_12 rfl rfl (Nat.le_of_ble_eq_true rfl) ⟨by decide, by decide⟩ ⟨by decide, by decide⟩ d_law_12 (kV (h := h3) fun h4 q4 => ?_)
  obtain ⟨⟨ad, hM⟩, G4⟩ := q4
  have r4 : rz_fr [10] h3 h4 := rz_fo.fr1 fy G4
  have hR4 := hR3.md (r4.mono (by decide))
  refine rz_astore_n [(2, .ref y), (1, .ref x), (0, .ref b)] d_law_15 rfl (show 2 < 4 by decide) rfl ?_
  refine rz_iconst d_law_16 ?_
  refine rz_istore_n [(3, vi 0), (2, .ref y), (1, .ref x), (0, .ref b)] d_law_17 rfl (show 3 < 4 by decide) rfl ?_
  exact Wk.widen (by decide) (by decide) (law_loop E hL _ 0 h4 A S M0 (fun _ d => d) (Nat.lt_succ_self _) ⟨by decide, by omega⟩ hR4 hM Big_0)

/-! the class: count, unmet -/
theorem sw5 (a : Int) : (a < 0 ∨ 4 < a) ∨ a = 0 ∨ a = 1 ∨ a = 2 ∨ a = 3 ∨ a = 4 := by omega
theorem su1' (b : Int) : ∀ n : Nat, suF (fun _ => 1) b n = n
  | 0 => rfl
  | n + 1 => by rw [suF, su1' b n]; omega
theorem su1 {m b : Int} (h : 0 ≤ m) : suF (fun _ => 1) b m.toNat = m := by rw [su1', Int.tn h]
abbrev rm_Rs_countReleases : Room := { frames := 2, cells := 0, slots := 0, locals := 40 }
set_option maxRecDepth 100000 in
set_option maxHeartbeats 4000000 in
theorem c_Rs_countReleases {l : Launch} {Γ : rz_G} {h : rz_H} {x : Nat} {A : Nat → Int → Nat} {B : Nat → Int → Nat} {S : Nat → Int → Int → Int} {M : Nat → Int → Int} {F : Int → Int → Int} (hR : RsAt Γ h x A B S M F) (hBg : Big M F) : Ct l Γ x_Rs_countReleases y_Rs_countReleases rm_Rs_countReleases [.ref x] h (pE (ctG M (fun _ => 1) 24) h) := by
  refine rz_met (by decide) rfl rfl (Nat.le_of_ble_eq_true rfl) (fun K _ => ?_)
  refine rz_Leq [(0, .ref x)] rfl ?_
  have hR0 := hR
  obtain ⟨⟨bl, hx, hbl⟩, hSb, hPs, hAs, hSe, hHv, ⟨gs, hsa, hgs⟩, hk⟩ := hR
  obtain ⟨w2, w5, w6, w8, w9⟩ := M_big hBg.wf
  have w1 := hBg.wf.1 0 (by omega) (by omega)
  refine rz_iconst d_Rs_countReleases_0 ?_
  refine rz_istore_n [(1, vi 0), (0, .ref x)] d_Rs_countReleases_1 rfl (by decide) rfl ?_
  refine rz_aload_n 1 d_Rs_countReleases_2 rfl rfl ?_
  refine rz_getf f_Rs_18 hx rfl d_Rs_countReleases_3 ?_
  refine rz_astore_n [(2, .ref (A 12 0)), (1, vi 0), (0, .ref x)] d_Rs_countReleases_6 rfl (by decide) rfl ?_
  refine rz_aload_n 0 d_Rs_countReleases_7 rfl rfl ?_
  obtain ⟨f1, fo1, fe1⟩ := hPs.1
  refine rz_alen (v := 6) fo1 (show (33 : Nat) ≠ 0 by decide) rfl rfl d_Rs_countReleases_8 ?_
  refine rz_istore_n [(3, vi 6), (2, .ref (A 12 0)), (1, vi 0), (0, .ref x)] d_Rs_countReleases_9 rfl (by decide) rfl ?_
  refine rz_iconst d_Rs_countReleases_10 ?_
  refine rz_istore [(4, vi 0), (3, vi 6), (2, .ref (A 12 0)), (1, vi 0), (0, .ref x)] d_Rs_countReleases_11 (by decide) rfl ?_
  refine rz_loop (α := Nat × Int) 0 0 13 (fun (p, s) => 6 - p) (fun (p, s) => p ≤ 6 ∧ s = ctG M (fun _ => 1) (4 * p)) (fun (p, s) => [(4, vi (p : Int)), (1, vi s), (2, .ref (A 12 0)), (3, vi 6), (0, .ref x)]) (fun (p, s) => []) (fun (p, s) => h) (fun y hy ih13 => ?_) (fun LP => ?_)
  · obtain ⟨p, s⟩ := y
    try dsimp only at hy ih13 ⊢
    obtain ⟨hp6, hs⟩ := hy
    refine rz_iload 0 d_Rs_countReleases_13 rfl ?_
    refine rz_iload_n 3 d_Rs_countReleases_15 rfl rfl ?_
    refine rz_icmp_ge 39 d_Rs_countReleases_16 (by decide) (by omega) ⟨by decide, by decide⟩ (fun c16 => ?_) (fun c16 => ?_)
    · refine rz_iload_n 1 d_Rs_countReleases_39 rfl rfl ?_
      exact rz_ireturn (st := []) rfl d_Rs_countReleases_40 ⟨by decide, by decide⟩ ⟨_, rfl, (by rw [hs, show p = 6 by omega]), rfl⟩
    · refine rz_aload_n 2 d_Rs_countReleases_19 rfl rfl ?_
      refine rz_iload 0 d_Rs_countReleases_20 rfl ?_
      obtain ⟨f2, fo2, fe2⟩ := hPs.1
      refine rz_aaload fo2 rfl (show (33 : Nat) ≠ 0 by decide) (by omega) d_Rs_countReleases_22 ?_
      refine rz_Seq [.ref (A 0 (p : Int))] (by rw [fe2 (p : Int) (by omega) (by omega)]; rfl) ?_
      refine rz_astore [(5, .ref (A 0 (p : Int))), (4, vi (p : Int)), (1, vi s), (2, .ref (A 12 0)), (3, vi 6), (0, .ref x)] d_Rs_countReleases_23 (by decide) rfl ?_
      refine rz_iload_n 2 d_Rs_countReleases_25 rfl rfl ?_
      refine rz_aload 0 d_Rs_countReleases_26 rfl ?_
      refine rz_callV (As := []) (c_Pl_size (hPs.2 (p : Int) (by omega) (by omega)) hBg.wf (by omega)) m_Rs_228 (hPs.2 (p : Int) (by omega) (by omega)).ob rfl rfl rfl rfl (Nat.le_of_ble_eq_true rfl) ⟨by decide, by decide⟩ ⟨by decide, by decide⟩ d_Rs_countReleases_28 (kE (h := h) ?_)
      refine rz_iadd d_Rs_countReleases_31 ?_
      refine rz_istore_n [(1, vi (s + (M 2 (p : Int)))), (5, .ref (A 0 (p : Int))), (4, vi (p : Int)), (2, .ref (A 12 0)), (3, vi 6), (0, .ref x)] d_Rs_countReleases_32 rfl (by decide) rfl ?_
      have E1 : s + (M 2 (p : Int)) = s + suF (fun _ => 1) (4 * p) (M 2 p).toNat := by rw [su1 (w2 p (by omega) (by omega)).1]
      refine rz_iinc ((p : Int) + 1) 2 [(4, vi ((p : Int) + 1)), (1, vi (s + (M 2 (p : Int)))), (5, .ref (A 0 (p : Int))), (2, .ref (A 12 0)), (3, vi 6), (0, .ref x)] d_Rs_countReleases_33 rfl (by first | rfl | omega) (by decide) rfl ?_
      refine rz_goto 13 d_Rs_countReleases_36 (by decide) ?_
      refine rz_Lsub [(4, vi ((p : Int) + 1)), (1, vi (s + (M 2 (p : Int)))), (2, .ref (A 12 0)), (3, vi 6), (0, .ref x)] [0, 1, 3, 4, 5] rfl ?_
      refine ih13 (p + 1, (s + (M 2 (p : Int)))) ?_ ?_
      · try dsimp only
        exact ⟨by omega, (by rw [ctG_4 (w2 p (by omega) (by omega)), ← hs, E1])⟩
      · exact (by first | omega | (dsimp only; omega))
  · refine rz_Lsub [(4, vi 0), (1, vi 0), (2, .ref (A 12 0)), (3, vi 6), (0, .ref x)] [0, 3, 2, 1, 4] rfl ?_
    refine LP (0, 0) ?_
    try dsimp only
    exact ⟨by omega, rfl⟩
abbrev rm_Rs_countWithdrawn : Room := { frames := 4, cells := 0, slots := 0, locals := 86 }
set_option maxRecDepth 100000 in
set_option maxHeartbeats 4000000 in
theorem c_Rs_countWithdrawn {l : Launch} {Γ : rz_G} {h : rz_H} {x : Nat} {A : Nat → Int → Nat} {B : Nat → Int → Nat} {S : Nat → Int → Int → Int} {M : Nat → Int → Int} {F : Int → Int → Int} (hR : RsAt Γ h x A B S M F) (hBg : Big M F) : Ct l Γ x_Rs_countWithdrawn y_Rs_countWithdrawn rm_Rs_countWithdrawn [.ref x] h (pE (ctG M (fun k => if M 3 k = 0 then 0 else 1) 24) h) := by
  refine rz_met (by decide) rfl rfl (Nat.le_of_ble_eq_true rfl) (fun K _ => ?_)
  refine rz_Leq [(0, .ref x)] rfl ?_
  have hR0 := hR
  obtain ⟨⟨bl, hx, hbl⟩, hSb, hPs, hAs, hSe, hHv, ⟨gs, hsa, hgs⟩, hk⟩ := hR
  obtain ⟨w2, w5, w6, w8, w9⟩ := M_big hBg.wf
  have w1 := hBg.wf.1 0 (by omega) (by omega)
  refine rz_iconst d_Rs_countWithdrawn_0 ?_
  refine rz_istore_n [(1, vi 0), (0, .ref x)] d_Rs_countWithdrawn_1 rfl (by decide) rfl ?_
  refine rz_aload_n 1 d_Rs_countWithdrawn_2 rfl rfl ?_
  refine rz_getf f_Rs_18 hx rfl d_Rs_countWithdrawn_3 ?_
  refine rz_astore_n [(2, .ref (A 12 0)), (1, vi 0), (0, .ref x)] d_Rs_countWithdrawn_6 rfl (by decide) rfl ?_
  refine rz_aload_n 0 d_Rs_countWithdrawn_7 rfl rfl ?_
  obtain ⟨f1, fo1, fe1⟩ := hPs.1
  refine rz_alen (v := 6) fo1 (show (33 : Nat) ≠ 0 by decide) rfl rfl d_Rs_countWithdrawn_8 ?_
  refine rz_istore_n [(3, vi 6), (2, .ref (A 12 0)), (1, vi 0), (0, .ref x)] d_Rs_countWithdrawn_9 rfl (by decide) rfl ?_
  refine rz_iconst d_Rs_countWithdrawn_10 ?_
  refine rz_istore [(4, vi 0), (3, vi 6), (2, .ref (A 12 0)), (1, vi 0), (0, .ref x)] d_Rs_countWithdrawn_11 (by decide) rfl ?_
  refine rz_loop (α := Nat × Int) 0 0 13 (fun (p, s) => 6 - p) (fun (p, s) => p ≤ 6 ∧ s = ctG M (fun k => if M 3 k = 0 then 0 else 1) (4 * p)) (fun (p, s) => [(4, vi (p : Int)), (1, vi s), (2, .ref (A 12 0)), (3, vi 6), (0, .ref x)]) (fun (p, s) => []) (fun (p, s) => h) (fun y hy ih13 => ?_) (fun LP => ?_)
  · obtain ⟨p, s⟩ := y
    try dsimp only at hy ih13 ⊢
    obtain ⟨hp6, hs⟩ := hy
    refine rz_iload 0 d_Rs_countWithdrawn_13 rfl ?_
    refine rz_iload_n 3 d_Rs_countWithdrawn_15 rfl rfl ?_
    refine rz_icmp_ge 39 d_Rs_countWithdrawn_16 (by decide) (by omega) ⟨by decide, by decide⟩ (fun c16 => ?_) (fun c16 => ?_)
    · refine rz_iload_n 1 d_Rs_countWithdrawn_39 rfl rfl ?_
      exact rz_ireturn (st := []) rfl d_Rs_countWithdrawn_40 ⟨by decide, by decide⟩ ⟨_, rfl, (by rw [hs, show p = 6 by omega]), rfl⟩
    · refine rz_aload_n 2 d_Rs_countWithdrawn_19 rfl rfl ?_
      refine rz_iload 0 d_Rs_countWithdrawn_20 rfl ?_
      obtain ⟨f2, fo2, fe2⟩ := hPs.1
      refine rz_aaload fo2 rfl (show (33 : Nat) ≠ 0 by decide) (by omega) d_Rs_countWithdrawn_22 ?_
      refine rz_Seq [.ref (A 0 (p : Int))] (by rw [fe2 (p : Int) (by omega) (by omega)]; rfl) ?_
      refine rz_astore [(5, .ref (A 0 (p : Int))), (4, vi (p : Int)), (1, vi s), (2, .ref (A 12 0)), (3, vi 6), (0, .ref x)] d_Rs_countWithdrawn_23 (by decide) rfl ?_
      refine rz_iload_n 2 d_Rs_countWithdrawn_25 rfl rfl ?_
      refine rz_aload 0 d_Rs_countWithdrawn_26 rfl ?_
      refine rz_callV (As := []) (c_Pl_withdrawnReleases (hPs.2 (p : Int) (by omega) (by omega)) hBg.wf (by omega)) m_Rs_229 (hPs.2 (p : Int) (by omega) (by omega)).ob rfl rfl rfl rfl (Nat.le_of_ble_eq_true rfl) ⟨by decide, by decide⟩ ⟨by decide, by decide⟩ d_Rs_countWithdrawn_28 (kE (h := h) ?_)
      refine rz_iadd d_Rs_countWithdrawn_31 ?_
      refine rz_istore_n [(1, vi (s + (suF (fun k => if M 3 k = 0 then 0 else 1) (4 * (p : Int)) (M 2 (p : Int)).toNat))), (5, .ref (A 0 (p : Int))), (4, vi (p : Int)), (2, .ref (A 12 0)), (3, vi 6), (0, .ref x)] d_Rs_countWithdrawn_32 rfl (by decide) rfl ?_
      have E1 : s + (suF (fun k => if M 3 k = 0 then 0 else 1) (4 * (p : Int)) (M 2 (p : Int)).toNat) = s + suF (fun k => if M 3 k = 0 then 0 else 1) (4 * p) (M 2 p).toNat := by rfl
      refine rz_iinc ((p : Int) + 1) 2 [(4, vi ((p : Int) + 1)), (1, vi (s + (suF (fun k => if M 3 k = 0 then 0 else 1) (4 * (p : Int)) (M 2 (p : Int)).toNat))), (5, .ref (A 0 (p : Int))), (2, .ref (A 12 0)), (3, vi 6), (0, .ref x)] d_Rs_countWithdrawn_33 rfl (by first | rfl | omega) (by decide) rfl ?_
      refine rz_goto 13 d_Rs_countWithdrawn_36 (by decide) ?_
      refine rz_Lsub [(4, vi ((p : Int) + 1)), (1, vi (s + (suF (fun k => if M 3 k = 0 then 0 else 1) (4 * (p : Int)) (M 2 (p : Int)).toNat))), (2, .ref (A 12 0)), (3, vi 6), (0, .ref x)] [0, 1, 3, 4, 5] rfl ?_
      refine ih13 (p + 1, (s + (suF (fun k => if M 3 k = 0 then 0 else 1) (4 * (p : Int)) (M 2 (p : Int)).toNat))) ?_ ?_
      · try dsimp only
        exact ⟨by omega, (by rw [ctG_4 (w2 p (by omega) (by omega)), ← hs, E1])⟩
      · exact (by first | omega | (dsimp only; omega))
  · refine rz_Lsub [(4, vi 0), (1, vi 0), (2, .ref (A 12 0)), (3, vi 6), (0, .ref x)] [0, 3, 2, 1, 4] rfl ?_
    refine LP (0, 0) ?_
    try dsimp only
    exact ⟨by omega, rfl⟩
abbrev rm_Rs_countNeeds : Room := { frames := 4, cells := 0, slots := 0, locals := 86 }
set_option maxRecDepth 100000 in
set_option maxHeartbeats 4000000 in
theorem c_Rs_countNeeds {l : Launch} {Γ : rz_G} {h : rz_H} {x : Nat} {A : Nat → Int → Nat} {B : Nat → Int → Nat} {S : Nat → Int → Int → Int} {M : Nat → Int → Int} {F : Int → Int → Int} (hR : RsAt Γ h x A B S M F) (hBg : Big M F) : Ct l Γ x_Rs_countNeeds y_Rs_countNeeds rm_Rs_countNeeds [.ref x] h (pE (ctG M (M 5) 24) h) := by
  refine rz_met (by decide) rfl rfl (Nat.le_of_ble_eq_true rfl) (fun K _ => ?_)
  refine rz_Leq [(0, .ref x)] rfl ?_
  have hR0 := hR
  obtain ⟨⟨bl, hx, hbl⟩, hSb, hPs, hAs, hSe, hHv, ⟨gs, hsa, hgs⟩, hk⟩ := hR
  obtain ⟨w2, w5, w6, w8, w9⟩ := M_big hBg.wf
  have w1 := hBg.wf.1 0 (by omega) (by omega)
  refine rz_iconst d_Rs_countNeeds_0 ?_
  refine rz_istore_n [(1, vi 0), (0, .ref x)] d_Rs_countNeeds_1 rfl (by decide) rfl ?_
  refine rz_aload_n 1 d_Rs_countNeeds_2 rfl rfl ?_
  refine rz_getf f_Rs_18 hx rfl d_Rs_countNeeds_3 ?_
  refine rz_astore_n [(2, .ref (A 12 0)), (1, vi 0), (0, .ref x)] d_Rs_countNeeds_6 rfl (by decide) rfl ?_
  refine rz_aload_n 0 d_Rs_countNeeds_7 rfl rfl ?_
  obtain ⟨f1, fo1, fe1⟩ := hPs.1
  refine rz_alen (v := 6) fo1 (show (33 : Nat) ≠ 0 by decide) rfl rfl d_Rs_countNeeds_8 ?_
  refine rz_istore_n [(3, vi 6), (2, .ref (A 12 0)), (1, vi 0), (0, .ref x)] d_Rs_countNeeds_9 rfl (by decide) rfl ?_
  refine rz_iconst d_Rs_countNeeds_10 ?_
  refine rz_istore [(4, vi 0), (3, vi 6), (2, .ref (A 12 0)), (1, vi 0), (0, .ref x)] d_Rs_countNeeds_11 (by decide) rfl ?_
  refine rz_loop (α := Nat × Int) 0 0 13 (fun (p, s) => 6 - p) (fun (p, s) => p ≤ 6 ∧ s = ctG M (M 5) (4 * p)) (fun (p, s) => [(4, vi (p : Int)), (1, vi s), (2, .ref (A 12 0)), (3, vi 6), (0, .ref x)]) (fun (p, s) => []) (fun (p, s) => h) (fun y hy ih13 => ?_) (fun LP => ?_)
  · obtain ⟨p, s⟩ := y
    try dsimp only at hy ih13 ⊢
    obtain ⟨hp6, hs⟩ := hy
    refine rz_iload 0 d_Rs_countNeeds_13 rfl ?_
    refine rz_iload_n 3 d_Rs_countNeeds_15 rfl rfl ?_
    refine rz_icmp_ge 39 d_Rs_countNeeds_16 (by decide) (by omega) ⟨by decide, by decide⟩ (fun c16 => ?_) (fun c16 => ?_)
    · refine rz_iload_n 1 d_Rs_countNeeds_39 rfl rfl ?_
      exact rz_ireturn (st := []) rfl d_Rs_countNeeds_40 ⟨by decide, by decide⟩ ⟨_, rfl, (by rw [hs, show p = 6 by omega]), rfl⟩
    · refine rz_aload_n 2 d_Rs_countNeeds_19 rfl rfl ?_
      refine rz_iload 0 d_Rs_countNeeds_20 rfl ?_
      obtain ⟨f2, fo2, fe2⟩ := hPs.1
      refine rz_aaload fo2 rfl (show (33 : Nat) ≠ 0 by decide) (by omega) d_Rs_countNeeds_22 ?_
      refine rz_Seq [.ref (A 0 (p : Int))] (by rw [fe2 (p : Int) (by omega) (by omega)]; rfl) ?_
      refine rz_astore [(5, .ref (A 0 (p : Int))), (4, vi (p : Int)), (1, vi s), (2, .ref (A 12 0)), (3, vi 6), (0, .ref x)] d_Rs_countNeeds_23 (by decide) rfl ?_
      refine rz_iload_n 2 d_Rs_countNeeds_25 rfl rfl ?_
      refine rz_aload 0 d_Rs_countNeeds_26 rfl ?_
      refine rz_callV (As := []) (c_Pl_needsOfReleases (hPs.2 (p : Int) (by omega) (by omega)) hBg.wf (by omega)) m_Rs_232 (hPs.2 (p : Int) (by omega) (by omega)).ob rfl rfl rfl rfl (Nat.le_of_ble_eq_true rfl) ⟨by decide, by decide⟩ ⟨by decide, by decide⟩ d_Rs_countNeeds_28 (kE (h := h) ?_)
      refine rz_iadd d_Rs_countNeeds_31 ?_
      refine rz_istore_n [(1, vi (s + (suF (M 5) (4 * (p : Int)) (M 2 (p : Int)).toNat))), (5, .ref (A 0 (p : Int))), (4, vi (p : Int)), (2, .ref (A 12 0)), (3, vi 6), (0, .ref x)] d_Rs_countNeeds_32 rfl (by decide) rfl ?_
      have E1 : s + (suF (M 5) (4 * (p : Int)) (M 2 (p : Int)).toNat) = s + suF (M 5) (4 * p) (M 2 p).toNat := by rfl
      refine rz_iinc ((p : Int) + 1) 2 [(4, vi ((p : Int) + 1)), (1, vi (s + (suF (M 5) (4 * (p : Int)) (M 2 (p : Int)).toNat))), (5, .ref (A 0 (p : Int))), (2, .ref (A 12 0)), (3, vi 6), (0, .ref x)] d_Rs_countNeeds_33 rfl (by first | rfl | omega) (by decide) rfl ?_
      refine rz_goto 13 d_Rs_countNeeds_36 (by decide) ?_
      refine rz_Lsub [(4, vi ((p : Int) + 1)), (1, vi (s + (suF (M 5) (4 * (p : Int)) (M 2 (p : Int)).toNat))), (2, .ref (A 12 0)), (3, vi 6), (0, .ref x)] [0, 1, 3, 4, 5] rfl ?_
      refine ih13 (p + 1, (s + (suF (M 5) (4 * (p : Int)) (M 2 (p : Int)).toNat))) ?_ ?_
      · try dsimp only
        exact ⟨by omega, (by rw [ctG_4 (w2 p (by omega) (by omega)), ← hs, E1])⟩
      · exact (by first | omega | (dsimp only; omega))
  · refine rz_Lsub [(4, vi 0), (1, vi 0), (2, .ref (A 12 0)), (3, vi 6), (0, .ref x)] [0, 3, 2, 1, 4] rfl ?_
    refine LP (0, 0) ?_
    try dsimp only
    exact ⟨by omega, rfl⟩
abbrev rm_Rs_count : Room := { frames := 5, cells := 0, slots := 0, locals := 111 }
set_option maxRecDepth 100000 in
set_option maxHeartbeats 4000000 in
theorem c_Rs_count {l : Launch} {Γ : rz_G} {h : rz_H} {x : Nat} {A : Nat → Int → Nat} {B : Nat → Int → Nat} {S : Nat → Int → Int → Int} {M : Nat → Int → Int} {F : Int → Int → Int} (hR : RsAt Γ h x A B S M F) (hBg : Big M F) {a : Int} (ra : -2147483648 ≤ a ∧ a ≤ 2147483647) : Ct l Γ x_Rs_count y_Rs_count rm_Rs_count [.ref x, vi a] h (opP Γ x B M F h (sp_count M a)) := by
  refine rz_met (by decide) rfl rfl (Nat.le_of_ble_eq_true rfl) (fun K _ => ?_)
  refine rz_Leq [(0, .ref x), (1, vi a)] rfl ?_
  have hR0 := hR
  obtain ⟨⟨bl, hx, hbl⟩, hSb, hPs, hAs, hSe, hHv, ⟨gs, hsa, hgs⟩, hk⟩ := hR
  obtain ⟨w2, w5, w6, w8, w9⟩ := M_big hBg.wf
  have w1 := hBg.wf.1 0 (by omega) (by omega)
  refine rz_iload_n 1 d_Rs_count_0 rfl rfl ?_
  rcases sw5 a with tb | tb | tb | tb | tb | tb
  · refine rz_tsOut 67 (by omega) tb d_Rs_count_1 (by decide) ?_
    refine rz_iconst d_Rs_count_67 ?_
    exact rz_ireturn (st := []) rfl d_Rs_count_68 ⟨by decide, by decide⟩ ⟨_, rfl, (by rw [sp_count, if_neg (by omega), if_neg (by omega), if_neg (by omega), if_neg (by omega), if_neg (by omega)]), A, S, hR0, rz_fr.rf⟩
  · subst tb
    refine rz_tsIn 36 (by decide) (by decide) (by decide) rfl d_Rs_count_1 (by decide) ?_
    refine rz_aload_n 0 d_Rs_count_36 rfl rfl ?_
    refine rz_getf f_Rs_10 hx rfl d_Rs_count_37 ?_
    obtain ⟨fso1, so1⟩ := hSb.ob
    refine rz_callV (As := []) (c_Sb_len hSb) m_Rs_70 so1 rfl rfl rfl rfl (Nat.le_of_ble_eq_true rfl) ⟨by decide, by decide⟩ ⟨by decide, by decide⟩ d_Rs_count_40 (kE (h := h) ?_)
    refine rz_Seq [vi (M 1 0)] (by rw [Int.tn (by omega)]) ?_
    exact rz_ireturn (st := []) rfl d_Rs_count_43 ⟨by decide, by decide⟩ ⟨_, rfl, (by rw [sp_count, if_pos rfl]), A, S, hR0, rz_fr.rf⟩
  · subst tb
    refine rz_tsIn 44 (by decide) (by decide) (by decide) rfl d_Rs_count_1 (by decide) ?_
    refine rz_aload_n 0 d_Rs_count_44 rfl rfl ?_
    refine rz_getf f_Rs_25 hx rfl d_Rs_count_45 ?_
    obtain ⟨fso2, so2⟩ := hAs.1.ob
    refine rz_callV (As := []) (c_Al_size hAs.1) m_Rs_121 so2 rfl rfl rfl rfl (Nat.le_of_ble_eq_true rfl) ⟨by decide, by decide⟩ ⟨by decide, by decide⟩ d_Rs_count_48 (kE (h := h) ?_)
    refine rz_Seq [vi (M 8 0)] (by rw [Int.tn (by omega)]) ?_
    exact rz_ireturn (st := []) rfl d_Rs_count_51 ⟨by decide, by decide⟩ ⟨_, rfl, (by rw [sp_count, if_neg (by decide), if_pos rfl]), A, S, hR0, rz_fr.rf⟩
  · subst tb
    refine rz_tsIn 52 (by decide) (by decide) (by decide) rfl d_Rs_count_1 (by decide) ?_
    refine rz_aload_n 0 d_Rs_count_52 rfl rfl ?_
    refine rz_callV (As := []) (c_Rs_countReleases hR0 hBg) m_Rs_191 hx rfl rfl rfl rfl (Nat.le_of_ble_eq_true rfl) ⟨by decide, by decide⟩ ⟨by decide, by decide⟩ d_Rs_count_53 (kE (h := h) ?_)
    exact rz_ireturn (st := []) rfl d_Rs_count_56 ⟨by decide, by decide⟩ ⟨_, rfl, (by rw [sp_count, if_neg (by decide), if_neg (by decide), if_pos rfl]; exact (ct2_G M 24).symm), A, S, hR0, rz_fr.rf⟩
  · subst tb
    refine rz_tsIn 57 (by decide) (by decide) (by decide) rfl d_Rs_count_1 (by decide) ?_
    refine rz_aload_n 0 d_Rs_count_57 rfl rfl ?_
    refine rz_callV (As := []) (c_Rs_countWithdrawn hR0 hBg) m_Rs_194 hx rfl rfl rfl rfl (Nat.le_of_ble_eq_true rfl) ⟨by decide, by decide⟩ ⟨by decide, by decide⟩ d_Rs_count_58 (kE (h := h) ?_)
    exact rz_ireturn (st := []) rfl d_Rs_count_61 ⟨by decide, by decide⟩ ⟨_, rfl, (by rw [sp_count, if_neg (by decide), if_neg (by decide), if_neg (by decide), if_pos rfl]; exact (ct3_G M 24).symm), A, S, hR0, rz_fr.rf⟩
  · subst tb
    refine rz_tsIn 62 (by decide) (by decide) (by decide) rfl d_Rs_count_1 (by decide) ?_
    refine rz_aload_n 0 d_Rs_count_62 rfl rfl ?_
    refine rz_callV (As := []) (c_Rs_countNeeds hR0 hBg) m_Rs_197 hx rfl rfl rfl rfl (Nat.le_of_ble_eq_true rfl) ⟨by decide, by decide⟩ ⟨by decide, by decide⟩ d_Rs_count_63 (kE (h := h) ?_)
    exact rz_ireturn (st := []) rfl d_Rs_count_66 ⟨by decide, by decide⟩ ⟨_, rfl, (by rw [sp_count, if_neg (by decide), if_neg (by decide), if_neg (by decide), if_neg (by decide), if_pos rfl]; exact (ct4_G hBg.na 24 (by decide)).symm), A, S, hR0, rz_fr.rf⟩
theorem hoR_t {M : Nat → Int → Int} {s t : Int} (hv : ver (mAt M s) 0 (M 1 s) = true) (hr : rng (mAt M t) (M 1 t) = true) : hoR (vRt M s) (vPt M s) (mAt M t) (M 1 t) = inR (mAt M s) (M 1 s) (mAt M t) (M 1 t) := hoR_in hv (mAt_end M _) hr (mAt_end M _)
theorem met_c {M : Nat → Int → Int} {p t : Int} (hp : 0 ≤ p ∧ p ≤ 5) : metP (mCh M) p t = (decide (0 ≤ M 14 p) && inR (mAt M (6 + (4 * p + M 14 p))) (M 1 (6 + (4 * p + M 14 p))) (mAt M t) (M 1 t)) := by
  have e : mCh M 11 p = M 14 p := by rw [mCh, mu_s, cpF, if_pos (by omega)]
  unfold metP; rw [e]; rfl
abbrev rm_Rs_isMet : Room := { frames := 5, cells := 0, slots := 0, locals := 107 }
set_option maxRecDepth 100000 in
set_option maxHeartbeats 4000000 in
theorem c_Rs_isMet {l : Launch} {Γ : rz_G} {h : rz_H} {x : Nat} {A : Nat → Int → Nat} {B : Nat → Int → Nat} {S : Nat → Int → Int → Int} {M : Nat → Int → Int} {F : Int → Int → Int} (hR : RsAt Γ h x A B S M F) (hBg : Big M F) (hs : ¬ M 12 0 = 0) {a : Int} (ha : 0 ≤ a ∧ a < M 8 0) : Ct l Γ x_Rs_isMet y_Rs_isMet rm_Rs_isMet [.ref x, .ref (A 9 a)] h (pE (bi (metP (mCh M) (M 9 a) (2 + a))) h) := by
  refine rz_met (by decide) rfl rfl (Nat.le_of_ble_eq_true rfl) (fun K _ => ?_)
  refine rz_Leq [(0, .ref x), (1, .ref (A 9 a))] rfl ?_
  have hR0 := hR
  obtain ⟨⟨bl, hx, hbl⟩, hSb, hPs, hAs, hSe, hHv, ⟨gs, hsa, hgs⟩, hk⟩ := hR
  obtain ⟨w2, w5, w6, w8, w9⟩ := M_big hBg.wf
  have w1 := hBg.wf.1 0 (by omega) (by omega)
  have w9a := w9 a ha.1 (by omega)
  have hch := hBg.ch hs
  have hca := hch (M 9 a) w9a.1 (by omega)
  have w2a := w2 (M 9 a) w9a.1 (by omega)
  have EZ : 0 ≤ M 14 (M 9 a) → slN M (M 9 a) = M 14 (M 9 a) := fun z => by rw [slN, if_neg (by omega)]
  have slb : slN M (M 9 a) = -4 ∨ 0 ≤ M 14 (M 9 a) ∧ slN M (M 9 a) = M 14 (M 9 a) := by
    by_cases z : M 14 (M 9 a) < 0
    · left; rw [slN, if_pos (Or.inr z)]
    · right; exact ⟨by omega, EZ (by omega)⟩
  refine rz_aload_n 0 d_Rs_isMet_0 rfl rfl ?_
  refine rz_aload_n 1 d_Rs_isMet_1 rfl rfl ?_
  refine rz_getf f_Rs_222 (hAs.2 a (by omega) (by omega)).1 rfl d_Rs_isMet_2 ?_
  refine rz_aload_n 0 d_Rs_isMet_5 rfl rfl ?_
  refine rz_getf f_Rs_51 hx rfl d_Rs_isMet_6 ?_
  refine rz_aload_n 1 d_Rs_isMet_9 rfl rfl ?_
  refine rz_getf f_Rs_222 (hAs.2 a (by omega) (by omega)).1 rfl d_Rs_isMet_10 ?_
  refine rz_iaload hsa (show (39 : Nat) ≠ 0 by decide) (by omega) d_Rs_isMet_13 ?_
  refine rz_Seq [vi (slN M (M 9 a)), vi (M 9 a), .ref x] (by rw [hgs (M 9 a) (by omega) (by omega)]) ?_
  refine rz_callV (As := [vi (M 9 a), vi (slN M (M 9 a))]) (c_Rs_releaseAt hx rfl hPs hBg (p := M 9 a) (r := slN M (M 9 a)) (by omega) (by omega)) m_Rs_109 hx rfl rfl rfl rfl (Nat.le_of_ble_eq_true rfl) ⟨by decide, by decide⟩ ⟨by decide, by decide⟩ d_Rs_isMet_14 (kO (h := h) (fun h1 q1 => ?_) (fun a1 h1 q1 => ?_))
  · have hn14 := ra_n q1.1
    rw [q1.2]
    refine rz_astore_nN [(2, .null), (0, .ref x), (1, .ref (A 9 a))] d_Rs_isMet_17 rfl (by decide) rfl ?_
    refine rz_aload_nN 0 d_Rs_isMet_18 rfl rfl ?_
    refine rz_ifnullN 40 d_Rs_isMet_19 (by decide) ?_
    refine rz_iconst d_Rs_isMet_40 ?_
    exact rz_zreturn (st := []) (ty := .boolean) rfl rfl d_Rs_isMet_41 ⟨by decide, by decide⟩ ⟨_, rfl, bi0 (by rw [met_c w9a]; first | (rw [EE, ← hoR_t (vk hBg.val hnn14) (hBg.val.2.2.2.2 a ha.1 ha.2), c33, Bool.and_false]) | (rw [decide_eq_false (fun z => by rw [EZ z] at hn14; have y := hch (M 9 a) w9a.1 (by omega); rw [mNone_c (by omega)] at hn14; exact absurd hn14 (by decide))]; rfl)), rfl⟩
  · obtain ⟨hn14, ea1⟩ := ra_s q1.1
    rw [ea1, q1.2]
    have hnn14 := mNone_g hn14
    refine rz_astore_n [(2, .ref (A 3 (4 * (M 9 a) + (slN M (M 9 a))))), (0, .ref x), (1, .ref (A 9 a))] d_Rs_isMet_17 rfl (by decide) rfl ?_
    refine rz_aload_n 0 d_Rs_isMet_18 rfl rfl ?_
    refine rz_ifnullR d_Rs_isMet_19 ?_
    have EE : M 14 (M 9 a) = slN M (M 9 a) := by omega
    refine rz_aload_n 2 d_Rs_isMet_22 rfl rfl ?_
    refine rz_getf f_Rs_225 (hAs.2 a (by omega) (by omega)).1 rfl d_Rs_isMet_23 ?_
    refine rz_aload_n 0 d_Rs_isMet_26 rfl rfl ?_
    refine rz_getf f_Rs_154 ((hPs.2 (M 9 a) (by omega) (by omega)).re (slN M (M 9 a)) (by omega) (by omega)).ob rfl d_Rs_isMet_27 ?_
    obtain ⟨fso2, so2⟩ := (hAs.2 a (by omega) (by omega)).2.ob
    refine rz_callV (As := [.ref (A 4 (4 * (M 9 a) + (slN M (M 9 a))))]) (c_Rg_holds ((hPs.2 (M 9 a) (by omega) (by omega)).re (slN M (M 9 a)) (by omega) (by omega)).ve (hAs.2 a (by omega) (by omega)).2) m_Rs_164 so2 rfl rfl rfl rfl (Nat.le_of_ble_eq_true rfl) ⟨by decide, by decide⟩ ⟨by decide, by decide⟩ d_Rs_isMet_30 (kE (h := h) ?_)
    refine rz_if_eqB 40 d_Rs_isMet_33 (by decide) (fun c33 => ?_) (fun c33 => ?_)
    · refine rz_iconst d_Rs_isMet_40 ?_
      exact rz_zreturn (st := []) (ty := .boolean) rfl rfl d_Rs_isMet_41 ⟨by decide, by decide⟩ ⟨_, rfl, bi0 (by rw [met_c w9a]; first | (rw [EE, ← hoR_t (vk hBg.val hnn14) (hBg.val.2.2.2.2 a ha.1 ha.2), c33, Bool.and_false]) | (rw [decide_eq_false (fun z => by rw [EZ z] at hn14; have y := hch (M 9 a) w9a.1 (by omega); rw [mNone_c (by omega)] at hn14; exact absurd hn14 (by decide))]; rfl)), rfl⟩
    · refine rz_iconst d_Rs_isMet_36 ?_
      refine rz_goto 41 d_Rs_isMet_37 (by decide) ?_
      exact rz_zreturn (st := []) (ty := .boolean) rfl rfl d_Rs_isMet_41 ⟨by decide, by decide⟩ ⟨_, rfl, bi1 (by rw [met_c w9a, EE, ← hoR_t (vk hBg.val hnn14) (hBg.val.2.2.2.2 a ha.1 ha.2), c33, decide_eq_true (by omega)]; rfl), rfl⟩
abbrev rm_Rs_unmet : Room := { frames := 6, cells := 0, slots := 0, locals := 129 }
set_option maxRecDepth 100000 in
set_option maxHeartbeats 4000000 in
theorem c_Rs_unmet {l : Launch} {Γ : rz_G} {h : rz_H} {x : Nat} {A : Nat → Int → Nat} {B : Nat → Int → Nat} {S : Nat → Int → Int → Int} {M : Nat → Int → Int} {F : Int → Int → Int} (hR : RsAt Γ h x A B S M F) (hBg : Big M F) : Ct l Γ x_Rs_unmet y_Rs_unmet rm_Rs_unmet [.ref x] h (opP Γ x B M F h (sp_unmet M).1) := by
  refine rz_met (by decide) rfl rfl (Nat.le_of_ble_eq_true rfl) (fun K _ => ?_)
  refine rz_Leq [(0, .ref x)] rfl ?_
  have hR0 := hR
  obtain ⟨⟨bl, hx, hbl⟩, hSb, hPs, hAs, hSe, hHv, ⟨gs, hsa, hgs⟩, hk⟩ := hR
  obtain ⟨w2, w5, w6, w8, w9⟩ := M_big hBg.wf
  have w1 := hBg.wf.1 0 (by omega) (by omega)
  have h12 := hBg.wf.2.2.2.2.2.2.2.2.2.2.1
  refine rz_aload_n 0 d_Rs_unmet_0 rfl rfl ?_
  refine rz_getf f_Rs_47 hx rfl d_Rs_unmet_1 ?_
  refine rz_if_ne 10 d_Rs_unmet_4 (by decide) (by omega) (fun c4 => ?_) (fun c4 => ?_)
  · refine rz_iconst d_Rs_unmet_10 ?_
    refine rz_istore_n [(1, vi 0), (0, .ref x)] d_Rs_unmet_11 rfl (by decide) rfl ?_
    refine rz_iconst d_Rs_unmet_12 ?_
    refine rz_istore_n [(2, vi 0), (1, vi 0), (0, .ref x)] d_Rs_unmet_13 rfl (by decide) rfl ?_
    refine rz_loop (α := Int × Int) 0 0 14 (fun (i, s) => (M 8 0 - i).toNat) (fun (i, s) => 0 ≤ i ∧ i ≤ M 8 0 ∧ umF (mCh M) (M 8 0).toNat 0 = s + umF (mCh M) (M 8 0 - i).toNat i) (fun (i, s) => [(2, vi i), (1, vi s), (0, .ref x)]) (fun (i, s) => []) (fun (i, s) => h) (fun y hy ih14 => ?_) (fun LP => ?_)
    · obtain ⟨i, s⟩ := y
      try dsimp only at hy ih14 ⊢
      obtain ⟨hi0, hi1, hu⟩ := hy
      refine rz_iload_n 0 d_Rs_unmet_14 rfl rfl ?_
      refine rz_aload_n 2 d_Rs_unmet_15 rfl rfl ?_
      refine rz_getf f_Rs_25 hx rfl d_Rs_unmet_16 ?_
      obtain ⟨fso1, so1⟩ := hAs.1.ob
      refine rz_callV (As := []) (c_Al_size hAs.1) m_Rs_121 so1 rfl rfl rfl rfl (Nat.le_of_ble_eq_true rfl) ⟨by decide, by decide⟩ ⟨by decide, by decide⟩ d_Rs_unmet_19 (kE (h := h) ?_)
      refine rz_Seq [vi (M 8 0), vi i] (by rw [Int.tn (by omega)]) ?_
      refine rz_icmp_ge 52 d_Rs_unmet_22 (by decide) (by omega) (by omega) (fun c22 => ?_) (fun c22 => ?_)
      · refine rz_iload_n 1 d_Rs_unmet_52 rfl rfl ?_
        exact rz_ireturn (st := []) rfl d_Rs_unmet_53 ⟨by decide, by decide⟩ ⟨_, rfl, (by rw [sp_unmet, if_neg c4]; show s = umF (mCh M) (M 8 0).toNat 0; rw [hu, show (M 8 0 - i).toNat = 0 by omega]; show s = s + 0; omega), A, S, hR0, rz_fr.rf⟩
      · refine rz_aload_n 2 d_Rs_unmet_25 rfl rfl ?_
        refine rz_aload_n 2 d_Rs_unmet_26 rfl rfl ?_
        refine rz_getf f_Rs_25 hx rfl d_Rs_unmet_27 ?_
        refine rz_iload_n 0 d_Rs_unmet_30 rfl rfl ?_
        obtain ⟨fso2, so2⟩ := hAs.1.ob
        refine rz_callV (As := [vi i]) (c_Al_get hAs.1 (i := i) (y := (A 9 i)) (by omega) (by omega) rfl) m_Rs_184 so2 rfl rfl rfl rfl (Nat.le_of_ble_eq_true rfl) ⟨by decide, by decide⟩ ⟨by decide, by decide⟩ d_Rs_unmet_31 (kR (h := h) fun b3 h3 q3 => ?_)
        rw [q3.1, q3.2]
        refine rz_cast (hAs.2 i (by omega) (by omega)).1 rfl cl_Rs_145 d_Rs_unmet_34 ?_
        refine rz_callV (As := [.ref (A 9 i)]) (c_Rs_isMet hR0 hBg c4 (a := i) (by omega)) m_Rs_187 hx rfl rfl rfl rfl (Nat.le_of_ble_eq_true rfl) ⟨by decide, by decide⟩ ⟨by decide, by decide⟩ d_Rs_unmet_37 (kE (h := h) ?_)
        refine rz_if_neB 46 d_Rs_unmet_40 (by decide) (fun c40 => ?_) (fun c40 => ?_)
        · refine rz_iinc (i + 1) 0 [(2, vi (i + 1)), (1, vi s), (0, .ref x)] d_Rs_unmet_46 rfl (by first | rfl | omega) (by decide) rfl ?_
          refine rz_goto 14 d_Rs_unmet_49 (by decide) ?_
          refine rz_Lsub [(2, vi (i + 1)), (1, vi s), (0, .ref x)] [0, 1, 2] rfl ?_
          refine ih14 (i + 1, s) ?_ ?_
          · try dsimp only
            exact ⟨by omega, by omega, (by rw [hu, umF_e _ _ (by omega), show (M 8 0 - i).toNat - 1 = (M 8 0 - (i + 1)).toNat by omega, show mCh M 9 i = M 9 i from rfl, c40]; simp)⟩
          · exact (by first | omega | (dsimp only; omega))
        · refine rz_iinc (s + 1) 1 [(1, vi (s + 1)), (2, vi i), (0, .ref x)] d_Rs_unmet_43 rfl (by first | rfl | omega) (by decide) rfl ?_
          refine rz_iinc (i + 1) 1 [(2, vi (i + 1)), (1, vi (s + 1)), (0, .ref x)] d_Rs_unmet_46 rfl (by first | rfl | omega) (by decide) rfl ?_
          refine rz_goto 14 d_Rs_unmet_49 (by decide) ?_
          refine rz_Lsub [(2, vi (i + 1)), (1, vi (s + 1)), (0, .ref x)] [0, 1, 2] rfl ?_
          refine ih14 (i + 1, s + 1) ?_ ?_
          · try dsimp only
            exact ⟨by omega, by omega, (by rw [hu, umF_e _ _ (by omega), show (M 8 0 - i).toNat - 1 = (M 8 0 - (i + 1)).toNat by omega, show mCh M 9 i = M 9 i from rfl, c40]; simp; omega)⟩
          · exact (by first | omega | (dsimp only; omega))
    · refine rz_Lsub [(2, vi 0), (1, vi 0), (0, .ref x)] [0, 1, 2] rfl ?_
      refine LP (0, 0) ?_
      try dsimp only
      exact ⟨by omega, by omega, (by rw [show (M 8 0 - 0).toNat = (M 8 0).toNat by omega]; omega)⟩
  · refine rz_bipush (v := (-4)) d_Rs_unmet_7 (by decide) ?_
    exact rz_ireturn (st := []) rfl d_Rs_unmet_9 ⟨by decide, by decide⟩ ⟨_, rfl, (by rw [sp_unmet, if_pos c4]), A, S, hR0, rz_fr.rf⟩

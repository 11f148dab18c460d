/-! JDK: checks and small methods of texts -/
abbrev rm_Pr_checkFromToIndex : Room := { frames := 0, cells := 0, slots := 0, locals := 0 }
abbrev rm_Pr_checkIndex : Room := { frames := 0, cells := 0, slots := 0, locals := 0 }
set_option maxRecDepth 100000 in
set_option maxHeartbeats 4000000 in
theorem c_Pr_checkIndexN {l : Launch} {Γ : rz_G} {h : rz_H} {i n : Int} (hi : 0 ≤ i ∧ i < n) (hn : n ≤ 2147483647) : Ct l Γ x_Pr_checkIndex y_Pr_checkIndex rm_Pr_checkIndex [vi i, vi n, .null] h (pE i h) := by
  refine rz_met (by decide) rfl rfl (Nat.le_of_ble_eq_true rfl) (fun K _ => ?_)
  refine rz_Leq [(0, vi i), (1, vi n), (2, .null)] rfl ?_
  refine rz_iload_n 0 d_Pr_checkIndex_0 rfl rfl ?_
  refine rz_if_lt 9 d_Pr_checkIndex_1 (by decide) (by omega) (fun c1 => absurd c1 (by omega)) (fun c1 => ?_)
  refine rz_iload_n 0 d_Pr_checkIndex_4 rfl rfl ?_
  refine rz_iload_n 1 d_Pr_checkIndex_5 rfl rfl ?_
  refine rz_icmp_lt 16 d_Pr_checkIndex_6 (by decide) (by omega) (by omega) (fun c6 => ?_) (fun c6 => absurd c6 (by omega))
  refine rz_iload_n 0 d_Pr_checkIndex_16 rfl rfl ?_
  exact rz_ireturn (st := []) rfl d_Pr_checkIndex_17 ⟨by decide, by decide⟩ ⟨_, rfl, rfl, rfl⟩
set_option maxRecDepth 100000 in
set_option maxHeartbeats 4000000 in
theorem c_Pr_checkFromToIndexN {l : Launch} {Γ : rz_G} {h : rz_H} {i j n : Int} (hi : 0 ≤ i ∧ i ≤ j ∧ j ≤ n) (hn : n ≤ 2147483647) : Ct l Γ x_Pr_checkFromToIndex y_Pr_checkFromToIndex rm_Pr_checkFromToIndex [vi i, vi j, vi n, .null] h (pE i h) := by
  refine rz_met (by decide) rfl rfl (Nat.le_of_ble_eq_true rfl) (fun K _ => ?_)
  refine rz_Leq [(0, vi i), (1, vi j), (2, vi n), (3, .null)] rfl ?_
  refine rz_iload_n 0 d_Pr_checkFromToIndex_0 rfl rfl ?_
  refine rz_if_lt 14 d_Pr_checkFromToIndex_1 (by decide) (by omega) (fun c1 => absurd c1 (by omega)) (fun c1 => ?_)
  refine rz_iload_n 0 d_Pr_checkFromToIndex_4 rfl rfl ?_
  refine rz_iload_n 1 d_Pr_checkFromToIndex_5 rfl rfl ?_
  refine rz_icmp_gt 14 d_Pr_checkFromToIndex_6 (by decide) (by omega) (by omega) (fun c6 => absurd c6 (by omega)) (fun c6 => ?_)
  refine rz_iload_n 1 d_Pr_checkFromToIndex_9 rfl rfl ?_
  refine rz_iload_n 2 d_Pr_checkFromToIndex_10 rfl rfl ?_
  refine rz_icmp_le 22 d_Pr_checkFromToIndex_11 (by decide) (by omega) (by omega) (fun c11 => ?_) (fun c11 => absurd c11 (by omega))
  refine rz_iload_n 0 d_Pr_checkFromToIndex_22 rfl rfl ?_
  exact rz_ireturn (st := []) rfl d_Pr_checkFromToIndex_23 ⟨by decide, by decide⟩ ⟨_, rfl, rfl, rfl⟩
set_option maxRecDepth 100000 in
set_option maxHeartbeats 4000000 in
theorem c_Pr_checkIndexR {l : Launch} {Γ : rz_G} {h : rz_H} {i n : Int} {b : Nat} (hi : 0 ≤ i ∧ i < n) (hn : n ≤ 2147483647) : Ct l Γ x_Pr_checkIndex y_Pr_checkIndex rm_Pr_checkIndex [vi i, vi n, .ref b] h (pE i h) := by
  refine rz_met (by decide) rfl rfl (Nat.le_of_ble_eq_true rfl) (fun K _ => ?_)
  refine rz_Leq [(0, vi i), (1, vi n), (2, .ref b)] rfl ?_
  refine rz_iload_n 0 d_Pr_checkIndex_0 rfl rfl ?_
  refine rz_if_lt 9 d_Pr_checkIndex_1 (by decide) (by omega) (fun c1 => absurd c1 (by omega)) (fun c1 => ?_)
  refine rz_iload_n 0 d_Pr_checkIndex_4 rfl rfl ?_
  refine rz_iload_n 1 d_Pr_checkIndex_5 rfl rfl ?_
  refine rz_icmp_lt 16 d_Pr_checkIndex_6 (by decide) (by omega) (by omega) (fun c6 => ?_) (fun c6 => absurd c6 (by omega))
  refine rz_iload_n 0 d_Pr_checkIndex_16 rfl rfl ?_
  exact rz_ireturn (st := []) rfl d_Pr_checkIndex_17 ⟨by decide, by decide⟩ ⟨_, rfl, rfl, rfl⟩
set_option maxRecDepth 100000 in
set_option maxHeartbeats 4000000 in
theorem c_Pr_checkFromToIndexR {l : Launch} {Γ : rz_G} {h : rz_H} {i j n : Int} {b : Nat} (hi : 0 ≤ i ∧ i ≤ j ∧ j ≤ n) (hn : n ≤ 2147483647) : Ct l Γ x_Pr_checkFromToIndex y_Pr_checkFromToIndex rm_Pr_checkFromToIndex [vi i, vi j, vi n, .ref b] h (pE i h) := by
  refine rz_met (by decide) rfl rfl (Nat.le_of_ble_eq_true rfl) (fun K _ => ?_)
  refine rz_Leq [(0, vi i), (1, vi j), (2, vi n), (3, .ref b)] rfl ?_
  refine rz_iload_n 0 d_Pr_checkFromToIndex_0 rfl rfl ?_
  refine rz_if_lt 14 d_Pr_checkFromToIndex_1 (by decide) (by omega) (fun c1 => absurd c1 (by omega)) (fun c1 => ?_)
  refine rz_iload_n 0 d_Pr_checkFromToIndex_4 rfl rfl ?_
  refine rz_iload_n 1 d_Pr_checkFromToIndex_5 rfl rfl ?_
  refine rz_icmp_gt 14 d_Pr_checkFromToIndex_6 (by decide) (by omega) (by omega) (fun c6 => absurd c6 (by omega)) (fun c6 => ?_)
  refine rz_iload_n 1 d_Pr_checkFromToIndex_9 rfl rfl ?_
  refine rz_iload_n 2 d_Pr_checkFromToIndex_10 rfl rfl ?_
  refine rz_icmp_le 22 d_Pr_checkFromToIndex_11 (by decide) (by omega) (by omega) (fun c11 => ?_) (fun c11 => absurd c11 (by omega))
  refine rz_iload_n 0 d_Pr_checkFromToIndex_22 rfl rfl ?_
  exact rz_ireturn (st := []) rfl d_Pr_checkFromToIndex_23 ⟨by decide, by decide⟩ ⟨_, rfl, rfl, rfl⟩
abbrev rm_St_checkIndex : Room := { frames := 1, cells := 0, slots := 0, locals := 22 }
set_option maxRecDepth 100000 in
set_option maxHeartbeats 4000000 in
theorem c_St_checkIndex {l : Launch} {Γ : rz_G} {h : rz_H} {i n : Int} (hi : 0 ≤ i ∧ i < n) (hn : n ≤ 2147483647) : Ct l Γ x_St_checkIndex y_St_checkIndex rm_St_checkIndex [vi i, vi n] h (pV (fun h' => h' = h)) := by
  refine rz_met (by decide) rfl rfl (Nat.le_of_ble_eq_true rfl) (fun K _ => ?_)
  refine rz_Leq [(0, vi i), (1, vi n)] rfl ?_
  refine rz_iload_n 0 d_St_checkIndex_0 rfl rfl ?_
  refine rz_iload_n 1 d_St_checkIndex_1 rfl rfl ?_
  refine rz_gets (List.mem_of_getElem? (i := 2) rfl) g_St_1053 (Or.inl rfl) d_St_checkIndex_2 ?_
  by_cases zf : Γ.2.2.2.2 1 = 0
  all_goals first | rw [if_pos zf] | rw [if_neg zf]
  · refine rz_callS (As := [vi i, vi n, .null]) (c_Pr_checkIndexN (by omega) (by omega)) m_St_1059 rfl rfl (Nat.le_of_ble_eq_true rfl) ⟨by decide, by decide⟩ ⟨by decide, by decide⟩ d_St_checkIndex_5 (kE (h := h) ?_)
    refine rz_pop d_St_checkIndex_8 rfl ?_
    exact rz_return (st := []) rfl d_St_checkIndex_9 ⟨by decide, by decide⟩ ⟨rfl, rfl⟩
  · refine rz_callS (As := [vi i, vi n, .ref (Γ.2.2.2.2 2)]) (c_Pr_checkIndexR (by omega) (by omega)) m_St_1059 rfl rfl (Nat.le_of_ble_eq_true rfl) ⟨by decide, by decide⟩ ⟨by decide, by decide⟩ d_St_checkIndex_5 (kE (h := h) ?_)
    refine rz_pop d_St_checkIndex_8 rfl ?_
    exact rz_return (st := []) rfl d_St_checkIndex_9 ⟨by decide, by decide⟩ ⟨rfl, rfl⟩
abbrev rm_St_checkBoundsBeginEnd : Room := { frames := 1, cells := 0, slots := 0, locals := 23 }
set_option maxRecDepth 100000 in
set_option maxHeartbeats 4000000 in
theorem c_St_checkBoundsBeginEnd {l : Launch} {Γ : rz_G} {h : rz_H} {i j n : Int} (hi : 0 ≤ i ∧ i ≤ j ∧ j ≤ n) (hn : n ≤ 2147483647) : Ct l Γ x_St_checkBoundsBeginEnd y_St_checkBoundsBeginEnd rm_St_checkBoundsBeginEnd [vi i, vi j, vi n] h (pV (fun h' => h' = h)) := by
  refine rz_met (by decide) rfl rfl (Nat.le_of_ble_eq_true rfl) (fun K _ => ?_)
  refine rz_Leq [(0, vi i), (1, vi j), (2, vi n)] rfl ?_
  refine rz_iload_n 0 d_St_checkBoundsBeginEnd_0 rfl rfl ?_
  refine rz_iload_n 1 d_St_checkBoundsBeginEnd_1 rfl rfl ?_
  refine rz_iload_n 2 d_St_checkBoundsBeginEnd_2 rfl rfl ?_
  refine rz_gets (List.mem_of_getElem? (i := 2) rfl) g_St_1053 (Or.inl rfl) d_St_checkBoundsBeginEnd_3 ?_
  by_cases zf : Γ.2.2.2.2 1 = 0
  all_goals first | rw [if_pos zf] | rw [if_neg zf]
  · refine rz_callS (As := [vi i, vi j, vi n, .null]) (c_Pr_checkFromToIndexN (by omega) (by omega)) m_St_1062 rfl rfl (Nat.le_of_ble_eq_true rfl) ⟨by decide, by decide⟩ ⟨by decide, by decide⟩ d_St_checkBoundsBeginEnd_6 (kE (h := h) ?_)
    refine rz_pop d_St_checkBoundsBeginEnd_9 rfl ?_
    exact rz_return (st := []) rfl d_St_checkBoundsBeginEnd_10 ⟨by decide, by decide⟩ ⟨rfl, rfl⟩
  · refine rz_callS (As := [vi i, vi j, vi n, .ref (Γ.2.2.2.2 2)]) (c_Pr_checkFromToIndexR (by omega) (by omega)) m_St_1062 rfl rfl (Nat.le_of_ble_eq_true rfl) ⟨by decide, by decide⟩ ⟨by decide, by decide⟩ d_St_checkBoundsBeginEnd_6 (kE (h := h) ?_)
    refine rz_pop d_St_checkBoundsBeginEnd_9 rfl ?_
    exact rz_return (st := []) rfl d_St_checkBoundsBeginEnd_10 ⟨by decide, by decide⟩ ⟨rfl, rfl⟩
abbrev rm_Ob_checkIndex : Room := { frames := 1, cells := 0, slots := 0, locals := 22 }
set_option maxRecDepth 100000 in
set_option maxHeartbeats 4000000 in
theorem c_Ob_checkIndex {l : Launch} {Γ : rz_G} {h : rz_H} {i n : Int} (hi : 0 ≤ i ∧ i < n) (hn : n ≤ 2147483647) : Ct l Γ x_Ob_checkIndex y_Ob_checkIndex rm_Ob_checkIndex [vi i, vi n] h (pE i h) := by
  refine rz_met (by decide) rfl rfl (Nat.le_of_ble_eq_true rfl) (fun K _ => ?_)
  refine rz_Leq [(0, vi i), (1, vi n)] rfl ?_
  refine rz_iload_n 0 d_Ob_checkIndex_0 rfl rfl ?_
  refine rz_iload_n 1 d_Ob_checkIndex_1 rfl rfl ?_
  refine rz_null d_Ob_checkIndex_2 ?_
  refine rz_callS (As := [vi i, vi n, .null]) (c_Pr_checkIndexN (by omega) (by omega)) m_Ob_105 rfl rfl (Nat.le_of_ble_eq_true rfl) ⟨by decide, by decide⟩ ⟨by decide, by decide⟩ d_Ob_checkIndex_3 (kE (h := h) ?_)
  exact rz_ireturn (st := []) rfl d_Ob_checkIndex_6 ⟨by decide, by decide⟩ ⟨_, rfl, rfl, rfl⟩
abbrev rm_S1_charAt : Room := { frames := 2, cells := 0, slots := 0, locals := 43 }
set_option maxRecDepth 100000 in
set_option maxHeartbeats 4000000 in
theorem c_S1_charAt {l : Launch} {Γ : rz_G} {h : rz_H} {va n : Nat} {tv : Nat × Nat} {g : Int → Int} (ha : h va = some (tv, aI Γ 2 n g)) (ht : tv.1 = 0 → tv.2 = 2) (hn : n ≤ 100) {i : Int} (hi : 0 ≤ i ∧ i < n) (hg : 0 ≤ g i ∧ g i ≤ 127) : Ct l Γ x_S1_charAt y_S1_charAt rm_S1_charAt [.ref va, vi i] h (pE (g i) h) := by
  refine rz_met (by decide) rfl rfl (Nat.le_of_ble_eq_true rfl) (fun K _ => ?_)
  refine rz_Leq [(0, .ref va), (1, vi i)] rfl ?_
  refine rz_iload_n 1 d_S1_charAt_0 rfl rfl ?_
  refine rz_aload_n 0 d_S1_charAt_1 rfl rfl ?_
  refine rz_alenB (v := (n : Int)) ha ht rfl rfl d_S1_charAt_2 ?_
  refine rz_callS (As := [vi i, vi (n : Int)]) (c_St_checkIndex (by omega) (by omega)) m_S1_9 rfl rfl (Nat.le_of_ble_eq_true rfl) ⟨by decide, by decide⟩ ⟨by decide, by decide⟩ d_S1_charAt_3 (kV (h := h) fun hv1 ehv1 => ?_)
  rw [ehv1]
  refine rz_aload_n 0 d_S1_charAt_6 rfl rfl ?_
  refine rz_iload_n 1 d_S1_charAt_7 rfl rfl ?_
  refine rz_baload ha ht (by omega) d_S1_charAt_8 ?_
  refine rz_sipush (v := 255) d_S1_charAt_9 (by decide) ?_
  refine rz_iand (g i) (and255 (by omega)) d_S1_charAt_12 ?_
  refine rz_i2c (by omega) d_S1_charAt_13 ?_
  exact rz_zreturn (st := []) (ty := .char) rfl (nz_c (by omega)) d_S1_charAt_14 ⟨by decide, by decide⟩ ⟨_, rfl, rfl, rfl⟩
abbrev rm_St_coder : Room := { frames := 0, cells := 0, slots := 0, locals := 0 }
set_option maxRecDepth 100000 in
set_option maxHeartbeats 4000000 in
theorem c_St_coder {l : Launch} {Γ : rz_G} {h : rz_H} {s n mm : Nat} {f : Int → Int} (hs : StrAt Γ h s n f mm) : Ct l Γ x_St_coder y_St_coder rm_St_coder [.ref s] h (pE 0 h) := by
  refine rz_met (by decide) rfl rfl (Nat.le_of_ble_eq_true rfl) (fun K _ => ?_)
  refine rz_Leq [(0, .ref s)] rfl ?_
  obtain ⟨ts, tv, va, fs, g, a1, a2, a3, a4, a5, a6, a7, a8, a9⟩ := hs
  have a81 := a8.1
  refine rz_gets (List.mem_of_getElem? (i := 0) rfl) g_St_38 (Or.inl rfl) d_St_coder_0 ?_
  refine rz_if_eq 13 d_St_coder_3 (by decide) ⟨by decide, by decide⟩ (fun c3 => absurd c3 (by decide)) (fun c3 => ?_)
  refine rz_aload_n 0 d_St_coder_6 rfl rfl ?_
  refine rz_getf f_St_15 a1 a4 d_St_coder_7 ?_
  refine rz_goto 14 d_St_coder_10 (by decide) ?_
  exact rz_zreturn (st := []) (ty := .byte) rfl rfl d_St_coder_14 ⟨by decide, by decide⟩ ⟨_, rfl, rfl, rfl⟩
abbrev rm_St_isLatin1 : Room := { frames := 0, cells := 0, slots := 0, locals := 0 }
set_option maxRecDepth 100000 in
set_option maxHeartbeats 4000000 in
theorem c_St_isLatin1 {l : Launch} {Γ : rz_G} {h : rz_H} {s n mm : Nat} {f : Int → Int} (hs : StrAt Γ h s n f mm) : Ct l Γ x_St_isLatin1 y_St_isLatin1 rm_St_isLatin1 [.ref s] h (pE 1 h) := by
  refine rz_met (by decide) rfl rfl (Nat.le_of_ble_eq_true rfl) (fun K _ => ?_)
  refine rz_Leq [(0, .ref s)] rfl ?_
  obtain ⟨ts, tv, va, fs, g, a1, a2, a3, a4, a5, a6, a7, a8, a9⟩ := hs
  have a81 := a8.1
  refine rz_gets (List.mem_of_getElem? (i := 0) rfl) g_St_38 (Or.inl rfl) d_St_isLatin1_0 ?_
  refine rz_if_eq 17 d_St_isLatin1_3 (by decide) ⟨by decide, by decide⟩ (fun c3 => absurd c3 (by decide)) (fun c3 => ?_)
  refine rz_aload_n 0 d_St_isLatin1_6 rfl rfl ?_
  refine rz_getf f_St_15 a1 a4 d_St_isLatin1_7 ?_
  refine rz_if_ne 17 d_St_isLatin1_10 (by decide) ⟨by decide, by decide⟩ (fun c10 => absurd c10 (by decide)) (fun c10 => ?_)
  refine rz_iconst d_St_isLatin1_13 ?_
  refine rz_goto 18 d_St_isLatin1_14 (by decide) ?_
  exact rz_zreturn (st := []) (ty := .boolean) rfl rfl d_St_isLatin1_18 ⟨by decide, by decide⟩ ⟨_, rfl, rfl, rfl⟩
abbrev rm_St_length : Room := { frames := 1, cells := 0, slots := 0, locals := 20 }
set_option maxRecDepth 100000 in
set_option maxHeartbeats 4000000 in
theorem c_St_length {l : Launch} {Γ : rz_G} {h : rz_H} {s n mm : Nat} {f : Int → Int} (hs : StrAt Γ h s n f mm) : Ct l Γ x_St_length y_St_length rm_St_length [.ref s] h (pE (n : Int) h) := by
  refine rz_met (by decide) rfl rfl (Nat.le_of_ble_eq_true rfl) (fun K _ => ?_)
  refine rz_Leq [(0, .ref s)] rfl ?_
  obtain ⟨ts, tv, va, fs, g, a1, a2, a3, a4, a5, a6, a7, a8, a9⟩ := hs
  have a81 := a8.1
  refine rz_aload_n 0 d_St_length_0 rfl rfl ?_
  refine rz_getf f_St_9 a1 a3 d_St_length_1 ?_
  refine rz_alenB (v := (n : Int)) a5 (fun z => (a7 z).1) rfl rfl d_St_length_4 ?_
  refine rz_aload_n 0 d_St_length_5 rfl rfl ?_
  refine rz_callV (As := []) (c_St_coder ⟨ts, tv, va, fs, g, a1, a2, a3, a4, a5, a6, a7, a8, a9⟩) m_St_335 a1 rfl rfl rfl rfl (Nat.le_of_ble_eq_true rfl) ⟨by decide, by decide⟩ ⟨by decide, by decide⟩ d_St_length_6 (kE (h := h) ?_)
  refine rz_ishr (n : Int) (sh_r0 _) d_St_length_9 ?_
  exact rz_ireturn (st := []) rfl d_St_length_10 ⟨by decide, by decide⟩ ⟨_, rfl, rfl, rfl⟩
abbrev rm_St_charAt : Room := { frames := 3, cells := 0, slots := 0, locals := 64 }
set_option maxRecDepth 100000 in
set_option maxHeartbeats 4000000 in
theorem c_St_charAt {l : Launch} {Γ : rz_G} {h : rz_H} {s n mm : Nat} {f : Int → Int} (hs : StrAt Γ h s n f mm) {i : Int} (hi : 0 ≤ i ∧ i < (n : Int)) : Ct l Γ x_St_charAt y_St_charAt rm_St_charAt [.ref s, vi i] h (pE (f i) h) := by
  refine rz_met (by decide) rfl rfl (Nat.le_of_ble_eq_true rfl) (fun K _ => ?_)
  refine rz_Leq [(0, .ref s), (1, vi i)] rfl ?_
  obtain ⟨ts, tv, va, fs, g, a1, a2, a3, a4, a5, a6, a7, a8, a9⟩ := hs
  have a81 := a8.1
  refine rz_aload_n 0 d_St_charAt_0 rfl rfl ?_
  refine rz_callV (As := []) (c_St_isLatin1 ⟨ts, tv, va, fs, g, a1, a2, a3, a4, a5, a6, a7, a8, a9⟩) m_St_492 a1 rfl rfl rfl rfl (Nat.le_of_ble_eq_true rfl) ⟨by decide, by decide⟩ ⟨by decide, by decide⟩ d_St_charAt_1 (kE (h := h) ?_)
  refine rz_if_eq 16 d_St_charAt_4 (by decide) ⟨by decide, by decide⟩ (fun c4 => absurd c4 (by decide)) (fun c4 => ?_)
  refine rz_aload_n 0 d_St_charAt_7 rfl rfl ?_
  refine rz_getf f_St_9 a1 a3 d_St_charAt_8 ?_
  refine rz_iload_n 1 d_St_charAt_11 rfl rfl ?_
  refine rz_callS (As := [.ref va, vi i]) (c_S1_charAt a5 (fun z => (a7 z).1) a81 (by omega) (by rw [a9 _ hi.1 hi.2]; exact a8.2 _ hi.1 hi.2)) m_St_495 rfl rfl (Nat.le_of_ble_eq_true rfl) ⟨by decide, by decide⟩ ⟨by decide, by decide⟩ d_St_charAt_12 (kE (h := h) ?_)
  exact rz_zreturn (st := []) (ty := .char) rfl (nz_c (by have := a8.2 _ hi.1 hi.2; rw [a9 _ hi.1 hi.2]; omega)) d_St_charAt_15 ⟨by decide, by decide⟩ ⟨_, rfl, a9 _ hi.1 hi.2, rfl⟩
abbrev rm_St_isEmpty : Room := { frames := 0, cells := 0, slots := 0, locals := 0 }
set_option maxRecDepth 100000 in
set_option maxHeartbeats 4000000 in
theorem c_St_isEmpty {l : Launch} {Γ : rz_G} {h : rz_H} {s n mm : Nat} {f : Int → Int} (hs : StrAt Γ h s n f mm) : Ct l Γ x_St_isEmpty y_St_isEmpty rm_St_isEmpty [.ref s] h (pE (bi (decide (n = 0))) h) := by
  refine rz_met (by decide) rfl rfl (Nat.le_of_ble_eq_true rfl) (fun K _ => ?_)
  refine rz_Leq [(0, .ref s)] rfl ?_
  obtain ⟨ts, tv, va, fs, g, a1, a2, a3, a4, a5, a6, a7, a8, a9⟩ := hs
  have a81 := a8.1
  refine rz_aload_n 0 d_St_isEmpty_0 rfl rfl ?_
  refine rz_getf f_St_9 a1 a3 d_St_isEmpty_1 ?_
  refine rz_alenB (v := (n : Int)) a5 (fun z => (a7 z).1) rfl rfl d_St_isEmpty_4 ?_
  refine rz_if_ne 12 d_St_isEmpty_5 (by decide) (by omega) (fun c5 => ?_) (fun c5 => ?_)
  · refine rz_iconst d_St_isEmpty_12 ?_
    exact rz_zreturn (st := []) (ty := .boolean) rfl rfl d_St_isEmpty_13 ⟨by decide, by decide⟩ ⟨_, rfl, bi0 (by simp; omega), rfl⟩
  · refine rz_iconst d_St_isEmpty_8 ?_
    refine rz_goto 13 d_St_isEmpty_9 (by decide) ?_
    exact rz_zreturn (st := []) (ty := .boolean) rfl rfl d_St_isEmpty_13 ⟨by decide, by decide⟩ ⟨_, rfl, bi1 (by simp; omega), rfl⟩
def eqF (f g : Int → Int) : Nat → Int → Bool
  | 0, _ => true
  | k + 1, i => if f i = g i then eqF f g k (i + 1) else false
theorem eqF_e (f g : Int → Int) {k : Nat} {i : Int} (hk : 0 < k) : eqF f g k i = if f i = g i then eqF f g (k - 1) (i + 1) else false := by
  cases k with
  | zero => omega
  | succ k => rfl
theorem eqF_c {f g f' g' : Int → Int} : ∀ (k : Nat) (i : Int), (∀ j, i ≤ j → j < i + k → f j = f' j ∧ g j = g' j) → eqF f g k i = eqF f' g' k i
  | 0, _, _ => rfl
  | k + 1, i, h => by
    have h1 := h i (by omega) (by omega)
    simp only [eqF, h1.1, h1.2, eqF_c k (i + 1) (fun j a b => h j (by omega) (by omega))]
def idF (f : Int → Int) (c : Int) : Nat → Int → Int
  | 0, _ => -1
  | k + 1, i => if f i = c then i else idF f c k (i + 1)
theorem idF_e (f : Int → Int) (c : Int) {k : Nat} {i : Int} (hk : 0 < k) : idF f c k i = if f i = c then i else idF f c (k - 1) (i + 1) := by
  cases k with
  | zero => omega
  | succ k => rfl
theorem idF_c {f f' : Int → Int} (c : Int) : ∀ (k : Nat) (i : Int), (∀ j, i ≤ j → j < i + k → f j = f' j) → idF f c k i = idF f' c k i
  | 0, _, _ => rfl
  | k + 1, i, h => by
    simp only [idF, h i (by omega) (by omega), idF_c c k (i + 1) (fun j a b => h j (by omega) (by omega))]
theorem idF_in (f : Int → Int) (c : Int) : ∀ (k : Nat) (i : Int), idF f c k i = -1 ∨ (i ≤ idF f c k i ∧ idF f c k i < i + k)
  | 0, _ => Or.inl rfl
  | k + 1, i => by
    have ih := idF_in f c k (i + 1)
    simp only [idF]
    split <;> omega
abbrev rm_S1_equals : Room := { frames := 0, cells := 0, slots := 0, locals := 0 }
set_option maxRecDepth 100000 in
set_option maxHeartbeats 4000000 in
theorem c_S1_equals {l : Launch} {Γ : rz_G} {h : rz_H} {va n : Nat} {tv : Nat × Nat} {g : Int → Int} (ha : h va = some (tv, aI Γ 2 n g)) (ht : tv.1 = 0 → tv.2 = 2) (hn : n ≤ 100) {vb m : Nat} {tw : Nat × Nat} {g' : Int → Int} (hb : h vb = some (tw, aI Γ 2 m g')) (hu : tw.1 = 0 → tw.2 = 2) (hm : m ≤ 100) (hg : ∀ j, 0 ≤ j → j < (n : Int) → 0 ≤ g j ∧ g j ≤ 127) (hg' : ∀ j, 0 ≤ j → j < (m : Int) → 0 ≤ g' j ∧ g' j ≤ 127) : Ct l Γ x_S1_equals y_S1_equals rm_S1_equals [.ref va, .ref vb] h (pE (bi (decide (n = m) && eqF g g' n 0)) h) := by
  refine rz_met (by decide) rfl rfl (Nat.le_of_ble_eq_true rfl) (fun K _ => ?_)
  refine rz_Leq [(0, .ref va), (1, .ref vb)] rfl ?_
  refine rz_aload_n 0 d_S1_equals_0 rfl rfl ?_
  refine rz_alenB (v := (n : Int)) ha ht rfl rfl d_S1_equals_1 ?_
  refine rz_aload_n 1 d_S1_equals_2 rfl rfl ?_
  refine rz_alenB (v := (m : Int)) hb hu rfl rfl d_S1_equals_3 ?_
  refine rz_icmp_ne 34 d_S1_equals_4 (by decide) (by omega) (by omega) (fun c4 => ?_) (fun c4 => ?_)
  · refine rz_iconst d_S1_equals_34 ?_
    exact rz_zreturn (st := []) (ty := .boolean) rfl rfl d_S1_equals_35 ⟨by decide, by decide⟩ ⟨_, rfl, bi0 (by rw [decide_eq_false (by omega)]; rfl), rfl⟩
  · refine rz_iconst d_S1_equals_7 ?_
    refine rz_istore_n [(2, vi 0), (0, .ref va), (1, .ref vb)] d_S1_equals_8 rfl (by decide) rfl ?_
    refine rz_loop (α := Int) 0 0 9 (fun i => (n - i).toNat) (fun i => 0 ≤ i ∧ i ≤ n ∧ eqF g g' n 0 = eqF g g' (n - i).toNat i) (fun i => [(2, vi i), (0, .ref va), (1, .ref vb)]) (fun i => []) (fun i => h) (fun y hy ih9 => ?_) (fun LP => ?_)
    · obtain ⟨i, rfl⟩ : ∃ z, z = y := ⟨_, rfl⟩
      try dsimp only at hy ih9 ⊢
      obtain ⟨hi0, hi1, hv⟩ := hy
      refine rz_iload_n 0 d_S1_equals_9 rfl rfl ?_
      refine rz_aload_n 1 d_S1_equals_10 rfl rfl ?_
      refine rz_alenB (v := (n : Int)) ha ht rfl rfl d_S1_equals_11 ?_
      refine rz_icmp_ge 32 d_S1_equals_12 (by decide) (by omega) (by omega) (fun c12 => ?_) (fun c12 => ?_)
      · refine rz_iconst d_S1_equals_32 ?_
        exact rz_zreturn (st := []) (ty := .boolean) rfl rfl d_S1_equals_33 ⟨by decide, by decide⟩ ⟨_, rfl, bi1 (by rw [hv, show (n - i).toNat = 0 by omega]; simp [eqF]; omega), rfl⟩
      · have r1 := hg i (by omega) (by omega)
        have r2 := hg' i (by omega) (by omega)
        refine rz_aload_n 1 d_S1_equals_15 rfl rfl ?_
        refine rz_iload_n 0 d_S1_equals_16 rfl rfl ?_
        refine rz_baload ha ht (by omega) d_S1_equals_17 ?_
        refine rz_aload_n 2 d_S1_equals_18 rfl rfl ?_
        refine rz_iload_n 0 d_S1_equals_19 rfl rfl ?_
        refine rz_baload hb hu (by omega) d_S1_equals_20 ?_
        refine rz_icmp_eq 26 d_S1_equals_21 (by decide) (by omega) (by omega) (fun c21 => ?_) (fun c21 => ?_)
        · refine rz_iinc (i + 1) 0 [(2, vi (i + 1)), (0, .ref va), (1, .ref vb)] d_S1_equals_26 rfl (by first | rfl | omega) (by decide) rfl ?_
          refine rz_goto 9 d_S1_equals_29 (by decide) ?_
          refine rz_Lsub [(2, vi (i + 1)), (0, .ref va), (1, .ref vb)] [0, 1, 2] rfl ?_
          refine ih9 (i + 1) ?_ ?_
          · try dsimp only
            exact ⟨by omega, by omega, (by rw [hv, eqF_e _ _ (by omega), if_pos c21]; congr 1; omega)⟩
          · exact (by first | omega | (dsimp only; omega))
        · refine rz_iconst d_S1_equals_24 ?_
          exact rz_zreturn (st := []) (ty := .boolean) rfl rfl d_S1_equals_25 ⟨by decide, by decide⟩ ⟨_, rfl, bi0 (by rw [hv, eqF_e _ _ (by omega), if_neg c21]; simp), rfl⟩
    · refine rz_Lsub [(2, vi 0), (0, .ref va), (1, .ref vb)] [0, 1, 2] rfl ?_
      refine LP 0 ?_
      try dsimp only
      exact ⟨by omega, by omega, (by congr 1)⟩
theorem StrAt_same {Γ : rz_G} {h : rz_H} {s n m k k' : Nat} {f f' : Int → Int} (h1 : StrAt Γ h s n f k) (h2 : StrAt Γ h s m f' k') : n = m ∧ ∀ j, 0 ≤ j → j < (n : Int) → f j = f' j := by
  obtain ⟨ts, tv, va, fs, g, a1, a2, a3, a4, a5, a6, a7, a8, a9⟩ := h1
  obtain ⟨us, uv, vb, gs, g', b1, b2, b3, b4, b5, b6, b7, b8, b9⟩ := h2
  rw [a1] at b1
  cases b1
  rw [a3] at b3
  cases b3
  rw [a5] at b5
  have e := (Prod.mk.inj (Option.some.inj b5)).2
  have e2 := Sum.inl.inj e
  have e3 := (Prod.mk.inj e2).2
  have e4 := (Prod.mk.inj e3).1
  have e5 := Sum.inl.inj (Prod.mk.inj e3).2
  subst e4
  refine ⟨rfl, fun j p q => ?_⟩
  rw [← a9 j p q, ← b9 j p q]
  have e6 := congrFun e5 j.toNat
  have k1 := a8.2 j p q
  have k2 := b8.2 j p q
  rw [← a9 j p q] at k1
  rw [← b9 j p q] at k2
  rw [show ((j.toNat : Nat) : Int) = j by omega] at e6
  exact (rz_eq (by omega) (by omega)).mp e6
theorem eqF_n {f g f' g' : Int → Int} {n m : Nat} (h1 : ∀ j, 0 ≤ j → j < (n : Int) → f j = f' j) (h2 : ∀ j, 0 ≤ j → j < (m : Int) → g j = g' j) : (decide (n = m) && eqF f g n 0) = (decide (n = m) && eqF f' g' n 0) := by
  by_cases e : n = m
  · subst e
    rw [eqF_c n 0 (fun j a b => ⟨h1 j a (by omega), h2 j a (by omega)⟩)]
  · simp [e]
theorem eqF_s (f : Int → Int) : ∀ (k : Nat) (i : Int), eqF f f k i = true
  | 0, _ => rfl
  | k + 1, i => by simp only [eqF, eqF_s f k, if_true]
abbrev rm_St_equals : Room := { frames := 1, cells := 0, slots := 0, locals := 22 }
set_option maxRecDepth 100000 in
set_option maxHeartbeats 4000000 in
theorem c_St_equals {l : Launch} {Γ : rz_G} {h : rz_H} {s n mm : Nat} {f : Int → Int} (hs : StrAt Γ h s n f mm) {s' m mm' : Nat} {f' : Int → Int} (hs' : StrAt Γ h s' m f' mm') : Ct l Γ x_St_equals y_St_equals rm_St_equals [.ref s, .ref s'] h (pE (bi (decide (n = m) && eqF f f' n 0)) h) := by
  refine rz_met (by decide) rfl rfl (Nat.le_of_ble_eq_true rfl) (fun K _ => ?_)
  refine rz_Leq [(0, .ref s), (1, .ref s')] rfl ?_
  obtain ⟨ts, tv, va, fs, g, a1, a2, a3, a4, a5, a6, a7, a8, a9⟩ := hs
  have a81 := a8.1
  obtain ⟨us, uv, vb, gs, g', b1, b2, b3, b4, b5, b6, b7, b8, b9⟩ := hs'
  have b81 := b8.1
  refine rz_aload_n 0 d_St_equals_0 rfl rfl ?_
  refine rz_aload_n 1 d_St_equals_1 rfl rfl ?_
  refine rz_acmp_ne 7 d_St_equals_2 (by decide) (fun c2 => ?_) (fun c2 => ?_)
  · refine rz_aload_n 1 d_St_equals_7 rfl rfl ?_
    refine rz_inst b1 rfl cl_St_10 d_St_equals_8 ?_
    refine rz_if_eq 54 d_St_equals_11 (by decide) ⟨by decide, by decide⟩ (fun c11 => absurd c11 (by decide)) (fun c11 => ?_)
    refine rz_aload_n 1 d_St_equals_14 rfl rfl ?_
    refine rz_cast b1 rfl cl_St_10 d_St_equals_15 ?_
    refine rz_astore_n [(2, .ref s'), (0, .ref s), (1, .ref s')] d_St_equals_18 rfl (by decide) rfl ?_
    refine rz_gets (List.mem_of_getElem? (i := 0) rfl) g_St_38 (Or.inl rfl) d_St_equals_19 ?_
    refine rz_if_eq 36 d_St_equals_22 (by decide) ⟨by decide, by decide⟩ (fun c22 => absurd c22 (by decide)) (fun c22 => ?_)
    refine rz_aload_n 1 d_St_equals_25 rfl rfl ?_
    refine rz_getf f_St_15 a1 a4 d_St_equals_26 ?_
    refine rz_aload_n 0 d_St_equals_29 rfl rfl ?_
    refine rz_getf f_St_15 b1 b4 d_St_equals_30 ?_
    refine rz_icmp_ne 54 d_St_equals_33 (by decide) ⟨by decide, by decide⟩ ⟨by decide, by decide⟩ (fun c33 => absurd c33 (by decide)) (fun c33 => ?_)
    refine rz_aload_n 1 d_St_equals_36 rfl rfl ?_
    refine rz_getf f_St_9 a1 a3 d_St_equals_37 ?_
    refine rz_aload_n 0 d_St_equals_40 rfl rfl ?_
    refine rz_getf f_St_9 b1 b3 d_St_equals_41 ?_
    refine rz_callS (As := [.ref va, .ref vb]) (c_S1_equals a5 (fun z => (a7 z).1) a81 b5 (fun z => (b7 z).1) b81 (fun j p q => by rw [a9 j p q]; exact a8.2 j p q) (fun j p q => by rw [b9 j p q]; exact b8.2 j p q)) m_St_541 rfl rfl (Nat.le_of_ble_eq_true rfl) ⟨by decide, by decide⟩ ⟨by decide, by decide⟩ d_St_equals_44 (kE (h := h) ?_)
    refine rz_if_eqB 54 d_St_equals_47 (by decide) (fun c47 => ?_) (fun c47 => ?_)
    · refine rz_iconst d_St_equals_54 ?_
      exact rz_zreturn (st := []) (ty := .boolean) rfl rfl d_St_equals_55 ⟨by decide, by decide⟩ ⟨_, rfl, bi0 (by rw [← eqF_n a9 b9]; exact c47), rfl⟩
    · refine rz_iconst d_St_equals_50 ?_
      refine rz_goto 55 d_St_equals_51 (by decide) ?_
      exact rz_zreturn (st := []) (ty := .boolean) rfl rfl d_St_equals_55 ⟨by decide, by decide⟩ ⟨_, rfl, bi1 (by rw [← eqF_n a9 b9]; exact c47), rfl⟩
  · refine rz_iconst d_St_equals_5 ?_
    exact rz_zreturn (st := []) (ty := .boolean) rfl rfl d_St_equals_6 ⟨by decide, by decide⟩ ⟨_, rfl, bi1 (by subst c2; obtain ⟨ne, fe⟩ := StrAt_same ⟨ts, tv, va, fs, g, a1, a2, a3, a4, a5, a6, a7, a8, a9⟩ ⟨us, uv, vb, gs, g', b1, b2, b3, b4, b5, b6, b7, b8, b9⟩; rw [decide_eq_true ne, eqF_c n 0 (fun j a b => ⟨fe j a (by omega), rfl⟩), eqF_s]; rfl), rfl⟩
abbrev rm_S1_canEncode2 : Room := { frames := 0, cells := 0, slots := 0, locals := 0 }
set_option maxRecDepth 100000 in
set_option maxHeartbeats 4000000 in
theorem c_S1_canEncode2 {l : Launch} {Γ : rz_G} {h : rz_H} {c : Int} (rc : -2147483648 ≤ c ∧ c ≤ 2147483647) (hc : 0 ≤ c ∧ c ≤ 255) : Ct l Γ x_S1_canEncode2 y_S1_canEncode2 rm_S1_canEncode2 [vi c] h (pE 1 h) := by
  refine rz_met (by decide) rfl rfl (Nat.le_of_ble_eq_true rfl) (fun K _ => ?_)
  refine rz_Leq [(0, vi c)] rfl ?_
  refine rz_iload_n 0 d_S1_canEncode2_0 rfl rfl ?_
  refine rz_if_lt 15 d_S1_canEncode2_1 (by decide) (by omega) (fun c1 => absurd c1 (by omega)) (fun c1 => ?_)
  refine rz_iload_n 0 d_S1_canEncode2_4 rfl rfl ?_
  refine rz_sipush (v := 255) d_S1_canEncode2_5 (by decide) ?_
  refine rz_icmp_gt 15 d_S1_canEncode2_8 (by decide) (by omega) ⟨by decide, by decide⟩ (fun c8 => absurd c8 (by omega)) (fun c8 => ?_)
  refine rz_iconst d_S1_canEncode2_11 ?_
  refine rz_goto 16 d_S1_canEncode2_12 (by decide) ?_
  exact rz_zreturn (st := []) (ty := .boolean) rfl rfl d_S1_canEncode2_16 ⟨by decide, by decide⟩ ⟨_, rfl, rfl, rfl⟩
abbrev rm_S1_indexOfChar : Room := { frames := 0, cells := 0, slots := 0, locals := 0 }
set_option maxRecDepth 100000 in
set_option maxHeartbeats 4000000 in
theorem c_S1_indexOfChar {l : Launch} {Γ : rz_G} {h : rz_H} {va n : Nat} {tv : Nat × Nat} {g : Int → Int} (ha : h va = some (tv, aI Γ 2 n g)) (ht : tv.1 = 0 → tv.2 = 2) (hn : n ≤ 100) {c i e : Int} (hc : 0 ≤ c ∧ c ≤ 127) (hi : 0 ≤ i ∧ i ≤ e) (he : e ≤ n) (hg : ∀ j, 0 ≤ j → j < (n : Int) → 0 ≤ g j ∧ g j ≤ 127) : Ct l Γ x_S1_indexOfChar y_S1_indexOfChar rm_S1_indexOfChar [.ref va, vi c, vi i, vi e] h (pE (idF g c (e - i).toNat i) h) := by
  refine rz_met (by decide) rfl rfl (Nat.le_of_ble_eq_true rfl) (fun K _ => ?_)
  refine rz_Leq [(0, .ref va), (1, vi c), (2, vi i), (3, vi e)] rfl ?_
  refine rz_iload_n 1 d_S1_indexOfChar_0 rfl rfl ?_
  refine rz_i2b (by omega) d_S1_indexOfChar_1 ?_
  refine rz_istore [(4, vi c), (0, .ref va), (1, vi c), (2, vi i), (3, vi e)] d_S1_indexOfChar_2 (by decide) rfl ?_
  refine rz_iload_n 3 d_S1_indexOfChar_4 rfl rfl ?_
  refine rz_istore [(5, vi i), (4, vi c), (0, .ref va), (1, vi c), (2, vi i), (3, vi e)] d_S1_indexOfChar_5 (by decide) rfl ?_
  refine rz_loop (α := Int) 0 0 7 (fun j => (e - j).toNat) (fun j => i ≤ j ∧ j ≤ e ∧ idF g c (e - i).toNat i = idF g c (e - j).toNat j) (fun j => [(5, vi j), (4, vi c), (0, .ref va), (1, vi c), (2, vi i), (3, vi e)]) (fun j => []) (fun j => h) (fun y hy ih7 => ?_) (fun LP => ?_)
  · obtain ⟨j, rfl⟩ : ∃ z, z = y := ⟨_, rfl⟩
    try dsimp only at hy ih7 ⊢
    obtain ⟨hj0, hj1, hv⟩ := hy
    refine rz_iload 0 d_S1_indexOfChar_7 rfl ?_
    refine rz_iload_n 5 d_S1_indexOfChar_9 rfl rfl ?_
    refine rz_icmp_ge 31 d_S1_indexOfChar_10 (by decide) (by omega) (by omega) (fun c10 => ?_) (fun c10 => ?_)
    · refine rz_iconst d_S1_indexOfChar_31 ?_
      exact rz_ireturn (st := []) rfl d_S1_indexOfChar_32 ⟨by decide, by decide⟩ ⟨_, rfl, (by rw [hv, show (e - j).toNat = 0 by omega]; rfl), rfl⟩
    · have r1 := hg j (by omega) (by omega)
      refine rz_aload_n 2 d_S1_indexOfChar_13 rfl rfl ?_
      refine rz_iload 0 d_S1_indexOfChar_14 rfl ?_
      refine rz_baload ha ht (by omega) d_S1_indexOfChar_16 ?_
      refine rz_iload 1 d_S1_indexOfChar_17 rfl ?_
      refine rz_icmp_ne 25 d_S1_indexOfChar_19 (by decide) (by omega) (by omega) (fun c19 => ?_) (fun c19 => ?_)
      · refine rz_iinc (j + 1) 0 [(5, vi (j + 1)), (4, vi c), (0, .ref va), (1, vi c), (2, vi i), (3, vi e)] d_S1_indexOfChar_25 rfl (by first | rfl | omega) (by decide) rfl ?_
        refine rz_goto 7 d_S1_indexOfChar_28 (by decide) ?_
        refine rz_Lsub [(5, vi (j + 1)), (4, vi c), (0, .ref va), (1, vi c), (2, vi i), (3, vi e)] [0, 1, 2, 3, 4, 5] rfl ?_
        refine ih7 (j + 1) ?_ ?_
        · try dsimp only
          exact ⟨by omega, by omega, (by rw [hv, idF_e _ _ (by omega), if_neg c19]; congr 1; omega)⟩
        · exact (by first | omega | (dsimp only; omega))
      · refine rz_iload 0 d_S1_indexOfChar_22 rfl ?_
        exact rz_ireturn (st := []) rfl d_S1_indexOfChar_24 ⟨by decide, by decide⟩ ⟨_, rfl, (by rw [hv, idF_e _ _ (by omega), if_pos c19]), rfl⟩
  · refine rz_Lsub [(5, vi i), (4, vi c), (0, .ref va), (1, vi c), (2, vi i), (3, vi e)] [0, 1, 2, 3, 4, 5] rfl ?_
    refine LP i ?_
    try dsimp only
    exact ⟨by omega, by omega, rfl⟩
abbrev rm_S1_indexOf : Room := { frames := 1, cells := 0, slots := 0, locals := 40 }
set_option maxRecDepth 100000 in
set_option maxHeartbeats 4000000 in
theorem c_S1_indexOf {l : Launch} {Γ : rz_G} {h : rz_H} {va n : Nat} {tv : Nat × Nat} {g : Int → Int} (ha : h va = some (tv, aI Γ 2 n g)) (ht : tv.1 = 0 → tv.2 = 2) (hn : n ≤ 100) {c i e : Int} (hc : 0 ≤ c ∧ c ≤ 127) (hi : 0 ≤ i ∧ i ≤ e) (he : e ≤ n) (hg : ∀ j, 0 ≤ j → j < (n : Int) → 0 ≤ g j ∧ g j ≤ 127) : Ct l Γ x_S1_indexOf y_S1_indexOf rm_S1_indexOf [.ref va, vi c, vi i, vi e] h (pE (idF g c (e - i).toNat i) h) := by
  refine rz_met (by decide) rfl rfl (Nat.le_of_ble_eq_true rfl) (fun K _ => ?_)
  refine rz_Leq [(0, .ref va), (1, vi c), (2, vi i), (3, vi e)] rfl ?_
  refine rz_iload_n 1 d_S1_indexOf_0 rfl rfl ?_
  refine rz_callS (As := [vi c]) (c_S1_canEncode2 (by omega) (by omega)) m_S1_88 rfl rfl (Nat.le_of_ble_eq_true rfl) ⟨by decide, by decide⟩ ⟨by decide, by decide⟩ d_S1_indexOf_1 (kE (h := h) ?_)
  refine rz_if_ne 9 d_S1_indexOf_4 (by decide) ⟨by decide, by decide⟩ (fun c4 => ?_) (fun c4 => absurd c4 (by decide))
  refine rz_iload_n 2 d_S1_indexOf_9 rfl rfl ?_
  refine rz_iconst d_S1_indexOf_10 ?_
  refine rz_mmax i mm_S1_92 (by omega) ⟨by decide, by decide⟩ (by omega) (by decide) (Nat.le_of_ble_eq_true rfl) ⟨by decide, by decide⟩ d_S1_indexOf_11 ?_
  refine rz_istore_n [(2, vi i), (0, .ref va), (1, vi c), (3, vi e)] d_S1_indexOf_14 rfl (by decide) rfl ?_
  refine rz_iload_n 3 d_S1_indexOf_15 rfl rfl ?_
  refine rz_aload_n 1 d_S1_indexOf_16 rfl rfl ?_
  refine rz_alenB (v := (n : Int)) ha ht rfl rfl d_S1_indexOf_17 ?_
  refine rz_mmin e mm_S1_38 (by omega) (by omega) (by omega) (by decide) (Nat.le_of_ble_eq_true rfl) ⟨by decide, by decide⟩ d_S1_indexOf_18 ?_
  refine rz_istore_n [(3, vi e), (2, vi i), (0, .ref va), (1, vi c)] d_S1_indexOf_21 rfl (by decide) rfl ?_
  refine rz_iload_n 1 d_S1_indexOf_22 rfl rfl ?_
  refine rz_iload_n 0 d_S1_indexOf_23 rfl rfl ?_
  refine rz_icmp_lt 29 d_S1_indexOf_24 (by decide) (by omega) (by omega) (fun c24 => ?_) (fun c24 => ?_)
  · refine rz_aload_n 2 d_S1_indexOf_29 rfl rfl ?_
    refine rz_iload_n 3 d_S1_indexOf_30 rfl rfl ?_
    refine rz_iload_n 1 d_S1_indexOf_31 rfl rfl ?_
    refine rz_iload_n 0 d_S1_indexOf_32 rfl rfl ?_
    refine rz_callS (As := [.ref va, vi c, vi i, vi e]) (c_S1_indexOfChar ha ht hn hc (by omega) (by omega) hg) m_S1_95 rfl rfl (Nat.le_of_ble_eq_true rfl) ⟨by decide, by decide⟩ ⟨by decide, by decide⟩ d_S1_indexOf_33 (kE (h := h) ?_)
    exact rz_ireturn (st := []) rfl d_S1_indexOf_36 ⟨by decide, by decide⟩ ⟨_, rfl, rfl, rfl⟩
  · refine rz_iconst d_S1_indexOf_27 ?_
    exact rz_ireturn (st := []) rfl d_S1_indexOf_28 ⟨by decide, by decide⟩ ⟨_, rfl, (by rw [show (e - i).toNat = 0 by omega]; rfl), rfl⟩
abbrev rm_St_indexOf2 : Room := { frames := 2, cells := 0, slots := 0, locals := 63 }
set_option maxRecDepth 100000 in
set_option maxHeartbeats 4000000 in
theorem c_St_indexOf2 {l : Launch} {Γ : rz_G} {h : rz_H} {s n mm : Nat} {f : Int → Int} (hs : StrAt Γ h s n f mm) {c : Int} (hc : 0 ≤ c ∧ c ≤ 127) : Ct l Γ x_St_indexOf2 y_St_indexOf2 rm_St_indexOf2 [.ref s, vi c, vi 0] h (pE (idF f c n 0) h) := by
  refine rz_met (by decide) rfl rfl (Nat.le_of_ble_eq_true rfl) (fun K _ => ?_)
  refine rz_Leq [(0, .ref s), (1, vi c), (2, vi 0)] rfl ?_
  obtain ⟨ts, tv, va, fs, g, a1, a2, a3, a4, a5, a6, a7, a8, a9⟩ := hs
  have a81 := a8.1
  refine rz_aload_n 0 d_St_indexOf2_0 rfl rfl ?_
  refine rz_callV (As := []) (c_St_isLatin1 ⟨ts, tv, va, fs, g, a1, a2, a3, a4, a5, a6, a7, a8, a9⟩) m_St_492 a1 rfl rfl rfl rfl (Nat.le_of_ble_eq_true rfl) ⟨by decide, by decide⟩ ⟨by decide, by decide⟩ d_St_indexOf2_1 (kE (h := h) ?_)
  refine rz_if_eq 23 d_St_indexOf2_4 (by decide) ⟨by decide, by decide⟩ (fun c4 => absurd c4 (by decide)) (fun c4 => ?_)
  refine rz_aload_n 0 d_St_indexOf2_7 rfl rfl ?_
  refine rz_getf f_St_9 a1 a3 d_St_indexOf2_8 ?_
  refine rz_iload_n 1 d_St_indexOf2_11 rfl rfl ?_
  refine rz_iload_n 2 d_St_indexOf2_12 rfl rfl ?_
  refine rz_aload_n 0 d_St_indexOf2_13 rfl rfl ?_
  refine rz_callV (As := []) (c_St_length ⟨ts, tv, va, fs, g, a1, a2, a3, a4, a5, a6, a7, a8, a9⟩) m_St_505 a1 rfl rfl rfl rfl (Nat.le_of_ble_eq_true rfl) ⟨by decide, by decide⟩ ⟨by decide, by decide⟩ d_St_indexOf2_14 (kE (h := h) ?_)
  refine rz_callS (As := [.ref va, vi c, vi 0, vi (n : Int)]) (c_S1_indexOf a5 (fun z => (a7 z).1) a81 hc (by omega) (by omega) (fun j p q => by rw [a9 j p q]; exact a8.2 j p q)) m_St_637 rfl rfl (Nat.le_of_ble_eq_true rfl) ⟨by decide, by decide⟩ ⟨by decide, by decide⟩ d_St_indexOf2_17 (kE (h := h) ?_)
  refine rz_goto 36 d_St_indexOf2_20 (by decide) ?_
  exact rz_ireturn (st := []) rfl d_St_indexOf2_36 ⟨by decide, by decide⟩ ⟨_, rfl, (by rw [show ((n : Int) - 0).toNat = n by omega]; exact idF_c c n 0 (fun j p q => a9 j p (by omega))), rfl⟩
abbrev rm_St_indexOf : Room := { frames := 3, cells := 0, slots := 0, locals := 85 }
set_option maxRecDepth 100000 in
set_option maxHeartbeats 4000000 in
theorem c_St_indexOf {l : Launch} {Γ : rz_G} {h : rz_H} {s n mm : Nat} {f : Int → Int} (hs : StrAt Γ h s n f mm) {c : Int} (hc : 0 ≤ c ∧ c ≤ 127) : Ct l Γ x_St_indexOf y_St_indexOf rm_St_indexOf [.ref s, vi c] h (pE (idF f c n 0) h) := by
  refine rz_met (by decide) rfl rfl (Nat.le_of_ble_eq_true rfl) (fun K _ => ?_)
  refine rz_Leq [(0, .ref s), (1, vi c)] rfl ?_
  obtain ⟨ts, tv, va, fs, g, a1, a2, a3, a4, a5, a6, a7, a8, a9⟩ := hs
  have a81 := a8.1
  refine rz_aload_n 0 d_St_indexOf_0 rfl rfl ?_
  refine rz_iload_n 1 d_St_indexOf_1 rfl rfl ?_
  refine rz_iconst d_St_indexOf_2 ?_
  refine rz_callV (As := [vi c, vi 0]) (c_St_indexOf2 ⟨ts, tv, va, fs, g, a1, a2, a3, a4, a5, a6, a7, a8, a9⟩ hc) m_St_633 a1 rfl rfl rfl rfl (Nat.le_of_ble_eq_true rfl) ⟨by decide, by decide⟩ ⟨by decide, by decide⟩ d_St_indexOf_3 (kE (h := h) ?_)
  exact rz_ireturn (st := []) rfl d_St_indexOf_6 ⟨by decide, by decide⟩ ⟨_, rfl, rfl, rfl⟩

/-! JDK: copies, StringBuilder, substrings -/
abbrev rm_Ar_checkLength : Room := { frames := 0, cells := 0, slots := 0, locals := 0 }
set_option maxRecDepth 100000 in
set_option maxHeartbeats 4000000 in
theorem c_Ar_checkLength {l : Launch} {Γ : rz_G} {h : rz_H} {i e : Int} (ri : -2147483648 ≤ i ∧ i ≤ 2147483647) (re : -2147483648 ≤ e ∧ e ≤ 2147483647) (hi : i ≤ e) : Ct l Γ x_Ar_checkLength y_Ar_checkLength rm_Ar_checkLength [vi i, vi e] h (pV (fun h' => h' = h)) := by
  refine rz_met (by decide) rfl rfl (Nat.le_of_ble_eq_true rfl) (fun K _ => ?_)
  refine rz_Leq [(0, vi i), (1, vi e)] rfl ?_
  refine rz_iload_n 1 d_Ar_checkLength_0 rfl rfl ?_
  refine rz_iload_n 0 d_Ar_checkLength_1 rfl rfl ?_
  refine rz_icmp_ge 37 d_Ar_checkLength_2 (by decide) (by omega) (by omega) (fun c2 => ?_) (fun c2 => absurd c2 (by omega))
  exact rz_return (st := []) rfl d_Ar_checkLength_37 ⟨by decide, by decide⟩ ⟨rfl, rfl⟩
abbrev rm_Ar_copyOfRangeByte : Room := { frames := 1, cells := 1, slots := 34, locals := 40 }
set_option maxRecDepth 100000 in
set_option maxHeartbeats 4000000 in
theorem c_Ar_copyOfRangeByte {l : Launch} {Γ : rz_G} {h : rz_H} {va n : Nat} {tv : Nat × Nat} {g : Int → Int} (ha : h va = some (tv, aI Γ 2 n g)) (ht : tv.1 ≠ 0) (hn : n ≤ 34) {i e : Int} {N : Nat} (hi : 0 ≤ i) (hN : e = i + N) (he : e ≤ n) (hg : ∀ j, 0 ≤ j → j < (n : Int) → -128 ≤ g j ∧ g j ≤ 127) : Ct l Γ x_Ar_copyOfRangeByte y_Ar_copyOfRangeByte rm_Ar_copyOfRangeByte [.ref va, vi i, vi e] h (pR (fun q h' => ∃ g', h' q = some ((2, 0), aI Γ 2 N g') ∧ (∀ j, 0 ≤ j → j < (N : Int) → g' j = g (i + j)) ∧ rz_fr [] h h')) := by
  refine rz_met (by decide) rfl rfl (Nat.le_of_ble_eq_true rfl) (fun K _ => ?_)
  refine rz_Leq [(0, .ref va), (1, vi i), (2, vi e)] rfl ?_
  refine rz_iload_n 1 d_Ar_copyOfRangeByte_0 rfl rfl ?_
  refine rz_iload_n 2 d_Ar_copyOfRangeByte_1 rfl rfl ?_
  refine rz_callS (As := [vi i, vi e]) (c_Ar_checkLength (by omega) (by omega) (by omega)) m_Ar_343 rfl rfl (Nat.le_of_ble_eq_true rfl) ⟨by decide, by decide⟩ ⟨by decide, by decide⟩ d_Ar_copyOfRangeByte_2 (kV (h := h) fun hv1 ehv1 => ?_)
  rw [ehv1]
  refine rz_iload_n 2 d_Ar_copyOfRangeByte_5 rfl rfl ?_
  refine rz_iload_n 1 d_Ar_copyOfRangeByte_6 rfl rfl ?_
  refine rz_isub d_Ar_copyOfRangeByte_7 ?_
  refine rz_istore_n [(3, vi (e - i)), (0, .ref va), (1, vi i), (2, vi e)] d_Ar_copyOfRangeByte_8 rfl (by decide) rfl ?_
  refine rz_iload_n 0 d_Ar_copyOfRangeByte_9 rfl rfl ?_
  refine rz_newB N (2, 0) (show (2 : Nat) ≠ 0 by decide) aw_byte (by omega) (by omega) ⟨by decide, show 0 + N ≤ 34 by omega⟩ d_Ar_copyOfRangeByte_10 (fun q2 zq2 => ?_)
  refine Wk.widen (k := 1) (n := 34) (Nat.le_refl _) (show 0 + N ≤ 34 by omega) ?_
  refine rz_nm fun h3 eh3 => ?_
  have g3 : rz_fr [] h h3 := by rw [eh3]; exact rz_fr.nw zq2
  have z3 : h q2 = none := rz_fr.rf.nn zq2
  have F4 : rz_fr [] h h3 := rz_fr.rf.tr (g3.mono (by decide))
  have fc_5_0 : h3 va = some (tv, aI Γ 2 n g) := g3 _ _ _ ha (by simp)
  have fn_3 : h3 q2 = some ((2, 0), aI Γ 2 N (fun _ => 0)) := by rw [eh3]; exact rz_up_s _ _ _
  refine rz_astore [(4, .ref q2), (3, vi (e - i)), (0, .ref va), (1, vi i), (2, vi e)] d_Ar_copyOfRangeByte_12 (by decide) rfl ?_
  refine rz_aload_n 2 d_Ar_copyOfRangeByte_14 rfl rfl ?_
  refine rz_iload_n 3 d_Ar_copyOfRangeByte_15 rfl rfl ?_
  refine rz_aload 0 d_Ar_copyOfRangeByte_16 rfl ?_
  refine rz_iconst d_Ar_copyOfRangeByte_18 ?_
  refine rz_aload_n 2 d_Ar_copyOfRangeByte_19 rfl rfl ?_
  refine rz_alen (v := (n : Int)) fc_5_0 ht rfl rfl d_Ar_copyOfRangeByte_20 ?_
  refine rz_iload_n 3 d_Ar_copyOfRangeByte_21 rfl rfl ?_
  refine rz_isub d_Ar_copyOfRangeByte_22 ?_
  refine rz_iload_n 1 d_Ar_copyOfRangeByte_23 rfl rfl ?_
  refine rz_mmin (e - i) mm_Ar_304 (by omega) (by omega) (by omega) (by decide) (Nat.le_of_ble_eq_true rfl) ⟨by decide, by decide⟩ d_Ar_copyOfRangeByte_24 ?_
  refine rz_copyB cp_Ar_150 fc_5_0 ht fn_3 (show (2 : Nat) ≠ 0 by decide) (by omega) (by omega) (by omega) (fun j p r => hg _ (by omega) (by omega)) (by decide) (Nat.le_of_ble_eq_true rfl) d_Ar_copyOfRangeByte_27 ?_
  refine rz_nm fun h6 eh6 => ?_
  have g6 : rz_fr [2] h3 h6 := by rw [eh6]; exact rz_fr.one fn_3
  have F7 : rz_fr [] h h6 := by rw [eh6]; exact F4.upn z3
  have fu_6 : h6 q2 = some ((2, 0), aI Γ 2 N (rz_cp g (fun _ => 0) i 0 (e - i))) := by rw [eh6]; exact rz_up_s _ _ _
  refine rz_aload 0 d_Ar_copyOfRangeByte_30 rfl ?_
  exact rz_areturn (st := []) (r := some q2) rfl (Or.inr ⟨_, rfl⟩) d_Ar_copyOfRangeByte_32 ⟨by decide, by decide⟩ ⟨q2, rfl, _, fu_6, (fun j p r => by rw [rz_cp, if_pos (by omega)]; congr 1; omega), F7⟩
abbrev rm_Ar_copyOfRange : Room := { frames := 2, cells := 1, slots := 34, locals := 64 }
set_option maxRecDepth 100000 in
set_option maxHeartbeats 4000000 in
theorem c_Ar_copyOfRange {l : Launch} {Γ : rz_G} {h : rz_H} {va n : Nat} {tv : Nat × Nat} {g : Int → Int} (ha : h va = some (tv, aI Γ 2 n g)) (ht : tv.1 ≠ 0) (hn : n ≤ 34) {i e : Int} {N : Nat} (hi : 0 ≤ i) (hN : e = i + N) (he : e ≤ n) (hg : ∀ j, 0 ≤ j → j < (n : Int) → -128 ≤ g j ∧ g j ≤ 127) : Ct l Γ x_Ar_copyOfRange y_Ar_copyOfRange rm_Ar_copyOfRange [.ref va, vi i, vi e] h (pR (fun q h' => ∃ g', h' q = some ((2, 0), aI Γ 2 N g') ∧ (∀ j, 0 ≤ j → j < (N : Int) → g' j = g (i + j)) ∧ rz_fr [] h h')) := by
  refine rz_met (by decide) rfl rfl (Nat.le_of_ble_eq_true rfl) (fun K _ => ?_)
  refine rz_Leq [(0, .ref va), (1, vi i), (2, vi e)] rfl ?_
  refine rz_iload_n 1 d_Ar_copyOfRange_0 rfl rfl ?_
  refine rz_if_ne 10 d_Ar_copyOfRange_1 (by decide) (by omega) (fun c1 => ?_) (fun c1 => ?_)
  · refine rz_aload_n 0 d_Ar_copyOfRange_10 rfl rfl ?_
    refine rz_iload_n 1 d_Ar_copyOfRange_11 rfl rfl ?_
    refine rz_iload_n 2 d_Ar_copyOfRange_12 rfl rfl ?_
    refine rz_callS (As := [.ref va, vi i, vi e]) (c_Ar_copyOfRangeByte ha ht hn hi hN he hg) m_Ar_339 rfl rfl (Nat.le_of_ble_eq_true rfl) ⟨by decide, by decide⟩ ⟨by decide, by decide⟩ d_Ar_copyOfRange_13 (kR (h := h) fun b1 h1 q1 => ?_)
    obtain ⟨g1, fb1, eg1, F1⟩ := q1
    exact rz_areturn (st := []) (r := some b1) rfl (Or.inr ⟨_, rfl⟩) d_Ar_copyOfRange_16 ⟨by decide, by decide⟩ ⟨b1, rfl, g1, fb1, eg1, F1⟩
  · refine rz_iload_n 2 d_Ar_copyOfRange_4 rfl rfl ?_
    refine rz_aload_n 0 d_Ar_copyOfRange_5 rfl rfl ?_
    refine rz_alen (v := (n : Int)) ha ht rfl rfl d_Ar_copyOfRange_6 ?_
    refine rz_icmp_eq 17 d_Ar_copyOfRange_7 (by decide) (by omega) (by omega) (fun c7 => ?_) (fun c7 => ?_)
    · refine rz_aload_n 0 d_Ar_copyOfRange_17 rfl rfl ?_
      refine rz_cloneB (2, 0) (show (2 : Nat) ≠ 0 by decide) cn_Ar_310 ha ht hg (by decide) (Nat.le_of_ble_eq_true rfl) ⟨by decide, show 0 + n ≤ 34 by omega⟩ d_Ar_copyOfRange_18 (fun q2 zq2 => ?_)
      refine Wk.widen (k := 1) (n := 34) (Nat.le_refl _) (show 0 + n ≤ 34 by omega) ?_
      refine rz_nm fun h3 eh3 => ?_
      have g3 : rz_fr [] h h3 := by rw [eh3]; exact rz_fr.nw zq2
      have z3 : h q2 = none := rz_fr.rf.nn zq2
      have F4 : rz_fr [] h h3 := rz_fr.rf.tr (g3.mono (by decide))
      have fc_5_0 : h3 va = some (tv, aI Γ 2 n g) := g3 _ _ _ ha (by simp)
      have fn_3 : h3 q2 = some ((2, 0), aI Γ 2 n g) := by rw [eh3]; exact rz_up_s _ _ _
      refine rz_castB fn_3 (show (2 : Nat) ≠ 0 by decide) cl_Ar_311 d_Ar_copyOfRange_21 ?_
      exact rz_areturn (st := []) (r := some q2) rfl (Or.inr ⟨_, rfl⟩) d_Ar_copyOfRange_24 ⟨by decide, by decide⟩ ⟨q2, rfl, g, (by rw [show N = n by omega]; exact fn_3), (fun j p r => by congr 1; omega), F4⟩
    · refine rz_aload_n 0 d_Ar_copyOfRange_10 rfl rfl ?_
      refine rz_iload_n 1 d_Ar_copyOfRange_11 rfl rfl ?_
      refine rz_iload_n 2 d_Ar_copyOfRange_12 rfl rfl ?_
      refine rz_callS (As := [.ref va, vi i, vi e]) (c_Ar_copyOfRangeByte ha ht hn hi hN he hg) m_Ar_339 rfl rfl (Nat.le_of_ble_eq_true rfl) ⟨by decide, by decide⟩ ⟨by decide, by decide⟩ d_Ar_copyOfRange_13 (kR (h := h) fun b6 h6 q6 => ?_)
      obtain ⟨g6, fb6, eg6, F6⟩ := q6
      exact rz_areturn (st := []) (r := some b6) rfl (Or.inr ⟨_, rfl⟩) d_Ar_copyOfRange_16 ⟨by decide, by decide⟩ ⟨b6, rfl, g6, fb6, eg6, F6⟩
abbrev rm_St_init : Room := { frames := 1, cells := 0, slots := 0, locals := 24 }
set_option maxRecDepth 100000 in
set_option maxHeartbeats 4000000 in
theorem c_St_init {l : Launch} {Γ : rz_G} {h : rz_H} {s b : Nat} (hs : h s = some ((1, 0), .inr (0, [.null, vi 0, vi 0, vi 0]))) : Ct l Γ x_St_init y_St_init rm_St_init [.ref s, .ref b, vi 0] h (pV (fun h' => h' s = some ((1, 0), .inr (0, [.ref b, vi 0, vi 0, vi 0])) ∧ rz_fo s h h')) := by
  refine rz_met (by decide) rfl rfl (Nat.le_of_ble_eq_true rfl) (fun K _ => ?_)
  refine rz_Leq [(0, .ref s), (1, .ref b), (2, vi 0)] rfl ?_
  refine rz_aload_n 0 d_St_init_0 rfl rfl ?_
  refine rz_objInit oi_St oi_i oi_c (Nat.le_of_ble_eq_true rfl) (by decide) d_St_init_1 ?_
  refine rz_aload_n 0 d_St_init_4 rfl rfl ?_
  refine rz_aload_n 1 d_St_init_5 rfl rfl ?_
  refine rz_putf (fp_St_9) hs (show (1 : Nat) ≠ 0 by decide) rfl rfl (show 0 < 4 by decide) d_St_init_6 ?_
  refine rz_nm fun h1 eh1 => ?_
  have g1 : rz_fr [1] h h1 := by rw [eh1]; exact rz_fr.one hs
  have F2 : rz_fo s h h1 := by rw [eh1]; exact rz_fo.rf.up
  have fu_1 : h1 s = some ((1, 0), .inr (0, [.ref b, vi 0, vi 0, vi 0])) := by rw [eh1]; exact rz_up_s _ _ _
  refine rz_aload_n 0 d_St_init_9 rfl rfl ?_
  refine rz_iload_n 2 d_St_init_10 rfl rfl ?_
  refine rz_putf (fp_St_15) fu_1 (show (1 : Nat) ≠ 0 by decide) rfl rfl (show 1 < 4 by decide) d_St_init_11 ?_
  refine rz_nm fun h4 eh4 => ?_
  have g4 : rz_fr [1] h1 h4 := by rw [eh4]; exact rz_fr.one fu_1
  have F5 : rz_fo s h h4 := by rw [eh4]; exact F2.up
  have fu_4 : h4 s = some ((1, 0), .inr (0, [.ref b, vi 0, vi 0, vi 0])) := by rw [eh4]; exact rz_up_s _ _ _
  exact rz_return (st := []) rfl d_St_init_14 ⟨by decide, by decide⟩ ⟨rfl, fu_4, F5⟩
theorem StrAt.c' {Γ : rz_G} {h : rz_H} {s n m : Nat} {f f' : Int → Int} (hs : StrAt Γ h s n f m) (e : n = 0) : StrAt Γ h s n f' m := hs.c (fun j p q => by omega)
abbrev rm_S1_newString : Room := { frames := 3, cells := 2, slots := 38, locals := 86 }
set_option maxRecDepth 100000 in
set_option maxHeartbeats 4000000 in
theorem c_S1_newString {l : Launch} {Γ : rz_G} {h : rz_H} {va n N : Nat} {tv : Nat × Nat} {g : Int → Int} (ha : h va = some (tv, aI Γ 2 n g)) (ht0 : N ≠ 0 → tv.1 ≠ 0) (hn : n ≤ 34) {i : Int} (hi : 0 ≤ i) (hN : i + N ≤ n) (hg : ∀ j, 0 ≤ j → j < (n : Int) → -128 ≤ g j ∧ g j ≤ 127) (hp : ∀ j, 0 ≤ j → j < (n : Int) → 0 ≤ g j ∧ g j ≤ 127) (ho : StrAt Γ h (Γ.2.2.2.2 11) 0 (fun _ => 0) 1) : Ct l Γ x_S1_newString y_S1_newString rm_S1_newString [.ref va, vi i, vi (N : Int)] h (pR (fun s h' => StrAt Γ h' s N (fun j => g (i + j)) 1 ∧ rz_fr [] h h')) := by
  refine rz_met (by decide) rfl rfl (Nat.le_of_ble_eq_true rfl) (fun K _ => ?_)
  refine rz_Leq [(0, .ref va), (1, vi i), (2, vi (N : Int))] rfl ?_
  refine rz_iload_n 2 d_S1_newString_0 rfl rfl ?_
  refine rz_if_ne 7 d_S1_newString_1 (by decide) (by omega) (fun c1 => ?_) (fun c1 => ?_)
  · have ht := ht0 (by omega)
    refine rz_new (ci := 0) (q0 := ("java/lang/String", k_T0, 4)) (1, 0) (show (1 : Nat) ≠ 0 by decide) rfl rfl cl_S1_1 ⟨by decide, by decide⟩ d_S1_newString_7 (fun q1 zq1 => ?_)
    refine rz_nm fun h2 eh2 => ?_
    have g2 : rz_fr [] h h2 := by rw [eh2]; exact rz_fr.nw zq1
    have z2 : h q1 = none := rz_fr.rf.nn zq1
    have F3 : rz_fr [] h h2 := rz_fr.rf.tr (g2.mono (by decide))
    have fc_4_0 : h2 va = some (tv, aI Γ 2 n g) := g2 _ _ _ ha (by simp)
    have fn_2 : h2 q1 = some ((1, 0), .inr (0, [.null, vi 0, vi 0, vi 0])) := by rw [eh2]; exact rz_up_s _ _ _
    refine rz_dup d_S1_newString_10 rfl ?_
    refine rz_aload_n 0 d_S1_newString_11 rfl rfl ?_
    refine rz_iload_n 1 d_S1_newString_12 rfl rfl ?_
    refine rz_iload_n 1 d_S1_newString_13 rfl rfl ?_
    refine rz_iload_n 2 d_S1_newString_14 rfl rfl ?_
    refine rz_iadd d_S1_newString_15 ?_
    refine rz_callS (As := [.ref va, vi i, vi (i + (N : Int))]) (c_Ar_copyOfRange fc_4_0 ht hn hi (N := N) rfl (by omega) hg) m_S1_232 rfl rfl (Nat.le_of_ble_eq_true rfl) ⟨by decide, by decide⟩ ⟨by decide, by decide⟩ d_S1_newString_16 (kR (h := h2) fun b5 h5 q5 => ?_)
    obtain ⟨g5, fb5, eg5, F5⟩ := q5
    have F6 : rz_fr [] h h5 := F3.tr (F5.mono (by decide))
    have fc_7_0 : h5 va = some (tv, aI Γ 2 n g) := F5 _ _ _ fc_4_0 (by simp)
    have fc_7_1 : h5 q1 = some ((1, 0), .inr (0, [.null, vi 0, vi 0, vi 0])) := F5 _ _ _ fn_2 (by simp)
    refine rz_iconst d_S1_newString_19 ?_
    refine rz_callI (As := [.ref b5, vi 0]) (c_St_init fc_7_1) m_S1_112 rfl rfl (Nat.le_of_ble_eq_true rfl) ⟨by decide, by decide⟩ ⟨by decide, by decide⟩ d_S1_newString_20 (kV (h := h5) fun h8 q8 => ?_)
    obtain ⟨fs8, G8⟩ := q8
    have fd8 : h8 b5 = some ((2, 0), aI Γ 2 N g5) := G8 _ _ (fun z => by rw [z, fc_7_1] at fb5; cases fb5) fb5
    have H8 : rz_fr [] h h8 := fun a t x ha hr => G8 a (t, x) (fun z => by rw [z, z2] at ha; cases ha) (F6 a t x ha hr)
    exact rz_areturn (st := []) (r := some q1) rfl (Or.inl ⟨_, rfl⟩) d_S1_newString_23 ⟨by decide, by decide⟩ ⟨q1, rfl, ⟨_, _, _, _, _, fs8, by decide, rfl, rfl, fd8, by decide, (fun z => absurd z (by decide)), ⟨by omega, fun j p r => hp _ (by omega) (by omega)⟩, eg5⟩, H8⟩
  · refine rz_ldcS (s_S1_151 Γ.2.2.2.2) d_S1_newString_4 ?_
    exact rz_areturn (st := []) (r := some (Γ.2.2.2.2 11)) rfl (Or.inl ⟨_, rfl⟩) d_S1_newString_6 ⟨by decide, by decide⟩ ⟨(Γ.2.2.2.2 11), rfl, (by rw [show N = 0 by omega]; exact ho.c' (by omega)), rz_fr.rf⟩
abbrev rm_St_substring : Room := { frames := 4, cells := 2, slots := 38, locals := 108 }
set_option maxRecDepth 100000 in
set_option maxHeartbeats 4000000 in
theorem c_St_substring {l : Launch} {Γ : rz_G} {h : rz_H} {s n : Nat} {f : Int → Int} (hs : StrAt Γ h s n f 1) {i e : Int} {N : Nat} (hi : 0 ≤ i) (hN : e = i + N) (he : e ≤ n) (h34 : n ≤ 34) (ho : StrAt Γ h (Γ.2.2.2.2 11) 0 (fun _ => 0) 1) : Ct l Γ x_St_substring y_St_substring rm_St_substring [.ref s, vi i, vi e] h (pR (fun s' h' => StrAt Γ h' s' N (fun j => f (i + j)) 1 ∧ rz_fr [] h h')) := by
  refine rz_met (by decide) rfl rfl (Nat.le_of_ble_eq_true rfl) (fun K _ => ?_)
  refine rz_Leq [(0, .ref s), (1, vi i), (2, vi e)] rfl ?_
  obtain ⟨ts, tv, va, fs, g, a1, a2, a3, a4, a5, a6, a7, a8, a9⟩ := hs
  have a81 := a8.1
  refine rz_aload_n 0 d_St_substring_0 rfl rfl ?_
  refine rz_callV (As := []) (c_St_length ⟨ts, tv, va, fs, g, a1, a2, a3, a4, a5, a6, a7, a8, a9⟩) m_St_505 a1 rfl rfl rfl rfl (Nat.le_of_ble_eq_true rfl) ⟨by decide, by decide⟩ ⟨by decide, by decide⟩ d_St_substring_1 (kE (h := h) ?_)
  refine rz_istore_n [(3, vi (n : Int)), (0, .ref s), (1, vi i), (2, vi e)] d_St_substring_4 rfl (by decide) rfl ?_
  refine rz_iload_n 2 d_St_substring_5 rfl rfl ?_
  refine rz_iload_n 3 d_St_substring_6 rfl rfl ?_
  refine rz_iload_n 0 d_St_substring_7 rfl rfl ?_
  refine rz_callS (As := [vi i, vi e, vi (n : Int)]) (c_St_checkBoundsBeginEnd (by omega) (by omega)) m_St_521 rfl rfl (Nat.le_of_ble_eq_true rfl) ⟨by decide, by decide⟩ ⟨by decide, by decide⟩ d_St_substring_8 (kV (h := h) fun hv1 ehv1 => ?_)
  rw [ehv1]
  refine rz_iload_n 2 d_St_substring_11 rfl rfl ?_
  refine rz_if_ne 22 d_St_substring_12 (by decide) (by omega) (fun c12 => ?_) (fun c12 => ?_)
  · refine rz_iload_n 3 d_St_substring_22 rfl rfl ?_
    refine rz_iload_n 2 d_St_substring_23 rfl rfl ?_
    refine rz_isub d_St_substring_24 ?_
    refine rz_Seq [vi (N : Int)] (by rw [show e - i = (N : Int) by omega]) ?_
    refine rz_istore [(4, vi (N : Int)), (3, vi (n : Int)), (0, .ref s), (1, vi i), (2, vi e)] d_St_substring_25 (by decide) rfl ?_
    refine rz_aload_n 2 d_St_substring_27 rfl rfl ?_
    refine rz_callV (As := []) (c_St_isLatin1 ⟨ts, tv, va, fs, g, a1, a2, a3, a4, a5, a6, a7, a8, a9⟩) m_St_492 a1 rfl rfl rfl rfl (Nat.le_of_ble_eq_true rfl) ⟨by decide, by decide⟩ ⟨by decide, by decide⟩ d_St_substring_28 (kE (h := h) ?_)
    refine rz_if_eq 47 d_St_substring_31 (by decide) ⟨by decide, by decide⟩ (fun c31 => absurd c31 (by decide)) (fun c31 => ?_)
    refine rz_aload_n 2 d_St_substring_34 rfl rfl ?_
    refine rz_getf f_St_9 a1 a3 d_St_substring_35 ?_
    refine rz_iload_n 3 d_St_substring_38 rfl rfl ?_
    refine rz_iload 0 d_St_substring_39 rfl ?_
    refine rz_callS (As := [.ref va, vi i, vi (N : Int)]) (c_S1_newString a5 (fun nz z => by have := (a7 z).2; omega) (by omega) (N := N) (by omega) (by omega) (fun j p q => by have := a8.2 j p q; rw [a9 j p q]; omega) (fun j p q => by rw [a9 j p q]; exact a8.2 j p q) ho) m_St_685 rfl rfl (Nat.le_of_ble_eq_true rfl) ⟨by decide, by decide⟩ ⟨by decide, by decide⟩ d_St_substring_41 (kR (h := h) fun s2 h2 q2 => ?_)
    refine rz_goto 57 d_St_substring_44 (by decide) ?_
    exact rz_areturn (st := []) (r := some s2) rfl (Or.inl ⟨_, rfl⟩) d_St_substring_57 ⟨by decide, by decide⟩ ⟨s2, rfl, q2.1.c (fun j p r => by rw [a9 _ (by omega) (by omega)]), q2.2⟩
  · refine rz_iload_n 3 d_St_substring_15 rfl rfl ?_
    refine rz_iload_n 0 d_St_substring_16 rfl rfl ?_
    refine rz_icmp_ne 22 d_St_substring_17 (by decide) (by omega) (by omega) (fun c17 => ?_) (fun c17 => ?_)
    · refine rz_iload_n 3 d_St_substring_22 rfl rfl ?_
      refine rz_iload_n 2 d_St_substring_23 rfl rfl ?_
      refine rz_isub d_St_substring_24 ?_
      refine rz_Seq [vi (N : Int)] (by rw [show e - i = (N : Int) by omega]) ?_
      refine rz_istore [(4, vi (N : Int)), (3, vi (n : Int)), (0, .ref s), (1, vi i), (2, vi e)] d_St_substring_25 (by decide) rfl ?_
      refine rz_aload_n 2 d_St_substring_27 rfl rfl ?_
      refine rz_callV (As := []) (c_St_isLatin1 ⟨ts, tv, va, fs, g, a1, a2, a3, a4, a5, a6, a7, a8, a9⟩) m_St_492 a1 rfl rfl rfl rfl (Nat.le_of_ble_eq_true rfl) ⟨by decide, by decide⟩ ⟨by decide, by decide⟩ d_St_substring_28 (kE (h := h) ?_)
      refine rz_if_eq 47 d_St_substring_31 (by decide) ⟨by decide, by decide⟩ (fun c31 => absurd c31 (by decide)) (fun c31 => ?_)
      refine rz_aload_n 2 d_St_substring_34 rfl rfl ?_
      refine rz_getf f_St_9 a1 a3 d_St_substring_35 ?_
      refine rz_iload_n 3 d_St_substring_38 rfl rfl ?_
      refine rz_iload 0 d_St_substring_39 rfl ?_
      refine rz_callS (As := [.ref va, vi i, vi (N : Int)]) (c_S1_newString a5 (fun nz z => by have := (a7 z).2; omega) (by omega) (N := N) (by omega) (by omega) (fun j p q => by have := a8.2 j p q; rw [a9 j p q]; omega) (fun j p q => by rw [a9 j p q]; exact a8.2 j p q) ho) m_St_685 rfl rfl (Nat.le_of_ble_eq_true rfl) ⟨by decide, by decide⟩ ⟨by decide, by decide⟩ d_St_substring_41 (kR (h := h) fun s3 h3 q3 => ?_)
      refine rz_goto 57 d_St_substring_44 (by decide) ?_
      exact rz_areturn (st := []) (r := some s3) rfl (Or.inl ⟨_, rfl⟩) d_St_substring_57 ⟨by decide, by decide⟩ ⟨s3, rfl, q3.1.c (fun j p r => by rw [a9 _ (by omega) (by omega)]), q3.2⟩
    · refine rz_aload_n 1 d_St_substring_20 rfl rfl ?_
      exact rz_areturn (st := []) (r := some s) rfl (Or.inl ⟨_, rfl⟩) d_St_substring_21 ⟨by decide, by decide⟩ ⟨s, rfl, (by rw [show N = n by omega]; exact StrAt.c ⟨ts, tv, va, fs, g, a1, a2, a3, a4, a5, a6, a7, a8, a9⟩ (fun j p q => by congr 1; omega)), rz_fr.rf⟩

/-! the reference: chosen, blamed, count -/
def sp_chosen (M : Nat → Int → Int) (p : Int) : Int := if mIn p 0 5 = true then (if M 12 0 = 0 ∨ M 14 p < 0 then -4 else M 14 p) else -1
abbrev rm_Md_chosen : Room := { frames := 1, cells := 0, slots := 0, locals := 22 }
set_option maxRecDepth 100000 in
set_option maxHeartbeats 4000000 in
theorem c_Md_chosen {l : Launch} {Γ : rz_G} {h : rz_H} {x : Nat} {ad : Nat → Nat} {M : Nat → Int → Int} (hM : MdAt Γ h x ad M) (hw : mWF M) {p : Int} (rp : -2147483648 ≤ p ∧ p ≤ 2147483647) : Ct l Γ x_Md_chosen y_Md_chosen rm_Md_chosen [.ref x, vi p] h (pE (sp_chosen M p) h) := by
  refine rz_met (by decide) rfl rfl (Nat.le_of_ble_eq_true rfl) (fun K _ => ?_)
  refine rz_Leq [(0, .ref x), (1, vi p)] rfl ?_
  have l12 := hw.2.2.2.2.2.2.2.2.2.2.1
  refine rz_iload_n 1 d_Md_chosen_0 rfl rfl ?_
  refine rz_iconst d_Md_chosen_1 ?_
  refine rz_iconst d_Md_chosen_2 ?_
  refine rz_callS (As := [vi p, vi 0, vi 5]) (c_Md_in (by omega) ⟨by decide, by decide⟩ ⟨by decide, by decide⟩) m_Md_56 rfl rfl (Nat.le_of_ble_eq_true rfl) ⟨by decide, by decide⟩ ⟨by decide, by decide⟩ d_Md_chosen_3 (kE (h := h) ?_)
  refine rz_if_neB 11 d_Md_chosen_6 (by decide) (fun c6 => ?_) (fun c6 => ?_)
  · have n1 := mIn_t.mp c6
    have l14 := hw.2.2.2.2.2.2.2.2.2.2.2.2.1 p (by omega) (by omega)
    refine rz_aload_n 0 d_Md_chosen_11 rfl rfl ?_
    refine rz_getf f_Md_198 hM.1 rfl d_Md_chosen_12 ?_
    refine rz_if_eq 36 d_Md_chosen_15 (by decide) (by omega) (fun c15 => ?_) (fun c15 => ?_)
    · refine rz_bipush (v := (-4)) d_Md_chosen_36 (by decide) ?_
      exact rz_ireturn (st := []) rfl d_Md_chosen_38 ⟨by decide, by decide⟩ ⟨_, rfl, (by rw [sp_chosen, if_pos c6, if_pos (by omega)]), rfl⟩
    · refine rz_aload_n 0 d_Md_chosen_18 rfl rfl ?_
      refine rz_getf f_Md_44 hM.1 rfl d_Md_chosen_19 ?_
      refine rz_iload_n 1 d_Md_chosen_22 rfl rfl ?_
      refine rz_iaload (md_a14 hM) (by decide) (by omega) d_Md_chosen_23 ?_
      refine rz_if_lt 36 d_Md_chosen_24 (by decide) (by omega) (fun c24 => ?_) (fun c24 => ?_)
      · refine rz_bipush (v := (-4)) d_Md_chosen_36 (by decide) ?_
        exact rz_ireturn (st := []) rfl d_Md_chosen_38 ⟨by decide, by decide⟩ ⟨_, rfl, (by rw [sp_chosen, if_pos c6, if_pos (by omega)]), rfl⟩
      · refine rz_aload_n 0 d_Md_chosen_27 rfl rfl ?_
        refine rz_getf f_Md_44 hM.1 rfl d_Md_chosen_28 ?_
        refine rz_iload_n 1 d_Md_chosen_31 rfl rfl ?_
        refine rz_iaload (md_a14 hM) (by decide) (by omega) d_Md_chosen_32 ?_
        refine rz_goto 38 d_Md_chosen_33 (by decide) ?_
        exact rz_ireturn (st := []) rfl d_Md_chosen_38 ⟨by decide, by decide⟩ ⟨_, rfl, (by rw [sp_chosen, if_pos c6, if_neg (by omega)]), rfl⟩
  · refine rz_iconst d_Md_chosen_9 ?_
    exact rz_ireturn (st := []) rfl d_Md_chosen_10 ⟨by decide, by decide⟩ ⟨_, rfl, (by rw [sp_chosen, if_neg (by simp [*])]), rfl⟩
def sp_blamed (M : Nat → Int → Int) (a : Int) : Bool := decide (¬ M 13 0 = 0) && mIn a 0 3 && decide (¬ M 15 a = 0)
abbrev rm_Md_blamed : Room := { frames := 1, cells := 0, slots := 0, locals := 22 }
set_option maxRecDepth 100000 in
set_option maxHeartbeats 4000000 in
theorem c_Md_blamed {l : Launch} {Γ : rz_G} {h : rz_H} {x : Nat} {ad : Nat → Nat} {M : Nat → Int → Int} (hM : MdAt Γ h x ad M) (hw : mWF M) {a : Int} (ra : -2147483648 ≤ a ∧ a ≤ 2147483647) : Ct l Γ x_Md_blamed y_Md_blamed rm_Md_blamed [.ref x, vi a] h (pE (bi (sp_blamed M a)) h) := by
  refine rz_met (by decide) rfl rfl (Nat.le_of_ble_eq_true rfl) (fun K _ => ?_)
  refine rz_Leq [(0, .ref x), (1, vi a)] rfl ?_
  have l13 := hw.2.2.2.2.2.2.2.2.2.2.2.1
  refine rz_aload_n 0 d_Md_blamed_0 rfl rfl ?_
  refine rz_getf f_Md_202 hM.1 rfl d_Md_blamed_1 ?_
  refine rz_if_eq 29 d_Md_blamed_4 (by decide) (by omega) (fun c4 => ?_) (fun c4 => ?_)
  · refine rz_iconst d_Md_blamed_29 ?_
    exact rz_zreturn (st := []) (ty := .boolean) rfl rfl d_Md_blamed_30 ⟨by decide, by decide⟩ ⟨_, rfl, bi0 (by simp [sp_blamed, *]), rfl⟩
  · refine rz_iload_n 1 d_Md_blamed_7 rfl rfl ?_
    refine rz_iconst d_Md_blamed_8 ?_
    refine rz_iconst d_Md_blamed_9 ?_
    refine rz_callS (As := [vi a, vi 0, vi 3]) (c_Md_in (by omega) ⟨by decide, by decide⟩ ⟨by decide, by decide⟩) m_Md_56 rfl rfl (Nat.le_of_ble_eq_true rfl) ⟨by decide, by decide⟩ ⟨by decide, by decide⟩ d_Md_blamed_10 (kE (h := h) ?_)
    refine rz_if_eqB 29 d_Md_blamed_13 (by decide) (fun c13 => ?_) (fun c13 => ?_)
    · refine rz_iconst d_Md_blamed_29 ?_
      exact rz_zreturn (st := []) (ty := .boolean) rfl rfl d_Md_blamed_30 ⟨by decide, by decide⟩ ⟨_, rfl, bi0 (by simp [sp_blamed, *]), rfl⟩
    · have n1 := mIn_t.mp c13
      have l15 := hw.2.2.2.2.2.2.2.2.2.2.2.2.2 a (by omega) (by omega)
      refine rz_aload_n 0 d_Md_blamed_16 rfl rfl ?_
      refine rz_getf f_Md_47 hM.1 rfl d_Md_blamed_17 ?_
      refine rz_iload_n 1 d_Md_blamed_20 rfl rfl ?_
      refine rz_zaload (md_a15 hM) (by decide) (by omega) d_Md_blamed_21 ?_
      refine rz_if_eq 29 d_Md_blamed_22 (by decide) (by omega) (fun c22 => ?_) (fun c22 => ?_)
      · refine rz_iconst d_Md_blamed_29 ?_
        exact rz_zreturn (st := []) (ty := .boolean) rfl rfl d_Md_blamed_30 ⟨by decide, by decide⟩ ⟨_, rfl, bi0 (by simp [sp_blamed, *]), rfl⟩
      · refine rz_iconst d_Md_blamed_25 ?_
        refine rz_goto 30 d_Md_blamed_26 (by decide) ?_
        exact rz_zreturn (st := []) (ty := .boolean) rfl rfl d_Md_blamed_30 ⟨by decide, by decide⟩ ⟨_, rfl, bi1 (by simp [sp_blamed, *]), rfl⟩
def ctT (M : Nat → Int → Int) (k : Int) : Bool := decide (k % 4 < M 2 (k / 4))
/-- releases, withdrawn ones, needs, of the first k places -/
def ct2 (M : Nat → Int → Int) : Nat → Int
  | 0 => 0
  | n + 1 => ct2 M n + bi (ctT M n)
def ct3 (M : Nat → Int → Int) : Nat → Int
  | 0 => 0
  | n + 1 => ct3 M n + bi (ctT M n && decide (¬ M 3 n = 0))
def ct4 (M : Nat → Int → Int) : Nat → Int
  | 0 => 0
  | n + 1 => ct4 M n + M 5 n
def sp_count (M : Nat → Int → Int) (a : Int) : Int := if a = 0 then M 1 0 else if a = 1 then M 8 0 else if a = 2 then ct2 M 24 else if a = 3 then ct3 M 24 else if a = 4 then ct4 M 24 else -1
theorem ct_s {f : Nat → Int} {k : Int} {g : Nat → Int} (h : ∀ n, f (n + 1) = f n + g n) (hk : 0 ≤ k) : f (k + 1).toNat = f k.toNat + g k.toNat := by
  rw [show (k + 1).toNat = k.toNat + 1 by omega, h]
theorem ct_in (M : Nat → Int → Int) (hw : mWF M) : ∀ n : Nat, n ≤ 24 → (0 ≤ ct2 M n ∧ ct2 M n ≤ n) ∧ (0 ≤ ct3 M n ∧ ct3 M n ≤ n) ∧ (0 ≤ ct4 M n ∧ ct4 M n ≤ 3 * n)
  | 0, _ => by simp [ct2, ct3, ct4]
  | n + 1, h => by
    have ih := ct_in M hw n (by omega)
    have b1 := bi_in (ctT M n)
    have b2 := bi_in (ctT M n && decide (¬ M 3 n = 0))
    have l := hw.2.2.2.1 n (by omega) (by omega)
    simp only [ct2, ct3, ct4]
    omega
abbrev rm_Md_count : Room := { frames := 1, cells := 0, slots := 0, locals := 22 }
set_option maxRecDepth 100000 in
set_option maxHeartbeats 4000000 in
theorem c_Md_count {l : Launch} {Γ : rz_G} {h : rz_H} {x : Nat} {ad : Nat → Nat} {M : Nat → Int → Int} (hM : MdAt Γ h x ad M) (hw : mWF M) {a : Int} (ra : -2147483648 ≤ a ∧ a ≤ 2147483647) : Ct l Γ x_Md_count y_Md_count rm_Md_count [.ref x, vi a] h (pE (sp_count M a) h) := by
  refine rz_met (by decide) rfl rfl (Nat.le_of_ble_eq_true rfl) (fun K _ => ?_)
  refine rz_Leq [(0, .ref x), (1, vi a)] rfl ?_
  have l8 := hw.2.2.2.2.2.1
  have hlen := hw.1 0 (by omega) (by omega)
  refine rz_iconst d_Md_count_0 ?_
  refine rz_istore_n [(2, vi 0), (0, .ref x), (1, vi a)] d_Md_count_1 rfl (by decide) rfl ?_
  refine rz_iconst d_Md_count_2 ?_
  refine rz_istore_n [(3, vi 0), (2, vi 0), (0, .ref x), (1, vi a)] d_Md_count_3 rfl (by decide) rfl ?_
  refine rz_iconst d_Md_count_4 ?_
  refine rz_istore [(4, vi 0), (3, vi 0), (2, vi 0), (0, .ref x), (1, vi a)] d_Md_count_5 (by decide) rfl ?_
  refine rz_iconst d_Md_count_7 ?_
  refine rz_istore [(5, vi 0), (4, vi 0), (3, vi 0), (2, vi 0), (0, .ref x), (1, vi a)] d_Md_count_8 (by decide) rfl ?_
  refine rz_loop (α := Int × Int × Int × Int) 0 0 10 (fun (k, al, gn, nd) => (24 - k).toNat) (fun (k, al, gn, nd) => 0 ≤ k ∧ k ≤ 24 ∧ al = ct2 M k.toNat ∧ gn = ct3 M k.toNat ∧ nd = ct4 M k.toNat) (fun (k, al, gn, nd) => [(5, vi k), (4, vi nd), (3, vi gn), (2, vi al), (0, .ref x), (1, vi a)]) (fun (k, al, gn, nd) => []) (fun (k, al, gn, nd) => h) (fun y hy ih10 => ?_) (fun LP => ?_)
  · obtain ⟨k, al, gn, nd⟩ := y
    try dsimp only at hy ih10 ⊢
    obtain ⟨hk0, hk1, h2, h3, h4⟩ := hy
    have ci := ct_in M hw k.toNat (by omega)
    refine rz_iload 0 d_Md_count_10 rfl ?_
    refine rz_bipush (v := 24) d_Md_count_12 (by decide) ?_
    refine rz_icmp_ge 84 d_Md_count_14 (by decide) (by omega) ⟨by decide, by decide⟩ (fun c14 => ?_) (fun c14 => ?_)
    · refine rz_iload_n 5 d_Md_count_84 rfl rfl ?_
      refine rz_iconst d_Md_count_85 ?_
      refine rz_iconst d_Md_count_86 ?_
      refine rz_callS (As := [vi a, vi 0, vi 1]) (c_Md_in (by omega) ⟨by decide, by decide⟩ ⟨by decide, by decide⟩) m_Md_56 rfl rfl (Nat.le_of_ble_eq_true rfl) ⟨by decide, by decide⟩ ⟨by decide, by decide⟩ d_Md_count_87 (kE (h := h) ?_)
      refine rz_if_eqB 111 d_Md_count_90 (by decide) (fun c90 => ?_) (fun c90 => ?_)
      · refine rz_iload_n 5 d_Md_count_111 rfl rfl ?_
        refine rz_iconst d_Md_count_112 ?_
        refine rz_iconst d_Md_count_113 ?_
        refine rz_callS (As := [vi a, vi 2, vi 3]) (c_Md_in (by omega) ⟨by decide, by decide⟩ ⟨by decide, by decide⟩) m_Md_56 rfl rfl (Nat.le_of_ble_eq_true rfl) ⟨by decide, by decide⟩ ⟨by decide, by decide⟩ d_Md_count_114 (kE (h := h) ?_)
        refine rz_if_eqB 131 d_Md_count_117 (by decide) (fun c117 => ?_) (fun c117 => ?_)
        · refine rz_iload_n 5 d_Md_count_131 rfl rfl ?_
          refine rz_iconst d_Md_count_132 ?_
          refine rz_icmp_ne 141 d_Md_count_133 (by decide) (by omega) ⟨by decide, by decide⟩ (fun c133 => ?_) (fun c133 => ?_)
          · refine rz_iconst d_Md_count_141 ?_
            exact rz_ireturn (st := []) rfl d_Md_count_142 ⟨by decide, by decide⟩ ⟨_, rfl, (by unfold sp_count; first | (have n1 := mIn_t.mp c90; first | (rw [if_pos (by omega)]; done) | (rw [if_neg (by omega), if_pos (by omega)]; done)) | (have n0 := mIn_f.mp c90; have n1 := mIn_t.mp c117; first | (rw [if_neg (by omega), if_neg (by omega), if_pos (by omega), h2, show k.toNat = 24 by omega]; done) | (rw [if_neg (by omega), if_neg (by omega), if_neg (by omega), if_pos (by omega), h3, show k.toNat = 24 by omega]; done)) | (have n0 := mIn_f.mp c90; have n1 := mIn_f.mp c117; first | (rw [if_neg (by omega), if_neg (by omega), if_neg (by omega), if_neg (by omega), if_pos (by omega), h4, show k.toNat = 24 by omega]; done) | (rw [if_neg (by omega), if_neg (by omega), if_neg (by omega), if_neg (by omega), if_neg (by omega)]; done))), rfl⟩
          · refine rz_iload 1 d_Md_count_136 rfl ?_
            refine rz_goto 142 d_Md_count_138 (by decide) ?_
            exact rz_ireturn (st := []) rfl d_Md_count_142 ⟨by decide, by decide⟩ ⟨_, rfl, (by unfold sp_count; first | (have n1 := mIn_t.mp c90; first | (rw [if_pos (by omega)]; done) | (rw [if_neg (by omega), if_pos (by omega)]; done)) | (have n0 := mIn_f.mp c90; have n1 := mIn_t.mp c117; first | (rw [if_neg (by omega), if_neg (by omega), if_pos (by omega), h2, show k.toNat = 24 by omega]; done) | (rw [if_neg (by omega), if_neg (by omega), if_neg (by omega), if_pos (by omega), h3, show k.toNat = 24 by omega]; done)) | (have n0 := mIn_f.mp c90; have n1 := mIn_f.mp c117; first | (rw [if_neg (by omega), if_neg (by omega), if_neg (by omega), if_neg (by omega), if_pos (by omega), h4, show k.toNat = 24 by omega]; done) | (rw [if_neg (by omega), if_neg (by omega), if_neg (by omega), if_neg (by omega), if_neg (by omega)]; done))), rfl⟩
        · refine rz_iload_n 5 d_Md_count_120 rfl rfl ?_
          refine rz_iconst d_Md_count_121 ?_
          refine rz_icmp_ne 129 d_Md_count_122 (by decide) (by omega) ⟨by decide, by decide⟩ (fun c122 => ?_) (fun c122 => ?_)
          · refine rz_iload_n 2 d_Md_count_129 rfl rfl ?_
            exact rz_ireturn (st := []) rfl d_Md_count_130 ⟨by decide, by decide⟩ ⟨_, rfl, (by unfold sp_count; first | (have n1 := mIn_t.mp c90; first | (rw [if_pos (by omega)]; done) | (rw [if_neg (by omega), if_pos (by omega)]; done)) | (have n0 := mIn_f.mp c90; have n1 := mIn_t.mp c117; first | (rw [if_neg (by omega), if_neg (by omega), if_pos (by omega), h2, show k.toNat = 24 by omega]; done) | (rw [if_neg (by omega), if_neg (by omega), if_neg (by omega), if_pos (by omega), h3, show k.toNat = 24 by omega]; done)) | (have n0 := mIn_f.mp c90; have n1 := mIn_f.mp c117; first | (rw [if_neg (by omega), if_neg (by omega), if_neg (by omega), if_neg (by omega), if_pos (by omega), h4, show k.toNat = 24 by omega]; done) | (rw [if_neg (by omega), if_neg (by omega), if_neg (by omega), if_neg (by omega), if_neg (by omega)]; done))), rfl⟩
          · refine rz_iload_n 3 d_Md_count_125 rfl rfl ?_
            refine rz_goto 130 d_Md_count_126 (by decide) ?_
            exact rz_ireturn (st := []) rfl d_Md_count_130 ⟨by decide, by decide⟩ ⟨_, rfl, (by unfold sp_count; first | (have n1 := mIn_t.mp c90; first | (rw [if_pos (by omega)]; done) | (rw [if_neg (by omega), if_pos (by omega)]; done)) | (have n0 := mIn_f.mp c90; have n1 := mIn_t.mp c117; first | (rw [if_neg (by omega), if_neg (by omega), if_pos (by omega), h2, show k.toNat = 24 by omega]; done) | (rw [if_neg (by omega), if_neg (by omega), if_neg (by omega), if_pos (by omega), h3, show k.toNat = 24 by omega]; done)) | (have n0 := mIn_f.mp c90; have n1 := mIn_f.mp c117; first | (rw [if_neg (by omega), if_neg (by omega), if_neg (by omega), if_neg (by omega), if_pos (by omega), h4, show k.toNat = 24 by omega]; done) | (rw [if_neg (by omega), if_neg (by omega), if_neg (by omega), if_neg (by omega), if_neg (by omega)]; done))), rfl⟩
      · refine rz_iload_n 5 d_Md_count_93 rfl rfl ?_
        refine rz_if_ne 106 d_Md_count_94 (by decide) (by omega) (fun c94 => ?_) (fun c94 => ?_)
        · refine rz_aload_n 4 d_Md_count_106 rfl rfl ?_
          refine rz_getf f_Md_167 hM.1 rfl d_Md_count_107 ?_
          exact rz_ireturn (st := []) rfl d_Md_count_110 ⟨by decide, by decide⟩ ⟨_, rfl, (by unfold sp_count; first | (have n1 := mIn_t.mp c90; first | (rw [if_pos (by omega)]; done) | (rw [if_neg (by omega), if_pos (by omega)]; done)) | (have n0 := mIn_f.mp c90; have n1 := mIn_t.mp c117; first | (rw [if_neg (by omega), if_neg (by omega), if_pos (by omega), h2, show k.toNat = 24 by omega]; done) | (rw [if_neg (by omega), if_neg (by omega), if_neg (by omega), if_pos (by omega), h3, show k.toNat = 24 by omega]; done)) | (have n0 := mIn_f.mp c90; have n1 := mIn_f.mp c117; first | (rw [if_neg (by omega), if_neg (by omega), if_neg (by omega), if_neg (by omega), if_pos (by omega), h4, show k.toNat = 24 by omega]; done) | (rw [if_neg (by omega), if_neg (by omega), if_neg (by omega), if_neg (by omega), if_neg (by omega)]; done))), rfl⟩
        · refine rz_aload_n 4 d_Md_count_97 rfl rfl ?_
          refine rz_getf f_Md_13 hM.1 rfl d_Md_count_98 ?_
          refine rz_iconst d_Md_count_101 ?_
          refine rz_iaload (md_a1 hM) (by decide) (by omega) d_Md_count_102 ?_
          refine rz_goto 110 d_Md_count_103 (by decide) ?_
          exact rz_ireturn (st := []) rfl d_Md_count_110 ⟨by decide, by decide⟩ ⟨_, rfl, (by unfold sp_count; first | (have n1 := mIn_t.mp c90; first | (rw [if_pos (by omega)]; done) | (rw [if_neg (by omega), if_pos (by omega)]; done)) | (have n0 := mIn_f.mp c90; have n1 := mIn_t.mp c117; first | (rw [if_neg (by omega), if_neg (by omega), if_pos (by omega), h2, show k.toNat = 24 by omega]; done) | (rw [if_neg (by omega), if_neg (by omega), if_neg (by omega), if_pos (by omega), h3, show k.toNat = 24 by omega]; done)) | (have n0 := mIn_f.mp c90; have n1 := mIn_f.mp c117; first | (rw [if_neg (by omega), if_neg (by omega), if_neg (by omega), if_neg (by omega), if_pos (by omega), h4, show k.toNat = 24 by omega]; done) | (rw [if_neg (by omega), if_neg (by omega), if_neg (by omega), if_neg (by omega), if_neg (by omega)]; done))), rfl⟩
    · have l2 := hw.2.2.1 (k / 4) (by omega) (by omega)
      have l3 := hw.2.2.2.2.2.2.2.1 k (by omega) (by omega)
      have l5 := hw.2.2.2.1 k (by omega) (by omega)
      refine rz_cut (α := Unit) 0 0 38 (fun _ => True) (fun _ => [(5, vi k), (4, vi nd), (3, vi gn), (2, vi al), (0, .ref x), (1, vi a)]) (fun _ => [vi (bi (ctT M k))]) (fun _ => h) (fun _ _ => ?_) (fun J38 => ?_)
      · refine rz_istore [(6, vi (bi (ctT M k))), (5, vi k), (4, vi nd), (3, vi gn), (2, vi al), (0, .ref x), (1, vi a)] d_Md_count_38 (by decide) rfl ?_
        refine rz_cut (α := Unit) 0 0 48 (fun _ => True) (fun _ => [(2, vi (al + bi (ctT M k))), (6, vi (bi (ctT M k))), (5, vi k), (4, vi nd), (3, vi gn), (0, .ref x), (1, vi a)]) (fun _ => []) (fun _ => h) (fun _ _ => ?_) (fun J48 => ?_)
        · refine rz_cut (α := Unit) 0 0 66 (fun _ => True) (fun _ => [(3, vi (gn + bi (ctT M k && decide (¬ M 3 k = 0)))), (2, vi (al + bi (ctT M k))), (6, vi (bi (ctT M k))), (5, vi k), (4, vi nd), (0, .ref x), (1, vi a)]) (fun _ => []) (fun _ => h) (fun _ _ => ?_) (fun J66 => ?_)
          · refine rz_iload 4 d_Md_count_66 rfl ?_
            refine rz_aload_n 5 d_Md_count_68 rfl rfl ?_
            refine rz_getf f_Md_26 hM.1 rfl d_Md_count_69 ?_
            refine rz_iload 3 d_Md_count_72 rfl ?_
            refine rz_iaload (md_a5 hM) (by decide) (by omega) d_Md_count_74 ?_
            refine rz_iadd d_Md_count_75 ?_
            refine rz_istore [(4, vi (nd + (M 5 k))), (3, vi (gn + bi (ctT M k && decide (¬ M 3 k = 0)))), (2, vi (al + bi (ctT M k))), (6, vi (bi (ctT M k))), (5, vi k), (0, .ref x), (1, vi a)] d_Md_count_76 (by decide) rfl ?_
            refine rz_iinc (k + 1) 4 [(5, vi (k + 1)), (4, vi (nd + (M 5 k))), (3, vi (gn + bi (ctT M k && decide (¬ M 3 k = 0)))), (2, vi (al + bi (ctT M k))), (6, vi (bi (ctT M k))), (0, .ref x), (1, vi a)] d_Md_count_78 rfl (by first | rfl | omega) (by decide) rfl ?_
            refine rz_goto 10 d_Md_count_81 (by decide) ?_
            refine rz_Lsub [(5, vi (k + 1)), (4, vi (nd + (M 5 k))), (3, vi (gn + bi (ctT M k && decide (¬ M 3 k = 0)))), (2, vi (al + bi (ctT M k))), (0, .ref x), (1, vi a)] [0, 1, 2, 3, 5, 6] rfl ?_
            refine ih10 (k + 1, al + bi (ctT M k), gn + bi (ctT M k && decide (¬ M 3 k = 0)), nd + (M 5 k)) ?_ ?_
            · try dsimp only
              exact ⟨by omega, by omega, (by rw [ct_s (f := ct2 M) (g := fun n => bi (ctT M n)) (fun _ => rfl) hk0, ← h2]; simp only [show ((k.toNat : Nat) : Int) = k by omega]), (by rw [ct_s (f := ct3 M) (g := fun n => bi (ctT M n && decide (¬ M 3 n = 0))) (fun _ => rfl) hk0, ← h3]; simp only [show ((k.toNat : Nat) : Int) = k by omega]), (by rw [ct_s (f := ct4 M) (g := fun n => M 5 n) (fun _ => rfl) hk0, ← h4]; simp only [show ((k.toNat : Nat) : Int) = k by omega])⟩
            · exact (by first | omega | (dsimp only; omega))
          · refine rz_iload 1 d_Md_count_48 rfl ?_
            refine rz_if_eqB 66 d_Md_count_50 (by decide) (fun c50 => ?_) (fun c50 => ?_)
            · refine rz_Lsub [(3, vi gn), (2, vi (al + bi (ctT M k))), (6, vi (bi (ctT M k))), (5, vi k), (4, vi nd), (0, .ref x), (1, vi a)] [4, 0, 1, 2, 3, 5, 6] rfl ?_
              refine rz_Leq [(3, vi (gn + bi (ctT M k && decide (¬ M 3 k = 0)))), (2, vi (al + bi (ctT M k))), (6, vi (bi (ctT M k))), (5, vi k), (4, vi nd), (0, .ref x), (1, vi a)] (by first | (rw [c50]; simp [bi]; done) | (rw [c50]; simp [bi, c60]; done)) ?_
              exact J66 () trivial
            · refine rz_aload_n 5 d_Md_count_53 rfl rfl ?_
              refine rz_getf f_Md_19 hM.1 rfl d_Md_count_54 ?_
              refine rz_iload 2 d_Md_count_57 rfl ?_
              refine rz_zaload (md_a3 hM) (by decide) (by omega) d_Md_count_59 ?_
              refine rz_if_eq 66 d_Md_count_60 (by decide) (by omega) (fun c60 => ?_) (fun c60 => ?_)
              · refine rz_Lsub [(3, vi gn), (2, vi (al + bi (ctT M k))), (6, vi (bi (ctT M k))), (5, vi k), (4, vi nd), (0, .ref x), (1, vi a)] [4, 0, 1, 2, 3, 5, 6] rfl ?_
                refine rz_Leq [(3, vi (gn + bi (ctT M k && decide (¬ M 3 k = 0)))), (2, vi (al + bi (ctT M k))), (6, vi (bi (ctT M k))), (5, vi k), (4, vi nd), (0, .ref x), (1, vi a)] (by first | (rw [c50]; simp [bi]; done) | (rw [c50]; simp [bi, c60]; done)) ?_
                exact J66 () trivial
              · refine rz_iinc (gn + 1) 4 [(3, vi (gn + 1)), (2, vi (al + bi (ctT M k))), (6, vi (bi (ctT M k))), (5, vi k), (4, vi nd), (0, .ref x), (1, vi a)] d_Md_count_63 rfl (by first | rfl | omega) (by decide) rfl ?_
                refine rz_Lsub [(3, vi (gn + 1)), (2, vi (al + bi (ctT M k))), (6, vi (bi (ctT M k))), (5, vi k), (4, vi nd), (0, .ref x), (1, vi a)] [0, 1, 2, 3, 4, 5, 6] rfl ?_
                refine rz_Leq [(3, vi (gn + bi (ctT M k && decide (¬ M 3 k = 0)))), (2, vi (al + bi (ctT M k))), (6, vi (bi (ctT M k))), (5, vi k), (4, vi nd), (0, .ref x), (1, vi a)] (by first | (rw [c50]; simp [bi]; done) | (rw [c50]; simp [bi, c60]; done)) ?_
                exact J66 () trivial
        · refine rz_iload 0 d_Md_count_40 rfl ?_
          refine rz_if_eqB 48 d_Md_count_42 (by decide) (fun c42 => ?_) (fun c42 => ?_)
          · refine rz_Lsub [(2, vi al), (6, vi (bi (ctT M k))), (5, vi k), (4, vi nd), (3, vi gn), (0, .ref x), (1, vi a)] [4, 0, 1, 2, 3, 5, 6] rfl ?_
            refine rz_Leq [(2, vi (al + bi (ctT M k))), (6, vi (bi (ctT M k))), (5, vi k), (4, vi nd), (3, vi gn), (0, .ref x), (1, vi a)] (by rw [c42]; simp [bi]) ?_
            exact J48 () trivial
          · refine rz_iinc (al + 1) 4 [(2, vi (al + 1)), (6, vi (bi (ctT M k))), (5, vi k), (4, vi nd), (3, vi gn), (0, .ref x), (1, vi a)] d_Md_count_45 rfl (by first | rfl | omega) (by decide) rfl ?_
            refine rz_Lsub [(2, vi (al + 1)), (6, vi (bi (ctT M k))), (5, vi k), (4, vi nd), (3, vi gn), (0, .ref x), (1, vi a)] [0, 1, 2, 3, 4, 5, 6] rfl ?_
            refine rz_Leq [(2, vi (al + bi (ctT M k))), (6, vi (bi (ctT M k))), (5, vi k), (4, vi nd), (3, vi gn), (0, .ref x), (1, vi a)] (by rw [c42]; simp [bi]) ?_
            exact J48 () trivial
      · refine rz_iload 0 d_Md_count_17 rfl ?_
        refine rz_iconst d_Md_count_19 ?_
        refine rz_irem (by omega) (by omega) d_Md_count_20 ?_
        refine rz_aload_n 4 d_Md_count_21 rfl rfl ?_
        refine rz_getf f_Md_16 hM.1 rfl d_Md_count_22 ?_
        refine rz_iload 0 d_Md_count_25 rfl ?_
        refine rz_iconst d_Md_count_27 ?_
        refine rz_idiv (by omega) (by omega) d_Md_count_28 ?_
        refine rz_iaload (md_a2 hM) (by decide) (by omega) d_Md_count_29 ?_
        refine rz_icmp_ge 37 d_Md_count_30 (by decide) (by omega) (by omega) (fun c30 => ?_) (fun c30 => ?_)
        · refine rz_iconst d_Md_count_37 ?_
          refine rz_Seq [vi (bi (ctT M k))] (by rw [show ctT M k = false from by simp [ctT]; omega]; rfl) ?_
          exact J38 () trivial
        · refine rz_iconst d_Md_count_33 ?_
          refine rz_goto 38 d_Md_count_34 (by decide) ?_
          refine rz_Seq [vi (bi (ctT M k))] (by rw [show ctT M k = true from by simp [ctT]; omega]; rfl) ?_
          exact J38 () trivial
  · refine rz_Lsub [(5, vi 0), (4, vi 0), (3, vi 0), (2, vi 0), (0, .ref x), (1, vi a)] [0, 1, 2, 3, 4, 5] rfl ?_
    refine LP (0, 0, 0, 0) ?_
    try dsimp only
    exact ⟨by decide, by decide, rfl, rfl, rfl⟩

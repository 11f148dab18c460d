/-! the class: letters, versions -/
abbrev rm_Rs_isLetter : Room := { frames := 0, cells := 0, slots := 0, locals := 0 }
set_option maxRecDepth 100000 in
set_option maxHeartbeats 4000000 in
theorem c_Rs_isLetter {l : Launch} {Γ : rz_G} {h : rz_H} {c : Int} (rc : -2147483648 ≤ c ∧ c ≤ 2147483647) : Ct l Γ x_Rs_isLetter y_Rs_isLetter rm_Rs_isLetter [vi c] h (pE (bi (isL c)) h) := by
  refine rz_met (by decide) rfl rfl (Nat.le_of_ble_eq_true rfl) (fun K _ => ?_)
  refine rz_Leq [(0, vi c)] rfl ?_
  refine rz_iload_n 0 d_Rs_isLetter_0 rfl rfl ?_
  refine rz_bipush (v := 97) d_Rs_isLetter_1 (by decide) ?_
  refine rz_icmp_lt 16 d_Rs_isLetter_3 (by decide) (by omega) ⟨by decide, by decide⟩ (fun c3 => ?_) (fun c3 => ?_)
  · refine rz_iconst d_Rs_isLetter_16 ?_
    exact rz_zreturn (st := []) (ty := .boolean) rfl rfl d_Rs_isLetter_17 ⟨by decide, by decide⟩ ⟨_, rfl, bi0 (by rw [isL, mIn_f]; omega), rfl⟩
  · refine rz_iload_n 0 d_Rs_isLetter_6 rfl rfl ?_
    refine rz_bipush (v := 122) d_Rs_isLetter_7 (by decide) ?_
    refine rz_icmp_gt 16 d_Rs_isLetter_9 (by decide) (by omega) ⟨by decide, by decide⟩ (fun c9 => ?_) (fun c9 => ?_)
    · refine rz_iconst d_Rs_isLetter_16 ?_
      exact rz_zreturn (st := []) (ty := .boolean) rfl rfl d_Rs_isLetter_17 ⟨by decide, by decide⟩ ⟨_, rfl, bi0 (by rw [isL, mIn_f]; omega), rfl⟩
    · refine rz_iconst d_Rs_isLetter_12 ?_
      refine rz_goto 17 d_Rs_isLetter_13 (by decide) ?_
      exact rz_zreturn (st := []) (ty := .boolean) rfl rfl d_Rs_isLetter_17 ⟨by decide, by decide⟩ ⟨_, rfl, bi1 (by rw [isL, mIn_t]; omega), rfl⟩
abbrev rm_Rs_isDigit : Room := { frames := 0, cells := 0, slots := 0, locals := 0 }
set_option maxRecDepth 100000 in
set_option maxHeartbeats 4000000 in
theorem c_Rs_isDigit {l : Launch} {Γ : rz_G} {h : rz_H} {c : Int} (rc : -2147483648 ≤ c ∧ c ≤ 2147483647) : Ct l Γ x_Rs_isDigit y_Rs_isDigit rm_Rs_isDigit [vi c] h (pE (bi (isD c)) h) := by
  refine rz_met (by decide) rfl rfl (Nat.le_of_ble_eq_true rfl) (fun K _ => ?_)
  refine rz_Leq [(0, vi c)] rfl ?_
  refine rz_iload_n 0 d_Rs_isDigit_0 rfl rfl ?_
  refine rz_bipush (v := 48) d_Rs_isDigit_1 (by decide) ?_
  refine rz_icmp_lt 16 d_Rs_isDigit_3 (by decide) (by omega) ⟨by decide, by decide⟩ (fun c3 => ?_) (fun c3 => ?_)
  · refine rz_iconst d_Rs_isDigit_16 ?_
    exact rz_zreturn (st := []) (ty := .boolean) rfl rfl d_Rs_isDigit_17 ⟨by decide, by decide⟩ ⟨_, rfl, bi0 (by rw [isD, mIn_f]; omega), rfl⟩
  · refine rz_iload_n 0 d_Rs_isDigit_6 rfl rfl ?_
    refine rz_bipush (v := 57) d_Rs_isDigit_7 (by decide) ?_
    refine rz_icmp_gt 16 d_Rs_isDigit_9 (by decide) (by omega) ⟨by decide, by decide⟩ (fun c9 => ?_) (fun c9 => ?_)
    · refine rz_iconst d_Rs_isDigit_16 ?_
      exact rz_zreturn (st := []) (ty := .boolean) rfl rfl d_Rs_isDigit_17 ⟨by decide, by decide⟩ ⟨_, rfl, bi0 (by rw [isD, mIn_f]; omega), rfl⟩
    · refine rz_iconst d_Rs_isDigit_12 ?_
      refine rz_goto 17 d_Rs_isDigit_13 (by decide) ?_
      exact rz_zreturn (st := []) (ty := .boolean) rfl rfl d_Rs_isDigit_17 ⟨by decide, by decide⟩ ⟨_, rfl, bi1 (by rw [isD, mIn_t]; omega), rfl⟩
abbrev rm_Rs_isSeparator : Room := { frames := 0, cells := 0, slots := 0, locals := 0 }
set_option maxRecDepth 100000 in
set_option maxHeartbeats 4000000 in
theorem c_Rs_isSeparator {l : Launch} {Γ : rz_G} {h : rz_H} {c : Int} (rc : -2147483648 ≤ c ∧ c ≤ 2147483647) : Ct l Γ x_Rs_isSeparator y_Rs_isSeparator rm_Rs_isSeparator [vi c] h (pE (bi (isS c)) h) := by
  refine rz_met (by decide) rfl rfl (Nat.le_of_ble_eq_true rfl) (fun K _ => ?_)
  refine rz_Leq [(0, vi c)] rfl ?_
  refine rz_iload_n 0 d_Rs_isSeparator_0 rfl rfl ?_
  refine rz_bipush (v := 46) d_Rs_isSeparator_1 (by decide) ?_
  refine rz_icmp_eq 12 d_Rs_isSeparator_3 (by decide) (by omega) ⟨by decide, by decide⟩ (fun c3 => ?_) (fun c3 => ?_)
  · refine rz_iconst d_Rs_isSeparator_12 ?_
    refine rz_goto 17 d_Rs_isSeparator_13 (by decide) ?_
    exact rz_zreturn (st := []) (ty := .boolean) rfl rfl d_Rs_isSeparator_17 ⟨by decide, by decide⟩ ⟨_, rfl, bi1 (by simp [isS]; omega), rfl⟩
  · refine rz_iload_n 0 d_Rs_isSeparator_6 rfl rfl ?_
    refine rz_bipush (v := 45) d_Rs_isSeparator_7 (by decide) ?_
    refine rz_icmp_ne 16 d_Rs_isSeparator_9 (by decide) (by omega) ⟨by decide, by decide⟩ (fun c9 => ?_) (fun c9 => ?_)
    · refine rz_iconst d_Rs_isSeparator_16 ?_
      exact rz_zreturn (st := []) (ty := .boolean) rfl rfl d_Rs_isSeparator_17 ⟨by decide, by decide⟩ ⟨_, rfl, bi0 (by simp [isS]; omega), rfl⟩
    · refine rz_iconst d_Rs_isSeparator_12 ?_
      refine rz_goto 17 d_Rs_isSeparator_13 (by decide) ?_
      exact rz_zreturn (st := []) (ty := .boolean) rfl rfl d_Rs_isSeparator_17 ⟨by decide, by decide⟩ ⟨_, rfl, bi1 (by simp [isS]; omega), rfl⟩
abbrev rm_Rs_isWritable : Room := { frames := 1, cells := 0, slots := 0, locals := 20 }
set_option maxRecDepth 100000 in
set_option maxHeartbeats 4000000 in
theorem c_Rs_isWritable {l : Launch} {Γ : rz_G} {h : rz_H} {c : Int} (rc : -2147483648 ≤ c ∧ c ≤ 2147483647) : Ct l Γ x_Rs_isWritable y_Rs_isWritable rm_Rs_isWritable [vi c] h (pE (bi (wrT c)) h) := by
  refine rz_met (by decide) rfl rfl (Nat.le_of_ble_eq_true rfl) (fun K _ => ?_)
  refine rz_Leq [(0, vi c)] rfl ?_
  refine rz_iload_n 0 d_Rs_isWritable_0 rfl rfl ?_
  refine rz_if_eq 55 d_Rs_isWritable_1 (by decide) (by omega) (fun c1 => ?_) (fun c1 => ?_)
  · refine rz_iconst d_Rs_isWritable_55 ?_
    refine rz_goto 60 d_Rs_isWritable_56 (by decide) ?_
    exact rz_zreturn (st := []) (ty := .boolean) rfl rfl d_Rs_isWritable_60 ⟨by decide, by decide⟩ ⟨_, rfl, bi1 (by simp [wrT, *]), rfl⟩
  · refine rz_iload_n 0 d_Rs_isWritable_4 rfl rfl ?_
    refine rz_callS (As := [vi c]) (c_Rs_isLetter (by omega)) m_Rs_200 rfl rfl (Nat.le_of_ble_eq_true rfl) ⟨by decide, by decide⟩ ⟨by decide, by decide⟩ d_Rs_isWritable_5 (kE (h := h) ?_)
    refine rz_if_neB 55 d_Rs_isWritable_8 (by decide) (fun c8 => ?_) (fun c8 => ?_)
    · refine rz_iconst d_Rs_isWritable_55 ?_
      refine rz_goto 60 d_Rs_isWritable_56 (by decide) ?_
      exact rz_zreturn (st := []) (ty := .boolean) rfl rfl d_Rs_isWritable_60 ⟨by decide, by decide⟩ ⟨_, rfl, bi1 (by simp [wrT, *]), rfl⟩
    · refine rz_iload_n 0 d_Rs_isWritable_11 rfl rfl ?_
      refine rz_callS (As := [vi c]) (c_Rs_isDigit (by omega)) m_Rs_203 rfl rfl (Nat.le_of_ble_eq_true rfl) ⟨by decide, by decide⟩ ⟨by decide, by decide⟩ d_Rs_isWritable_12 (kE (h := h) ?_)
      refine rz_if_neB 55 d_Rs_isWritable_15 (by decide) (fun c15 => ?_) (fun c15 => ?_)
      · refine rz_iconst d_Rs_isWritable_55 ?_
        refine rz_goto 60 d_Rs_isWritable_56 (by decide) ?_
        exact rz_zreturn (st := []) (ty := .boolean) rfl rfl d_Rs_isWritable_60 ⟨by decide, by decide⟩ ⟨_, rfl, bi1 (by simp [wrT, *]), rfl⟩
      · refine rz_iload_n 0 d_Rs_isWritable_18 rfl rfl ?_
        refine rz_callS (As := [vi c]) (c_Rs_isSeparator (by omega)) m_Rs_206 rfl rfl (Nat.le_of_ble_eq_true rfl) ⟨by decide, by decide⟩ ⟨by decide, by decide⟩ d_Rs_isWritable_19 (kE (h := h) ?_)
        refine rz_if_neB 55 d_Rs_isWritable_22 (by decide) (fun c22 => ?_) (fun c22 => ?_)
        · refine rz_iconst d_Rs_isWritable_55 ?_
          refine rz_goto 60 d_Rs_isWritable_56 (by decide) ?_
          exact rz_zreturn (st := []) (ty := .boolean) rfl rfl d_Rs_isWritable_60 ⟨by decide, by decide⟩ ⟨_, rfl, bi1 (by simp [wrT, *]), rfl⟩
        · refine rz_iload_n 0 d_Rs_isWritable_25 rfl rfl ?_
          refine rz_bipush (v := 91) d_Rs_isWritable_26 (by decide) ?_
          refine rz_icmp_eq 55 d_Rs_isWritable_28 (by decide) (by omega) ⟨by decide, by decide⟩ (fun c28 => ?_) (fun c28 => ?_)
          · refine rz_iconst d_Rs_isWritable_55 ?_
            refine rz_goto 60 d_Rs_isWritable_56 (by decide) ?_
            exact rz_zreturn (st := []) (ty := .boolean) rfl rfl d_Rs_isWritable_60 ⟨by decide, by decide⟩ ⟨_, rfl, bi1 (by simp [wrT, *]), rfl⟩
          · refine rz_iload_n 0 d_Rs_isWritable_31 rfl rfl ?_
            refine rz_bipush (v := 93) d_Rs_isWritable_32 (by decide) ?_
            refine rz_icmp_eq 55 d_Rs_isWritable_34 (by decide) (by omega) ⟨by decide, by decide⟩ (fun c34 => ?_) (fun c34 => ?_)
            · refine rz_iconst d_Rs_isWritable_55 ?_
              refine rz_goto 60 d_Rs_isWritable_56 (by decide) ?_
              exact rz_zreturn (st := []) (ty := .boolean) rfl rfl d_Rs_isWritable_60 ⟨by decide, by decide⟩ ⟨_, rfl, bi1 (by simp [wrT, *]), rfl⟩
            · refine rz_iload_n 0 d_Rs_isWritable_37 rfl rfl ?_
              refine rz_bipush (v := 40) d_Rs_isWritable_38 (by decide) ?_
              refine rz_icmp_eq 55 d_Rs_isWritable_40 (by decide) (by omega) ⟨by decide, by decide⟩ (fun c40 => ?_) (fun c40 => ?_)
              · refine rz_iconst d_Rs_isWritable_55 ?_
                refine rz_goto 60 d_Rs_isWritable_56 (by decide) ?_
                exact rz_zreturn (st := []) (ty := .boolean) rfl rfl d_Rs_isWritable_60 ⟨by decide, by decide⟩ ⟨_, rfl, bi1 (by simp [wrT, *]), rfl⟩
              · refine rz_iload_n 0 d_Rs_isWritable_43 rfl rfl ?_
                refine rz_bipush (v := 41) d_Rs_isWritable_44 (by decide) ?_
                refine rz_icmp_eq 55 d_Rs_isWritable_46 (by decide) (by omega) ⟨by decide, by decide⟩ (fun c46 => ?_) (fun c46 => ?_)
                · refine rz_iconst d_Rs_isWritable_55 ?_
                  refine rz_goto 60 d_Rs_isWritable_56 (by decide) ?_
                  exact rz_zreturn (st := []) (ty := .boolean) rfl rfl d_Rs_isWritable_60 ⟨by decide, by decide⟩ ⟨_, rfl, bi1 (by simp [wrT, *]), rfl⟩
                · refine rz_iload_n 0 d_Rs_isWritable_49 rfl rfl ?_
                  refine rz_bipush (v := 44) d_Rs_isWritable_50 (by decide) ?_
                  refine rz_icmp_ne 59 d_Rs_isWritable_52 (by decide) (by omega) ⟨by decide, by decide⟩ (fun c52 => ?_) (fun c52 => ?_)
                  · refine rz_iconst d_Rs_isWritable_59 ?_
                    exact rz_zreturn (st := []) (ty := .boolean) rfl rfl d_Rs_isWritable_60 ⟨by decide, by decide⟩ ⟨_, rfl, bi0 (by simp [wrT, *]), rfl⟩
                  · refine rz_iconst d_Rs_isWritable_55 ?_
                    refine rz_goto 60 d_Rs_isWritable_56 (by decide) ?_
                    exact rz_zreturn (st := []) (ty := .boolean) rfl rfl d_Rs_isWritable_60 ⟨by decide, by decide⟩ ⟨_, rfl, bi1 (by simp [wrT, *]), rfl⟩
abbrev rm_Rs_lengthOf : Room := { frames := 0, cells := 0, slots := 0, locals := 0 }
set_option maxRecDepth 100000 in
set_option maxHeartbeats 4000000 in
theorem c_Rs_lengthOf {l : Launch} {Γ : rz_G} {h : rz_H} {c : Int} (rc : -2147483648 ≤ c ∧ c ≤ 2147483647) : Ct l Γ x_Rs_lengthOf y_Rs_lengthOf rm_Rs_lengthOf [vi c] h (pE (mOne c) h) := by
  refine rz_met (by decide) rfl rfl (Nat.le_of_ble_eq_true rfl) (fun K _ => ?_)
  refine rz_Leq [(0, vi c)] rfl ?_
  refine rz_iload_n 0 d_Rs_lengthOf_0 rfl rfl ?_
  refine rz_if_ne 8 d_Rs_lengthOf_1 (by decide) (by omega) (fun c1 => ?_) (fun c1 => ?_)
  · refine rz_iconst d_Rs_lengthOf_8 ?_
    exact rz_ireturn (st := []) rfl d_Rs_lengthOf_9 ⟨by decide, by decide⟩ ⟨_, rfl, (by simp [mOne, *]), rfl⟩
  · refine rz_iconst d_Rs_lengthOf_4 ?_
    refine rz_goto 9 d_Rs_lengthOf_5 (by decide) ?_
    exact rz_ireturn (st := []) rfl d_Rs_lengthOf_9 ⟨by decide, by decide⟩ ⟨_, rfl, (by simp [mOne, *]), rfl⟩
abbrev rm_Rs_isPlugin : Room := { frames := 0, cells := 0, slots := 0, locals := 0 }
set_option maxRecDepth 100000 in
set_option maxHeartbeats 4000000 in
theorem c_Rs_isPlugin {l : Launch} {Γ : rz_G} {h : rz_H} {p : Int} (rp : -2147483648 ≤ p ∧ p ≤ 2147483647) : Ct l Γ x_Rs_isPlugin y_Rs_isPlugin rm_Rs_isPlugin [vi p] h (pE (bi (mIn p 0 5)) h) := by
  refine rz_met (by decide) rfl rfl (Nat.le_of_ble_eq_true rfl) (fun K _ => ?_)
  refine rz_Leq [(0, vi p)] rfl ?_
  refine rz_iload_n 0 d_Rs_isPlugin_0 rfl rfl ?_
  refine rz_if_lt 14 d_Rs_isPlugin_1 (by decide) (by omega) (fun c1 => ?_) (fun c1 => ?_)
  · refine rz_iconst d_Rs_isPlugin_14 ?_
    exact rz_zreturn (st := []) (ty := .boolean) rfl rfl d_Rs_isPlugin_15 ⟨by decide, by decide⟩ ⟨_, rfl, bi0 (by rw [mIn_f]; omega), rfl⟩
  · refine rz_iload_n 0 d_Rs_isPlugin_4 rfl rfl ?_
    refine rz_bipush (v := 6) d_Rs_isPlugin_5 (by decide) ?_
    refine rz_icmp_ge 14 d_Rs_isPlugin_7 (by decide) (by omega) ⟨by decide, by decide⟩ (fun c7 => ?_) (fun c7 => ?_)
    · refine rz_iconst d_Rs_isPlugin_14 ?_
      exact rz_zreturn (st := []) (ty := .boolean) rfl rfl d_Rs_isPlugin_15 ⟨by decide, by decide⟩ ⟨_, rfl, bi0 (by rw [mIn_f]; omega), rfl⟩
    · refine rz_iconst d_Rs_isPlugin_10 ?_
      refine rz_goto 15 d_Rs_isPlugin_11 (by decide) ?_
      exact rz_zreturn (st := []) (ty := .boolean) rfl rfl d_Rs_isPlugin_15 ⟨by decide, by decide⟩ ⟨_, rfl, bi1 (by rw [mIn_t]; omega), rfl⟩
abbrev rm_Rs_hasBit : Room := { frames := 0, cells := 0, slots := 0, locals := 0 }
set_option maxRecDepth 100000 in
set_option maxHeartbeats 4000000 in
theorem c_Rs_hasBit {l : Launch} {Γ : rz_G} {h : rz_H} {v i : Int} {F : Nat → Bool} {n : Nat} (hb : Bt n v F) (hn : n ≤ 6) (hi : 0 ≤ i ∧ i < n) : Ct l Γ x_Rs_hasBit y_Rs_hasBit rm_Rs_hasBit [vi v, vi i] h (pE (bi (F i.toNat)) h) := by
  refine rz_met (by decide) rfl rfl (Nat.le_of_ble_eq_true rfl) (fun K _ => ?_)
  refine rz_Leq [(0, vi v), (1, vi i)] rfl ?_
  obtain ⟨r, e1, e2⟩ := hb.has hn hi
  refine rz_iload_n 0 d_Rs_hasBit_0 rfl rfl ?_
  refine rz_iload_n 1 d_Rs_hasBit_1 rfl rfl ?_
  refine rz_ishr r e1 d_Rs_hasBit_2 ?_
  refine rz_iconst d_Rs_hasBit_3 ?_
  refine rz_iand (bi (F i.toNat)) e2 d_Rs_hasBit_4 ?_
  refine rz_if_eqB 12 d_Rs_hasBit_5 (by decide) (fun c5 => ?_) (fun c5 => ?_)
  · refine rz_iconst d_Rs_hasBit_12 ?_
    exact rz_zreturn (st := []) (ty := .boolean) rfl rfl d_Rs_hasBit_13 ⟨by decide, by decide⟩ ⟨_, rfl, bi0 (by assumption), rfl⟩
  · refine rz_iconst d_Rs_hasBit_8 ?_
    refine rz_goto 13 d_Rs_hasBit_9 (by decide) ?_
    exact rz_zreturn (st := []) (ty := .boolean) rfl rfl d_Rs_hasBit_13 ⟨by decide, by decide⟩ ⟨_, rfl, bi1 (by assumption), rfl⟩
theorem StrAt.ob {Γ : rz_G} {h : rz_H} {s n m : Nat} {f : Int → Int} (hs : StrAt Γ h s n f m) : ∃ ts fs, h s = some (ts, .inr (0, fs)) := by
  obtain ⟨ts, tv, va, fs, g, a1, _⟩ := hs
  exact ⟨ts, fs, a1⟩
theorem vc_b1 {s d l g : Bool} (h : (s || d || l) = false) : ((!s && !d && !l) || (s && g)) = true := by revert h; cases s <;> cases d <;> cases l <;> cases g <;> decide
theorem vc_b2 {s d l g : Bool} (h1 : s = true) (h2 : g = true) : ((!s && !d && !l) || (s && g)) = true := by rw [h1, h2]; simp
theorem isO_t {a b : Int} {x y : Bool} (h1 : isD a = x) (h2 : isD b = y) : isO a b = ((x && y) || (isL a && isL b)) := by rw [isO, h1, h2]
abbrev rm_Ve_isOneKind : Room := { frames := 1, cells := 0, slots := 0, locals := 20 }
set_option maxRecDepth 100000 in
set_option maxHeartbeats 4000000 in
theorem c_Ve_isOneKind {l : Launch} {Γ : rz_G} {h : rz_H} {a b : Int} (ra : -2147483648 ≤ a ∧ a ≤ 2147483647) (rb : -2147483648 ≤ b ∧ b ≤ 2147483647) : Ct l Γ x_Ve_isOneKind y_Ve_isOneKind rm_Ve_isOneKind [vi a, vi b] h (pE (bi (isO a b)) h) := by
  refine rz_met (by decide) rfl rfl (Nat.le_of_ble_eq_true rfl) (fun K _ => ?_)
  refine rz_Leq [(0, vi a), (1, vi b)] rfl ?_
  refine rz_iload_n 0 d_Ve_isOneKind_0 rfl rfl ?_
  refine rz_callS (As := [vi a]) (c_Rs_isDigit (by omega)) m_Ve_58 rfl rfl (Nat.le_of_ble_eq_true rfl) ⟨by decide, by decide⟩ ⟨by decide, by decide⟩ d_Ve_isOneKind_1 (kE (h := h) ?_)
  refine rz_if_eqB 14 d_Ve_isOneKind_4 (by decide) (fun c4 => ?_) (fun c4 => ?_)
  · refine rz_iload_n 0 d_Ve_isOneKind_14 rfl rfl ?_
    refine rz_callS (As := [vi a]) (c_Rs_isLetter (by omega)) m_Ve_61 rfl rfl (Nat.le_of_ble_eq_true rfl) ⟨by decide, by decide⟩ ⟨by decide, by decide⟩ d_Ve_isOneKind_15 (kE (h := h) ?_)
    refine rz_if_eqB 32 d_Ve_isOneKind_18 (by decide) (fun c18 => ?_) (fun c18 => ?_)
    · refine rz_iconst d_Ve_isOneKind_32 ?_
      exact rz_zreturn (st := []) (ty := .boolean) rfl rfl d_Ve_isOneKind_33 ⟨by decide, by decide⟩ ⟨_, rfl, bi0 (by simp [isO, *]), rfl⟩
    · refine rz_iload_n 1 d_Ve_isOneKind_21 rfl rfl ?_
      refine rz_callS (As := [vi b]) (c_Rs_isLetter (by omega)) m_Ve_61 rfl rfl (Nat.le_of_ble_eq_true rfl) ⟨by decide, by decide⟩ ⟨by decide, by decide⟩ d_Ve_isOneKind_22 (kE (h := h) ?_)
      refine rz_if_eqB 32 d_Ve_isOneKind_25 (by decide) (fun c25 => ?_) (fun c25 => ?_)
      · refine rz_iconst d_Ve_isOneKind_32 ?_
        exact rz_zreturn (st := []) (ty := .boolean) rfl rfl d_Ve_isOneKind_33 ⟨by decide, by decide⟩ ⟨_, rfl, bi0 (by simp [isO, *]), rfl⟩
      · refine rz_iconst d_Ve_isOneKind_28 ?_
        refine rz_goto 33 d_Ve_isOneKind_29 (by decide) ?_
        exact rz_zreturn (st := []) (ty := .boolean) rfl rfl d_Ve_isOneKind_33 ⟨by decide, by decide⟩ ⟨_, rfl, bi1 (by simp [isO, *]), rfl⟩
  · refine rz_iload_n 1 d_Ve_isOneKind_7 rfl rfl ?_
    refine rz_callS (As := [vi b]) (c_Rs_isDigit (by omega)) m_Ve_58 rfl rfl (Nat.le_of_ble_eq_true rfl) ⟨by decide, by decide⟩ ⟨by decide, by decide⟩ d_Ve_isOneKind_8 (kE (h := h) ?_)
    refine rz_if_neB 28 d_Ve_isOneKind_11 (by decide) (fun c11 => ?_) (fun c11 => ?_)
    · refine rz_iconst d_Ve_isOneKind_28 ?_
      refine rz_goto 33 d_Ve_isOneKind_29 (by decide) ?_
      exact rz_zreturn (st := []) (ty := .boolean) rfl rfl d_Ve_isOneKind_33 ⟨by decide, by decide⟩ ⟨_, rfl, bi1 (by simp [isO, *]), rfl⟩
    · refine rz_iload_n 0 d_Ve_isOneKind_14 rfl rfl ?_
      refine rz_callS (As := [vi a]) (c_Rs_isLetter (by omega)) m_Ve_61 rfl rfl (Nat.le_of_ble_eq_true rfl) ⟨by decide, by decide⟩ ⟨by decide, by decide⟩ d_Ve_isOneKind_15 (kE (h := h) ?_)
      refine rz_if_eqB 32 d_Ve_isOneKind_18 (by decide) (fun c18 => ?_) (fun c18 => ?_)
      · refine rz_iconst d_Ve_isOneKind_32 ?_
        exact rz_zreturn (st := []) (ty := .boolean) rfl rfl d_Ve_isOneKind_33 ⟨by decide, by decide⟩ ⟨_, rfl, bi0 (by simp [isO, *]), rfl⟩
      · refine rz_iload_n 1 d_Ve_isOneKind_21 rfl rfl ?_
        refine rz_callS (As := [vi b]) (c_Rs_isLetter (by omega)) m_Ve_61 rfl rfl (Nat.le_of_ble_eq_true rfl) ⟨by decide, by decide⟩ ⟨by decide, by decide⟩ d_Ve_isOneKind_22 (kE (h := h) ?_)
        refine rz_if_eqB 32 d_Ve_isOneKind_25 (by decide) (fun c25 => ?_) (fun c25 => ?_)
        · refine rz_iconst d_Ve_isOneKind_32 ?_
          exact rz_zreturn (st := []) (ty := .boolean) rfl rfl d_Ve_isOneKind_33 ⟨by decide, by decide⟩ ⟨_, rfl, bi0 (by simp [isO, *]), rfl⟩
        · refine rz_iconst d_Ve_isOneKind_28 ?_
          refine rz_goto 33 d_Ve_isOneKind_29 (by decide) ?_
          exact rz_zreturn (st := []) (ty := .boolean) rfl rfl d_Ve_isOneKind_33 ⟨by decide, by decide⟩ ⟨_, rfl, bi1 (by simp [isO, *]), rfl⟩
abbrev rm_Ve_startsItem : Room := { frames := 4, cells := 0, slots := 0, locals := 85 }
set_option maxRecDepth 100000 in
set_option maxHeartbeats 4000000 in
theorem c_Ve_startsItem {l : Launch} {Γ : rz_G} {h : rz_H} {s n mm : Nat} {f : Int → Int} (hs : StrAt Γ h s n f mm) {i : Int} (hi : 0 ≤ i ∧ i < (n : Int)) : Ct l Γ x_Ve_startsItem y_Ve_startsItem rm_Ve_startsItem [.ref s, vi i] h (pE (bi (stI f i)) h) := by
  refine rz_met (by decide) rfl rfl (Nat.le_of_ble_eq_true rfl) (fun K _ => ?_)
  refine rz_Leq [(0, .ref s), (1, vi i)] rfl ?_
  have hn100 := hs.ok.1
  refine rz_aload_n 0 d_Ve_startsItem_0 rfl rfl ?_
  refine rz_iload_n 1 d_Ve_startsItem_1 rfl rfl ?_
  obtain ⟨tso1, fso1, so1⟩ := hs.ob
  refine rz_callV (As := [vi i]) (c_St_charAt hs (by omega)) m_Ve_48 so1 rfl rfl rfl rfl (Nat.le_of_ble_eq_true rfl) ⟨by decide, by decide⟩ ⟨by decide, by decide⟩ d_Ve_startsItem_2 (kE (h := h) ?_)
  refine rz_istore_n [(2, vi (f i)), (0, .ref s), (1, vi i)] d_Ve_startsItem_5 rfl (by decide) rfl ?_
  refine rz_iload_n 0 d_Ve_startsItem_6 rfl rfl ?_
  refine rz_callS (As := [vi (f i)]) (c_Rs_isSeparator (by have := hs.ok.2 i (by omega) (by omega); omega)) m_Ve_52 rfl rfl (Nat.le_of_ble_eq_true rfl) ⟨by decide, by decide⟩ ⟨by decide, by decide⟩ d_Ve_startsItem_7 (kE (h := h) ?_)
  refine rz_if_neB 35 d_Ve_startsItem_10 (by decide) (fun c10 => ?_) (fun c10 => ?_)
  · refine rz_iconst d_Ve_startsItem_35 ?_
    exact rz_zreturn (st := []) (ty := .boolean) rfl rfl d_Ve_startsItem_36 ⟨by decide, by decide⟩ ⟨_, rfl, bi0 (by first | (rw [stI, c10, c28, decide_eq_false c14]; rfl) | (rw [stI, c10, decide_eq_true c14]; rfl) | (rw [stI, c10]; rfl)), rfl⟩
  · refine rz_iload_n 2 d_Ve_startsItem_13 rfl rfl ?_
    refine rz_if_eq 31 d_Ve_startsItem_14 (by decide) (by omega) (fun c14 => ?_) (fun c14 => ?_)
    · refine rz_iconst d_Ve_startsItem_31 ?_
      refine rz_goto 36 d_Ve_startsItem_32 (by decide) ?_
      exact rz_zreturn (st := []) (ty := .boolean) rfl rfl d_Ve_startsItem_36 ⟨by decide, by decide⟩ ⟨_, rfl, bi1 (by first | (rw [stI, c10, c28, decide_eq_false c14]; rfl) | (rw [stI, c10, decide_eq_true c14]; rfl) | (rw [stI, c10]; rfl)), rfl⟩
    · refine rz_aload_n 1 d_Ve_startsItem_17 rfl rfl ?_
      refine rz_iload_n 2 d_Ve_startsItem_18 rfl rfl ?_
      refine rz_iconst d_Ve_startsItem_19 ?_
      refine rz_isub d_Ve_startsItem_20 ?_
      obtain ⟨tso2, fso2, so2⟩ := hs.ob
      refine rz_callV (As := [vi (i - 1)]) (c_St_charAt hs (by omega)) m_Ve_48 so2 rfl rfl rfl rfl (Nat.le_of_ble_eq_true rfl) ⟨by decide, by decide⟩ ⟨by decide, by decide⟩ d_Ve_startsItem_21 (kE (h := h) ?_)
      refine rz_iload_n 0 d_Ve_startsItem_24 rfl rfl ?_
      refine rz_callS (As := [vi (f (i - 1)), vi (f i)]) (c_Ve_isOneKind (by have := hs.ok.2 (i - 1) (by omega) (by omega); omega) (by have := hs.ok.2 i (by omega) (by omega); omega)) m_Ve_64 rfl rfl (Nat.le_of_ble_eq_true rfl) ⟨by decide, by decide⟩ ⟨by decide, by decide⟩ d_Ve_startsItem_25 (kE (h := h) ?_)
      refine rz_if_neB 35 d_Ve_startsItem_28 (by decide) (fun c28 => ?_) (fun c28 => ?_)
      · refine rz_iconst d_Ve_startsItem_35 ?_
        exact rz_zreturn (st := []) (ty := .boolean) rfl rfl d_Ve_startsItem_36 ⟨by decide, by decide⟩ ⟨_, rfl, bi0 (by first | (rw [stI, c10, c28, decide_eq_false c14]; rfl) | (rw [stI, c10, decide_eq_true c14]; rfl) | (rw [stI, c10]; rfl)), rfl⟩
      · refine rz_iconst d_Ve_startsItem_31 ?_
        refine rz_goto 36 d_Ve_startsItem_32 (by decide) ?_
        exact rz_zreturn (st := []) (ty := .boolean) rfl rfl d_Ve_startsItem_36 ⟨by decide, by decide⟩ ⟨_, rfl, bi1 (by first | (rw [stI, c10, c28, decide_eq_false c14]; rfl) | (rw [stI, c10, decide_eq_true c14]; rfl) | (rw [stI, c10]; rfl)), rfl⟩
abbrev rm_Ve_isVersion : Room := { frames := 4, cells := 0, slots := 0, locals := 85 }
set_option maxRecDepth 100000 in
set_option maxHeartbeats 4000000 in
theorem c_Ve_isVersion {l : Launch} {Γ : rz_G} {h : rz_H} {s n mm : Nat} {f : Int → Int} (hs : StrAt Γ h s n f mm) : Ct l Γ x_Ve_isVersion y_Ve_isVersion rm_Ve_isVersion [.ref s] h (pE (bi (ver f 0 n)) h) := by
  refine rz_met (by decide) rfl rfl (Nat.le_of_ble_eq_true rfl) (fun K _ => ?_)
  refine rz_Leq [(0, .ref s)] rfl ?_
  have hn100 := hs.ok.1
  refine rz_aload_n 0 d_Ve_isVersion_0 rfl rfl ?_
  obtain ⟨tso1, fso1, so1⟩ := hs.ob
  refine rz_callV (As := []) (c_St_isEmpty hs) m_Ve_44 so1 rfl rfl rfl rfl (Nat.le_of_ble_eq_true rfl) ⟨by decide, by decide⟩ ⟨by decide, by decide⟩ d_Ve_isVersion_1 (kE (h := h) ?_)
  refine rz_if_neB 16 d_Ve_isVersion_4 (by decide) (fun c4 => ?_) (fun c4 => ?_)
  · refine rz_iconst d_Ve_isVersion_16 ?_
    exact rz_zreturn (st := []) (ty := .boolean) rfl rfl d_Ve_isVersion_17 ⟨by decide, by decide⟩ ⟨_, rfl, bi0 (by rw [ver, show mIn ((n : Int) - 0) 1 12 = false from mIn_f.2 (by first | omega | (have := of_decide_eq_true c4; omega))]; rfl), rfl⟩
  · refine rz_aload_n 0 d_Ve_isVersion_7 rfl rfl ?_
    obtain ⟨tso2, fso2, so2⟩ := hs.ob
    refine rz_callV (As := []) (c_St_length hs) m_Ve_23 so2 rfl rfl rfl rfl (Nat.le_of_ble_eq_true rfl) ⟨by decide, by decide⟩ ⟨by decide, by decide⟩ d_Ve_isVersion_8 (kE (h := h) ?_)
    refine rz_bipush (v := 12) d_Ve_isVersion_11 (by decide) ?_
    refine rz_icmp_le 18 d_Ve_isVersion_13 (by decide) (by omega) ⟨by decide, by decide⟩ (fun c13 => ?_) (fun c13 => ?_)
    · have hm : mIn ((n : Int) - 0) 1 12 = true := mIn_t.2 (by have := of_decide_eq_false c4; omega)
      refine rz_iconst d_Ve_isVersion_18 ?_
      refine rz_istore_n [(1, vi 1), (0, .ref s)] d_Ve_isVersion_19 rfl (by decide) rfl ?_
      refine rz_iconst d_Ve_isVersion_20 ?_
      refine rz_istore_n [(2, vi 0), (1, vi 1), (0, .ref s)] d_Ve_isVersion_21 rfl (by decide) rfl ?_
      refine rz_iconst d_Ve_isVersion_22 ?_
      refine rz_istore_n [(3, vi 0), (2, vi 0), (1, vi 1), (0, .ref s)] d_Ve_isVersion_23 rfl (by decide) rfl ?_
      refine rz_loop (α := Int × Int × Bool) 0 0 24 (fun (i, run, gap) => ((n : Int) - i).toNat) (fun (i, run, gap) => 0 ≤ i ∧ i ≤ n ∧ 0 ≤ run ∧ run ≤ 9 ∧ verF f ((n : Int) - 0).toNat 0 0 true = verF f ((n : Int) - i).toNat i run gap) (fun (i, run, gap) => [(3, vi i), (2, vi run), (1, vi (bi gap)), (0, .ref s)]) (fun (i, run, gap) => []) (fun (i, run, gap) => h) (fun y hy ih24 => ?_) (fun LP => ?_)
      · obtain ⟨i, run, gap⟩ := y
        try dsimp only at hy ih24 ⊢
        obtain ⟨hi0, hi1, hr0, hr1, hv⟩ := hy
        refine rz_iload_n 0 d_Ve_isVersion_24 rfl rfl ?_
        refine rz_aload_n 3 d_Ve_isVersion_25 rfl rfl ?_
        obtain ⟨tso3, fso3, so3⟩ := hs.ob
        refine rz_callV (As := []) (c_St_length hs) m_Ve_23 so3 rfl rfl rfl rfl (Nat.le_of_ble_eq_true rfl) ⟨by decide, by decide⟩ ⟨by decide, by decide⟩ d_Ve_isVersion_26 (kE (h := h) ?_)
        refine rz_icmp_ge 121 d_Ve_isVersion_29 (by decide) (by omega) (by omega) (fun c29 => ?_) (fun c29 => ?_)
        · refine rz_iload_n 2 d_Ve_isVersion_121 rfl rfl ?_
          refine rz_if_neB 129 d_Ve_isVersion_122 (by decide) (fun c122 => ?_) (fun c122 => ?_)
          · refine rz_iconst d_Ve_isVersion_129 ?_
            exact rz_zreturn (st := []) (ty := .boolean) rfl rfl d_Ve_isVersion_130 ⟨by decide, by decide⟩ ⟨_, rfl, bi0 (by rw [ver, hv, hm, show ((n : Int) - i).toNat = 0 by omega]; simp [verF, *]), rfl⟩
          · refine rz_iconst d_Ve_isVersion_125 ?_
            refine rz_goto 130 d_Ve_isVersion_126 (by decide) ?_
            exact rz_zreturn (st := []) (ty := .boolean) rfl rfl d_Ve_isVersion_130 ⟨by decide, by decide⟩ ⟨_, rfl, bi1 (by rw [ver, hv, hm, show ((n : Int) - i).toNat = 0 by omega]; simp [verF, *]), rfl⟩
        · refine rz_aload_n 3 d_Ve_isVersion_32 rfl rfl ?_
          refine rz_iload_n 0 d_Ve_isVersion_33 rfl rfl ?_
          obtain ⟨tso4, fso4, so4⟩ := hs.ob
          refine rz_callV (As := [vi i]) (c_St_charAt hs (by omega)) m_Ve_48 so4 rfl rfl rfl rfl (Nat.le_of_ble_eq_true rfl) ⟨by decide, by decide⟩ ⟨by decide, by decide⟩ d_Ve_isVersion_34 (kE (h := h) ?_)
          refine rz_top (fun c e_c => ?_)
          replace e_c := e_c.symm
          refine rz_istore [(4, vi c), (3, vi i), (2, vi run), (1, vi (bi gap)), (0, .ref s)] d_Ve_isVersion_37 (by decide) rfl ?_
          have rc := hs.ok.2 i (by omega) (by omega)
          rw [e_c] at rc
          refine rz_iload 0 d_Ve_isVersion_39 rfl ?_
          refine rz_callS (As := [vi c]) (c_Rs_isSeparator (by omega)) m_Ve_52 rfl rfl (Nat.le_of_ble_eq_true rfl) ⟨by decide, by decide⟩ ⟨by decide, by decide⟩ d_Ve_isVersion_41 (kE (h := h) ?_)
          refine rz_istore [(5, vi (bi (isS c))), (4, vi c), (3, vi i), (2, vi run), (1, vi (bi gap)), (0, .ref s)] d_Ve_isVersion_44 (by decide) rfl ?_
          refine rz_cut (α := Unit) 0 0 61 (fun _ => True) (fun _ => [(5, vi (bi (isS c))), (4, vi c), (3, vi i), (2, vi run), (1, vi (bi gap)), (0, .ref s)]) (fun _ => [vi (if isD c = true then run + 1 else 0)]) (fun _ => h) (fun _ _ => ?_) (fun J61 => ?_)
          · refine rz_top (fun rn e_rn => ?_)
            replace e_rn := e_rn.symm
            refine rz_istore_n [(2, vi rn), (5, vi (bi (isS c))), (4, vi c), (3, vi i), (1, vi (bi gap)), (0, .ref s)] d_Ve_isVersion_61 rfl (by decide) rfl ?_
            refine rz_cut (α := Unit) 0 0 88 (fun _ => True) (fun _ => [(2, vi rn), (5, vi (bi (isS c))), (4, vi c), (3, vi i), (1, vi (bi gap)), (0, .ref s)]) (fun _ => [vi (bi (isS c || isD c || isL c))]) (fun _ => h) (fun _ _ => ?_) (fun J88 => ?_)
            · refine rz_istore [(6, vi (bi (isS c || isD c || isL c))), (2, vi rn), (5, vi (bi (isS c))), (4, vi c), (3, vi i), (1, vi (bi gap)), (0, .ref s)] d_Ve_isVersion_88 (by decide) rfl ?_
              refine rz_iload 0 d_Ve_isVersion_90 rfl ?_
              refine rz_if_eqB 110 d_Ve_isVersion_92 (by decide) (fun c92 => ?_) (fun c92 => ?_)
              · refine rz_iconst d_Ve_isVersion_110 ?_
                exact rz_zreturn (st := []) (ty := .boolean) rfl rfl d_Ve_isVersion_111 ⟨by decide, by decide⟩ ⟨_, rfl, bi0 (by rw [ver, hv]; first | (rw [verF_bad (by omega) (by rw [e_c]; exact vc_b1 c92)]; simp; done) | (rw [verF_bad (by omega) (by rw [e_c]; exact vc_b2 c97 c101)]; simp; done) | (rw [verF_run (by omega) (by rw [e_c, e_rn]; omega)]; simp)), rfl⟩
              · have k95 := c92
                refine rz_cut (α := Unit) 0 0 104 (fun _ => (isS c && gap) = false) (fun _ => [(6, vi (bi (isS c || isD c || isL c))), (2, vi rn), (5, vi (bi (isS c))), (4, vi c), (3, vi i), (1, vi (bi gap)), (0, .ref s)]) (fun _ => []) (fun _ => h) (fun _ k104 => ?_) (fun J104 => ?_)
                · refine rz_iload_n 1 d_Ve_isVersion_104 rfl rfl ?_
                  refine rz_bipush (v := 9) d_Ve_isVersion_105 (by decide) ?_
                  refine rz_icmp_le 112 d_Ve_isVersion_107 (by decide) (by rw [← e_rn]; split <;> omega) ⟨by decide, by decide⟩ (fun c107 => ?_) (fun c107 => ?_)
                  · refine rz_iload 2 d_Ve_isVersion_112 rfl ?_
                    refine rz_istore_n [(1, vi (bi (isS c))), (6, vi (bi (isS c || isD c || isL c))), (2, vi rn), (5, vi (bi (isS c))), (4, vi c), (3, vi i), (0, .ref s)] d_Ve_isVersion_114 rfl (by decide) rfl ?_
                    refine rz_iinc (i + 1) 5 [(3, vi (i + 1)), (1, vi (bi (isS c))), (6, vi (bi (isS c || isD c || isL c))), (2, vi rn), (5, vi (bi (isS c))), (4, vi c), (0, .ref s)] d_Ve_isVersion_115 rfl (by first | rfl | omega) (by decide) rfl ?_
                    refine rz_goto 24 d_Ve_isVersion_118 (by decide) ?_
                    refine rz_Lsub [(3, vi (i + 1)), (2, vi rn), (1, vi (bi (isS c))), (0, .ref s)] [0, 3, 1, 6] rfl ?_
                    refine ih24 (i + 1, rn, isS c) ?_ ?_
                    · try dsimp only
                      exact ⟨by omega, by omega, (by rw [← e_rn]; split <;> omega), by omega, (by rw [hv, verF_go (by omega) (by rw [e_c]; exact vc_ok k95 k104) (by rw [e_c, e_rn]; omega), e_c, e_rn]; congr 1; omega)⟩
                    · exact (by first | omega | (dsimp only; omega))
                  · refine rz_iconst d_Ve_isVersion_110 ?_
                    exact rz_zreturn (st := []) (ty := .boolean) rfl rfl d_Ve_isVersion_111 ⟨by decide, by decide⟩ ⟨_, rfl, bi0 (by rw [ver, hv]; first | (rw [verF_bad (by omega) (by rw [e_c]; exact vc_b1 c92)]; simp; done) | (rw [verF_bad (by omega) (by rw [e_c]; exact vc_b2 c97 c101)]; simp; done) | (rw [verF_run (by omega) (by rw [e_c, e_rn]; omega)]; simp)), rfl⟩
                · refine rz_iload 2 d_Ve_isVersion_95 rfl ?_
                  refine rz_if_eqB 104 d_Ve_isVersion_97 (by decide) (fun c97 => ?_) (fun c97 => ?_)
                  · exact J104 () (by simp [*])
                  · refine rz_iload_n 5 d_Ve_isVersion_100 rfl rfl ?_
                    refine rz_if_neB 110 d_Ve_isVersion_101 (by decide) (fun c101 => ?_) (fun c101 => ?_)
                    · refine rz_iconst d_Ve_isVersion_110 ?_
                      exact rz_zreturn (st := []) (ty := .boolean) rfl rfl d_Ve_isVersion_111 ⟨by decide, by decide⟩ ⟨_, rfl, bi0 (by rw [ver, hv]; first | (rw [verF_bad (by omega) (by rw [e_c]; exact vc_b1 c92)]; simp; done) | (rw [verF_bad (by omega) (by rw [e_c]; exact vc_b2 c97 c101)]; simp; done) | (rw [verF_run (by omega) (by rw [e_c, e_rn]; omega)]; simp)), rfl⟩
                    · exact J104 () (by simp [*])
            · refine rz_iload 1 d_Ve_isVersion_62 rfl ?_
              refine rz_if_neB 83 d_Ve_isVersion_64 (by decide) (fun c64 => ?_) (fun c64 => ?_)
              · refine rz_iconst d_Ve_isVersion_83 ?_
                refine rz_goto 88 d_Ve_isVersion_84 (by decide) ?_
                refine rz_Seq [vi (bi (isS c || isD c || isL c))] (by rw [show (isS c || isD c || isL c) = true from by simp [*]]; rfl) ?_
                exact J88 () trivial
              · refine rz_iload 2 d_Ve_isVersion_67 rfl ?_
                refine rz_callS (As := [vi c]) (c_Rs_isDigit (by omega)) m_Ve_58 rfl rfl (Nat.le_of_ble_eq_true rfl) ⟨by decide, by decide⟩ ⟨by decide, by decide⟩ d_Ve_isVersion_69 (kE (h := h) ?_)
                refine rz_if_neB 83 d_Ve_isVersion_72 (by decide) (fun c72 => ?_) (fun c72 => ?_)
                · refine rz_iconst d_Ve_isVersion_83 ?_
                  refine rz_goto 88 d_Ve_isVersion_84 (by decide) ?_
                  refine rz_Seq [vi (bi (isS c || isD c || isL c))] (by rw [show (isS c || isD c || isL c) = true from by simp [*]]; rfl) ?_
                  exact J88 () trivial
                · refine rz_iload 2 d_Ve_isVersion_75 rfl ?_
                  refine rz_callS (As := [vi c]) (c_Rs_isLetter (by omega)) m_Ve_61 rfl rfl (Nat.le_of_ble_eq_true rfl) ⟨by decide, by decide⟩ ⟨by decide, by decide⟩ d_Ve_isVersion_77 (kE (h := h) ?_)
                  refine rz_if_eqB 87 d_Ve_isVersion_80 (by decide) (fun c80 => ?_) (fun c80 => ?_)
                  · refine rz_iconst d_Ve_isVersion_87 ?_
                    refine rz_Seq [vi (bi (isS c || isD c || isL c))] (by rw [show (isS c || isD c || isL c) = false from by simp [*]]; rfl) ?_
                    exact J88 () trivial
                  · refine rz_iconst d_Ve_isVersion_83 ?_
                    refine rz_goto 88 d_Ve_isVersion_84 (by decide) ?_
                    refine rz_Seq [vi (bi (isS c || isD c || isL c))] (by rw [show (isS c || isD c || isL c) = true from by simp [*]]; rfl) ?_
                    exact J88 () trivial
          · refine rz_iload 1 d_Ve_isVersion_46 rfl ?_
            refine rz_callS (As := [vi c]) (c_Rs_isDigit (by omega)) m_Ve_58 rfl rfl (Nat.le_of_ble_eq_true rfl) ⟨by decide, by decide⟩ ⟨by decide, by decide⟩ d_Ve_isVersion_48 (kE (h := h) ?_)
            refine rz_if_eqB 60 d_Ve_isVersion_51 (by decide) (fun c51 => ?_) (fun c51 => ?_)
            · refine rz_iconst d_Ve_isVersion_60 ?_
              refine rz_Seq [vi (if isD c = true then run + 1 else 0)] (by rw [if_neg (by simp [*])]) ?_
              exact J61 () trivial
            · refine rz_iload_n 3 d_Ve_isVersion_54 rfl rfl ?_
              refine rz_iconst d_Ve_isVersion_55 ?_
              refine rz_iadd d_Ve_isVersion_56 ?_
              refine rz_goto 61 d_Ve_isVersion_57 (by decide) ?_
              refine rz_Seq [vi (if isD c = true then run + 1 else 0)] (by rw [if_pos (by simp [*])]) ?_
              exact J61 () trivial
      · refine rz_Lsub [(3, vi 0), (2, vi 0), (1, vi 1), (0, .ref s)] [0, 1, 2, 3] rfl ?_
        refine LP (0, 0, true) ?_
        try dsimp only
        exact ⟨by omega, by omega, by decide, by decide, rfl⟩
    · refine rz_iconst d_Ve_isVersion_16 ?_
      exact rz_zreturn (st := []) (ty := .boolean) rfl rfl d_Ve_isVersion_17 ⟨by decide, by decide⟩ ⟨_, rfl, bi0 (by rw [ver, show mIn ((n : Int) - 0) 1 12 = false from mIn_f.2 (by first | omega | (have := of_decide_eq_true c4; omega))]; rfl), rfl⟩
/-- a version's object: ranks R, places P; it stays as it is (roles 3 to 5) -/
def VeAt (Γ : rz_G) (h : rz_H) (v : Nat) (R P : Int → Int) : Prop := ∃ (ra pa : Nat) (g k : Int → Int), h v = some ((3, 0), .inr (5, [.ref ra, .ref pa])) ∧ h ra = some ((4, 0), aI Γ 0 12 g) ∧ h pa = some ((5, 0), aL Γ 12 k) ∧ ∀ j, 0 ≤ j → j < 12 → g j = R j ∧ k j = P j ∧ 0 ≤ R j ∧ R j ≤ 9 ∧ 0 ≤ P j ∧ P j ≤ 1000000000000000000
theorem VeAt.fr {Γ : rz_G} {h h' : rz_H} {v : Nat} {R P : Int → Int} {rs : List Nat} (hv : VeAt Γ h v R P) (hf : rz_fr rs h h') (hr : ∀ r ∈ rs, 6 ≤ r) : VeAt Γ h' v R P := by
  obtain ⟨ra, pa, g, k, a1, a2, a3, a4⟩ := hv
  exact ⟨ra, pa, g, k, hf _ _ _ a1 (fun q => by have := hr _ q; omega), hf _ _ _ a2 (fun q => by have := hr _ q; omega), hf _ _ _ a3 (fun q => by have := hr _ q; omega), a4⟩
theorem VeAt.c {Γ : rz_G} {h : rz_H} {v : Nat} {R P R' P' : Int → Int} (hv : VeAt Γ h v R P) (e : ∀ j, 0 ≤ j → j < 12 → R' j = R j ∧ P' j = P j) : VeAt Γ h v R' P' := by
  obtain ⟨ra, pa, g, k, a1, a2, a3, a4⟩ := hv
  exact ⟨ra, pa, g, k, a1, a2, a3, fun j p q => by rw [(e j p q).1, (e j p q).2]; exact a4 j p q⟩
theorem VeAt.ob {Γ : rz_G} {h : rz_H} {v : Nat} {R P : Int → Int} (hv : VeAt Γ h v R P) : ∃ fs, h v = some ((3, 0), .inr (5, fs)) := by
  obtain ⟨ra, pa, g, k, a1, _⟩ := hv; exact ⟨_, a1⟩
theorem VeAt.fo {Γ : rz_G} {h h' : rz_H} {v q : Nat} {R P : Int → Int} (hv : VeAt Γ h v R P) (hf : rz_fo q h h') (hq : h q = some ((3, 0), .inr (5, [.null, .null]))) : VeAt Γ h' v R P := by
  obtain ⟨ra, pa, g, k, a1, a2, a3, a4⟩ := hv
  exact ⟨ra, pa, g, k, hf _ _ (fun z => by rw [z, hq] at a1; cases a1) a1, hf _ _ (fun z => by rw [z, hq] at a2; cases a2) a2, hf _ _ (fun z => by rw [z, hq] at a3; cases a3) a3, a4⟩
abbrev rm_Ve_rankOf : Room := { frames := 0, cells := 0, slots := 0, locals := 0 }
set_option maxRecDepth 100000 in
set_option maxHeartbeats 4000000 in
theorem c_Ve_rankOf {l : Launch} {Γ : rz_G} {h : rz_H} {v : Nat} {R P : Int → Int} (hv : VeAt Γ h v R P) {i : Int} (ri : -2147483648 ≤ i ∧ i ≤ 2147483647) : Ct l Γ x_Ve_rankOf y_Ve_rankOf rm_Ve_rankOf [.ref v, vi i] h (pE (if 0 ≤ i ∧ i < 12 then R i else 6) h) := by
  refine rz_met (by decide) rfl rfl (Nat.le_of_ble_eq_true rfl) (fun K _ => ?_)
  refine rz_Leq [(0, .ref v), (1, vi i)] rfl ?_
  obtain ⟨raa, paa, ga, ka, a1, a2, a3, a4⟩ := hv
  refine rz_iload_n 1 d_Ve_rankOf_0 rfl rfl ?_
  refine rz_if_lt 19 d_Ve_rankOf_1 (by decide) (by omega) (fun c1 => ?_) (fun c1 => ?_)
  · refine rz_bipush (v := 6) d_Ve_rankOf_19 (by decide) ?_
    exact rz_ireturn (st := []) rfl d_Ve_rankOf_21 ⟨by decide, by decide⟩ ⟨_, rfl, (by rw [if_neg (by omega)]), rfl⟩
  · refine rz_iload_n 1 d_Ve_rankOf_4 rfl rfl ?_
    refine rz_bipush (v := 12) d_Ve_rankOf_5 (by decide) ?_
    refine rz_icmp_ge 19 d_Ve_rankOf_7 (by decide) (by omega) ⟨by decide, by decide⟩ (fun c7 => ?_) (fun c7 => ?_)
    · refine rz_bipush (v := 6) d_Ve_rankOf_19 (by decide) ?_
      exact rz_ireturn (st := []) rfl d_Ve_rankOf_21 ⟨by decide, by decide⟩ ⟨_, rfl, (by rw [if_neg (by omega)]), rfl⟩
    · refine rz_aload_n 0 d_Ve_rankOf_10 rfl rfl ?_
      refine rz_getf f_Ve_9 a1 rfl d_Ve_rankOf_11 ?_
      refine rz_iload_n 1 d_Ve_rankOf_14 rfl rfl ?_
      refine rz_iaload a2 (show (4 : Nat) ≠ 0 by decide) (by omega) d_Ve_rankOf_15 ?_
      refine rz_goto 21 d_Ve_rankOf_16 (by decide) ?_
      exact rz_ireturn (st := []) rfl d_Ve_rankOf_21 ⟨by decide, by decide⟩ ⟨_, rfl, (by rw [if_pos (by omega)]; exact (a4 i (by omega) (by omega)).1), rfl⟩
abbrev rm_Ve_comparedTo : Room := { frames := 0, cells := 0, slots := 0, locals := 0 }
set_option maxRecDepth 100000 in
set_option maxHeartbeats 4000000 in
theorem c_Ve_comparedTo {l : Launch} {Γ : rz_G} {h : rz_H} {v w : Nat} {R P R' P' : Int → Int} (hv : VeAt Γ h v R P) (hw : VeAt Γ h w R' P') : Ct l Γ x_Ve_comparedTo y_Ve_comparedTo rm_Ve_comparedTo [.ref v, .ref w] h (pE (cvF R P R' P' 12 0) h) := by
  refine rz_met (by decide) rfl rfl (Nat.le_of_ble_eq_true rfl) (fun K _ => ?_)
  refine rz_Leq [(0, .ref v), (1, .ref w)] rfl ?_
  obtain ⟨raa, paa, ga, ka, a1, a2, a3, a4⟩ := hv
  obtain ⟨rab, pab, gb, kb, b1, b2, b3, b4⟩ := hw
  refine rz_iconst d_Ve_comparedTo_0 ?_
  refine rz_istore_n [(2, vi 0), (0, .ref v), (1, .ref w)] d_Ve_comparedTo_1 rfl (by decide) rfl ?_
  refine rz_loop (α := Int) 0 0 2 (fun i => ((12 : Int) - i).toNat) (fun i => 0 ≤ i ∧ i ≤ 12 ∧ cvF R P R' P' 12 0 = cvF R P R' P' ((12 : Int) - i).toNat i) (fun i => [(2, vi i), (0, .ref v), (1, .ref w)]) (fun i => []) (fun i => h) (fun y hy ih2 => ?_) (fun LP => ?_)
  · obtain ⟨i, rfl⟩ : ∃ z, z = y := ⟨_, rfl⟩
    try dsimp only at hy ih2 ⊢
    obtain ⟨hi0, hi1, hc⟩ := hy
    refine rz_iload_n 0 d_Ve_comparedTo_2 rfl rfl ?_
    refine rz_bipush (v := 12) d_Ve_comparedTo_3 (by decide) ?_
    refine rz_icmp_ge 88 d_Ve_comparedTo_5 (by decide) (by omega) ⟨by decide, by decide⟩ (fun c5 => ?_) (fun c5 => ?_)
    · refine rz_iconst d_Ve_comparedTo_88 ?_
      exact rz_ireturn (st := []) rfl d_Ve_comparedTo_89 ⟨by decide, by decide⟩ ⟨_, rfl, (by rw [hc, show ((12 : Int) - i).toNat = 0 by omega]; rfl), rfl⟩
    · obtain ⟨x1, x2, x3, x4, x5, x6⟩ := a4 i (by omega) (by omega)
      obtain ⟨y1, y2, y3, y4, y5, y6⟩ := b4 i (by omega) (by omega)
      refine rz_aload_n 1 d_Ve_comparedTo_8 rfl rfl ?_
      refine rz_getf f_Ve_9 a1 rfl d_Ve_comparedTo_9 ?_
      refine rz_iload_n 0 d_Ve_comparedTo_12 rfl rfl ?_
      refine rz_iaload a2 (show (4 : Nat) ≠ 0 by decide) (by omega) d_Ve_comparedTo_13 ?_
      refine rz_aload_n 2 d_Ve_comparedTo_14 rfl rfl ?_
      refine rz_getf f_Ve_9 b1 rfl d_Ve_comparedTo_15 ?_
      refine rz_iload_n 0 d_Ve_comparedTo_18 rfl rfl ?_
      refine rz_iaload b2 (show (4 : Nat) ≠ 0 by decide) (by omega) d_Ve_comparedTo_19 ?_
      refine rz_icmp_eq 44 d_Ve_comparedTo_20 (by decide) (by omega) (by omega) (fun c20 => ?_) (fun c20 => ?_)
      · refine rz_aload_n 1 d_Ve_comparedTo_44 rfl rfl ?_
        refine rz_getf f_Ve_13 a1 rfl d_Ve_comparedTo_45 ?_
        refine rz_iload_n 0 d_Ve_comparedTo_48 rfl rfl ?_
        refine rz_laload a3 (show (5 : Nat) ≠ 0 by decide) (by omega) d_Ve_comparedTo_49 ?_
        refine rz_aload_n 2 d_Ve_comparedTo_50 rfl rfl ?_
        refine rz_getf f_Ve_13 b1 rfl d_Ve_comparedTo_51 ?_
        refine rz_iload_n 0 d_Ve_comparedTo_54 rfl rfl ?_
        refine rz_laload b3 (show (5 : Nat) ≠ 0 by decide) (by omega) d_Ve_comparedTo_55 ?_
        refine rz_lcmp (by omega) (by omega) d_Ve_comparedTo_56 ?_
        refine rz_if_eqC 82 d_Ve_comparedTo_57 (by decide) (fun c57 => ?_) (fun c57 => ?_)
        · refine rz_iinc (i + 1) 0 [(2, vi (i + 1)), (0, .ref v), (1, .ref w)] d_Ve_comparedTo_82 rfl (by first | rfl | omega) (by decide) rfl ?_
          refine rz_goto 2 d_Ve_comparedTo_85 (by decide) ?_
          refine rz_Lsub [(2, vi (i + 1)), (0, .ref v), (1, .ref w)] [0, 1, 2] rfl ?_
          refine ih2 (i + 1) ?_ ?_
          · try dsimp only
            exact ⟨by omega, by omega, (by rw [hc, cvF_e (by omega), if_pos (by omega), if_pos (by omega)]; congr 1; omega)⟩
          · exact (by first | omega | (dsimp only; omega))
        · refine rz_aload_n 1 d_Ve_comparedTo_60 rfl rfl ?_
          refine rz_getf f_Ve_13 a1 rfl d_Ve_comparedTo_61 ?_
          refine rz_iload_n 0 d_Ve_comparedTo_64 rfl rfl ?_
          refine rz_laload a3 (show (5 : Nat) ≠ 0 by decide) (by omega) d_Ve_comparedTo_65 ?_
          refine rz_aload_n 2 d_Ve_comparedTo_66 rfl rfl ?_
          refine rz_getf f_Ve_13 b1 rfl d_Ve_comparedTo_67 ?_
          refine rz_iload_n 0 d_Ve_comparedTo_70 rfl rfl ?_
          refine rz_laload b3 (show (5 : Nat) ≠ 0 by decide) (by omega) d_Ve_comparedTo_71 ?_
          refine rz_lcmp (by omega) (by omega) d_Ve_comparedTo_72 ?_
          refine rz_if_geC 80 d_Ve_comparedTo_73 (by decide) (fun c73 => ?_) (fun c73 => ?_)
          · refine rz_iconst d_Ve_comparedTo_80 ?_
            exact rz_ireturn (st := []) rfl d_Ve_comparedTo_81 ⟨by decide, by decide⟩ ⟨_, rfl, (by rw [hc, cvF_e (by omega), if_pos (by omega), if_neg (by omega), if_neg (by omega)]), rfl⟩
          · refine rz_iconst d_Ve_comparedTo_76 ?_
            refine rz_goto 81 d_Ve_comparedTo_77 (by decide) ?_
            exact rz_ireturn (st := []) rfl d_Ve_comparedTo_81 ⟨by decide, by decide⟩ ⟨_, rfl, (by rw [hc, cvF_e (by omega), if_pos (by omega), if_neg (by omega), if_pos (by omega)]), rfl⟩
      · refine rz_aload_n 1 d_Ve_comparedTo_23 rfl rfl ?_
        refine rz_getf f_Ve_9 a1 rfl d_Ve_comparedTo_24 ?_
        refine rz_iload_n 0 d_Ve_comparedTo_27 rfl rfl ?_
        refine rz_iaload a2 (show (4 : Nat) ≠ 0 by decide) (by omega) d_Ve_comparedTo_28 ?_
        refine rz_aload_n 2 d_Ve_comparedTo_29 rfl rfl ?_
        refine rz_getf f_Ve_9 b1 rfl d_Ve_comparedTo_30 ?_
        refine rz_iload_n 0 d_Ve_comparedTo_33 rfl rfl ?_
        refine rz_iaload b2 (show (4 : Nat) ≠ 0 by decide) (by omega) d_Ve_comparedTo_34 ?_
        refine rz_icmp_ge 42 d_Ve_comparedTo_35 (by decide) (by omega) (by omega) (fun c35 => ?_) (fun c35 => ?_)
        · refine rz_iconst d_Ve_comparedTo_42 ?_
          exact rz_ireturn (st := []) rfl d_Ve_comparedTo_43 ⟨by decide, by decide⟩ ⟨_, rfl, (by rw [hc, cvF_e (by omega), if_neg (by omega), if_neg (by omega)]), rfl⟩
        · refine rz_iconst d_Ve_comparedTo_38 ?_
          refine rz_goto 43 d_Ve_comparedTo_39 (by decide) ?_
          exact rz_ireturn (st := []) rfl d_Ve_comparedTo_43 ⟨by decide, by decide⟩ ⟨_, rfl, (by rw [hc, cvF_e (by omega), if_neg (by omega), if_pos (by omega)]), rfl⟩
  · refine rz_Lsub [(2, vi 0), (0, .ref v), (1, .ref w)] [0, 1, 2] rfl ?_
    refine LP 0 ?_
    try dsimp only
    exact ⟨by omega, by omega, rfl⟩
def ks_L : List (Nat × List Int) := [(13, kAlpha), (14, [97]), (15, kBeta), (16, [98]), (17, kMilestone), (18, [109]), (19, [114, 99]), (20, [99, 114]), (21, kSnapshot), (22, [103, 97]), (23, kFinal), (24, kRelease), (25, [115, 112]), (10, [49])]
/-- the texts that the program names -/
def KsAt (Γ : rz_G) (h : rz_H) : Prop := (∀ q ∈ ks_L, StrAt Γ h (Γ.2.2.2.2 q.1) q.2.length (ltr q.2) 1000) ∧ StrAt Γ h (Γ.2.2.2.2 11) 0 (fun _ => 0) 1 ∧ StrAt Γ h (Γ.2.2.2.2 10) 1 (fun _ => 49) 1 ∧ rz_ae Γ h
theorem KsAt.fr {Γ : rz_G} {h h' : rz_H} {rs : List Nat} (hk : KsAt Γ h) (hf : rz_fr rs h h') (hr : ∀ r ∈ rs, 3 ≤ r) : KsAt Γ h' := ⟨fun q hq => (hk.1 q hq).fr hf hr, hk.2.1.fr hf hr, hk.2.2.1.fr hf hr, hk.2.2.2.fr hf (fun z => by have := hr 0 z; omega)⟩
abbrev rm_Ve_rankOfWord : Room := { frames := 2, cells := 0, slots := 0, locals := 44 }
set_option maxRecDepth 100000 in
set_option maxHeartbeats 4000000 in
theorem c_Ve_rankOfWord {l : Launch} {Γ : rz_G} {h : rz_H} {s n mm : Nat} {f : Int → Int} (hs : StrAt Γ h s n f mm) {db : Bool} (hk : KsAt Γ h) : Ct l Γ x_Ve_rankOfWord y_Ve_rankOfWord rm_Ve_rankOfWord [.ref s, vi (bi db)] h (pE (rW f n db) h) := by
  refine rz_met (by decide) rfl rfl (Nat.le_of_ble_eq_true rfl) (fun K _ => ?_)
  refine rz_Leq [(0, .ref s), (1, vi (bi db))] rfl ?_
  refine rz_aload_n 0 d_Ve_rankOfWord_0 rfl rfl ?_
  refine rz_ldcS (s_Ve_83 Γ.2.2.2.2) d_Ve_rankOfWord_1 ?_
  obtain ⟨tso1, fso1, so1⟩ := hs.ob
  refine rz_callV (As := [.ref (Γ.2.2.2.2 13)]) (c_St_equals hs (hk.1 (13, kAlpha) (by decide))) m_Ve_85 so1 rfl rfl rfl rfl (Nat.le_of_ble_eq_true rfl) ⟨by decide, by decide⟩ ⟨by decide, by decide⟩ d_Ve_rankOfWord_3 (kE (h := h) ?_)
  refine rz_Seq [vi (bi (weq f n kAlpha))] rfl ?_
  refine rz_if_neB 22 d_Ve_rankOfWord_6 (by decide) (fun c6 => ?_) (fun c6 => ?_)
  · refine rz_iconst d_Ve_rankOfWord_22 ?_
    exact rz_ireturn (st := []) rfl d_Ve_rankOfWord_23 ⟨by decide, by decide⟩ ⟨_, rfl, (by first | (simp [rW, *]; done) | (exfalso; simp_all)), rfl⟩
  · refine rz_iload_n 1 d_Ve_rankOfWord_9 rfl rfl ?_
    refine rz_if_eqB 24 d_Ve_rankOfWord_10 (by decide) (fun c10 => ?_) (fun c10 => ?_)
    · refine rz_aload_n 0 d_Ve_rankOfWord_24 rfl rfl ?_
      refine rz_ldcS (s_Ve_91 Γ.2.2.2.2) d_Ve_rankOfWord_25 ?_
      obtain ⟨tso2, fso2, so2⟩ := hs.ob
      refine rz_callV (As := [.ref (Γ.2.2.2.2 15)]) (c_St_equals hs (hk.1 (15, kBeta) (by decide))) m_Ve_85 so2 rfl rfl rfl rfl (Nat.le_of_ble_eq_true rfl) ⟨by decide, by decide⟩ ⟨by decide, by decide⟩ d_Ve_rankOfWord_27 (kE (h := h) ?_)
      refine rz_Seq [vi (bi (weq f n kBeta))] rfl ?_
      refine rz_if_neB 46 d_Ve_rankOfWord_30 (by decide) (fun c30 => ?_) (fun c30 => ?_)
      · refine rz_iconst d_Ve_rankOfWord_46 ?_
        exact rz_ireturn (st := []) rfl d_Ve_rankOfWord_47 ⟨by decide, by decide⟩ ⟨_, rfl, (by first | (simp [rW, *]; done) | (exfalso; simp_all)), rfl⟩
      · refine rz_iload_n 1 d_Ve_rankOfWord_33 rfl rfl ?_
        refine rz_if_eqB 48 d_Ve_rankOfWord_34 (by decide) (fun c34 => ?_) (fun c34 => ?_)
        · refine rz_aload_n 0 d_Ve_rankOfWord_48 rfl rfl ?_
          refine rz_ldcS (s_Ve_95 Γ.2.2.2.2) d_Ve_rankOfWord_49 ?_
          obtain ⟨tso3, fso3, so3⟩ := hs.ob
          refine rz_callV (As := [.ref (Γ.2.2.2.2 17)]) (c_St_equals hs (hk.1 (17, kMilestone) (by decide))) m_Ve_85 so3 rfl rfl rfl rfl (Nat.le_of_ble_eq_true rfl) ⟨by decide, by decide⟩ ⟨by decide, by decide⟩ d_Ve_rankOfWord_51 (kE (h := h) ?_)
          refine rz_Seq [vi (bi (weq f n kMilestone))] rfl ?_
          refine rz_if_neB 70 d_Ve_rankOfWord_54 (by decide) (fun c54 => ?_) (fun c54 => ?_)
          · refine rz_iconst d_Ve_rankOfWord_70 ?_
            exact rz_ireturn (st := []) rfl d_Ve_rankOfWord_71 ⟨by decide, by decide⟩ ⟨_, rfl, (by first | (simp [rW, *]; done) | (exfalso; simp_all)), rfl⟩
          · refine rz_iload_n 1 d_Ve_rankOfWord_57 rfl rfl ?_
            refine rz_if_eqB 72 d_Ve_rankOfWord_58 (by decide) (fun c58 => ?_) (fun c58 => ?_)
            · refine rz_aload_n 0 d_Ve_rankOfWord_72 rfl rfl ?_
              refine rz_ldcS (s_Ve_99 Γ.2.2.2.2) d_Ve_rankOfWord_73 ?_
              obtain ⟨tso4, fso4, so4⟩ := hs.ob
              refine rz_callV (As := [.ref (Γ.2.2.2.2 19)]) (c_St_equals hs (hk.1 (19, [114, 99]) (by decide))) m_Ve_85 so4 rfl rfl rfl rfl (Nat.le_of_ble_eq_true rfl) ⟨by decide, by decide⟩ ⟨by decide, by decide⟩ d_Ve_rankOfWord_75 (kE (h := h) ?_)
              refine rz_Seq [vi (bi (weq f n ([114, 99])))] rfl ?_
              refine rz_if_neB 90 d_Ve_rankOfWord_78 (by decide) (fun c78 => ?_) (fun c78 => ?_)
              · refine rz_iconst d_Ve_rankOfWord_90 ?_
                exact rz_ireturn (st := []) rfl d_Ve_rankOfWord_91 ⟨by decide, by decide⟩ ⟨_, rfl, (by first | (simp [rW, *]; done) | (exfalso; simp_all)), rfl⟩
              · refine rz_aload_n 0 d_Ve_rankOfWord_81 rfl rfl ?_
                refine rz_ldcS (s_Ve_101 Γ.2.2.2.2) d_Ve_rankOfWord_82 ?_
                obtain ⟨tso5, fso5, so5⟩ := hs.ob
                refine rz_callV (As := [.ref (Γ.2.2.2.2 20)]) (c_St_equals hs (hk.1 (20, [99, 114]) (by decide))) m_Ve_85 so5 rfl rfl rfl rfl (Nat.le_of_ble_eq_true rfl) ⟨by decide, by decide⟩ ⟨by decide, by decide⟩ d_Ve_rankOfWord_84 (kE (h := h) ?_)
                refine rz_Seq [vi (bi (weq f n ([99, 114])))] rfl ?_
                refine rz_if_eqB 92 d_Ve_rankOfWord_87 (by decide) (fun c87 => ?_) (fun c87 => ?_)
                · refine rz_aload_n 0 d_Ve_rankOfWord_92 rfl rfl ?_
                  refine rz_ldcS (s_Ve_103 Γ.2.2.2.2) d_Ve_rankOfWord_93 ?_
                  obtain ⟨tso6, fso6, so6⟩ := hs.ob
                  refine rz_callV (As := [.ref (Γ.2.2.2.2 21)]) (c_St_equals hs (hk.1 (21, kSnapshot) (by decide))) m_Ve_85 so6 rfl rfl rfl rfl (Nat.le_of_ble_eq_true rfl) ⟨by decide, by decide⟩ ⟨by decide, by decide⟩ d_Ve_rankOfWord_95 (kE (h := h) ?_)
                  refine rz_Seq [vi (bi (weq f n kSnapshot))] rfl ?_
                  refine rz_if_eqB 103 d_Ve_rankOfWord_98 (by decide) (fun c98 => ?_) (fun c98 => ?_)
                  · refine rz_aload_n 0 d_Ve_rankOfWord_103 rfl rfl ?_
                    refine rz_ldcS (s_Ve_105 Γ.2.2.2.2) d_Ve_rankOfWord_104 ?_
                    obtain ⟨tso7, fso7, so7⟩ := hs.ob
                    refine rz_callV (As := [.ref (Γ.2.2.2.2 22)]) (c_St_equals hs (hk.1 (22, [103, 97]) (by decide))) m_Ve_85 so7 rfl rfl rfl rfl (Nat.le_of_ble_eq_true rfl) ⟨by decide, by decide⟩ ⟨by decide, by decide⟩ d_Ve_rankOfWord_106 (kE (h := h) ?_)
                    refine rz_Seq [vi (bi (weq f n ([103, 97])))] rfl ?_
                    refine rz_if_neB 130 d_Ve_rankOfWord_109 (by decide) (fun c109 => ?_) (fun c109 => ?_)
                    · refine rz_bipush (v := 6) d_Ve_rankOfWord_130 (by decide) ?_
                      exact rz_ireturn (st := []) rfl d_Ve_rankOfWord_132 ⟨by decide, by decide⟩ ⟨_, rfl, (by first | (simp [rW, *]; done) | (exfalso; simp_all)), rfl⟩
                    · refine rz_aload_n 0 d_Ve_rankOfWord_112 rfl rfl ?_
                      refine rz_ldcS (s_Ve_107 Γ.2.2.2.2) d_Ve_rankOfWord_113 ?_
                      obtain ⟨tso8, fso8, so8⟩ := hs.ob
                      refine rz_callV (As := [.ref (Γ.2.2.2.2 23)]) (c_St_equals hs (hk.1 (23, kFinal) (by decide))) m_Ve_85 so8 rfl rfl rfl rfl (Nat.le_of_ble_eq_true rfl) ⟨by decide, by decide⟩ ⟨by decide, by decide⟩ d_Ve_rankOfWord_115 (kE (h := h) ?_)
                      refine rz_Seq [vi (bi (weq f n kFinal))] rfl ?_
                      refine rz_if_neB 130 d_Ve_rankOfWord_118 (by decide) (fun c118 => ?_) (fun c118 => ?_)
                      · refine rz_bipush (v := 6) d_Ve_rankOfWord_130 (by decide) ?_
                        exact rz_ireturn (st := []) rfl d_Ve_rankOfWord_132 ⟨by decide, by decide⟩ ⟨_, rfl, (by first | (simp [rW, *]; done) | (exfalso; simp_all)), rfl⟩
                      · refine rz_aload_n 0 d_Ve_rankOfWord_121 rfl rfl ?_
                        refine rz_ldcS (s_Ve_109 Γ.2.2.2.2) d_Ve_rankOfWord_122 ?_
                        obtain ⟨tso9, fso9, so9⟩ := hs.ob
                        refine rz_callV (As := [.ref (Γ.2.2.2.2 24)]) (c_St_equals hs (hk.1 (24, kRelease) (by decide))) m_Ve_85 so9 rfl rfl rfl rfl (Nat.le_of_ble_eq_true rfl) ⟨by decide, by decide⟩ ⟨by decide, by decide⟩ d_Ve_rankOfWord_124 (kE (h := h) ?_)
                        refine rz_Seq [vi (bi (weq f n kRelease))] rfl ?_
                        refine rz_if_eqB 133 d_Ve_rankOfWord_127 (by decide) (fun c127 => ?_) (fun c127 => ?_)
                        · refine rz_aload_n 0 d_Ve_rankOfWord_133 rfl rfl ?_
                          refine rz_ldcS (s_Ve_111 Γ.2.2.2.2) d_Ve_rankOfWord_134 ?_
                          obtain ⟨tso10, fso10, so10⟩ := hs.ob
                          refine rz_callV (As := [.ref (Γ.2.2.2.2 25)]) (c_St_equals hs (hk.1 (25, [115, 112]) (by decide))) m_Ve_85 so10 rfl rfl rfl rfl (Nat.le_of_ble_eq_true rfl) ⟨by decide, by decide⟩ ⟨by decide, by decide⟩ d_Ve_rankOfWord_136 (kE (h := h) ?_)
                          refine rz_Seq [vi (bi (weq f n ([115, 112])))] rfl ?_
                          refine rz_if_eqB 147 d_Ve_rankOfWord_139 (by decide) (fun c139 => ?_) (fun c139 => ?_)
                          · refine rz_bipush (v := 8) d_Ve_rankOfWord_147 (by decide) ?_
                            exact rz_ireturn (st := []) rfl d_Ve_rankOfWord_149 ⟨by decide, by decide⟩ ⟨_, rfl, (by first | (simp [rW, *]; done) | (exfalso; simp_all)), rfl⟩
                          · refine rz_bipush (v := 7) d_Ve_rankOfWord_142 (by decide) ?_
                            refine rz_goto 149 d_Ve_rankOfWord_144 (by decide) ?_
                            exact rz_ireturn (st := []) rfl d_Ve_rankOfWord_149 ⟨by decide, by decide⟩ ⟨_, rfl, (by first | (simp [rW, *]; done) | (exfalso; simp_all)), rfl⟩
                        · refine rz_bipush (v := 6) d_Ve_rankOfWord_130 (by decide) ?_
                          exact rz_ireturn (st := []) rfl d_Ve_rankOfWord_132 ⟨by decide, by decide⟩ ⟨_, rfl, (by first | (simp [rW, *]; done) | (exfalso; simp_all)), rfl⟩
                  · refine rz_iconst d_Ve_rankOfWord_101 ?_
                    exact rz_ireturn (st := []) rfl d_Ve_rankOfWord_102 ⟨by decide, by decide⟩ ⟨_, rfl, (by first | (simp [rW, *]; done) | (exfalso; simp_all)), rfl⟩
                · refine rz_iconst d_Ve_rankOfWord_90 ?_
                  exact rz_ireturn (st := []) rfl d_Ve_rankOfWord_91 ⟨by decide, by decide⟩ ⟨_, rfl, (by first | (simp [rW, *]; done) | (exfalso; simp_all)), rfl⟩
            · refine rz_aload_n 0 d_Ve_rankOfWord_61 rfl rfl ?_
              refine rz_ldcS (s_Ve_97 Γ.2.2.2.2) d_Ve_rankOfWord_62 ?_
              obtain ⟨tso11, fso11, so11⟩ := hs.ob
              refine rz_callV (As := [.ref (Γ.2.2.2.2 18)]) (c_St_equals hs (hk.1 (18, [109]) (by decide))) m_Ve_85 so11 rfl rfl rfl rfl (Nat.le_of_ble_eq_true rfl) ⟨by decide, by decide⟩ ⟨by decide, by decide⟩ d_Ve_rankOfWord_64 (kE (h := h) ?_)
              refine rz_Seq [vi (bi (weq f n ([109])))] rfl ?_
              refine rz_if_eqB 72 d_Ve_rankOfWord_67 (by decide) (fun c67 => ?_) (fun c67 => ?_)
              · refine rz_aload_n 0 d_Ve_rankOfWord_72 rfl rfl ?_
                refine rz_ldcS (s_Ve_99 Γ.2.2.2.2) d_Ve_rankOfWord_73 ?_
                obtain ⟨tso12, fso12, so12⟩ := hs.ob
                refine rz_callV (As := [.ref (Γ.2.2.2.2 19)]) (c_St_equals hs (hk.1 (19, [114, 99]) (by decide))) m_Ve_85 so12 rfl rfl rfl rfl (Nat.le_of_ble_eq_true rfl) ⟨by decide, by decide⟩ ⟨by decide, by decide⟩ d_Ve_rankOfWord_75 (kE (h := h) ?_)
                refine rz_Seq [vi (bi (weq f n ([114, 99])))] rfl ?_
                refine rz_if_neB 90 d_Ve_rankOfWord_78 (by decide) (fun c78 => ?_) (fun c78 => ?_)
                · refine rz_iconst d_Ve_rankOfWord_90 ?_
                  exact rz_ireturn (st := []) rfl d_Ve_rankOfWord_91 ⟨by decide, by decide⟩ ⟨_, rfl, (by first | (simp [rW, *]; done) | (exfalso; simp_all)), rfl⟩
                · refine rz_aload_n 0 d_Ve_rankOfWord_81 rfl rfl ?_
                  refine rz_ldcS (s_Ve_101 Γ.2.2.2.2) d_Ve_rankOfWord_82 ?_
                  obtain ⟨tso13, fso13, so13⟩ := hs.ob
                  refine rz_callV (As := [.ref (Γ.2.2.2.2 20)]) (c_St_equals hs (hk.1 (20, [99, 114]) (by decide))) m_Ve_85 so13 rfl rfl rfl rfl (Nat.le_of_ble_eq_true rfl) ⟨by decide, by decide⟩ ⟨by decide, by decide⟩ d_Ve_rankOfWord_84 (kE (h := h) ?_)
                  refine rz_Seq [vi (bi (weq f n ([99, 114])))] rfl ?_
                  refine rz_if_eqB 92 d_Ve_rankOfWord_87 (by decide) (fun c87 => ?_) (fun c87 => ?_)
                  · refine rz_aload_n 0 d_Ve_rankOfWord_92 rfl rfl ?_
                    refine rz_ldcS (s_Ve_103 Γ.2.2.2.2) d_Ve_rankOfWord_93 ?_
                    obtain ⟨tso14, fso14, so14⟩ := hs.ob
                    refine rz_callV (As := [.ref (Γ.2.2.2.2 21)]) (c_St_equals hs (hk.1 (21, kSnapshot) (by decide))) m_Ve_85 so14 rfl rfl rfl rfl (Nat.le_of_ble_eq_true rfl) ⟨by decide, by decide⟩ ⟨by decide, by decide⟩ d_Ve_rankOfWord_95 (kE (h := h) ?_)
                    refine rz_Seq [vi (bi (weq f n kSnapshot))] rfl ?_
                    refine rz_if_eqB 103 d_Ve_rankOfWord_98 (by decide) (fun c98 => ?_) (fun c98 => ?_)
                    · refine rz_aload_n 0 d_Ve_rankOfWord_103 rfl rfl ?_
                      refine rz_ldcS (s_Ve_105 Γ.2.2.2.2) d_Ve_rankOfWord_104 ?_
                      obtain ⟨tso15, fso15, so15⟩ := hs.ob
                      refine rz_callV (As := [.ref (Γ.2.2.2.2 22)]) (c_St_equals hs (hk.1 (22, [103, 97]) (by decide))) m_Ve_85 so15 rfl rfl rfl rfl (Nat.le_of_ble_eq_true rfl) ⟨by decide, by decide⟩ ⟨by decide, by decide⟩ d_Ve_rankOfWord_106 (kE (h := h) ?_)
                      refine rz_Seq [vi (bi (weq f n ([103, 97])))] rfl ?_
                      refine rz_if_neB 130 d_Ve_rankOfWord_109 (by decide) (fun c109 => ?_) (fun c109 => ?_)
                      · refine rz_bipush (v := 6) d_Ve_rankOfWord_130 (by decide) ?_
                        exact rz_ireturn (st := []) rfl d_Ve_rankOfWord_132 ⟨by decide, by decide⟩ ⟨_, rfl, (by first | (simp [rW, *]; done) | (exfalso; simp_all)), rfl⟩
                      · refine rz_aload_n 0 d_Ve_rankOfWord_112 rfl rfl ?_
                        refine rz_ldcS (s_Ve_107 Γ.2.2.2.2) d_Ve_rankOfWord_113 ?_
                        obtain ⟨tso16, fso16, so16⟩ := hs.ob
                        refine rz_callV (As := [.ref (Γ.2.2.2.2 23)]) (c_St_equals hs (hk.1 (23, kFinal) (by decide))) m_Ve_85 so16 rfl rfl rfl rfl (Nat.le_of_ble_eq_true rfl) ⟨by decide, by decide⟩ ⟨by decide, by decide⟩ d_Ve_rankOfWord_115 (kE (h := h) ?_)
                        refine rz_Seq [vi (bi (weq f n kFinal))] rfl ?_
                        refine rz_if_neB 130 d_Ve_rankOfWord_118 (by decide) (fun c118 => ?_) (fun c118 => ?_)
                        · refine rz_bipush (v := 6) d_Ve_rankOfWord_130 (by decide) ?_
                          exact rz_ireturn (st := []) rfl d_Ve_rankOfWord_132 ⟨by decide, by decide⟩ ⟨_, rfl, (by first | (simp [rW, *]; done) | (exfalso; simp_all)), rfl⟩
                        · refine rz_aload_n 0 d_Ve_rankOfWord_121 rfl rfl ?_
                          refine rz_ldcS (s_Ve_109 Γ.2.2.2.2) d_Ve_rankOfWord_122 ?_
                          obtain ⟨tso17, fso17, so17⟩ := hs.ob
                          refine rz_callV (As := [.ref (Γ.2.2.2.2 24)]) (c_St_equals hs (hk.1 (24, kRelease) (by decide))) m_Ve_85 so17 rfl rfl rfl rfl (Nat.le_of_ble_eq_true rfl) ⟨by decide, by decide⟩ ⟨by decide, by decide⟩ d_Ve_rankOfWord_124 (kE (h := h) ?_)
                          refine rz_Seq [vi (bi (weq f n kRelease))] rfl ?_
                          refine rz_if_eqB 133 d_Ve_rankOfWord_127 (by decide) (fun c127 => ?_) (fun c127 => ?_)
                          · refine rz_aload_n 0 d_Ve_rankOfWord_133 rfl rfl ?_
                            refine rz_ldcS (s_Ve_111 Γ.2.2.2.2) d_Ve_rankOfWord_134 ?_
                            obtain ⟨tso18, fso18, so18⟩ := hs.ob
                            refine rz_callV (As := [.ref (Γ.2.2.2.2 25)]) (c_St_equals hs (hk.1 (25, [115, 112]) (by decide))) m_Ve_85 so18 rfl rfl rfl rfl (Nat.le_of_ble_eq_true rfl) ⟨by decide, by decide⟩ ⟨by decide, by decide⟩ d_Ve_rankOfWord_136 (kE (h := h) ?_)
                            refine rz_Seq [vi (bi (weq f n ([115, 112])))] rfl ?_
                            refine rz_if_eqB 147 d_Ve_rankOfWord_139 (by decide) (fun c139 => ?_) (fun c139 => ?_)
                            · refine rz_bipush (v := 8) d_Ve_rankOfWord_147 (by decide) ?_
                              exact rz_ireturn (st := []) rfl d_Ve_rankOfWord_149 ⟨by decide, by decide⟩ ⟨_, rfl, (by first | (simp [rW, *]; done) | (exfalso; simp_all)), rfl⟩
                            · refine rz_bipush (v := 7) d_Ve_rankOfWord_142 (by decide) ?_
                              refine rz_goto 149 d_Ve_rankOfWord_144 (by decide) ?_
                              exact rz_ireturn (st := []) rfl d_Ve_rankOfWord_149 ⟨by decide, by decide⟩ ⟨_, rfl, (by first | (simp [rW, *]; done) | (exfalso; simp_all)), rfl⟩
                          · refine rz_bipush (v := 6) d_Ve_rankOfWord_130 (by decide) ?_
                            exact rz_ireturn (st := []) rfl d_Ve_rankOfWord_132 ⟨by decide, by decide⟩ ⟨_, rfl, (by first | (simp [rW, *]; done) | (exfalso; simp_all)), rfl⟩
                    · refine rz_iconst d_Ve_rankOfWord_101 ?_
                      exact rz_ireturn (st := []) rfl d_Ve_rankOfWord_102 ⟨by decide, by decide⟩ ⟨_, rfl, (by first | (simp [rW, *]; done) | (exfalso; simp_all)), rfl⟩
                  · refine rz_iconst d_Ve_rankOfWord_90 ?_
                    exact rz_ireturn (st := []) rfl d_Ve_rankOfWord_91 ⟨by decide, by decide⟩ ⟨_, rfl, (by first | (simp [rW, *]; done) | (exfalso; simp_all)), rfl⟩
              · refine rz_iconst d_Ve_rankOfWord_70 ?_
                exact rz_ireturn (st := []) rfl d_Ve_rankOfWord_71 ⟨by decide, by decide⟩ ⟨_, rfl, (by first | (simp [rW, *]; done) | (exfalso; simp_all)), rfl⟩
        · refine rz_aload_n 0 d_Ve_rankOfWord_37 rfl rfl ?_
          refine rz_ldcS (s_Ve_93 Γ.2.2.2.2) d_Ve_rankOfWord_38 ?_
          obtain ⟨tso19, fso19, so19⟩ := hs.ob
          refine rz_callV (As := [.ref (Γ.2.2.2.2 16)]) (c_St_equals hs (hk.1 (16, [98]) (by decide))) m_Ve_85 so19 rfl rfl rfl rfl (Nat.le_of_ble_eq_true rfl) ⟨by decide, by decide⟩ ⟨by decide, by decide⟩ d_Ve_rankOfWord_40 (kE (h := h) ?_)
          refine rz_Seq [vi (bi (weq f n ([98])))] rfl ?_
          refine rz_if_eqB 48 d_Ve_rankOfWord_43 (by decide) (fun c43 => ?_) (fun c43 => ?_)
          · refine rz_aload_n 0 d_Ve_rankOfWord_48 rfl rfl ?_
            refine rz_ldcS (s_Ve_95 Γ.2.2.2.2) d_Ve_rankOfWord_49 ?_
            obtain ⟨tso20, fso20, so20⟩ := hs.ob
            refine rz_callV (As := [.ref (Γ.2.2.2.2 17)]) (c_St_equals hs (hk.1 (17, kMilestone) (by decide))) m_Ve_85 so20 rfl rfl rfl rfl (Nat.le_of_ble_eq_true rfl) ⟨by decide, by decide⟩ ⟨by decide, by decide⟩ d_Ve_rankOfWord_51 (kE (h := h) ?_)
            refine rz_Seq [vi (bi (weq f n kMilestone))] rfl ?_
            refine rz_if_neB 70 d_Ve_rankOfWord_54 (by decide) (fun c54 => ?_) (fun c54 => ?_)
            · refine rz_iconst d_Ve_rankOfWord_70 ?_
              exact rz_ireturn (st := []) rfl d_Ve_rankOfWord_71 ⟨by decide, by decide⟩ ⟨_, rfl, (by first | (simp [rW, *]; done) | (exfalso; simp_all)), rfl⟩
            · refine rz_iload_n 1 d_Ve_rankOfWord_57 rfl rfl ?_
              refine rz_if_eqB 72 d_Ve_rankOfWord_58 (by decide) (fun c58 => ?_) (fun c58 => ?_)
              · refine rz_aload_n 0 d_Ve_rankOfWord_72 rfl rfl ?_
                refine rz_ldcS (s_Ve_99 Γ.2.2.2.2) d_Ve_rankOfWord_73 ?_
                obtain ⟨tso21, fso21, so21⟩ := hs.ob
                refine rz_callV (As := [.ref (Γ.2.2.2.2 19)]) (c_St_equals hs (hk.1 (19, [114, 99]) (by decide))) m_Ve_85 so21 rfl rfl rfl rfl (Nat.le_of_ble_eq_true rfl) ⟨by decide, by decide⟩ ⟨by decide, by decide⟩ d_Ve_rankOfWord_75 (kE (h := h) ?_)
                refine rz_Seq [vi (bi (weq f n ([114, 99])))] rfl ?_
                refine rz_if_neB 90 d_Ve_rankOfWord_78 (by decide) (fun c78 => ?_) (fun c78 => ?_)
                · refine rz_iconst d_Ve_rankOfWord_90 ?_
                  exact rz_ireturn (st := []) rfl d_Ve_rankOfWord_91 ⟨by decide, by decide⟩ ⟨_, rfl, (by first | (simp [rW, *]; done) | (exfalso; simp_all)), rfl⟩
                · refine rz_aload_n 0 d_Ve_rankOfWord_81 rfl rfl ?_
                  refine rz_ldcS (s_Ve_101 Γ.2.2.2.2) d_Ve_rankOfWord_82 ?_
                  obtain ⟨tso22, fso22, so22⟩ := hs.ob
                  refine rz_callV (As := [.ref (Γ.2.2.2.2 20)]) (c_St_equals hs (hk.1 (20, [99, 114]) (by decide))) m_Ve_85 so22 rfl rfl rfl rfl (Nat.le_of_ble_eq_true rfl) ⟨by decide, by decide⟩ ⟨by decide, by decide⟩ d_Ve_rankOfWord_84 (kE (h := h) ?_)
                  refine rz_Seq [vi (bi (weq f n ([99, 114])))] rfl ?_
                  refine rz_if_eqB 92 d_Ve_rankOfWord_87 (by decide) (fun c87 => ?_) (fun c87 => ?_)
                  · refine rz_aload_n 0 d_Ve_rankOfWord_92 rfl rfl ?_
                    refine rz_ldcS (s_Ve_103 Γ.2.2.2.2) d_Ve_rankOfWord_93 ?_
                    obtain ⟨tso23, fso23, so23⟩ := hs.ob
                    refine rz_callV (As := [.ref (Γ.2.2.2.2 21)]) (c_St_equals hs (hk.1 (21, kSnapshot) (by decide))) m_Ve_85 so23 rfl rfl rfl rfl (Nat.le_of_ble_eq_true rfl) ⟨by decide, by decide⟩ ⟨by decide, by decide⟩ d_Ve_rankOfWord_95 (kE (h := h) ?_)
                    refine rz_Seq [vi (bi (weq f n kSnapshot))] rfl ?_
                    refine rz_if_eqB 103 d_Ve_rankOfWord_98 (by decide) (fun c98 => ?_) (fun c98 => ?_)
                    · refine rz_aload_n 0 d_Ve_rankOfWord_103 rfl rfl ?_
                      refine rz_ldcS (s_Ve_105 Γ.2.2.2.2) d_Ve_rankOfWord_104 ?_
                      obtain ⟨tso24, fso24, so24⟩ := hs.ob
                      refine rz_callV (As := [.ref (Γ.2.2.2.2 22)]) (c_St_equals hs (hk.1 (22, [103, 97]) (by decide))) m_Ve_85 so24 rfl rfl rfl rfl (Nat.le_of_ble_eq_true rfl) ⟨by decide, by decide⟩ ⟨by decide, by decide⟩ d_Ve_rankOfWord_106 (kE (h := h) ?_)
                      refine rz_Seq [vi (bi (weq f n ([103, 97])))] rfl ?_
                      refine rz_if_neB 130 d_Ve_rankOfWord_109 (by decide) (fun c109 => ?_) (fun c109 => ?_)
                      · refine rz_bipush (v := 6) d_Ve_rankOfWord_130 (by decide) ?_
                        exact rz_ireturn (st := []) rfl d_Ve_rankOfWord_132 ⟨by decide, by decide⟩ ⟨_, rfl, (by first | (simp [rW, *]; done) | (exfalso; simp_all)), rfl⟩
                      · refine rz_aload_n 0 d_Ve_rankOfWord_112 rfl rfl ?_
                        refine rz_ldcS (s_Ve_107 Γ.2.2.2.2) d_Ve_rankOfWord_113 ?_
                        obtain ⟨tso25, fso25, so25⟩ := hs.ob
                        refine rz_callV (As := [.ref (Γ.2.2.2.2 23)]) (c_St_equals hs (hk.1 (23, kFinal) (by decide))) m_Ve_85 so25 rfl rfl rfl rfl (Nat.le_of_ble_eq_true rfl) ⟨by decide, by decide⟩ ⟨by decide, by decide⟩ d_Ve_rankOfWord_115 (kE (h := h) ?_)
                        refine rz_Seq [vi (bi (weq f n kFinal))] rfl ?_
                        refine rz_if_neB 130 d_Ve_rankOfWord_118 (by decide) (fun c118 => ?_) (fun c118 => ?_)
                        · refine rz_bipush (v := 6) d_Ve_rankOfWord_130 (by decide) ?_
                          exact rz_ireturn (st := []) rfl d_Ve_rankOfWord_132 ⟨by decide, by decide⟩ ⟨_, rfl, (by first | (simp [rW, *]; done) | (exfalso; simp_all)), rfl⟩
                        · refine rz_aload_n 0 d_Ve_rankOfWord_121 rfl rfl ?_
                          refine rz_ldcS (s_Ve_109 Γ.2.2.2.2) d_Ve_rankOfWord_122 ?_
                          obtain ⟨tso26, fso26, so26⟩ := hs.ob
                          refine rz_callV (As := [.ref (Γ.2.2.2.2 24)]) (c_St_equals hs (hk.1 (24, kRelease) (by decide))) m_Ve_85 so26 rfl rfl rfl rfl (Nat.le_of_ble_eq_true rfl) ⟨by decide, by decide⟩ ⟨by decide, by decide⟩ d_Ve_rankOfWord_124 (kE (h := h) ?_)
                          refine rz_Seq [vi (bi (weq f n kRelease))] rfl ?_
                          refine rz_if_eqB 133 d_Ve_rankOfWord_127 (by decide) (fun c127 => ?_) (fun c127 => ?_)
                          · refine rz_aload_n 0 d_Ve_rankOfWord_133 rfl rfl ?_
                            refine rz_ldcS (s_Ve_111 Γ.2.2.2.2) d_Ve_rankOfWord_134 ?_
                            obtain ⟨tso27, fso27, so27⟩ := hs.ob
                            refine rz_callV (As := [.ref (Γ.2.2.2.2 25)]) (c_St_equals hs (hk.1 (25, [115, 112]) (by decide))) m_Ve_85 so27 rfl rfl rfl rfl (Nat.le_of_ble_eq_true rfl) ⟨by decide, by decide⟩ ⟨by decide, by decide⟩ d_Ve_rankOfWord_136 (kE (h := h) ?_)
                            refine rz_Seq [vi (bi (weq f n ([115, 112])))] rfl ?_
                            refine rz_if_eqB 147 d_Ve_rankOfWord_139 (by decide) (fun c139 => ?_) (fun c139 => ?_)
                            · refine rz_bipush (v := 8) d_Ve_rankOfWord_147 (by decide) ?_
                              exact rz_ireturn (st := []) rfl d_Ve_rankOfWord_149 ⟨by decide, by decide⟩ ⟨_, rfl, (by first | (simp [rW, *]; done) | (exfalso; simp_all)), rfl⟩
                            · refine rz_bipush (v := 7) d_Ve_rankOfWord_142 (by decide) ?_
                              refine rz_goto 149 d_Ve_rankOfWord_144 (by decide) ?_
                              exact rz_ireturn (st := []) rfl d_Ve_rankOfWord_149 ⟨by decide, by decide⟩ ⟨_, rfl, (by first | (simp [rW, *]; done) | (exfalso; simp_all)), rfl⟩
                          · refine rz_bipush (v := 6) d_Ve_rankOfWord_130 (by decide) ?_
                            exact rz_ireturn (st := []) rfl d_Ve_rankOfWord_132 ⟨by decide, by decide⟩ ⟨_, rfl, (by first | (simp [rW, *]; done) | (exfalso; simp_all)), rfl⟩
                    · refine rz_iconst d_Ve_rankOfWord_101 ?_
                      exact rz_ireturn (st := []) rfl d_Ve_rankOfWord_102 ⟨by decide, by decide⟩ ⟨_, rfl, (by first | (simp [rW, *]; done) | (exfalso; simp_all)), rfl⟩
                  · refine rz_iconst d_Ve_rankOfWord_90 ?_
                    exact rz_ireturn (st := []) rfl d_Ve_rankOfWord_91 ⟨by decide, by decide⟩ ⟨_, rfl, (by first | (simp [rW, *]; done) | (exfalso; simp_all)), rfl⟩
              · refine rz_aload_n 0 d_Ve_rankOfWord_61 rfl rfl ?_
                refine rz_ldcS (s_Ve_97 Γ.2.2.2.2) d_Ve_rankOfWord_62 ?_
                obtain ⟨tso28, fso28, so28⟩ := hs.ob
                refine rz_callV (As := [.ref (Γ.2.2.2.2 18)]) (c_St_equals hs (hk.1 (18, [109]) (by decide))) m_Ve_85 so28 rfl rfl rfl rfl (Nat.le_of_ble_eq_true rfl) ⟨by decide, by decide⟩ ⟨by decide, by decide⟩ d_Ve_rankOfWord_64 (kE (h := h) ?_)
                refine rz_Seq [vi (bi (weq f n ([109])))] rfl ?_
                refine rz_if_eqB 72 d_Ve_rankOfWord_67 (by decide) (fun c67 => ?_) (fun c67 => ?_)
                · refine rz_aload_n 0 d_Ve_rankOfWord_72 rfl rfl ?_
                  refine rz_ldcS (s_Ve_99 Γ.2.2.2.2) d_Ve_rankOfWord_73 ?_
                  obtain ⟨tso29, fso29, so29⟩ := hs.ob
                  refine rz_callV (As := [.ref (Γ.2.2.2.2 19)]) (c_St_equals hs (hk.1 (19, [114, 99]) (by decide))) m_Ve_85 so29 rfl rfl rfl rfl (Nat.le_of_ble_eq_true rfl) ⟨by decide, by decide⟩ ⟨by decide, by decide⟩ d_Ve_rankOfWord_75 (kE (h := h) ?_)
                  refine rz_Seq [vi (bi (weq f n ([114, 99])))] rfl ?_
                  refine rz_if_neB 90 d_Ve_rankOfWord_78 (by decide) (fun c78 => ?_) (fun c78 => ?_)
                  · refine rz_iconst d_Ve_rankOfWord_90 ?_
                    exact rz_ireturn (st := []) rfl d_Ve_rankOfWord_91 ⟨by decide, by decide⟩ ⟨_, rfl, (by first | (simp [rW, *]; done) | (exfalso; simp_all)), rfl⟩
                  · refine rz_aload_n 0 d_Ve_rankOfWord_81 rfl rfl ?_
                    refine rz_ldcS (s_Ve_101 Γ.2.2.2.2) d_Ve_rankOfWord_82 ?_
                    obtain ⟨tso30, fso30, so30⟩ := hs.ob
                    refine rz_callV (As := [.ref (Γ.2.2.2.2 20)]) (c_St_equals hs (hk.1 (20, [99, 114]) (by decide))) m_Ve_85 so30 rfl rfl rfl rfl (Nat.le_of_ble_eq_true rfl) ⟨by decide, by decide⟩ ⟨by decide, by decide⟩ d_Ve_rankOfWord_84 (kE (h := h) ?_)
                    refine rz_Seq [vi (bi (weq f n ([99, 114])))] rfl ?_
                    refine rz_if_eqB 92 d_Ve_rankOfWord_87 (by decide) (fun c87 => ?_) (fun c87 => ?_)
                    · refine rz_aload_n 0 d_Ve_rankOfWord_92 rfl rfl ?_
                      refine rz_ldcS (s_Ve_103 Γ.2.2.2.2) d_Ve_rankOfWord_93 ?_
                      obtain ⟨tso31, fso31, so31⟩ := hs.ob
                      refine rz_callV (As := [.ref (Γ.2.2.2.2 21)]) (c_St_equals hs (hk.1 (21, kSnapshot) (by decide))) m_Ve_85 so31 rfl rfl rfl rfl (Nat.le_of_ble_eq_true rfl) ⟨by decide, by decide⟩ ⟨by decide, by decide⟩ d_Ve_rankOfWord_95 (kE (h := h) ?_)
                      refine rz_Seq [vi (bi (weq f n kSnapshot))] rfl ?_
                      refine rz_if_eqB 103 d_Ve_rankOfWord_98 (by decide) (fun c98 => ?_) (fun c98 => ?_)
                      · refine rz_aload_n 0 d_Ve_rankOfWord_103 rfl rfl ?_
                        refine rz_ldcS (s_Ve_105 Γ.2.2.2.2) d_Ve_rankOfWord_104 ?_
                        obtain ⟨tso32, fso32, so32⟩ := hs.ob
                        refine rz_callV (As := [.ref (Γ.2.2.2.2 22)]) (c_St_equals hs (hk.1 (22, [103, 97]) (by decide))) m_Ve_85 so32 rfl rfl rfl rfl (Nat.le_of_ble_eq_true rfl) ⟨by decide, by decide⟩ ⟨by decide, by decide⟩ d_Ve_rankOfWord_106 (kE (h := h) ?_)
                        refine rz_Seq [vi (bi (weq f n ([103, 97])))] rfl ?_
                        refine rz_if_neB 130 d_Ve_rankOfWord_109 (by decide) (fun c109 => ?_) (fun c109 => ?_)
                        · refine rz_bipush (v := 6) d_Ve_rankOfWord_130 (by decide) ?_
                          exact rz_ireturn (st := []) rfl d_Ve_rankOfWord_132 ⟨by decide, by decide⟩ ⟨_, rfl, (by first | (simp [rW, *]; done) | (exfalso; simp_all)), rfl⟩
                        · refine rz_aload_n 0 d_Ve_rankOfWord_112 rfl rfl ?_
                          refine rz_ldcS (s_Ve_107 Γ.2.2.2.2) d_Ve_rankOfWord_113 ?_
                          obtain ⟨tso33, fso33, so33⟩ := hs.ob
                          refine rz_callV (As := [.ref (Γ.2.2.2.2 23)]) (c_St_equals hs (hk.1 (23, kFinal) (by decide))) m_Ve_85 so33 rfl rfl rfl rfl (Nat.le_of_ble_eq_true rfl) ⟨by decide, by decide⟩ ⟨by decide, by decide⟩ d_Ve_rankOfWord_115 (kE (h := h) ?_)
                          refine rz_Seq [vi (bi (weq f n kFinal))] rfl ?_
                          refine rz_if_neB 130 d_Ve_rankOfWord_118 (by decide) (fun c118 => ?_) (fun c118 => ?_)
                          · refine rz_bipush (v := 6) d_Ve_rankOfWord_130 (by decide) ?_
                            exact rz_ireturn (st := []) rfl d_Ve_rankOfWord_132 ⟨by decide, by decide⟩ ⟨_, rfl, (by first | (simp [rW, *]; done) | (exfalso; simp_all)), rfl⟩
                          · refine rz_aload_n 0 d_Ve_rankOfWord_121 rfl rfl ?_
                            refine rz_ldcS (s_Ve_109 Γ.2.2.2.2) d_Ve_rankOfWord_122 ?_
                            obtain ⟨tso34, fso34, so34⟩ := hs.ob
                            refine rz_callV (As := [.ref (Γ.2.2.2.2 24)]) (c_St_equals hs (hk.1 (24, kRelease) (by decide))) m_Ve_85 so34 rfl rfl rfl rfl (Nat.le_of_ble_eq_true rfl) ⟨by decide, by decide⟩ ⟨by decide, by decide⟩ d_Ve_rankOfWord_124 (kE (h := h) ?_)
                            refine rz_Seq [vi (bi (weq f n kRelease))] rfl ?_
                            refine rz_if_eqB 133 d_Ve_rankOfWord_127 (by decide) (fun c127 => ?_) (fun c127 => ?_)
                            · refine rz_aload_n 0 d_Ve_rankOfWord_133 rfl rfl ?_
                              refine rz_ldcS (s_Ve_111 Γ.2.2.2.2) d_Ve_rankOfWord_134 ?_
                              obtain ⟨tso35, fso35, so35⟩ := hs.ob
                              refine rz_callV (As := [.ref (Γ.2.2.2.2 25)]) (c_St_equals hs (hk.1 (25, [115, 112]) (by decide))) m_Ve_85 so35 rfl rfl rfl rfl (Nat.le_of_ble_eq_true rfl) ⟨by decide, by decide⟩ ⟨by decide, by decide⟩ d_Ve_rankOfWord_136 (kE (h := h) ?_)
                              refine rz_Seq [vi (bi (weq f n ([115, 112])))] rfl ?_
                              refine rz_if_eqB 147 d_Ve_rankOfWord_139 (by decide) (fun c139 => ?_) (fun c139 => ?_)
                              · refine rz_bipush (v := 8) d_Ve_rankOfWord_147 (by decide) ?_
                                exact rz_ireturn (st := []) rfl d_Ve_rankOfWord_149 ⟨by decide, by decide⟩ ⟨_, rfl, (by first | (simp [rW, *]; done) | (exfalso; simp_all)), rfl⟩
                              · refine rz_bipush (v := 7) d_Ve_rankOfWord_142 (by decide) ?_
                                refine rz_goto 149 d_Ve_rankOfWord_144 (by decide) ?_
                                exact rz_ireturn (st := []) rfl d_Ve_rankOfWord_149 ⟨by decide, by decide⟩ ⟨_, rfl, (by first | (simp [rW, *]; done) | (exfalso; simp_all)), rfl⟩
                            · refine rz_bipush (v := 6) d_Ve_rankOfWord_130 (by decide) ?_
                              exact rz_ireturn (st := []) rfl d_Ve_rankOfWord_132 ⟨by decide, by decide⟩ ⟨_, rfl, (by first | (simp [rW, *]; done) | (exfalso; simp_all)), rfl⟩
                      · refine rz_iconst d_Ve_rankOfWord_101 ?_
                        exact rz_ireturn (st := []) rfl d_Ve_rankOfWord_102 ⟨by decide, by decide⟩ ⟨_, rfl, (by first | (simp [rW, *]; done) | (exfalso; simp_all)), rfl⟩
                    · refine rz_iconst d_Ve_rankOfWord_90 ?_
                      exact rz_ireturn (st := []) rfl d_Ve_rankOfWord_91 ⟨by decide, by decide⟩ ⟨_, rfl, (by first | (simp [rW, *]; done) | (exfalso; simp_all)), rfl⟩
                · refine rz_iconst d_Ve_rankOfWord_70 ?_
                  exact rz_ireturn (st := []) rfl d_Ve_rankOfWord_71 ⟨by decide, by decide⟩ ⟨_, rfl, (by first | (simp [rW, *]; done) | (exfalso; simp_all)), rfl⟩
          · refine rz_iconst d_Ve_rankOfWord_46 ?_
            exact rz_ireturn (st := []) rfl d_Ve_rankOfWord_47 ⟨by decide, by decide⟩ ⟨_, rfl, (by first | (simp [rW, *]; done) | (exfalso; simp_all)), rfl⟩
    · refine rz_aload_n 0 d_Ve_rankOfWord_13 rfl rfl ?_
      refine rz_ldcS (s_Ve_89 Γ.2.2.2.2) d_Ve_rankOfWord_14 ?_
      obtain ⟨tso36, fso36, so36⟩ := hs.ob
      refine rz_callV (As := [.ref (Γ.2.2.2.2 14)]) (c_St_equals hs (hk.1 (14, [97]) (by decide))) m_Ve_85 so36 rfl rfl rfl rfl (Nat.le_of_ble_eq_true rfl) ⟨by decide, by decide⟩ ⟨by decide, by decide⟩ d_Ve_rankOfWord_16 (kE (h := h) ?_)
      refine rz_Seq [vi (bi (weq f n ([97])))] rfl ?_
      refine rz_if_eqB 24 d_Ve_rankOfWord_19 (by decide) (fun c19 => ?_) (fun c19 => ?_)
      · refine rz_aload_n 0 d_Ve_rankOfWord_24 rfl rfl ?_
        refine rz_ldcS (s_Ve_91 Γ.2.2.2.2) d_Ve_rankOfWord_25 ?_
        obtain ⟨tso37, fso37, so37⟩ := hs.ob
        refine rz_callV (As := [.ref (Γ.2.2.2.2 15)]) (c_St_equals hs (hk.1 (15, kBeta) (by decide))) m_Ve_85 so37 rfl rfl rfl rfl (Nat.le_of_ble_eq_true rfl) ⟨by decide, by decide⟩ ⟨by decide, by decide⟩ d_Ve_rankOfWord_27 (kE (h := h) ?_)
        refine rz_Seq [vi (bi (weq f n kBeta))] rfl ?_
        refine rz_if_neB 46 d_Ve_rankOfWord_30 (by decide) (fun c30 => ?_) (fun c30 => ?_)
        · refine rz_iconst d_Ve_rankOfWord_46 ?_
          exact rz_ireturn (st := []) rfl d_Ve_rankOfWord_47 ⟨by decide, by decide⟩ ⟨_, rfl, (by first | (simp [rW, *]; done) | (exfalso; simp_all)), rfl⟩
        · refine rz_iload_n 1 d_Ve_rankOfWord_33 rfl rfl ?_
          refine rz_if_eqB 48 d_Ve_rankOfWord_34 (by decide) (fun c34 => ?_) (fun c34 => ?_)
          · refine rz_aload_n 0 d_Ve_rankOfWord_48 rfl rfl ?_
            refine rz_ldcS (s_Ve_95 Γ.2.2.2.2) d_Ve_rankOfWord_49 ?_
            obtain ⟨tso38, fso38, so38⟩ := hs.ob
            refine rz_callV (As := [.ref (Γ.2.2.2.2 17)]) (c_St_equals hs (hk.1 (17, kMilestone) (by decide))) m_Ve_85 so38 rfl rfl rfl rfl (Nat.le_of_ble_eq_true rfl) ⟨by decide, by decide⟩ ⟨by decide, by decide⟩ d_Ve_rankOfWord_51 (kE (h := h) ?_)
            refine rz_Seq [vi (bi (weq f n kMilestone))] rfl ?_
            refine rz_if_neB 70 d_Ve_rankOfWord_54 (by decide) (fun c54 => ?_) (fun c54 => ?_)
            · refine rz_iconst d_Ve_rankOfWord_70 ?_
              exact rz_ireturn (st := []) rfl d_Ve_rankOfWord_71 ⟨by decide, by decide⟩ ⟨_, rfl, (by first | (simp [rW, *]; done) | (exfalso; simp_all)), rfl⟩
            · refine rz_iload_n 1 d_Ve_rankOfWord_57 rfl rfl ?_
              refine rz_if_eqB 72 d_Ve_rankOfWord_58 (by decide) (fun c58 => ?_) (fun c58 => ?_)
              · refine rz_aload_n 0 d_Ve_rankOfWord_72 rfl rfl ?_
                refine rz_ldcS (s_Ve_99 Γ.2.2.2.2) d_Ve_rankOfWord_73 ?_
                obtain ⟨tso39, fso39, so39⟩ := hs.ob
                refine rz_callV (As := [.ref (Γ.2.2.2.2 19)]) (c_St_equals hs (hk.1 (19, [114, 99]) (by decide))) m_Ve_85 so39 rfl rfl rfl rfl (Nat.le_of_ble_eq_true rfl) ⟨by decide, by decide⟩ ⟨by decide, by decide⟩ d_Ve_rankOfWord_75 (kE (h := h) ?_)
                refine rz_Seq [vi (bi (weq f n ([114, 99])))] rfl ?_
                refine rz_if_neB 90 d_Ve_rankOfWord_78 (by decide) (fun c78 => ?_) (fun c78 => ?_)
                · refine rz_iconst d_Ve_rankOfWord_90 ?_
                  exact rz_ireturn (st := []) rfl d_Ve_rankOfWord_91 ⟨by decide, by decide⟩ ⟨_, rfl, (by first | (simp [rW, *]; done) | (exfalso; simp_all)), rfl⟩
                · refine rz_aload_n 0 d_Ve_rankOfWord_81 rfl rfl ?_
                  refine rz_ldcS (s_Ve_101 Γ.2.2.2.2) d_Ve_rankOfWord_82 ?_
                  obtain ⟨tso40, fso40, so40⟩ := hs.ob
                  refine rz_callV (As := [.ref (Γ.2.2.2.2 20)]) (c_St_equals hs (hk.1 (20, [99, 114]) (by decide))) m_Ve_85 so40 rfl rfl rfl rfl (Nat.le_of_ble_eq_true rfl) ⟨by decide, by decide⟩ ⟨by decide, by decide⟩ d_Ve_rankOfWord_84 (kE (h := h) ?_)
                  refine rz_Seq [vi (bi (weq f n ([99, 114])))] rfl ?_
                  refine rz_if_eqB 92 d_Ve_rankOfWord_87 (by decide) (fun c87 => ?_) (fun c87 => ?_)
                  · refine rz_aload_n 0 d_Ve_rankOfWord_92 rfl rfl ?_
                    refine rz_ldcS (s_Ve_103 Γ.2.2.2.2) d_Ve_rankOfWord_93 ?_
                    obtain ⟨tso41, fso41, so41⟩ := hs.ob
                    refine rz_callV (As := [.ref (Γ.2.2.2.2 21)]) (c_St_equals hs (hk.1 (21, kSnapshot) (by decide))) m_Ve_85 so41 rfl rfl rfl rfl (Nat.le_of_ble_eq_true rfl) ⟨by decide, by decide⟩ ⟨by decide, by decide⟩ d_Ve_rankOfWord_95 (kE (h := h) ?_)
                    refine rz_Seq [vi (bi (weq f n kSnapshot))] rfl ?_
                    refine rz_if_eqB 103 d_Ve_rankOfWord_98 (by decide) (fun c98 => ?_) (fun c98 => ?_)
                    · refine rz_aload_n 0 d_Ve_rankOfWord_103 rfl rfl ?_
                      refine rz_ldcS (s_Ve_105 Γ.2.2.2.2) d_Ve_rankOfWord_104 ?_
                      obtain ⟨tso42, fso42, so42⟩ := hs.ob
                      refine rz_callV (As := [.ref (Γ.2.2.2.2 22)]) (c_St_equals hs (hk.1 (22, [103, 97]) (by decide))) m_Ve_85 so42 rfl rfl rfl rfl (Nat.le_of_ble_eq_true rfl) ⟨by decide, by decide⟩ ⟨by decide, by decide⟩ d_Ve_rankOfWord_106 (kE (h := h) ?_)
                      refine rz_Seq [vi (bi (weq f n ([103, 97])))] rfl ?_
                      refine rz_if_neB 130 d_Ve_rankOfWord_109 (by decide) (fun c109 => ?_) (fun c109 => ?_)
                      · refine rz_bipush (v := 6) d_Ve_rankOfWord_130 (by decide) ?_
                        exact rz_ireturn (st := []) rfl d_Ve_rankOfWord_132 ⟨by decide, by decide⟩ ⟨_, rfl, (by first | (simp [rW, *]; done) | (exfalso; simp_all)), rfl⟩
                      · refine rz_aload_n 0 d_Ve_rankOfWord_112 rfl rfl ?_
                        refine rz_ldcS (s_Ve_107 Γ.2.2.2.2) d_Ve_rankOfWord_113 ?_
                        obtain ⟨tso43, fso43, so43⟩ := hs.ob
                        refine rz_callV (As := [.ref (Γ.2.2.2.2 23)]) (c_St_equals hs (hk.1 (23, kFinal) (by decide))) m_Ve_85 so43 rfl rfl rfl rfl (Nat.le_of_ble_eq_true rfl) ⟨by decide, by decide⟩ ⟨by decide, by decide⟩ d_Ve_rankOfWord_115 (kE (h := h) ?_)
                        refine rz_Seq [vi (bi (weq f n kFinal))] rfl ?_
                        refine rz_if_neB 130 d_Ve_rankOfWord_118 (by decide) (fun c118 => ?_) (fun c118 => ?_)
                        · refine rz_bipush (v := 6) d_Ve_rankOfWord_130 (by decide) ?_
                          exact rz_ireturn (st := []) rfl d_Ve_rankOfWord_132 ⟨by decide, by decide⟩ ⟨_, rfl, (by first | (simp [rW, *]; done) | (exfalso; simp_all)), rfl⟩
                        · refine rz_aload_n 0 d_Ve_rankOfWord_121 rfl rfl ?_
                          refine rz_ldcS (s_Ve_109 Γ.2.2.2.2) d_Ve_rankOfWord_122 ?_
                          obtain ⟨tso44, fso44, so44⟩ := hs.ob
                          refine rz_callV (As := [.ref (Γ.2.2.2.2 24)]) (c_St_equals hs (hk.1 (24, kRelease) (by decide))) m_Ve_85 so44 rfl rfl rfl rfl (Nat.le_of_ble_eq_true rfl) ⟨by decide, by decide⟩ ⟨by decide, by decide⟩ d_Ve_rankOfWord_124 (kE (h := h) ?_)
                          refine rz_Seq [vi (bi (weq f n kRelease))] rfl ?_
                          refine rz_if_eqB 133 d_Ve_rankOfWord_127 (by decide) (fun c127 => ?_) (fun c127 => ?_)
                          · refine rz_aload_n 0 d_Ve_rankOfWord_133 rfl rfl ?_
                            refine rz_ldcS (s_Ve_111 Γ.2.2.2.2) d_Ve_rankOfWord_134 ?_
                            obtain ⟨tso45, fso45, so45⟩ := hs.ob
                            refine rz_callV (As := [.ref (Γ.2.2.2.2 25)]) (c_St_equals hs (hk.1 (25, [115, 112]) (by decide))) m_Ve_85 so45 rfl rfl rfl rfl (Nat.le_of_ble_eq_true rfl) ⟨by decide, by decide⟩ ⟨by decide, by decide⟩ d_Ve_rankOfWord_136 (kE (h := h) ?_)
                            refine rz_Seq [vi (bi (weq f n ([115, 112])))] rfl ?_
                            refine rz_if_eqB 147 d_Ve_rankOfWord_139 (by decide) (fun c139 => ?_) (fun c139 => ?_)
                            · refine rz_bipush (v := 8) d_Ve_rankOfWord_147 (by decide) ?_
                              exact rz_ireturn (st := []) rfl d_Ve_rankOfWord_149 ⟨by decide, by decide⟩ ⟨_, rfl, (by first | (simp [rW, *]; done) | (exfalso; simp_all)), rfl⟩
                            · refine rz_bipush (v := 7) d_Ve_rankOfWord_142 (by decide) ?_
                              refine rz_goto 149 d_Ve_rankOfWord_144 (by decide) ?_
                              exact rz_ireturn (st := []) rfl d_Ve_rankOfWord_149 ⟨by decide, by decide⟩ ⟨_, rfl, (by first | (simp [rW, *]; done) | (exfalso; simp_all)), rfl⟩
                          · refine rz_bipush (v := 6) d_Ve_rankOfWord_130 (by decide) ?_
                            exact rz_ireturn (st := []) rfl d_Ve_rankOfWord_132 ⟨by decide, by decide⟩ ⟨_, rfl, (by first | (simp [rW, *]; done) | (exfalso; simp_all)), rfl⟩
                    · refine rz_iconst d_Ve_rankOfWord_101 ?_
                      exact rz_ireturn (st := []) rfl d_Ve_rankOfWord_102 ⟨by decide, by decide⟩ ⟨_, rfl, (by first | (simp [rW, *]; done) | (exfalso; simp_all)), rfl⟩
                  · refine rz_iconst d_Ve_rankOfWord_90 ?_
                    exact rz_ireturn (st := []) rfl d_Ve_rankOfWord_91 ⟨by decide, by decide⟩ ⟨_, rfl, (by first | (simp [rW, *]; done) | (exfalso; simp_all)), rfl⟩
              · refine rz_aload_n 0 d_Ve_rankOfWord_61 rfl rfl ?_
                refine rz_ldcS (s_Ve_97 Γ.2.2.2.2) d_Ve_rankOfWord_62 ?_
                obtain ⟨tso46, fso46, so46⟩ := hs.ob
                refine rz_callV (As := [.ref (Γ.2.2.2.2 18)]) (c_St_equals hs (hk.1 (18, [109]) (by decide))) m_Ve_85 so46 rfl rfl rfl rfl (Nat.le_of_ble_eq_true rfl) ⟨by decide, by decide⟩ ⟨by decide, by decide⟩ d_Ve_rankOfWord_64 (kE (h := h) ?_)
                refine rz_Seq [vi (bi (weq f n ([109])))] rfl ?_
                refine rz_if_eqB 72 d_Ve_rankOfWord_67 (by decide) (fun c67 => ?_) (fun c67 => ?_)
                · refine rz_aload_n 0 d_Ve_rankOfWord_72 rfl rfl ?_
                  refine rz_ldcS (s_Ve_99 Γ.2.2.2.2) d_Ve_rankOfWord_73 ?_
                  obtain ⟨tso47, fso47, so47⟩ := hs.ob
                  refine rz_callV (As := [.ref (Γ.2.2.2.2 19)]) (c_St_equals hs (hk.1 (19, [114, 99]) (by decide))) m_Ve_85 so47 rfl rfl rfl rfl (Nat.le_of_ble_eq_true rfl) ⟨by decide, by decide⟩ ⟨by decide, by decide⟩ d_Ve_rankOfWord_75 (kE (h := h) ?_)
                  refine rz_Seq [vi (bi (weq f n ([114, 99])))] rfl ?_
                  refine rz_if_neB 90 d_Ve_rankOfWord_78 (by decide) (fun c78 => ?_) (fun c78 => ?_)
                  · refine rz_iconst d_Ve_rankOfWord_90 ?_
                    exact rz_ireturn (st := []) rfl d_Ve_rankOfWord_91 ⟨by decide, by decide⟩ ⟨_, rfl, (by first | (simp [rW, *]; done) | (exfalso; simp_all)), rfl⟩
                  · refine rz_aload_n 0 d_Ve_rankOfWord_81 rfl rfl ?_
                    refine rz_ldcS (s_Ve_101 Γ.2.2.2.2) d_Ve_rankOfWord_82 ?_
                    obtain ⟨tso48, fso48, so48⟩ := hs.ob
                    refine rz_callV (As := [.ref (Γ.2.2.2.2 20)]) (c_St_equals hs (hk.1 (20, [99, 114]) (by decide))) m_Ve_85 so48 rfl rfl rfl rfl (Nat.le_of_ble_eq_true rfl) ⟨by decide, by decide⟩ ⟨by decide, by decide⟩ d_Ve_rankOfWord_84 (kE (h := h) ?_)
                    refine rz_Seq [vi (bi (weq f n ([99, 114])))] rfl ?_
                    refine rz_if_eqB 92 d_Ve_rankOfWord_87 (by decide) (fun c87 => ?_) (fun c87 => ?_)
                    · refine rz_aload_n 0 d_Ve_rankOfWord_92 rfl rfl ?_
                      refine rz_ldcS (s_Ve_103 Γ.2.2.2.2) d_Ve_rankOfWord_93 ?_
                      obtain ⟨tso49, fso49, so49⟩ := hs.ob
                      refine rz_callV (As := [.ref (Γ.2.2.2.2 21)]) (c_St_equals hs (hk.1 (21, kSnapshot) (by decide))) m_Ve_85 so49 rfl rfl rfl rfl (Nat.le_of_ble_eq_true rfl) ⟨by decide, by decide⟩ ⟨by decide, by decide⟩ d_Ve_rankOfWord_95 (kE (h := h) ?_)
                      refine rz_Seq [vi (bi (weq f n kSnapshot))] rfl ?_
                      refine rz_if_eqB 103 d_Ve_rankOfWord_98 (by decide) (fun c98 => ?_) (fun c98 => ?_)
                      · refine rz_aload_n 0 d_Ve_rankOfWord_103 rfl rfl ?_
                        refine rz_ldcS (s_Ve_105 Γ.2.2.2.2) d_Ve_rankOfWord_104 ?_
                        obtain ⟨tso50, fso50, so50⟩ := hs.ob
                        refine rz_callV (As := [.ref (Γ.2.2.2.2 22)]) (c_St_equals hs (hk.1 (22, [103, 97]) (by decide))) m_Ve_85 so50 rfl rfl rfl rfl (Nat.le_of_ble_eq_true rfl) ⟨by decide, by decide⟩ ⟨by decide, by decide⟩ d_Ve_rankOfWord_106 (kE (h := h) ?_)
                        refine rz_Seq [vi (bi (weq f n ([103, 97])))] rfl ?_
                        refine rz_if_neB 130 d_Ve_rankOfWord_109 (by decide) (fun c109 => ?_) (fun c109 => ?_)
                        · refine rz_bipush (v := 6) d_Ve_rankOfWord_130 (by decide) ?_
                          exact rz_ireturn (st := []) rfl d_Ve_rankOfWord_132 ⟨by decide, by decide⟩ ⟨_, rfl, (by first | (simp [rW, *]; done) | (exfalso; simp_all)), rfl⟩
                        · refine rz_aload_n 0 d_Ve_rankOfWord_112 rfl rfl ?_
                          refine rz_ldcS (s_Ve_107 Γ.2.2.2.2) d_Ve_rankOfWord_113 ?_
                          obtain ⟨tso51, fso51, so51⟩ := hs.ob
                          refine rz_callV (As := [.ref (Γ.2.2.2.2 23)]) (c_St_equals hs (hk.1 (23, kFinal) (by decide))) m_Ve_85 so51 rfl rfl rfl rfl (Nat.le_of_ble_eq_true rfl) ⟨by decide, by decide⟩ ⟨by decide, by decide⟩ d_Ve_rankOfWord_115 (kE (h := h) ?_)
                          refine rz_Seq [vi (bi (weq f n kFinal))] rfl ?_
                          refine rz_if_neB 130 d_Ve_rankOfWord_118 (by decide) (fun c118 => ?_) (fun c118 => ?_)
                          · refine rz_bipush (v := 6) d_Ve_rankOfWord_130 (by decide) ?_
                            exact rz_ireturn (st := []) rfl d_Ve_rankOfWord_132 ⟨by decide, by decide⟩ ⟨_, rfl, (by first | (simp [rW, *]; done) | (exfalso; simp_all)), rfl⟩
                          · refine rz_aload_n 0 d_Ve_rankOfWord_121 rfl rfl ?_
                            refine rz_ldcS (s_Ve_109 Γ.2.2.2.2) d_Ve_rankOfWord_122 ?_
                            obtain ⟨tso52, fso52, so52⟩ := hs.ob
                            refine rz_callV (As := [.ref (Γ.2.2.2.2 24)]) (c_St_equals hs (hk.1 (24, kRelease) (by decide))) m_Ve_85 so52 rfl rfl rfl rfl (Nat.le_of_ble_eq_true rfl) ⟨by decide, by decide⟩ ⟨by decide, by decide⟩ d_Ve_rankOfWord_124 (kE (h := h) ?_)
                            refine rz_Seq [vi (bi (weq f n kRelease))] rfl ?_
                            refine rz_if_eqB 133 d_Ve_rankOfWord_127 (by decide) (fun c127 => ?_) (fun c127 => ?_)
                            · refine rz_aload_n 0 d_Ve_rankOfWord_133 rfl rfl ?_
                              refine rz_ldcS (s_Ve_111 Γ.2.2.2.2) d_Ve_rankOfWord_134 ?_
                              obtain ⟨tso53, fso53, so53⟩ := hs.ob
                              refine rz_callV (As := [.ref (Γ.2.2.2.2 25)]) (c_St_equals hs (hk.1 (25, [115, 112]) (by decide))) m_Ve_85 so53 rfl rfl rfl rfl (Nat.le_of_ble_eq_true rfl) ⟨by decide, by decide⟩ ⟨by decide, by decide⟩ d_Ve_rankOfWord_136 (kE (h := h) ?_)
                              refine rz_Seq [vi (bi (weq f n ([115, 112])))] rfl ?_
                              refine rz_if_eqB 147 d_Ve_rankOfWord_139 (by decide) (fun c139 => ?_) (fun c139 => ?_)
                              · refine rz_bipush (v := 8) d_Ve_rankOfWord_147 (by decide) ?_
                                exact rz_ireturn (st := []) rfl d_Ve_rankOfWord_149 ⟨by decide, by decide⟩ ⟨_, rfl, (by first | (simp [rW, *]; done) | (exfalso; simp_all)), rfl⟩
                              · refine rz_bipush (v := 7) d_Ve_rankOfWord_142 (by decide) ?_
                                refine rz_goto 149 d_Ve_rankOfWord_144 (by decide) ?_
                                exact rz_ireturn (st := []) rfl d_Ve_rankOfWord_149 ⟨by decide, by decide⟩ ⟨_, rfl, (by first | (simp [rW, *]; done) | (exfalso; simp_all)), rfl⟩
                            · refine rz_bipush (v := 6) d_Ve_rankOfWord_130 (by decide) ?_
                              exact rz_ireturn (st := []) rfl d_Ve_rankOfWord_132 ⟨by decide, by decide⟩ ⟨_, rfl, (by first | (simp [rW, *]; done) | (exfalso; simp_all)), rfl⟩
                      · refine rz_iconst d_Ve_rankOfWord_101 ?_
                        exact rz_ireturn (st := []) rfl d_Ve_rankOfWord_102 ⟨by decide, by decide⟩ ⟨_, rfl, (by first | (simp [rW, *]; done) | (exfalso; simp_all)), rfl⟩
                    · refine rz_iconst d_Ve_rankOfWord_90 ?_
                      exact rz_ireturn (st := []) rfl d_Ve_rankOfWord_91 ⟨by decide, by decide⟩ ⟨_, rfl, (by first | (simp [rW, *]; done) | (exfalso; simp_all)), rfl⟩
                · refine rz_iconst d_Ve_rankOfWord_70 ?_
                  exact rz_ireturn (st := []) rfl d_Ve_rankOfWord_71 ⟨by decide, by decide⟩ ⟨_, rfl, (by first | (simp [rW, *]; done) | (exfalso; simp_all)), rfl⟩
          · refine rz_aload_n 0 d_Ve_rankOfWord_37 rfl rfl ?_
            refine rz_ldcS (s_Ve_93 Γ.2.2.2.2) d_Ve_rankOfWord_38 ?_
            obtain ⟨tso54, fso54, so54⟩ := hs.ob
            refine rz_callV (As := [.ref (Γ.2.2.2.2 16)]) (c_St_equals hs (hk.1 (16, [98]) (by decide))) m_Ve_85 so54 rfl rfl rfl rfl (Nat.le_of_ble_eq_true rfl) ⟨by decide, by decide⟩ ⟨by decide, by decide⟩ d_Ve_rankOfWord_40 (kE (h := h) ?_)
            refine rz_Seq [vi (bi (weq f n ([98])))] rfl ?_
            refine rz_if_eqB 48 d_Ve_rankOfWord_43 (by decide) (fun c43 => ?_) (fun c43 => ?_)
            · refine rz_aload_n 0 d_Ve_rankOfWord_48 rfl rfl ?_
              refine rz_ldcS (s_Ve_95 Γ.2.2.2.2) d_Ve_rankOfWord_49 ?_
              obtain ⟨tso55, fso55, so55⟩ := hs.ob
              refine rz_callV (As := [.ref (Γ.2.2.2.2 17)]) (c_St_equals hs (hk.1 (17, kMilestone) (by decide))) m_Ve_85 so55 rfl rfl rfl rfl (Nat.le_of_ble_eq_true rfl) ⟨by decide, by decide⟩ ⟨by decide, by decide⟩ d_Ve_rankOfWord_51 (kE (h := h) ?_)
              refine rz_Seq [vi (bi (weq f n kMilestone))] rfl ?_
              refine rz_if_neB 70 d_Ve_rankOfWord_54 (by decide) (fun c54 => ?_) (fun c54 => ?_)
              · refine rz_iconst d_Ve_rankOfWord_70 ?_
                exact rz_ireturn (st := []) rfl d_Ve_rankOfWord_71 ⟨by decide, by decide⟩ ⟨_, rfl, (by first | (simp [rW, *]; done) | (exfalso; simp_all)), rfl⟩
              · refine rz_iload_n 1 d_Ve_rankOfWord_57 rfl rfl ?_
                refine rz_if_eqB 72 d_Ve_rankOfWord_58 (by decide) (fun c58 => ?_) (fun c58 => ?_)
                · refine rz_aload_n 0 d_Ve_rankOfWord_72 rfl rfl ?_
                  refine rz_ldcS (s_Ve_99 Γ.2.2.2.2) d_Ve_rankOfWord_73 ?_
                  obtain ⟨tso56, fso56, so56⟩ := hs.ob
                  refine rz_callV (As := [.ref (Γ.2.2.2.2 19)]) (c_St_equals hs (hk.1 (19, [114, 99]) (by decide))) m_Ve_85 so56 rfl rfl rfl rfl (Nat.le_of_ble_eq_true rfl) ⟨by decide, by decide⟩ ⟨by decide, by decide⟩ d_Ve_rankOfWord_75 (kE (h := h) ?_)
                  refine rz_Seq [vi (bi (weq f n ([114, 99])))] rfl ?_
                  refine rz_if_neB 90 d_Ve_rankOfWord_78 (by decide) (fun c78 => ?_) (fun c78 => ?_)
                  · refine rz_iconst d_Ve_rankOfWord_90 ?_
                    exact rz_ireturn (st := []) rfl d_Ve_rankOfWord_91 ⟨by decide, by decide⟩ ⟨_, rfl, (by first | (simp [rW, *]; done) | (exfalso; simp_all)), rfl⟩
                  · refine rz_aload_n 0 d_Ve_rankOfWord_81 rfl rfl ?_
                    refine rz_ldcS (s_Ve_101 Γ.2.2.2.2) d_Ve_rankOfWord_82 ?_
                    obtain ⟨tso57, fso57, so57⟩ := hs.ob
                    refine rz_callV (As := [.ref (Γ.2.2.2.2 20)]) (c_St_equals hs (hk.1 (20, [99, 114]) (by decide))) m_Ve_85 so57 rfl rfl rfl rfl (Nat.le_of_ble_eq_true rfl) ⟨by decide, by decide⟩ ⟨by decide, by decide⟩ d_Ve_rankOfWord_84 (kE (h := h) ?_)
                    refine rz_Seq [vi (bi (weq f n ([99, 114])))] rfl ?_
                    refine rz_if_eqB 92 d_Ve_rankOfWord_87 (by decide) (fun c87 => ?_) (fun c87 => ?_)
                    · refine rz_aload_n 0 d_Ve_rankOfWord_92 rfl rfl ?_
                      refine rz_ldcS (s_Ve_103 Γ.2.2.2.2) d_Ve_rankOfWord_93 ?_
                      obtain ⟨tso58, fso58, so58⟩ := hs.ob
                      refine rz_callV (As := [.ref (Γ.2.2.2.2 21)]) (c_St_equals hs (hk.1 (21, kSnapshot) (by decide))) m_Ve_85 so58 rfl rfl rfl rfl (Nat.le_of_ble_eq_true rfl) ⟨by decide, by decide⟩ ⟨by decide, by decide⟩ d_Ve_rankOfWord_95 (kE (h := h) ?_)
                      refine rz_Seq [vi (bi (weq f n kSnapshot))] rfl ?_
                      refine rz_if_eqB 103 d_Ve_rankOfWord_98 (by decide) (fun c98 => ?_) (fun c98 => ?_)
                      · refine rz_aload_n 0 d_Ve_rankOfWord_103 rfl rfl ?_
                        refine rz_ldcS (s_Ve_105 Γ.2.2.2.2) d_Ve_rankOfWord_104 ?_
                        obtain ⟨tso59, fso59, so59⟩ := hs.ob
                        refine rz_callV (As := [.ref (Γ.2.2.2.2 22)]) (c_St_equals hs (hk.1 (22, [103, 97]) (by decide))) m_Ve_85 so59 rfl rfl rfl rfl (Nat.le_of_ble_eq_true rfl) ⟨by decide, by decide⟩ ⟨by decide, by decide⟩ d_Ve_rankOfWord_106 (kE (h := h) ?_)
                        refine rz_Seq [vi (bi (weq f n ([103, 97])))] rfl ?_
                        refine rz_if_neB 130 d_Ve_rankOfWord_109 (by decide) (fun c109 => ?_) (fun c109 => ?_)
                        · refine rz_bipush (v := 6) d_Ve_rankOfWord_130 (by decide) ?_
                          exact rz_ireturn (st := []) rfl d_Ve_rankOfWord_132 ⟨by decide, by decide⟩ ⟨_, rfl, (by first | (simp [rW, *]; done) | (exfalso; simp_all)), rfl⟩
                        · refine rz_aload_n 0 d_Ve_rankOfWord_112 rfl rfl ?_
                          refine rz_ldcS (s_Ve_107 Γ.2.2.2.2) d_Ve_rankOfWord_113 ?_
                          obtain ⟨tso60, fso60, so60⟩ := hs.ob
                          refine rz_callV (As := [.ref (Γ.2.2.2.2 23)]) (c_St_equals hs (hk.1 (23, kFinal) (by decide))) m_Ve_85 so60 rfl rfl rfl rfl (Nat.le_of_ble_eq_true rfl) ⟨by decide, by decide⟩ ⟨by decide, by decide⟩ d_Ve_rankOfWord_115 (kE (h := h) ?_)
                          refine rz_Seq [vi (bi (weq f n kFinal))] rfl ?_
                          refine rz_if_neB 130 d_Ve_rankOfWord_118 (by decide) (fun c118 => ?_) (fun c118 => ?_)
                          · refine rz_bipush (v := 6) d_Ve_rankOfWord_130 (by decide) ?_
                            exact rz_ireturn (st := []) rfl d_Ve_rankOfWord_132 ⟨by decide, by decide⟩ ⟨_, rfl, (by first | (simp [rW, *]; done) | (exfalso; simp_all)), rfl⟩
                          · refine rz_aload_n 0 d_Ve_rankOfWord_121 rfl rfl ?_
                            refine rz_ldcS (s_Ve_109 Γ.2.2.2.2) d_Ve_rankOfWord_122 ?_
                            obtain ⟨tso61, fso61, so61⟩ := hs.ob
                            refine rz_callV (As := [.ref (Γ.2.2.2.2 24)]) (c_St_equals hs (hk.1 (24, kRelease) (by decide))) m_Ve_85 so61 rfl rfl rfl rfl (Nat.le_of_ble_eq_true rfl) ⟨by decide, by decide⟩ ⟨by decide, by decide⟩ d_Ve_rankOfWord_124 (kE (h := h) ?_)
                            refine rz_Seq [vi (bi (weq f n kRelease))] rfl ?_
                            refine rz_if_eqB 133 d_Ve_rankOfWord_127 (by decide) (fun c127 => ?_) (fun c127 => ?_)
                            · refine rz_aload_n 0 d_Ve_rankOfWord_133 rfl rfl ?_
                              refine rz_ldcS (s_Ve_111 Γ.2.2.2.2) d_Ve_rankOfWord_134 ?_
                              obtain ⟨tso62, fso62, so62⟩ := hs.ob
                              refine rz_callV (As := [.ref (Γ.2.2.2.2 25)]) (c_St_equals hs (hk.1 (25, [115, 112]) (by decide))) m_Ve_85 so62 rfl rfl rfl rfl (Nat.le_of_ble_eq_true rfl) ⟨by decide, by decide⟩ ⟨by decide, by decide⟩ d_Ve_rankOfWord_136 (kE (h := h) ?_)
                              refine rz_Seq [vi (bi (weq f n ([115, 112])))] rfl ?_
                              refine rz_if_eqB 147 d_Ve_rankOfWord_139 (by decide) (fun c139 => ?_) (fun c139 => ?_)
                              · refine rz_bipush (v := 8) d_Ve_rankOfWord_147 (by decide) ?_
                                exact rz_ireturn (st := []) rfl d_Ve_rankOfWord_149 ⟨by decide, by decide⟩ ⟨_, rfl, (by first | (simp [rW, *]; done) | (exfalso; simp_all)), rfl⟩
                              · refine rz_bipush (v := 7) d_Ve_rankOfWord_142 (by decide) ?_
                                refine rz_goto 149 d_Ve_rankOfWord_144 (by decide) ?_
                                exact rz_ireturn (st := []) rfl d_Ve_rankOfWord_149 ⟨by decide, by decide⟩ ⟨_, rfl, (by first | (simp [rW, *]; done) | (exfalso; simp_all)), rfl⟩
                            · refine rz_bipush (v := 6) d_Ve_rankOfWord_130 (by decide) ?_
                              exact rz_ireturn (st := []) rfl d_Ve_rankOfWord_132 ⟨by decide, by decide⟩ ⟨_, rfl, (by first | (simp [rW, *]; done) | (exfalso; simp_all)), rfl⟩
                      · refine rz_iconst d_Ve_rankOfWord_101 ?_
                        exact rz_ireturn (st := []) rfl d_Ve_rankOfWord_102 ⟨by decide, by decide⟩ ⟨_, rfl, (by first | (simp [rW, *]; done) | (exfalso; simp_all)), rfl⟩
                    · refine rz_iconst d_Ve_rankOfWord_90 ?_
                      exact rz_ireturn (st := []) rfl d_Ve_rankOfWord_91 ⟨by decide, by decide⟩ ⟨_, rfl, (by first | (simp [rW, *]; done) | (exfalso; simp_all)), rfl⟩
                · refine rz_aload_n 0 d_Ve_rankOfWord_61 rfl rfl ?_
                  refine rz_ldcS (s_Ve_97 Γ.2.2.2.2) d_Ve_rankOfWord_62 ?_
                  obtain ⟨tso63, fso63, so63⟩ := hs.ob
                  refine rz_callV (As := [.ref (Γ.2.2.2.2 18)]) (c_St_equals hs (hk.1 (18, [109]) (by decide))) m_Ve_85 so63 rfl rfl rfl rfl (Nat.le_of_ble_eq_true rfl) ⟨by decide, by decide⟩ ⟨by decide, by decide⟩ d_Ve_rankOfWord_64 (kE (h := h) ?_)
                  refine rz_Seq [vi (bi (weq f n ([109])))] rfl ?_
                  refine rz_if_eqB 72 d_Ve_rankOfWord_67 (by decide) (fun c67 => ?_) (fun c67 => ?_)
                  · refine rz_aload_n 0 d_Ve_rankOfWord_72 rfl rfl ?_
                    refine rz_ldcS (s_Ve_99 Γ.2.2.2.2) d_Ve_rankOfWord_73 ?_
                    obtain ⟨tso64, fso64, so64⟩ := hs.ob
                    refine rz_callV (As := [.ref (Γ.2.2.2.2 19)]) (c_St_equals hs (hk.1 (19, [114, 99]) (by decide))) m_Ve_85 so64 rfl rfl rfl rfl (Nat.le_of_ble_eq_true rfl) ⟨by decide, by decide⟩ ⟨by decide, by decide⟩ d_Ve_rankOfWord_75 (kE (h := h) ?_)
                    refine rz_Seq [vi (bi (weq f n ([114, 99])))] rfl ?_
                    refine rz_if_neB 90 d_Ve_rankOfWord_78 (by decide) (fun c78 => ?_) (fun c78 => ?_)
                    · refine rz_iconst d_Ve_rankOfWord_90 ?_
                      exact rz_ireturn (st := []) rfl d_Ve_rankOfWord_91 ⟨by decide, by decide⟩ ⟨_, rfl, (by first | (simp [rW, *]; done) | (exfalso; simp_all)), rfl⟩
                    · refine rz_aload_n 0 d_Ve_rankOfWord_81 rfl rfl ?_
                      refine rz_ldcS (s_Ve_101 Γ.2.2.2.2) d_Ve_rankOfWord_82 ?_
                      obtain ⟨tso65, fso65, so65⟩ := hs.ob
                      refine rz_callV (As := [.ref (Γ.2.2.2.2 20)]) (c_St_equals hs (hk.1 (20, [99, 114]) (by decide))) m_Ve_85 so65 rfl rfl rfl rfl (Nat.le_of_ble_eq_true rfl) ⟨by decide, by decide⟩ ⟨by decide, by decide⟩ d_Ve_rankOfWord_84 (kE (h := h) ?_)
                      refine rz_Seq [vi (bi (weq f n ([99, 114])))] rfl ?_
                      refine rz_if_eqB 92 d_Ve_rankOfWord_87 (by decide) (fun c87 => ?_) (fun c87 => ?_)
                      · refine rz_aload_n 0 d_Ve_rankOfWord_92 rfl rfl ?_
                        refine rz_ldcS (s_Ve_103 Γ.2.2.2.2) d_Ve_rankOfWord_93 ?_
                        obtain ⟨tso66, fso66, so66⟩ := hs.ob
                        refine rz_callV (As := [.ref (Γ.2.2.2.2 21)]) (c_St_equals hs (hk.1 (21, kSnapshot) (by decide))) m_Ve_85 so66 rfl rfl rfl rfl (Nat.le_of_ble_eq_true rfl) ⟨by decide, by decide⟩ ⟨by decide, by decide⟩ d_Ve_rankOfWord_95 (kE (h := h) ?_)
                        refine rz_Seq [vi (bi (weq f n kSnapshot))] rfl ?_
                        refine rz_if_eqB 103 d_Ve_rankOfWord_98 (by decide) (fun c98 => ?_) (fun c98 => ?_)
                        · refine rz_aload_n 0 d_Ve_rankOfWord_103 rfl rfl ?_
                          refine rz_ldcS (s_Ve_105 Γ.2.2.2.2) d_Ve_rankOfWord_104 ?_
                          obtain ⟨tso67, fso67, so67⟩ := hs.ob
                          refine rz_callV (As := [.ref (Γ.2.2.2.2 22)]) (c_St_equals hs (hk.1 (22, [103, 97]) (by decide))) m_Ve_85 so67 rfl rfl rfl rfl (Nat.le_of_ble_eq_true rfl) ⟨by decide, by decide⟩ ⟨by decide, by decide⟩ d_Ve_rankOfWord_106 (kE (h := h) ?_)
                          refine rz_Seq [vi (bi (weq f n ([103, 97])))] rfl ?_
                          refine rz_if_neB 130 d_Ve_rankOfWord_109 (by decide) (fun c109 => ?_) (fun c109 => ?_)
                          · refine rz_bipush (v := 6) d_Ve_rankOfWord_130 (by decide) ?_
                            exact rz_ireturn (st := []) rfl d_Ve_rankOfWord_132 ⟨by decide, by decide⟩ ⟨_, rfl, (by first | (simp [rW, *]; done) | (exfalso; simp_all)), rfl⟩
                          · refine rz_aload_n 0 d_Ve_rankOfWord_112 rfl rfl ?_
                            refine rz_ldcS (s_Ve_107 Γ.2.2.2.2) d_Ve_rankOfWord_113 ?_
                            obtain ⟨tso68, fso68, so68⟩ := hs.ob
                            refine rz_callV (As := [.ref (Γ.2.2.2.2 23)]) (c_St_equals hs (hk.1 (23, kFinal) (by decide))) m_Ve_85 so68 rfl rfl rfl rfl (Nat.le_of_ble_eq_true rfl) ⟨by decide, by decide⟩ ⟨by decide, by decide⟩ d_Ve_rankOfWord_115 (kE (h := h) ?_)
                            refine rz_Seq [vi (bi (weq f n kFinal))] rfl ?_
                            refine rz_if_neB 130 d_Ve_rankOfWord_118 (by decide) (fun c118 => ?_) (fun c118 => ?_)
                            · refine rz_bipush (v := 6) d_Ve_rankOfWord_130 (by decide) ?_
                              exact rz_ireturn (st := []) rfl d_Ve_rankOfWord_132 ⟨by decide, by decide⟩ ⟨_, rfl, (by first | (simp [rW, *]; done) | (exfalso; simp_all)), rfl⟩
                            · refine rz_aload_n 0 d_Ve_rankOfWord_121 rfl rfl ?_
                              refine rz_ldcS (s_Ve_109 Γ.2.2.2.2) d_Ve_rankOfWord_122 ?_
                              obtain ⟨tso69, fso69, so69⟩ := hs.ob
                              refine rz_callV (As := [.ref (Γ.2.2.2.2 24)]) (c_St_equals hs (hk.1 (24, kRelease) (by decide))) m_Ve_85 so69 rfl rfl rfl rfl (Nat.le_of_ble_eq_true rfl) ⟨by decide, by decide⟩ ⟨by decide, by decide⟩ d_Ve_rankOfWord_124 (kE (h := h) ?_)
                              refine rz_Seq [vi (bi (weq f n kRelease))] rfl ?_
                              refine rz_if_eqB 133 d_Ve_rankOfWord_127 (by decide) (fun c127 => ?_) (fun c127 => ?_)
                              · refine rz_aload_n 0 d_Ve_rankOfWord_133 rfl rfl ?_
                                refine rz_ldcS (s_Ve_111 Γ.2.2.2.2) d_Ve_rankOfWord_134 ?_
                                obtain ⟨tso70, fso70, so70⟩ := hs.ob
                                refine rz_callV (As := [.ref (Γ.2.2.2.2 25)]) (c_St_equals hs (hk.1 (25, [115, 112]) (by decide))) m_Ve_85 so70 rfl rfl rfl rfl (Nat.le_of_ble_eq_true rfl) ⟨by decide, by decide⟩ ⟨by decide, by decide⟩ d_Ve_rankOfWord_136 (kE (h := h) ?_)
                                refine rz_Seq [vi (bi (weq f n ([115, 112])))] rfl ?_
                                refine rz_if_eqB 147 d_Ve_rankOfWord_139 (by decide) (fun c139 => ?_) (fun c139 => ?_)
                                · refine rz_bipush (v := 8) d_Ve_rankOfWord_147 (by decide) ?_
                                  exact rz_ireturn (st := []) rfl d_Ve_rankOfWord_149 ⟨by decide, by decide⟩ ⟨_, rfl, (by first | (simp [rW, *]; done) | (exfalso; simp_all)), rfl⟩
                                · refine rz_bipush (v := 7) d_Ve_rankOfWord_142 (by decide) ?_
                                  refine rz_goto 149 d_Ve_rankOfWord_144 (by decide) ?_
                                  exact rz_ireturn (st := []) rfl d_Ve_rankOfWord_149 ⟨by decide, by decide⟩ ⟨_, rfl, (by first | (simp [rW, *]; done) | (exfalso; simp_all)), rfl⟩
                              · refine rz_bipush (v := 6) d_Ve_rankOfWord_130 (by decide) ?_
                                exact rz_ireturn (st := []) rfl d_Ve_rankOfWord_132 ⟨by decide, by decide⟩ ⟨_, rfl, (by first | (simp [rW, *]; done) | (exfalso; simp_all)), rfl⟩
                        · refine rz_iconst d_Ve_rankOfWord_101 ?_
                          exact rz_ireturn (st := []) rfl d_Ve_rankOfWord_102 ⟨by decide, by decide⟩ ⟨_, rfl, (by first | (simp [rW, *]; done) | (exfalso; simp_all)), rfl⟩
                      · refine rz_iconst d_Ve_rankOfWord_90 ?_
                        exact rz_ireturn (st := []) rfl d_Ve_rankOfWord_91 ⟨by decide, by decide⟩ ⟨_, rfl, (by first | (simp [rW, *]; done) | (exfalso; simp_all)), rfl⟩
                  · refine rz_iconst d_Ve_rankOfWord_70 ?_
                    exact rz_ireturn (st := []) rfl d_Ve_rankOfWord_71 ⟨by decide, by decide⟩ ⟨_, rfl, (by first | (simp [rW, *]; done) | (exfalso; simp_all)), rfl⟩
            · refine rz_iconst d_Ve_rankOfWord_46 ?_
              exact rz_ireturn (st := []) rfl d_Ve_rankOfWord_47 ⟨by decide, by decide⟩ ⟨_, rfl, (by first | (simp [rW, *]; done) | (exfalso; simp_all)), rfl⟩
      · refine rz_iconst d_Ve_rankOfWord_22 ?_
        exact rz_ireturn (st := []) rfl d_Ve_rankOfWord_23 ⟨by decide, by decide⟩ ⟨_, rfl, (by first | (simp [rW, *]; done) | (exfalso; simp_all)), rfl⟩
abbrev rm_Ve_numberOf : Room := { frames := 4, cells := 0, slots := 0, locals := 85 }
set_option maxRecDepth 100000 in
set_option maxHeartbeats 4000000 in
theorem c_Ve_numberOf {l : Launch} {Γ : rz_G} {h : rz_H} {s n mm : Nat} {f : Int → Int} (hs : StrAt Γ h s n f mm) : Ct l Γ x_Ve_numberOf y_Ve_numberOf rm_Ve_numberOf [.ref s] h (pEL (numF f n 0 0) h) := by
  refine rz_met (by decide) rfl rfl (Nat.le_of_ble_eq_true rfl) (fun K _ => ?_)
  refine rz_Leq [(0, .ref s)] rfl ?_
  have hn100 := hs.ok.1
  refine rz_lconst (v := 0) d_Ve_numberOf_0 (by decide) ?_
  refine rz_lstore_n [(1, vl 0), (0, .ref s)] d_Ve_numberOf_1 rfl (by decide) rfl ?_
  refine rz_iconst d_Ve_numberOf_2 ?_
  refine rz_istore_n [(3, vi 0), (1, vl 0), (0, .ref s)] d_Ve_numberOf_3 rfl (by decide) rfl ?_
  refine rz_loop (α := Int × Int) 0 0 4 (fun (i, v) => ((n : Int) - i).toNat) (fun (i, v) => 0 ≤ i ∧ i ≤ n ∧ numF f n 0 0 = numF f ((n : Int) - i).toNat i v) (fun (i, v) => [(3, vi i), (1, vl v), (0, .ref s)]) (fun (i, v) => []) (fun (i, v) => h) (fun y hy ih4 => ?_) (fun LP => ?_)
  · obtain ⟨i, v⟩ := y
    try dsimp only at hy ih4 ⊢
    obtain ⟨hi0, hi1, hv⟩ := hy
    refine rz_iload_n 0 d_Ve_numberOf_4 rfl rfl ?_
    refine rz_aload_n 2 d_Ve_numberOf_5 rfl rfl ?_
    obtain ⟨tso1, fso1, so1⟩ := hs.ob
    refine rz_callV (As := []) (c_St_length hs) m_Ve_23 so1 rfl rfl rfl rfl (Nat.le_of_ble_eq_true rfl) ⟨by decide, by decide⟩ ⟨by decide, by decide⟩ d_Ve_numberOf_6 (kE (h := h) ?_)
    refine rz_icmp_ge 34 d_Ve_numberOf_9 (by decide) (by omega) (by omega) (fun c9 => ?_) (fun c9 => ?_)
    · refine rz_lload_n 1 d_Ve_numberOf_34 rfl rfl ?_
      exact rz_lreturn (st := []) rfl d_Ve_numberOf_35 ⟨by decide, by decide⟩ ⟨_, rfl, (by rw [hv, show ((n : Int) - i).toNat = 0 by omega]; rfl), rfl⟩
    · refine rz_lload_n 1 d_Ve_numberOf_12 rfl rfl ?_
      refine rz_ldc2 (v := 10) k_Ve_113 d_Ve_numberOf_13 ?_
      refine rz_lmul d_Ve_numberOf_16 ?_
      refine rz_aload_n 2 d_Ve_numberOf_17 rfl rfl ?_
      refine rz_iload_n 0 d_Ve_numberOf_18 rfl rfl ?_
      obtain ⟨tso2, fso2, so2⟩ := hs.ob
      refine rz_callV (As := [vi i]) (c_St_charAt hs (by omega)) m_Ve_48 so2 rfl rfl rfl rfl (Nat.le_of_ble_eq_true rfl) ⟨by decide, by decide⟩ ⟨by decide, by decide⟩ d_Ve_numberOf_19 (kE (h := h) ?_)
      refine rz_bipush (v := 48) d_Ve_numberOf_22 (by decide) ?_
      refine rz_isub d_Ve_numberOf_24 ?_
      refine rz_i2l (by have := hs.ok.2 i (by omega) (by omega); omega) d_Ve_numberOf_25 ?_
      refine rz_ladd d_Ve_numberOf_26 ?_
      refine rz_lstore_n [(1, vl ((v * 10) + ((f i) - 48))), (3, vi i), (0, .ref s)] d_Ve_numberOf_27 rfl (by decide) rfl ?_
      refine rz_iinc (i + 1) 1 [(3, vi (i + 1)), (1, vl ((v * 10) + ((f i) - 48))), (0, .ref s)] d_Ve_numberOf_28 rfl (by first | rfl | omega) (by decide) rfl ?_
      refine rz_goto 4 d_Ve_numberOf_31 (by decide) ?_
      refine rz_Lsub [(3, vi (i + 1)), (1, vl ((v * 10) + ((f i) - 48))), (0, .ref s)] [0, 1, 2] rfl ?_
      refine ih4 (i + 1, ((v * 10) + ((f i) - 48))) ?_ ?_
      · try dsimp only
        exact ⟨by omega, by omega, (by rw [hv, numF_go (by omega)]; congr 1 <;> omega)⟩
      · exact (by first | omega | (dsimp only; omega))
  · refine rz_Lsub [(3, vi 0), (1, vl 0), (0, .ref s)] [0, 1, 2] rfl ?_
    refine LP (0, 0) ?_
    try dsimp only
    exact ⟨by omega, by omega, (by rw [show ((n : Int) - 0).toNat = n by omega])⟩
abbrev rm_Ve_dictionaryPlace : Room := { frames := 4, cells := 0, slots := 0, locals := 85 }
set_option maxRecDepth 100000 in
set_option maxHeartbeats 4000000 in
theorem c_Ve_dictionaryPlace {l : Launch} {Γ : rz_G} {h : rz_H} {s n mm : Nat} {f : Int → Int} (hs : StrAt Γ h s n f mm) : Ct l Γ x_Ve_dictionaryPlace y_Ve_dictionaryPlace rm_Ve_dictionaryPlace [.ref s] h (pEL (dic f 0 n) h) := by
  refine rz_met (by decide) rfl rfl (Nat.le_of_ble_eq_true rfl) (fun K _ => ?_)
  refine rz_Leq [(0, .ref s)] rfl ?_
  have hn100 := hs.ok.1
  refine rz_lconst (v := 0) d_Ve_dictionaryPlace_0 (by decide) ?_
  refine rz_lstore_n [(1, vl 0), (0, .ref s)] d_Ve_dictionaryPlace_1 rfl (by decide) rfl ?_
  refine rz_iconst d_Ve_dictionaryPlace_2 ?_
  refine rz_istore_n [(3, vi 0), (1, vl 0), (0, .ref s)] d_Ve_dictionaryPlace_3 rfl (by decide) rfl ?_
  refine rz_loop (α := Int × Int) 0 0 4 (fun (i, v) => ((12 : Int) - i).toNat) (fun (i, v) => 0 ≤ i ∧ i ≤ 12 ∧ dic f 0 n = dpF f 0 n ((12 : Int) - i).toNat i v) (fun (i, v) => [(3, vi i), (1, vl v), (0, .ref s)]) (fun (i, v) => []) (fun (i, v) => h) (fun y hy ih4 => ?_) (fun LP => ?_)
  · obtain ⟨i, v⟩ := y
    try dsimp only at hy ih4 ⊢
    obtain ⟨hi0, hi1, hv⟩ := hy
    refine rz_iload_n 0 d_Ve_dictionaryPlace_4 rfl rfl ?_
    refine rz_bipush (v := 12) d_Ve_dictionaryPlace_5 (by decide) ?_
    refine rz_icmp_ge 50 d_Ve_dictionaryPlace_7 (by decide) (by omega) ⟨by decide, by decide⟩ (fun c7 => ?_) (fun c7 => ?_)
    · refine rz_lload_n 1 d_Ve_dictionaryPlace_50 rfl rfl ?_
      exact rz_lreturn (st := []) rfl d_Ve_dictionaryPlace_51 ⟨by decide, by decide⟩ ⟨_, rfl, (by rw [hv, show ((12 : Int) - i).toNat = 0 by omega]; rfl), rfl⟩
    · refine rz_iload_n 0 d_Ve_dictionaryPlace_10 rfl rfl ?_
      refine rz_aload_n 2 d_Ve_dictionaryPlace_11 rfl rfl ?_
      obtain ⟨tso1, fso1, so1⟩ := hs.ob
      refine rz_callV (As := []) (c_St_length hs) m_Ve_23 so1 rfl rfl rfl rfl (Nat.le_of_ble_eq_true rfl) ⟨by decide, by decide⟩ ⟨by decide, by decide⟩ d_Ve_dictionaryPlace_12 (kE (h := h) ?_)
      refine rz_icmp_ge 31 d_Ve_dictionaryPlace_15 (by decide) (by omega) (by omega) (fun c15 => ?_) (fun c15 => ?_)
      · refine rz_iconst d_Ve_dictionaryPlace_31 ?_
        refine rz_istore [(4, vi 0), (3, vi i), (1, vl v), (0, .ref s)] d_Ve_dictionaryPlace_32 (by decide) rfl ?_
        refine rz_lload_n 2 d_Ve_dictionaryPlace_34 rfl rfl ?_
        refine rz_ldc2 (v := 27) k_Ve_115 d_Ve_dictionaryPlace_35 ?_
        refine rz_lmul d_Ve_dictionaryPlace_38 ?_
        refine rz_iload 0 d_Ve_dictionaryPlace_39 rfl ?_
        refine rz_i2l (by first | omega | (have := hs.ok.2 i (by omega) (by omega); omega)) d_Ve_dictionaryPlace_41 ?_
        refine rz_ladd d_Ve_dictionaryPlace_42 ?_
        refine rz_lstore_n [(1, vl ((v * 27) + 0)), (4, vi 0), (3, vi i), (0, .ref s)] d_Ve_dictionaryPlace_43 rfl (by decide) rfl ?_
        refine rz_iinc (i + 1) 2 [(3, vi (i + 1)), (1, vl ((v * 27) + 0)), (4, vi 0), (0, .ref s)] d_Ve_dictionaryPlace_44 rfl (by first | rfl | omega) (by decide) rfl ?_
        refine rz_goto 4 d_Ve_dictionaryPlace_47 (by decide) ?_
        refine rz_Lsub [(3, vi (i + 1)), (1, vl ((v * 27) + 0)), (0, .ref s)] [0, 1, 3] rfl ?_
        refine ih4 (i + 1, ((v * 27) + 0)) ?_ ?_
        · try dsimp only
          exact ⟨by omega, by omega, (by rw [hv, dpF_e (by omega), if_neg (by omega)]; congr 1 <;> omega)⟩
        · exact (by first | omega | (dsimp only; omega))
      · refine rz_aload_n 2 d_Ve_dictionaryPlace_18 rfl rfl ?_
        refine rz_iload_n 0 d_Ve_dictionaryPlace_19 rfl rfl ?_
        obtain ⟨tso2, fso2, so2⟩ := hs.ob
        refine rz_callV (As := [vi i]) (c_St_charAt hs (by omega)) m_Ve_48 so2 rfl rfl rfl rfl (Nat.le_of_ble_eq_true rfl) ⟨by decide, by decide⟩ ⟨by decide, by decide⟩ d_Ve_dictionaryPlace_20 (kE (h := h) ?_)
        refine rz_bipush (v := 97) d_Ve_dictionaryPlace_23 (by decide) ?_
        refine rz_isub d_Ve_dictionaryPlace_25 ?_
        refine rz_iconst d_Ve_dictionaryPlace_26 ?_
        refine rz_iadd d_Ve_dictionaryPlace_27 ?_
        refine rz_goto 32 d_Ve_dictionaryPlace_28 (by decide) ?_
        refine rz_istore [(4, vi (((f i) - 97) + 1)), (3, vi i), (1, vl v), (0, .ref s)] d_Ve_dictionaryPlace_32 (by decide) rfl ?_
        refine rz_lload_n 2 d_Ve_dictionaryPlace_34 rfl rfl ?_
        refine rz_ldc2 (v := 27) k_Ve_115 d_Ve_dictionaryPlace_35 ?_
        refine rz_lmul d_Ve_dictionaryPlace_38 ?_
        refine rz_iload 0 d_Ve_dictionaryPlace_39 rfl ?_
        refine rz_i2l (by first | omega | (have := hs.ok.2 i (by omega) (by omega); omega)) d_Ve_dictionaryPlace_41 ?_
        refine rz_ladd d_Ve_dictionaryPlace_42 ?_
        refine rz_lstore_n [(1, vl ((v * 27) + (((f i) - 97) + 1))), (4, vi (((f i) - 97) + 1)), (3, vi i), (0, .ref s)] d_Ve_dictionaryPlace_43 rfl (by decide) rfl ?_
        refine rz_iinc (i + 1) 2 [(3, vi (i + 1)), (1, vl ((v * 27) + (((f i) - 97) + 1))), (4, vi (((f i) - 97) + 1)), (0, .ref s)] d_Ve_dictionaryPlace_44 rfl (by first | rfl | omega) (by decide) rfl ?_
        refine rz_goto 4 d_Ve_dictionaryPlace_47 (by decide) ?_
        refine rz_Lsub [(3, vi (i + 1)), (1, vl ((v * 27) + (((f i) - 97) + 1))), (0, .ref s)] [0, 1, 3] rfl ?_
        refine ih4 (i + 1, ((v * 27) + (((f i) - 97) + 1))) ?_ ?_
        · try dsimp only
          exact ⟨by omega, by omega, (by rw [hv, dpF_e (by omega), if_pos (by omega), show (0 : Int) + i = i by omega]; congr 1 <;> omega)⟩
        · exact (by first | omega | (dsimp only; omega))
  · refine rz_Lsub [(3, vi 0), (1, vl 0), (0, .ref s)] [0, 1, 2] rfl ?_
    refine LP (0, 0) ?_
    try dsimp only
    exact ⟨by omega, by omega, rfl⟩

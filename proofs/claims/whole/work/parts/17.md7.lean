/-! the reference: rankOf, words -/
def zrF (f : Int → Int) : Nat → Int → Bool
  | 0, _ => true
  | n + 1, i => if f i = 48 then zrF f n (i + 1) else false
theorem zrF_go {f : Int → Int} {n : Nat} {i : Int} (hn : 0 < n) (h : f i = 48) : zrF f n i = zrF f (n - 1) (i + 1) := by
  cases n with
  | zero => omega
  | succ n => simp only [zrF]; rw [if_pos h]; rfl
theorem zrF_no {f : Int → Int} {n : Nat} {i : Int} (hn : 0 < n) (h : ¬ f i = 48) : zrF f n i = false := by
  cases n with
  | zero => omega
  | succ n => simp only [zrF]; rw [if_neg h]
/-- the rank of the item that stands at a .. e -/
def rkI (f : Int → Int) (a e : Int) : Int := if isL (f a) = true then wrR (wrd f a e) (decide (e - a = 1) && isD (f e)) else if zrF f (e - a).toNat a = true then 6 else 9
theorem wrR_in (w : Int) (sh : Bool) : 1 ≤ wrR w sh ∧ wrR w sh ≤ 8 := by
  unfold wrR
  repeat' split
  all_goals omega
theorem rkI_in (f : Int → Int) (a e : Int) : 1 ≤ rkI f a e ∧ rkI f a e ≤ 9 := by
  unfold rkI
  split
  · have := wrR_in (wrd f a e) (decide (e - a = 1) && isD (f e)); omega
  · split <;> omega
abbrev rm_Md_rankOf : Room := { frames := 4, cells := 0, slots := 0, locals := 96 }
set_option maxRecDepth 100000 in
set_option maxHeartbeats 4000000 in
theorem c_Md_rankOf {l : Launch} {Γ : rz_G} {h : rz_H} {x : Nat} {ad : Nat → Nat} {M : Nat → Int → Int} (hM : MdAt Γ h x ad M) (hw : mWF M) {t : Int} {th : Bool} (ht : 0 ≤ t ∧ t < 126) (h17 : 0 ≤ M 17 0 ∧ M 17 0 ≤ 100) (h18 : 0 ≤ M 18 0 ∧ M 18 0 ≤ 100) : Ct l Γ x_Md_rankOf y_Md_rankOf rm_Md_rankOf [.ref x, vi t, vi (bi th)] h (pE (if th = true then rkI (mAt M t) (M 17 0) (M 18 0) else 6) h) := by
  refine rz_met (by decide) rfl rfl (Nat.le_of_ble_eq_true rfl) (fun K _ => ?_)
  refine rz_Leq [(0, .ref x), (1, vi t), (2, vi (bi th))] rfl ?_
  refine rz_iload_n 2 d_Md_rankOf_0 rfl rfl ?_
  refine rz_if_neB 7 d_Md_rankOf_1 (by decide) (fun c1 => ?_) (fun c1 => ?_)
  · refine rz_aload_n 0 d_Md_rankOf_7 rfl rfl ?_
    refine rz_iload_n 1 d_Md_rankOf_8 rfl rfl ?_
    refine rz_aload_n 0 d_Md_rankOf_9 rfl rfl ?_
    refine rz_getf f_Md_78 hM.1 rfl d_Md_rankOf_10 ?_
    refine rz_callV (As := [vi t, vi (M 17 0)]) (c_Md_at hM hw ht (by omega)) m_Md_74 hM.1 rfl rfl rfl rfl (Nat.le_of_ble_eq_true rfl) ⟨by decide, by decide⟩ ⟨by decide, by decide⟩ d_Md_rankOf_13 (kE (h := h) ?_)
    refine rz_callS (As := [vi (mAt M t (M 17 0))]) (c_Md_letter (by have := mAt_in hw ht (M 17 0); omega)) m_Md_64 rfl rfl (Nat.le_of_ble_eq_true rfl) ⟨by decide, by decide⟩ ⟨by decide, by decide⟩ d_Md_rankOf_16 (kE (h := h) ?_)
    refine rz_if_eqB 36 d_Md_rankOf_19 (by decide) (fun c19 => ?_) (fun c19 => ?_)
    · refine rz_aload_n 0 d_Md_rankOf_36 rfl rfl ?_
      refine rz_getf f_Md_78 hM.1 rfl d_Md_rankOf_37 ?_
      refine rz_istore_n [(3, vi (M 17 0)), (0, .ref x), (1, vi t), (2, vi (bi th))] d_Md_rankOf_40 rfl (by decide) rfl ?_
      refine rz_loop (α := Int) 0 0 41 (fun i => (M 18 0 - i).toNat) (fun i => M 17 0 ≤ i ∧ (i ≤ M 18 0 ∨ i = M 17 0) ∧ zrF (mAt M t) (M 18 0 - M 17 0).toNat (M 17 0) = zrF (mAt M t) (M 18 0 - i).toNat i) (fun i => [(3, vi i), (0, .ref x), (1, vi t), (2, vi (bi th))]) (fun i => []) (fun i => h) (fun y hy ih41 => ?_) (fun LP => ?_)
      · obtain ⟨i, rfl⟩ : ∃ z, z = y := ⟨_, rfl⟩
        try dsimp only at hy ih41 ⊢
        obtain ⟨hi0, hi1, hv⟩ := hy
        refine rz_iload_n 0 d_Md_rankOf_41 rfl rfl ?_
        refine rz_aload_n 1 d_Md_rankOf_42 rfl rfl ?_
        refine rz_getf f_Md_82 hM.1 rfl d_Md_rankOf_43 ?_
        refine rz_icmp_ge 69 d_Md_rankOf_46 (by decide) (by omega) (by omega) (fun c46 => ?_) (fun c46 => ?_)
        · refine rz_bipush (v := 6) d_Md_rankOf_69 (by decide) ?_
          exact rz_ireturn (st := []) rfl d_Md_rankOf_71 ⟨by decide, by decide⟩ ⟨_, rfl, (by rw [if_pos c1, rkI, if_neg (by simp [*]), hv, show (M 18 0 - i).toNat = 0 by omega]; rfl), rfl⟩
        · refine rz_aload_n 1 d_Md_rankOf_49 rfl rfl ?_
          refine rz_iload_n 2 d_Md_rankOf_50 rfl rfl ?_
          refine rz_iload_n 0 d_Md_rankOf_51 rfl rfl ?_
          refine rz_callV (As := [vi t, vi i]) (c_Md_at hM hw ht (by omega)) m_Md_74 hM.1 rfl rfl rfl rfl (Nat.le_of_ble_eq_true rfl) ⟨by decide, by decide⟩ ⟨by decide, by decide⟩ d_Md_rankOf_52 (kE (h := h) ?_)
          refine rz_bipush (v := 48) d_Md_rankOf_55 (by decide) ?_
          refine rz_icmp_eq 63 d_Md_rankOf_57 (by decide) (by have := mAt_in hw ht i; omega) ⟨by decide, by decide⟩ (fun c57 => ?_) (fun c57 => ?_)
          · refine rz_iinc (i + 1) 0 [(3, vi (i + 1)), (0, .ref x), (1, vi t), (2, vi (bi th))] d_Md_rankOf_63 rfl (by first | rfl | omega) (by decide) rfl ?_
            refine rz_goto 41 d_Md_rankOf_66 (by decide) ?_
            refine rz_Lsub [(3, vi (i + 1)), (0, .ref x), (1, vi t), (2, vi (bi th))] [0, 1, 2, 3] rfl ?_
            refine ih41 (i + 1) ?_ ?_
            · try dsimp only
              exact ⟨by omega, by omega, (by rw [hv, zrF_go (by omega) (by omega)]; congr 1; omega)⟩
            · exact (by first | omega | (dsimp only; omega))
          · refine rz_bipush (v := 9) d_Md_rankOf_60 (by decide) ?_
            exact rz_ireturn (st := []) rfl d_Md_rankOf_62 ⟨by decide, by decide⟩ ⟨_, rfl, (by rw [if_pos c1, rkI, if_neg (by simp [*]), hv, zrF_no (by omega) (by omega)]; rfl), rfl⟩
      · refine rz_Lsub [(3, vi (M 17 0)), (0, .ref x), (1, vi t), (2, vi (bi th))] [0, 1, 2, 3] rfl ?_
        refine LP (M 17 0) ?_
        try dsimp only
        exact ⟨by omega, by omega, rfl⟩
    · refine rz_aload_n 0 d_Md_rankOf_22 rfl rfl ?_
      refine rz_iload_n 1 d_Md_rankOf_23 rfl rfl ?_
      refine rz_aload_n 0 d_Md_rankOf_24 rfl rfl ?_
      refine rz_getf f_Md_78 hM.1 rfl d_Md_rankOf_25 ?_
      refine rz_aload_n 0 d_Md_rankOf_28 rfl rfl ?_
      refine rz_getf f_Md_82 hM.1 rfl d_Md_rankOf_29 ?_
      refine rz_callV (As := [vi t, vi (M 17 0), vi (M 18 0)]) (c_Md_wordRank hM hw ht (by omega) (by omega)) m_Md_121 hM.1 rfl rfl rfl rfl (Nat.le_of_ble_eq_true rfl) ⟨by decide, by decide⟩ ⟨by decide, by decide⟩ d_Md_rankOf_32 (kE (h := h) ?_)
      exact rz_ireturn (st := []) rfl d_Md_rankOf_35 ⟨by decide, by decide⟩ ⟨_, rfl, (by rw [if_pos c1, rkI, if_pos c19]), rfl⟩
  · refine rz_bipush (v := 6) d_Md_rankOf_4 (by decide) ?_
    exact rz_ireturn (st := []) rfl d_Md_rankOf_6 ⟨by decide, by decide⟩ ⟨_, rfl, (by simp [*]), rfl⟩
def wcX (f : Int → Int) (a ae i : Int) : Int := if a + i < ae then f (a + i) else 0
def wcF (f g : Int → Int) (a ae b be : Int) : Nat → Int → Int
  | 0, _ => 0
  | n + 1, i => if a + i < ae ∨ b + i < be then (if wcX f a ae i = wcX g b be i then wcF f g a ae b be n (i + 1) else if wcX f a ae i < wcX g b be i then -1 else 1) else 0
/-- two words in the order of a dictionary -/
def wcp (f g : Int → Int) (a ae b be : Int) : Int := wcF f g a ae b be 101 0
theorem wcF_e (f g : Int → Int) (a ae b be : Int) {n : Nat} {i : Int} (hn : 0 < n) : wcF f g a ae b be n i = if a + i < ae ∨ b + i < be then (if wcX f a ae i = wcX g b be i then wcF f g a ae b be (n - 1) (i + 1) else if wcX f a ae i < wcX g b be i then -1 else 1) else 0 := by
  cases n with
  | zero => omega
  | succ n => rfl
theorem wcF_in (f g : Int → Int) (a ae b be : Int) : ∀ (n : Nat) (i : Int), -1 ≤ wcF f g a ae b be n i ∧ wcF f g a ae b be n i ≤ 1
  | 0, _ => by simp [wcF]
  | n + 1, i => by
    have ih := wcF_in f g a ae b be n (i + 1)
    simp only [wcF]
    repeat' split
    all_goals omega
theorem wcX_in {f : Int → Int} (hf : ∀ j, 0 ≤ f j ∧ f j ≤ 127) (a ae i : Int) : 0 ≤ wcX f a ae i ∧ wcX f a ae i ≤ 127 := by
  unfold wcX
  split
  · exact hf _
  · omega
abbrev rm_Md_words : Room := { frames := 2, cells := 0, slots := 0, locals := 44 }
set_option maxRecDepth 100000 in
set_option maxHeartbeats 4000000 in
theorem c_Md_words {l : Launch} {Γ : rz_G} {h : rz_H} {x : Nat} {ad : Nat → Nat} {M : Nat → Int → Int} (hM : MdAt Γ h x ad M) (hw : mWF M) {t u a ae b be : Int} (ht : 0 ≤ t ∧ t < 126) (hu : 0 ≤ u ∧ u < 126) (ha : 0 ≤ a ∧ a ≤ 100) (hae : 0 ≤ ae ∧ ae ≤ 100) (hb : 0 ≤ b ∧ b ≤ 100) (hbe : 0 ≤ be ∧ be ≤ 100) : Ct l Γ x_Md_words y_Md_words rm_Md_words [.ref x, vi t, vi a, vi ae, vi u, vi b, vi be] h (pE (wcp (mAt M t) (mAt M u) a ae b be) h) := by
  refine rz_met (by decide) rfl rfl (Nat.le_of_ble_eq_true rfl) (fun K _ => ?_)
  refine rz_Leq [(0, .ref x), (1, vi t), (2, vi a), (3, vi ae), (4, vi u), (5, vi b), (6, vi be)] rfl ?_
  refine rz_iconst d_Md_words_0 ?_
  refine rz_istore [(7, vi 0), (0, .ref x), (1, vi t), (2, vi a), (3, vi ae), (4, vi u), (5, vi b), (6, vi be)] d_Md_words_1 (by decide) rfl ?_
  refine rz_loop (α := Int) 0 0 3 (fun i => (101 - i).toNat) (fun i => 0 ≤ i ∧ i ≤ 100 ∧ wcF (mAt M t) (mAt M u) a ae b be 101 0 = wcF (mAt M t) (mAt M u) a ae b be (101 - i).toNat i) (fun i => [(7, vi i), (0, .ref x), (1, vi t), (2, vi a), (3, vi ae), (4, vi u), (5, vi b), (6, vi be)]) (fun i => []) (fun i => h) (fun y hy ih3 => ?_) (fun LP => ?_)
  · obtain ⟨i, rfl⟩ : ∃ z, z = y := ⟨_, rfl⟩
    try dsimp only at hy ih3 ⊢
    obtain ⟨hi0, hi1, hv⟩ := hy
    refine rz_iload_n 3 d_Md_words_3 rfl rfl ?_
    refine rz_cut (α := Unit) 0 0 21 (fun _ => a + i < ae ∨ b + i < be) (fun _ => [(7, vi i), (0, .ref x), (1, vi t), (2, vi a), (3, vi ae), (4, vi u), (5, vi b), (6, vi be)]) (fun _ => []) (fun _ => h) (fun _ k21 => ?_) (fun J21 => ?_)
    · refine rz_cut (α := Unit) 0 0 42 (fun _ => True) (fun _ => [(7, vi i), (0, .ref x), (1, vi t), (2, vi a), (3, vi ae), (4, vi u), (5, vi b), (6, vi be)]) (fun _ => [vi (wcX (mAt M t) a ae i)]) (fun _ => h) (fun _ _ => ?_) (fun J42 => ?_)
      · refine rz_top (fun xx e_xx => ?_)
        replace e_xx := e_xx.symm
        refine rz_istore [(8, vi xx), (7, vi i), (0, .ref x), (1, vi t), (2, vi a), (3, vi ae), (4, vi u), (5, vi b), (6, vi be)] d_Md_words_42 (by decide) rfl ?_
        have hx := wcX_in (mAt_in hw ht) a ae i
        rw [e_xx] at hx
        refine rz_cut (α := Unit) 0 0 69 (fun _ => True) (fun _ => [(8, vi xx), (7, vi i), (0, .ref x), (1, vi t), (2, vi a), (3, vi ae), (4, vi u), (5, vi b), (6, vi be)]) (fun _ => [vi (wcX (mAt M u) b be i)]) (fun _ => h) (fun _ _ => ?_) (fun J69 => ?_)
        · refine rz_top (fun yy e_yy => ?_)
          replace e_yy := e_yy.symm
          refine rz_istore [(9, vi yy), (8, vi xx), (7, vi i), (0, .ref x), (1, vi t), (2, vi a), (3, vi ae), (4, vi u), (5, vi b), (6, vi be)] d_Md_words_69 (by decide) rfl ?_
          have hy := wcX_in (mAt_in hw hu) b be i
          rw [e_yy] at hy
          refine rz_iload 1 d_Md_words_71 rfl ?_
          refine rz_iload 0 d_Md_words_73 rfl ?_
          refine rz_icmp_eq 91 d_Md_words_75 (by decide) (by omega) (by omega) (fun c75 => ?_) (fun c75 => ?_)
          · refine rz_iinc (i + 1) 2 [(7, vi (i + 1)), (9, vi yy), (8, vi xx), (0, .ref x), (1, vi t), (2, vi a), (3, vi ae), (4, vi u), (5, vi b), (6, vi be)] d_Md_words_91 rfl (by first | rfl | omega) (by decide) rfl ?_
            refine rz_goto 3 d_Md_words_94 (by decide) ?_
            refine rz_Lsub [(7, vi (i + 1)), (0, .ref x), (1, vi t), (2, vi a), (3, vi ae), (4, vi u), (5, vi b), (6, vi be)] [0, 3, 4, 5, 6, 7, 8, 9] rfl ?_
            refine ih3 (i + 1) ?_ ?_
            · try dsimp only
              exact ⟨by omega, by omega, (by rw [hv, wcF_e _ _ _ _ _ _ (by omega), if_pos k21, if_pos (by rw [e_xx, e_yy]; exact c75)]; congr 1; omega)⟩
            · exact (by first | omega | (dsimp only; omega))
          · refine rz_iload 1 d_Md_words_78 rfl ?_
            refine rz_iload 0 d_Md_words_80 rfl ?_
            refine rz_icmp_ge 89 d_Md_words_82 (by decide) (by omega) (by omega) (fun c82 => ?_) (fun c82 => ?_)
            · refine rz_iconst d_Md_words_89 ?_
              exact rz_ireturn (st := []) rfl d_Md_words_90 ⟨by decide, by decide⟩ ⟨_, rfl, (by rw [wcp, hv, wcF_e _ _ _ _ _ _ (by omega), if_pos k21, if_neg (by rw [e_xx, e_yy]; exact c75), if_neg (by omega)]), rfl⟩
            · refine rz_iconst d_Md_words_85 ?_
              refine rz_goto 90 d_Md_words_86 (by decide) ?_
              exact rz_ireturn (st := []) rfl d_Md_words_90 ⟨by decide, by decide⟩ ⟨_, rfl, (by rw [wcp, hv, wcF_e _ _ _ _ _ _ (by omega), if_pos k21, if_neg (by rw [e_xx, e_yy]; exact c75), if_pos (by omega)]), rfl⟩
        · refine rz_iload 7 d_Md_words_44 rfl ?_
          refine rz_iload 1 d_Md_words_46 rfl ?_
          refine rz_iadd d_Md_words_48 ?_
          refine rz_iload 8 d_Md_words_49 rfl ?_
          refine rz_icmp_ge 68 d_Md_words_51 (by decide) (by omega) (by omega) (fun c51 => ?_) (fun c51 => ?_)
          · refine rz_iconst d_Md_words_68 ?_
            refine rz_Seq [vi (wcX (mAt M u) b be i)] (by rw [wcX, if_neg (by omega)]) ?_
            exact J69 () trivial
          · refine rz_aload_n 2 d_Md_words_54 rfl rfl ?_
            refine rz_iload 6 d_Md_words_55 rfl ?_
            refine rz_iload 7 d_Md_words_57 rfl ?_
            refine rz_iload 1 d_Md_words_59 rfl ?_
            refine rz_iadd d_Md_words_61 ?_
            refine rz_callV (As := [vi u, vi (b + i)]) (c_Md_at hM hw hu (by omega)) m_Md_74 hM.1 rfl rfl rfl rfl (Nat.le_of_ble_eq_true rfl) ⟨by decide, by decide⟩ ⟨by decide, by decide⟩ d_Md_words_62 (kE (h := h) ?_)
            refine rz_goto 69 d_Md_words_65 (by decide) ?_
            refine rz_Seq [vi (wcX (mAt M u) b be i)] (by rw [wcX, if_pos (by omega)]) ?_
            exact J69 () trivial
      · refine rz_iload_n 3 d_Md_words_21 rfl rfl ?_
        refine rz_iload 0 d_Md_words_22 rfl ?_
        refine rz_iadd d_Md_words_24 ?_
        refine rz_iload_n 4 d_Md_words_25 rfl rfl ?_
        refine rz_icmp_ge 41 d_Md_words_26 (by decide) (by omega) (by omega) (fun c26 => ?_) (fun c26 => ?_)
        · refine rz_iconst d_Md_words_41 ?_
          refine rz_Seq [vi (wcX (mAt M t) a ae i)] (by rw [wcX, if_neg (by omega)]) ?_
          exact J42 () trivial
        · refine rz_aload_n 1 d_Md_words_29 rfl rfl ?_
          refine rz_iload_n 2 d_Md_words_30 rfl rfl ?_
          refine rz_iload_n 3 d_Md_words_31 rfl rfl ?_
          refine rz_iload 0 d_Md_words_32 rfl ?_
          refine rz_iadd d_Md_words_34 ?_
          refine rz_callV (As := [vi t, vi (a + i)]) (c_Md_at hM hw ht (by omega)) m_Md_74 hM.1 rfl rfl rfl rfl (Nat.le_of_ble_eq_true rfl) ⟨by decide, by decide⟩ ⟨by decide, by decide⟩ d_Md_words_35 (kE (h := h) ?_)
          refine rz_goto 42 d_Md_words_38 (by decide) ?_
          refine rz_Seq [vi (wcX (mAt M t) a ae i)] (by rw [wcX, if_pos (by omega)]) ?_
          exact J42 () trivial
    · refine rz_iload 0 d_Md_words_4 rfl ?_
      refine rz_iadd d_Md_words_6 ?_
      refine rz_iload_n 4 d_Md_words_7 rfl rfl ?_
      refine rz_icmp_lt 21 d_Md_words_8 (by decide) (by omega) (by omega) (fun c8 => ?_) (fun c8 => ?_)
      · exact J21 () (by omega)
      · refine rz_iload 6 d_Md_words_11 rfl ?_
        refine rz_iload 0 d_Md_words_13 rfl ?_
        refine rz_iadd d_Md_words_15 ?_
        refine rz_iload 7 d_Md_words_16 rfl ?_
        refine rz_icmp_ge 97 d_Md_words_18 (by decide) (by omega) (by omega) (fun c18 => ?_) (fun c18 => ?_)
        · refine rz_iconst d_Md_words_97 ?_
          exact rz_ireturn (st := []) rfl d_Md_words_98 ⟨by decide, by decide⟩ ⟨_, rfl, (by rw [wcp, hv, wcF_e _ _ _ _ _ _ (by omega), if_neg (by omega)]), rfl⟩
        · exact J21 () (by omega)
  · refine rz_Lsub [(7, vi 0), (0, .ref x), (1, vi t), (2, vi a), (3, vi ae), (4, vi u), (5, vi b), (6, vi be)] [0, 1, 2, 3, 4, 5, 6, 7] rfl ?_
    refine LP 0 ?_
    try dsimp only
    exact ⟨by omega, by omega, rfl⟩

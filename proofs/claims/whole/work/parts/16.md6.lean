/-! the reference: spelt, wordRank, rankOf, words -/
def spS (v b : Int) : Int := if 0 < b then v * 32 + b else v
def spE (a b c d e : Int) : Int := spS (spS (spS (spS a b) c) d) e
theorem spS_p {v b : Int} (h : 0 < b) : spS v b = v * 32 + b := if_pos h
theorem spS_n {v b : Int} (h : b ≤ 0) : spS v b = v := if_neg (by omega)
abbrev rm_Md_spelt : Room := { frames := 0, cells := 0, slots := 0, locals := 0 }
set_option maxRecDepth 100000 in
set_option maxHeartbeats 4000000 in
theorem c_Md_spelt {l : Launch} {Γ : rz_G} {h : rz_H} {a b c d e : Int} (ra : -2147483648 ≤ a ∧ a ≤ 2147483647) (rb : -2147483648 ≤ b ∧ b ≤ 2147483647) (rc : -2147483648 ≤ c ∧ c ≤ 2147483647) (rd : -2147483648 ≤ d ∧ d ≤ 2147483647) (re : -2147483648 ≤ e ∧ e ≤ 2147483647) : Ct l Γ x_Md_spelt y_Md_spelt rm_Md_spelt [vi a, vi b, vi c, vi d, vi e] h (pEL (spE a b c d e) h) := by
  refine rz_met (by decide) rfl rfl (Nat.le_of_ble_eq_true rfl) (fun K _ => ?_)
  refine rz_Leq [(0, vi a), (1, vi b), (2, vi c), (3, vi d), (4, vi e)] rfl ?_
  refine rz_iload_n 0 d_Md_spelt_0 rfl rfl ?_
  refine rz_i2l (by omega) d_Md_spelt_1 ?_
  refine rz_lstore [(5, vl a), (0, vi a), (1, vi b), (2, vi c), (3, vi d), (4, vi e)] d_Md_spelt_2 (by decide) rfl ?_
  refine rz_cut (α := Unit) 0 0 19 (fun _ => True) (fun _ => [(5, vl (spS a b)), (0, vi a), (1, vi b), (2, vi c), (3, vi d), (4, vi e)]) (fun _ => []) (fun _ => h) (fun _ _ => ?_) (fun J19 => ?_)
  · refine rz_cut (α := Unit) 0 0 34 (fun _ => True) (fun _ => [(5, vl (spS (spS a b) c)), (0, vi a), (1, vi b), (2, vi c), (3, vi d), (4, vi e)]) (fun _ => []) (fun _ => h) (fun _ _ => ?_) (fun J34 => ?_)
    · refine rz_cut (α := Unit) 0 0 49 (fun _ => True) (fun _ => [(5, vl (spS (spS (spS a b) c) d)), (0, vi a), (1, vi b), (2, vi c), (3, vi d), (4, vi e)]) (fun _ => []) (fun _ => h) (fun _ _ => ?_) (fun J49 => ?_)
      · refine rz_iload 5 d_Md_spelt_49 rfl ?_
        refine rz_if_le 67 d_Md_spelt_51 (by decide) (by omega) (fun c51 => ?_) (fun c51 => ?_)
        · refine rz_lload 0 d_Md_spelt_67 rfl ?_
          exact rz_lreturn (st := []) rfl d_Md_spelt_69 ⟨by decide, by decide⟩ ⟨_, rfl, (by rw [spE, spS_n (b := e) (by omega)]), rfl⟩
        · refine rz_lload 0 d_Md_spelt_54 rfl ?_
          refine rz_ldc2 (v := 32) k_Md_87 d_Md_spelt_56 ?_
          refine rz_lmul d_Md_spelt_59 ?_
          refine rz_iload 5 d_Md_spelt_60 rfl ?_
          refine rz_i2l (by omega) d_Md_spelt_62 ?_
          refine rz_ladd d_Md_spelt_63 ?_
          refine rz_goto 69 d_Md_spelt_64 (by decide) ?_
          exact rz_lreturn (st := []) rfl d_Md_spelt_69 ⟨by decide, by decide⟩ ⟨_, rfl, (by rw [spE, spS_p (b := e) (by omega)]), rfl⟩
      · refine rz_iload_n 4 d_Md_spelt_34 rfl rfl ?_
        refine rz_if_le 49 d_Md_spelt_35 (by decide) (by omega) (fun c35 => ?_) (fun c35 => ?_)
        · refine rz_Lsub [(5, vl (spS (spS a b) c)), (0, vi a), (1, vi b), (2, vi c), (3, vi d), (4, vi e)] [0, 1, 2, 3, 4, 5] rfl ?_
          refine rz_Leq [(5, vl (spS (spS (spS a b) c) d)), (0, vi a), (1, vi b), (2, vi c), (3, vi d), (4, vi e)] (by rw [spS_n (b := d) (by omega)]) ?_
          exact J49 () trivial
        · refine rz_lload 0 d_Md_spelt_38 rfl ?_
          refine rz_ldc2 (v := 32) k_Md_87 d_Md_spelt_40 ?_
          refine rz_lmul d_Md_spelt_43 ?_
          refine rz_iload_n 4 d_Md_spelt_44 rfl rfl ?_
          refine rz_i2l (by omega) d_Md_spelt_45 ?_
          refine rz_ladd d_Md_spelt_46 ?_
          refine rz_lstore [(5, vl (((spS (spS a b) c) * 32) + d)), (0, vi a), (1, vi b), (2, vi c), (3, vi d), (4, vi e)] d_Md_spelt_47 (by decide) rfl ?_
          refine rz_Lsub [(5, vl (((spS (spS a b) c) * 32) + d)), (0, vi a), (1, vi b), (2, vi c), (3, vi d), (4, vi e)] [0, 1, 2, 3, 4, 5] rfl ?_
          refine rz_Leq [(5, vl (spS (spS (spS a b) c) d)), (0, vi a), (1, vi b), (2, vi c), (3, vi d), (4, vi e)] (by rw [spS_p (b := d) (by omega)]) ?_
          exact J49 () trivial
    · refine rz_iload_n 3 d_Md_spelt_19 rfl rfl ?_
      refine rz_if_le 34 d_Md_spelt_20 (by decide) (by omega) (fun c20 => ?_) (fun c20 => ?_)
      · refine rz_Lsub [(5, vl (spS a b)), (0, vi a), (1, vi b), (2, vi c), (3, vi d), (4, vi e)] [0, 1, 2, 3, 4, 5] rfl ?_
        refine rz_Leq [(5, vl (spS (spS a b) c)), (0, vi a), (1, vi b), (2, vi c), (3, vi d), (4, vi e)] (by rw [spS_n (b := c) (by omega)]) ?_
        exact J34 () trivial
      · refine rz_lload 0 d_Md_spelt_23 rfl ?_
        refine rz_ldc2 (v := 32) k_Md_87 d_Md_spelt_25 ?_
        refine rz_lmul d_Md_spelt_28 ?_
        refine rz_iload_n 3 d_Md_spelt_29 rfl rfl ?_
        refine rz_i2l (by omega) d_Md_spelt_30 ?_
        refine rz_ladd d_Md_spelt_31 ?_
        refine rz_lstore [(5, vl (((spS a b) * 32) + c)), (0, vi a), (1, vi b), (2, vi c), (3, vi d), (4, vi e)] d_Md_spelt_32 (by decide) rfl ?_
        refine rz_Lsub [(5, vl (((spS a b) * 32) + c)), (0, vi a), (1, vi b), (2, vi c), (3, vi d), (4, vi e)] [0, 1, 2, 3, 4, 5] rfl ?_
        refine rz_Leq [(5, vl (spS (spS a b) c)), (0, vi a), (1, vi b), (2, vi c), (3, vi d), (4, vi e)] (by rw [spS_p (b := c) (by omega)]) ?_
        exact J34 () trivial
  · refine rz_iload_n 2 d_Md_spelt_4 rfl rfl ?_
    refine rz_if_le 19 d_Md_spelt_5 (by decide) (by omega) (fun c5 => ?_) (fun c5 => ?_)
    · refine rz_Lsub [(5, vl a), (0, vi a), (1, vi b), (2, vi c), (3, vi d), (4, vi e)] [0, 1, 2, 3, 4, 5] rfl ?_
      refine rz_Leq [(5, vl (spS a b)), (0, vi a), (1, vi b), (2, vi c), (3, vi d), (4, vi e)] (by rw [spS_n (b := b) (by omega)]) ?_
      exact J19 () trivial
    · refine rz_lload 0 d_Md_spelt_8 rfl ?_
      refine rz_ldc2 (v := 32) k_Md_87 d_Md_spelt_10 ?_
      refine rz_lmul d_Md_spelt_13 ?_
      refine rz_iload_n 2 d_Md_spelt_14 rfl rfl ?_
      refine rz_i2l (by omega) d_Md_spelt_15 ?_
      refine rz_ladd d_Md_spelt_16 ?_
      refine rz_lstore [(5, vl ((a * 32) + b)), (0, vi a), (1, vi b), (2, vi c), (3, vi d), (4, vi e)] d_Md_spelt_17 (by decide) rfl ?_
      refine rz_Lsub [(5, vl ((a * 32) + b)), (0, vi a), (1, vi b), (2, vi c), (3, vi d), (4, vi e)] [0, 1, 2, 3, 4, 5] rfl ?_
      refine rz_Leq [(5, vl (spS a b)), (0, vi a), (1, vi b), (2, vi c), (3, vi d), (4, vi e)] (by rw [spS_p (b := b) (by omega)]) ?_
      exact J19 () trivial
def wrR (w : Int) (sh : Bool) : Int := if w = 1458433 then 1 else if w = 71297 then 2 else if w = 14615962074565 then 3 else if w = 579 ∨ w = 114 then 4 else if w = 667918377460 then 5 else if w = 225 ∨ w = 6600748 ∨ w = 19507873381 then 6 else if w = 624 then 7 else if sh = true ∧ (w = 1 ∨ w = 2) then w else if sh = true ∧ w = 13 then 3 else 8
theorem wdF_in {f : Int → Int} (hf : ∀ j, 0 ≤ f j ∧ f j ≤ 127) : ∀ (n : Nat) (i v b : Int), 0 ≤ b → -b ≤ v ∧ v ≤ b → -((b + 4) * 32 ^ n) ≤ wdF f n i v ∧ wdF f n i v ≤ (b + 4) * 32 ^ n
  | 0, i, v, b, hb, hv => by
    simp only [wdF, Int.pow_zero, Int.mul_one]
    omega
  | n + 1, i, v, b, hb, hv => by
    have hc := hf i
    have ih := wdF_in hf n (i + 1) (v * 32 + f i - 96) (32 * b + 124) (by omega) (by omega)
    have e : (32 * b + 124 + 4) * (32 : Int) ^ n = (b + 4) * 32 ^ (n + 1) := by
      rw [Int.pow_succ, show 32 * b + 124 + 4 = (b + 4) * 32 by omega, Int.mul_assoc, Int.mul_comm 32]
    rw [e] at ih
    exact ih
theorem wrd_in {f : Int → Int} (hf : ∀ j, 0 ≤ f j ∧ f j ≤ 127) (lo hi : Int) : -1000000000000000 ≤ wrd f lo hi ∧ wrd f lo hi ≤ 1000000000000000 := by
  unfold wrd
  split
  · omega
  · have h := wdF_in hf (hi - lo).toNat lo 0 0 (by omega) (by omega)
    have h2 : (32 : Int) ^ (hi - lo).toNat ≤ 32 ^ 9 := by exact_mod_cast Nat.pow_le_pow_right (n := 32) (by decide) (show (hi - lo).toNat ≤ 9 by omega)
    have h3 : (32 : Int) ^ 9 = 35184372088832 := by decide
    rw [h3] at h2
    generalize (32 : Int) ^ (hi - lo).toNat = p at h h2
    omega
abbrev rm_Md_wordRank : Room := { frames := 3, cells := 0, slots := 0, locals := 70 }
set_option maxRecDepth 100000 in
set_option maxHeartbeats 4000000 in
theorem c_Md_wordRank {l : Launch} {Γ : rz_G} {h : rz_H} {x : Nat} {ad : Nat → Nat} {M : Nat → Int → Int} (hM : MdAt Γ h x ad M) (hw : mWF M) {t lo hi : Int} (ht : 0 ≤ t ∧ t < 126) (hlo : 0 ≤ lo ∧ lo ≤ 100) (hhi : -100 ≤ hi ∧ hi ≤ 100) : Ct l Γ x_Md_wordRank y_Md_wordRank rm_Md_wordRank [.ref x, vi t, vi lo, vi hi] h (pE (wrR (wrd (mAt M t) lo hi) (decide (hi - lo = 1) && isD (mAt M t hi))) h) := by
  refine rz_met (by decide) rfl rfl (Nat.le_of_ble_eq_true rfl) (fun K _ => ?_)
  refine rz_Leq [(0, .ref x), (1, vi t), (2, vi lo), (3, vi hi)] rfl ?_
  refine rz_aload_n 0 d_Md_wordRank_0 rfl rfl ?_
  refine rz_iload_n 1 d_Md_wordRank_1 rfl rfl ?_
  refine rz_iload_n 2 d_Md_wordRank_2 rfl rfl ?_
  refine rz_iload_n 3 d_Md_wordRank_3 rfl rfl ?_
  refine rz_callV (As := [vi t, vi lo, vi hi]) (c_Md_word hM hw ht (by omega) (by omega)) m_Md_91 hM.1 rfl rfl rfl rfl (Nat.le_of_ble_eq_true rfl) ⟨by decide, by decide⟩ ⟨by decide, by decide⟩ d_Md_wordRank_4 (kEL (h := h) ?_)
  refine rz_topl (fun w e_w => ?_)
  replace e_w := e_w.symm
  refine rz_lstore [(4, vl w), (0, .ref x), (1, vi t), (2, vi lo), (3, vi hi)] d_Md_wordRank_7 (by decide) rfl ?_
  have hwb := wrd_in (mAt_in hw ht) lo hi
  rw [e_w] at hwb
  refine rz_lload 0 d_Md_wordRank_9 rfl ?_
  refine rz_iconst d_Md_wordRank_11 ?_
  refine rz_bipush (v := 12) d_Md_wordRank_12 (by decide) ?_
  refine rz_bipush (v := 16) d_Md_wordRank_14 (by decide) ?_
  refine rz_bipush (v := 8) d_Md_wordRank_16 (by decide) ?_
  refine rz_iconst d_Md_wordRank_18 ?_
  refine rz_callS (As := [vi 1, vi 12, vi 16, vi 8, vi 1]) (c_Md_spelt ⟨by decide, by decide⟩ ⟨by decide, by decide⟩ ⟨by decide, by decide⟩ ⟨by decide, by decide⟩ ⟨by decide, by decide⟩) m_Md_95 rfl rfl (Nat.le_of_ble_eq_true rfl) ⟨by decide, by decide⟩ ⟨by decide, by decide⟩ d_Md_wordRank_19 (kEL (h := h) ?_)
  refine rz_Seq [vl 1458433, vl w] (by rw [show spE 1 12 16 8 1 = 1458433 from by decide]) ?_
  refine rz_lcmp (by omega) (by omega) d_Md_wordRank_22 ?_
  refine rz_if_neC 28 d_Md_wordRank_23 (by decide) (fun c23 => ?_) (fun c23 => ?_)
  · refine rz_lload 0 d_Md_wordRank_28 rfl ?_
    refine rz_iconst d_Md_wordRank_30 ?_
    refine rz_iconst d_Md_wordRank_31 ?_
    refine rz_bipush (v := 20) d_Md_wordRank_32 (by decide) ?_
    refine rz_iconst d_Md_wordRank_34 ?_
    refine rz_iconst d_Md_wordRank_35 ?_
    refine rz_callS (As := [vi 2, vi 5, vi 20, vi 1, vi 0]) (c_Md_spelt ⟨by decide, by decide⟩ ⟨by decide, by decide⟩ ⟨by decide, by decide⟩ ⟨by decide, by decide⟩ ⟨by decide, by decide⟩) m_Md_95 rfl rfl (Nat.le_of_ble_eq_true rfl) ⟨by decide, by decide⟩ ⟨by decide, by decide⟩ d_Md_wordRank_36 (kEL (h := h) ?_)
    refine rz_Seq [vl 71297, vl w] (by rw [show spE 2 5 20 1 0 = 71297 from by decide]) ?_
    refine rz_lcmp (by omega) (by omega) d_Md_wordRank_39 ?_
    refine rz_if_neC 45 d_Md_wordRank_40 (by decide) (fun c40 => ?_) (fun c40 => ?_)
    · refine rz_lload 0 d_Md_wordRank_45 rfl ?_
      refine rz_bipush (v := 13) d_Md_wordRank_47 (by decide) ?_
      refine rz_bipush (v := 9) d_Md_wordRank_49 (by decide) ?_
      refine rz_bipush (v := 12) d_Md_wordRank_51 (by decide) ?_
      refine rz_iconst d_Md_wordRank_53 ?_
      refine rz_bipush (v := 19) d_Md_wordRank_54 (by decide) ?_
      refine rz_callS (As := [vi 13, vi 9, vi 12, vi 5, vi 19]) (c_Md_spelt ⟨by decide, by decide⟩ ⟨by decide, by decide⟩ ⟨by decide, by decide⟩ ⟨by decide, by decide⟩ ⟨by decide, by decide⟩) m_Md_95 rfl rfl (Nat.le_of_ble_eq_true rfl) ⟨by decide, by decide⟩ ⟨by decide, by decide⟩ d_Md_wordRank_56 (kEL (h := h) ?_)
      refine rz_Seq [vl 13938867, vl w] (by rw [show spE 13 9 12 5 19 = 13938867 from by decide]) ?_
      refine rz_ldc2 (v := 32) k_Md_87 d_Md_wordRank_59 ?_
      refine rz_lmul d_Md_wordRank_62 ?_
      refine rz_ldc2 (v := 20) k_Md_99 d_Md_wordRank_63 ?_
      refine rz_ladd d_Md_wordRank_66 ?_
      refine rz_ldc2 (v := 32768) k_Md_101 d_Md_wordRank_67 ?_
      refine rz_lmul d_Md_wordRank_70 ?_
      refine rz_ldc2 (v := 15360) k_Md_103 d_Md_wordRank_71 ?_
      refine rz_ladd d_Md_wordRank_74 ?_
      refine rz_ldc2 (v := 448) k_Md_105 d_Md_wordRank_75 ?_
      refine rz_ladd d_Md_wordRank_78 ?_
      refine rz_ldc2 (v := 5) k_Md_107 d_Md_wordRank_79 ?_
      refine rz_ladd d_Md_wordRank_82 ?_
      refine rz_lcmp (by omega) (by omega) d_Md_wordRank_83 ?_
      refine rz_if_neC 89 d_Md_wordRank_84 (by decide) (fun c84 => ?_) (fun c84 => ?_)
      · refine rz_lload 0 d_Md_wordRank_89 rfl ?_
        refine rz_bipush (v := 18) d_Md_wordRank_91 (by decide) ?_
        refine rz_iconst d_Md_wordRank_93 ?_
        refine rz_iconst d_Md_wordRank_94 ?_
        refine rz_iconst d_Md_wordRank_95 ?_
        refine rz_iconst d_Md_wordRank_96 ?_
        refine rz_callS (As := [vi 18, vi 3, vi 0, vi 0, vi 0]) (c_Md_spelt ⟨by decide, by decide⟩ ⟨by decide, by decide⟩ ⟨by decide, by decide⟩ ⟨by decide, by decide⟩ ⟨by decide, by decide⟩) m_Md_95 rfl rfl (Nat.le_of_ble_eq_true rfl) ⟨by decide, by decide⟩ ⟨by decide, by decide⟩ d_Md_wordRank_97 (kEL (h := h) ?_)
        refine rz_Seq [vl 579, vl w] (by rw [show spE 18 3 0 0 0 = 579 from by decide]) ?_
        refine rz_lcmp (by omega) (by omega) d_Md_wordRank_100 ?_
        refine rz_if_eqC 119 d_Md_wordRank_101 (by decide) (fun c101 => ?_) (fun c101 => ?_)
        · refine rz_iconst d_Md_wordRank_119 ?_
          exact rz_ireturn (st := []) rfl d_Md_wordRank_120 ⟨by decide, by decide⟩ ⟨_, rfl, (by rw [e_w]; unfold wrR; first | (simp [*]; done) | (simp only [*]; simp; done) | grind), rfl⟩
        · refine rz_lload 0 d_Md_wordRank_104 rfl ?_
          refine rz_iconst d_Md_wordRank_106 ?_
          refine rz_bipush (v := 18) d_Md_wordRank_107 (by decide) ?_
          refine rz_iconst d_Md_wordRank_109 ?_
          refine rz_iconst d_Md_wordRank_110 ?_
          refine rz_iconst d_Md_wordRank_111 ?_
          refine rz_callS (As := [vi 3, vi 18, vi 0, vi 0, vi 0]) (c_Md_spelt ⟨by decide, by decide⟩ ⟨by decide, by decide⟩ ⟨by decide, by decide⟩ ⟨by decide, by decide⟩ ⟨by decide, by decide⟩) m_Md_95 rfl rfl (Nat.le_of_ble_eq_true rfl) ⟨by decide, by decide⟩ ⟨by decide, by decide⟩ d_Md_wordRank_112 (kEL (h := h) ?_)
          refine rz_Seq [vl 114, vl w] (by rw [show spE 3 18 0 0 0 = 114 from by decide]) ?_
          refine rz_lcmp (by omega) (by omega) d_Md_wordRank_115 ?_
          refine rz_if_neC 121 d_Md_wordRank_116 (by decide) (fun c116 => ?_) (fun c116 => ?_)
          · refine rz_lload 0 d_Md_wordRank_121 rfl ?_
            refine rz_bipush (v := 19) d_Md_wordRank_123 (by decide) ?_
            refine rz_bipush (v := 14) d_Md_wordRank_125 (by decide) ?_
            refine rz_iconst d_Md_wordRank_127 ?_
            refine rz_bipush (v := 16) d_Md_wordRank_128 (by decide) ?_
            refine rz_bipush (v := 19) d_Md_wordRank_130 (by decide) ?_
            refine rz_callS (As := [vi 19, vi 14, vi 1, vi 16, vi 19]) (c_Md_spelt ⟨by decide, by decide⟩ ⟨by decide, by decide⟩ ⟨by decide, by decide⟩ ⟨by decide, by decide⟩ ⟨by decide, by decide⟩) m_Md_95 rfl rfl (Nat.le_of_ble_eq_true rfl) ⟨by decide, by decide⟩ ⟨by decide, by decide⟩ d_Md_wordRank_132 (kEL (h := h) ?_)
            refine rz_Seq [vl 20383251, vl w] (by rw [show spE 19 14 1 16 19 = 20383251 from by decide]) ?_
            refine rz_ldc2 (v := 32768) k_Md_101 d_Md_wordRank_135 ?_
            refine rz_lmul d_Md_wordRank_138 ?_
            refine rz_ldc2 (v := 8192) k_Md_109 d_Md_wordRank_139 ?_
            refine rz_ladd d_Md_wordRank_142 ?_
            refine rz_ldc2 (v := 480) k_Md_111 d_Md_wordRank_143 ?_
            refine rz_ladd d_Md_wordRank_146 ?_
            refine rz_ldc2 (v := 20) k_Md_99 d_Md_wordRank_147 ?_
            refine rz_ladd d_Md_wordRank_150 ?_
            refine rz_lcmp (by omega) (by omega) d_Md_wordRank_151 ?_
            refine rz_if_neC 157 d_Md_wordRank_152 (by decide) (fun c152 => ?_) (fun c152 => ?_)
            · refine rz_lload 0 d_Md_wordRank_157 rfl ?_
              refine rz_bipush (v := 7) d_Md_wordRank_159 (by decide) ?_
              refine rz_iconst d_Md_wordRank_161 ?_
              refine rz_iconst d_Md_wordRank_162 ?_
              refine rz_iconst d_Md_wordRank_163 ?_
              refine rz_iconst d_Md_wordRank_164 ?_
              refine rz_callS (As := [vi 7, vi 1, vi 0, vi 0, vi 0]) (c_Md_spelt ⟨by decide, by decide⟩ ⟨by decide, by decide⟩ ⟨by decide, by decide⟩ ⟨by decide, by decide⟩ ⟨by decide, by decide⟩) m_Md_95 rfl rfl (Nat.le_of_ble_eq_true rfl) ⟨by decide, by decide⟩ ⟨by decide, by decide⟩ d_Md_wordRank_165 (kEL (h := h) ?_)
              refine rz_Seq [vl 225, vl w] (by rw [show spE 7 1 0 0 0 = 225 from by decide]) ?_
              refine rz_lcmp (by omega) (by omega) d_Md_wordRank_168 ?_
              refine rz_if_eqC 218 d_Md_wordRank_169 (by decide) (fun c169 => ?_) (fun c169 => ?_)
              · refine rz_bipush (v := 6) d_Md_wordRank_218 (by decide) ?_
                exact rz_ireturn (st := []) rfl d_Md_wordRank_220 ⟨by decide, by decide⟩ ⟨_, rfl, (by rw [e_w]; unfold wrR; first | (simp [*]; done) | (simp only [*]; simp; done) | grind), rfl⟩
              · refine rz_lload 0 d_Md_wordRank_172 rfl ?_
                refine rz_bipush (v := 6) d_Md_wordRank_174 (by decide) ?_
                refine rz_bipush (v := 9) d_Md_wordRank_176 (by decide) ?_
                refine rz_bipush (v := 14) d_Md_wordRank_178 (by decide) ?_
                refine rz_iconst d_Md_wordRank_180 ?_
                refine rz_bipush (v := 12) d_Md_wordRank_181 (by decide) ?_
                refine rz_callS (As := [vi 6, vi 9, vi 14, vi 1, vi 12]) (c_Md_spelt ⟨by decide, by decide⟩ ⟨by decide, by decide⟩ ⟨by decide, by decide⟩ ⟨by decide, by decide⟩ ⟨by decide, by decide⟩) m_Md_95 rfl rfl (Nat.le_of_ble_eq_true rfl) ⟨by decide, by decide⟩ ⟨by decide, by decide⟩ d_Md_wordRank_183 (kEL (h := h) ?_)
                refine rz_Seq [vl 6600748, vl w] (by rw [show spE 6 9 14 1 12 = 6600748 from by decide]) ?_
                refine rz_lcmp (by omega) (by omega) d_Md_wordRank_186 ?_
                refine rz_if_eqC 218 d_Md_wordRank_187 (by decide) (fun c187 => ?_) (fun c187 => ?_)
                · refine rz_bipush (v := 6) d_Md_wordRank_218 (by decide) ?_
                  exact rz_ireturn (st := []) rfl d_Md_wordRank_220 ⟨by decide, by decide⟩ ⟨_, rfl, (by rw [e_w]; unfold wrR; first | (simp [*]; done) | (simp only [*]; simp; done) | grind), rfl⟩
                · refine rz_lload 0 d_Md_wordRank_190 rfl ?_
                  refine rz_bipush (v := 18) d_Md_wordRank_192 (by decide) ?_
                  refine rz_iconst d_Md_wordRank_194 ?_
                  refine rz_bipush (v := 12) d_Md_wordRank_195 (by decide) ?_
                  refine rz_iconst d_Md_wordRank_197 ?_
                  refine rz_iconst d_Md_wordRank_198 ?_
                  refine rz_callS (As := [vi 18, vi 5, vi 12, vi 5, vi 1]) (c_Md_spelt ⟨by decide, by decide⟩ ⟨by decide, by decide⟩ ⟨by decide, by decide⟩ ⟨by decide, by decide⟩ ⟨by decide, by decide⟩) m_Md_95 rfl rfl (Nat.le_of_ble_eq_true rfl) ⟨by decide, by decide⟩ ⟨by decide, by decide⟩ d_Md_wordRank_199 (kEL (h := h) ?_)
                  refine rz_Seq [vl 19050657, vl w] (by rw [show spE 18 5 12 5 1 = 19050657 from by decide]) ?_
                  refine rz_ldc2 (v := 1024) k_Md_113 d_Md_wordRank_202 ?_
                  refine rz_lmul d_Md_wordRank_205 ?_
                  refine rz_ldc2 (v := 608) k_Md_115 d_Md_wordRank_206 ?_
                  refine rz_ladd d_Md_wordRank_209 ?_
                  refine rz_ldc2 (v := 5) k_Md_107 d_Md_wordRank_210 ?_
                  refine rz_ladd d_Md_wordRank_213 ?_
                  refine rz_lcmp (by omega) (by omega) d_Md_wordRank_214 ?_
                  refine rz_if_neC 221 d_Md_wordRank_215 (by decide) (fun c215 => ?_) (fun c215 => ?_)
                  · refine rz_lload 0 d_Md_wordRank_221 rfl ?_
                    refine rz_bipush (v := 19) d_Md_wordRank_223 (by decide) ?_
                    refine rz_bipush (v := 16) d_Md_wordRank_225 (by decide) ?_
                    refine rz_iconst d_Md_wordRank_227 ?_
                    refine rz_iconst d_Md_wordRank_228 ?_
                    refine rz_iconst d_Md_wordRank_229 ?_
                    refine rz_callS (As := [vi 19, vi 16, vi 0, vi 0, vi 0]) (c_Md_spelt ⟨by decide, by decide⟩ ⟨by decide, by decide⟩ ⟨by decide, by decide⟩ ⟨by decide, by decide⟩ ⟨by decide, by decide⟩) m_Md_95 rfl rfl (Nat.le_of_ble_eq_true rfl) ⟨by decide, by decide⟩ ⟨by decide, by decide⟩ d_Md_wordRank_230 (kEL (h := h) ?_)
                    refine rz_Seq [vl 624, vl w] (by rw [show spE 19 16 0 0 0 = 624 from by decide]) ?_
                    refine rz_lcmp (by omega) (by omega) d_Md_wordRank_233 ?_
                    refine rz_if_neC 240 d_Md_wordRank_234 (by decide) (fun c234 => ?_) (fun c234 => ?_)
                    · refine rz_cut (α := Unit) 0 0 264 (fun _ => True) (fun _ => [(4, vl w), (0, .ref x), (1, vi t), (2, vi lo), (3, vi hi)]) (fun _ => [vi (bi (decide (hi - lo = 1) && isD (mAt M t hi)))]) (fun _ => h) (fun _ _ => ?_) (fun J264 => ?_)
                      · refine rz_istore [(6, vi (bi (decide (hi - lo = 1) && isD (mAt M t hi)))), (4, vl w), (0, .ref x), (1, vi t), (2, vi lo), (3, vi hi)] d_Md_wordRank_264 (by decide) rfl ?_
                        refine rz_iload 0 d_Md_wordRank_266 rfl ?_
                        refine rz_if_eqB 278 d_Md_wordRank_268 (by decide) (fun c268 => ?_) (fun c268 => ?_)
                        · refine rz_iload 0 d_Md_wordRank_278 rfl ?_
                          refine rz_if_eqB 296 d_Md_wordRank_280 (by decide) (fun c280 => ?_) (fun c280 => ?_)
                          · refine rz_iload 0 d_Md_wordRank_296 rfl ?_
                            refine rz_if_eqB 314 d_Md_wordRank_298 (by decide) (fun c298 => ?_) (fun c298 => ?_)
                            · refine rz_bipush (v := 8) d_Md_wordRank_314 (by decide) ?_
                              exact rz_ireturn (st := []) rfl d_Md_wordRank_316 ⟨by decide, by decide⟩ ⟨_, rfl, (by rw [e_w]; unfold wrR; first | (simp [*]; done) | (simp only [*]; simp; done) | grind), rfl⟩
                            · refine rz_lload 1 d_Md_wordRank_301 rfl ?_
                              refine rz_ldc2 (v := 13) k_Md_119 d_Md_wordRank_303 ?_
                              refine rz_lcmp (by omega) (by omega) d_Md_wordRank_306 ?_
                              refine rz_if_neC 314 d_Md_wordRank_307 (by decide) (fun c307 => ?_) (fun c307 => ?_)
                              · refine rz_bipush (v := 8) d_Md_wordRank_314 (by decide) ?_
                                exact rz_ireturn (st := []) rfl d_Md_wordRank_316 ⟨by decide, by decide⟩ ⟨_, rfl, (by rw [e_w]; unfold wrR; first | (simp [*]; done) | (simp only [*]; simp; done) | grind), rfl⟩
                              · refine rz_iconst d_Md_wordRank_310 ?_
                                refine rz_goto 316 d_Md_wordRank_311 (by decide) ?_
                                exact rz_ireturn (st := []) rfl d_Md_wordRank_316 ⟨by decide, by decide⟩ ⟨_, rfl, (by rw [e_w]; unfold wrR; first | (simp [*]; done) | (simp only [*]; simp; done) | grind), rfl⟩
                          · refine rz_lload 1 d_Md_wordRank_283 rfl ?_
                            refine rz_ldc2 (v := 2) k_Md_117 d_Md_wordRank_285 ?_
                            refine rz_lcmp (by omega) (by omega) d_Md_wordRank_288 ?_
                            refine rz_if_neC 296 d_Md_wordRank_289 (by decide) (fun c289 => ?_) (fun c289 => ?_)
                            · refine rz_iload 0 d_Md_wordRank_296 rfl ?_
                              refine rz_if_eqB 314 d_Md_wordRank_298 (by decide) (fun c298 => ?_) (fun c298 => ?_)
                              · refine rz_bipush (v := 8) d_Md_wordRank_314 (by decide) ?_
                                exact rz_ireturn (st := []) rfl d_Md_wordRank_316 ⟨by decide, by decide⟩ ⟨_, rfl, (by rw [e_w]; unfold wrR; first | (simp [*]; done) | (simp only [*]; simp; done) | grind), rfl⟩
                              · refine rz_lload 1 d_Md_wordRank_301 rfl ?_
                                refine rz_ldc2 (v := 13) k_Md_119 d_Md_wordRank_303 ?_
                                refine rz_lcmp (by omega) (by omega) d_Md_wordRank_306 ?_
                                refine rz_if_neC 314 d_Md_wordRank_307 (by decide) (fun c307 => ?_) (fun c307 => ?_)
                                · refine rz_bipush (v := 8) d_Md_wordRank_314 (by decide) ?_
                                  exact rz_ireturn (st := []) rfl d_Md_wordRank_316 ⟨by decide, by decide⟩ ⟨_, rfl, (by rw [e_w]; unfold wrR; first | (simp [*]; done) | (simp only [*]; simp; done) | grind), rfl⟩
                                · refine rz_iconst d_Md_wordRank_310 ?_
                                  refine rz_goto 316 d_Md_wordRank_311 (by decide) ?_
                                  exact rz_ireturn (st := []) rfl d_Md_wordRank_316 ⟨by decide, by decide⟩ ⟨_, rfl, (by rw [e_w]; unfold wrR; first | (simp [*]; done) | (simp only [*]; simp; done) | grind), rfl⟩
                            · refine rz_lload 1 d_Md_wordRank_292 rfl ?_
                              refine rz_l2i d_Md_wordRank_294 ?_
                              exact rz_ireturn (st := []) rfl d_Md_wordRank_295 ⟨by decide, by decide⟩ ⟨_, rfl, (by rw [e_w]; unfold wrR; first | (simp [*]; done) | (simp only [*]; simp; done) | grind), rfl⟩
                        · refine rz_lload 1 d_Md_wordRank_271 rfl ?_
                          refine rz_lconst (v := 1) d_Md_wordRank_273 (by decide) ?_
                          refine rz_lcmp (by omega) (by omega) d_Md_wordRank_274 ?_
                          refine rz_if_eqC 292 d_Md_wordRank_275 (by decide) (fun c275 => ?_) (fun c275 => ?_)
                          · refine rz_lload 1 d_Md_wordRank_292 rfl ?_
                            refine rz_l2i d_Md_wordRank_294 ?_
                            exact rz_ireturn (st := []) rfl d_Md_wordRank_295 ⟨by decide, by decide⟩ ⟨_, rfl, (by rw [e_w]; unfold wrR; first | (simp [*]; done) | (simp only [*]; simp; done) | grind), rfl⟩
                          · refine rz_iload 0 d_Md_wordRank_278 rfl ?_
                            refine rz_if_eqB 296 d_Md_wordRank_280 (by decide) (fun c280 => ?_) (fun c280 => ?_)
                            · refine rz_iload 0 d_Md_wordRank_296 rfl ?_
                              refine rz_if_eqB 314 d_Md_wordRank_298 (by decide) (fun c298 => ?_) (fun c298 => ?_)
                              · refine rz_bipush (v := 8) d_Md_wordRank_314 (by decide) ?_
                                exact rz_ireturn (st := []) rfl d_Md_wordRank_316 ⟨by decide, by decide⟩ ⟨_, rfl, (by rw [e_w]; unfold wrR; first | (simp [*]; done) | (simp only [*]; simp; done) | grind), rfl⟩
                              · refine rz_lload 1 d_Md_wordRank_301 rfl ?_
                                refine rz_ldc2 (v := 13) k_Md_119 d_Md_wordRank_303 ?_
                                refine rz_lcmp (by omega) (by omega) d_Md_wordRank_306 ?_
                                refine rz_if_neC 314 d_Md_wordRank_307 (by decide) (fun c307 => ?_) (fun c307 => ?_)
                                · refine rz_bipush (v := 8) d_Md_wordRank_314 (by decide) ?_
                                  exact rz_ireturn (st := []) rfl d_Md_wordRank_316 ⟨by decide, by decide⟩ ⟨_, rfl, (by rw [e_w]; unfold wrR; first | (simp [*]; done) | (simp only [*]; simp; done) | grind), rfl⟩
                                · refine rz_iconst d_Md_wordRank_310 ?_
                                  refine rz_goto 316 d_Md_wordRank_311 (by decide) ?_
                                  exact rz_ireturn (st := []) rfl d_Md_wordRank_316 ⟨by decide, by decide⟩ ⟨_, rfl, (by rw [e_w]; unfold wrR; first | (simp [*]; done) | (simp only [*]; simp; done) | grind), rfl⟩
                            · refine rz_lload 1 d_Md_wordRank_283 rfl ?_
                              refine rz_ldc2 (v := 2) k_Md_117 d_Md_wordRank_285 ?_
                              refine rz_lcmp (by omega) (by omega) d_Md_wordRank_288 ?_
                              refine rz_if_neC 296 d_Md_wordRank_289 (by decide) (fun c289 => ?_) (fun c289 => ?_)
                              · refine rz_iload 0 d_Md_wordRank_296 rfl ?_
                                refine rz_if_eqB 314 d_Md_wordRank_298 (by decide) (fun c298 => ?_) (fun c298 => ?_)
                                · refine rz_bipush (v := 8) d_Md_wordRank_314 (by decide) ?_
                                  exact rz_ireturn (st := []) rfl d_Md_wordRank_316 ⟨by decide, by decide⟩ ⟨_, rfl, (by rw [e_w]; unfold wrR; first | (simp [*]; done) | (simp only [*]; simp; done) | grind), rfl⟩
                                · refine rz_lload 1 d_Md_wordRank_301 rfl ?_
                                  refine rz_ldc2 (v := 13) k_Md_119 d_Md_wordRank_303 ?_
                                  refine rz_lcmp (by omega) (by omega) d_Md_wordRank_306 ?_
                                  refine rz_if_neC 314 d_Md_wordRank_307 (by decide) (fun c307 => ?_) (fun c307 => ?_)
                                  · refine rz_bipush (v := 8) d_Md_wordRank_314 (by decide) ?_
                                    exact rz_ireturn (st := []) rfl d_Md_wordRank_316 ⟨by decide, by decide⟩ ⟨_, rfl, (by rw [e_w]; unfold wrR; first | (simp [*]; done) | (simp only [*]; simp; done) | grind), rfl⟩
                                  · refine rz_iconst d_Md_wordRank_310 ?_
                                    refine rz_goto 316 d_Md_wordRank_311 (by decide) ?_
                                    exact rz_ireturn (st := []) rfl d_Md_wordRank_316 ⟨by decide, by decide⟩ ⟨_, rfl, (by rw [e_w]; unfold wrR; first | (simp [*]; done) | (simp only [*]; simp; done) | grind), rfl⟩
                              · refine rz_lload 1 d_Md_wordRank_292 rfl ?_
                                refine rz_l2i d_Md_wordRank_294 ?_
                                exact rz_ireturn (st := []) rfl d_Md_wordRank_295 ⟨by decide, by decide⟩ ⟨_, rfl, (by rw [e_w]; unfold wrR; first | (simp [*]; done) | (simp only [*]; simp; done) | grind), rfl⟩
                      · refine rz_iload_n 4 d_Md_wordRank_240 rfl rfl ?_
                        refine rz_iload_n 3 d_Md_wordRank_241 rfl rfl ?_
                        refine rz_isub d_Md_wordRank_242 ?_
                        refine rz_iconst d_Md_wordRank_243 ?_
                        refine rz_icmp_ne 263 d_Md_wordRank_244 (by decide) (by omega) ⟨by decide, by decide⟩ (fun c244 => ?_) (fun c244 => ?_)
                        · refine rz_iconst d_Md_wordRank_263 ?_
                          refine rz_Seq [vi (bi (decide (hi - lo = 1) && isD (mAt M t hi)))] (by rw [show (decide (hi - lo = 1) && isD (mAt M t hi)) = false from by simp [*]]; rfl) ?_
                          exact J264 () trivial
                        · refine rz_aload_n 1 d_Md_wordRank_247 rfl rfl ?_
                          refine rz_iload_n 2 d_Md_wordRank_248 rfl rfl ?_
                          refine rz_iload_n 4 d_Md_wordRank_249 rfl rfl ?_
                          refine rz_callV (As := [vi t, vi hi]) (c_Md_at hM hw ht (by omega)) m_Md_74 hM.1 rfl rfl rfl rfl (Nat.le_of_ble_eq_true rfl) ⟨by decide, by decide⟩ ⟨by decide, by decide⟩ d_Md_wordRank_250 (kE (h := h) ?_)
                          refine rz_callS (As := [vi (mAt M t hi)]) (c_Md_digit (by have := mAt_in hw ht hi; omega)) m_Md_60 rfl rfl (Nat.le_of_ble_eq_true rfl) ⟨by decide, by decide⟩ ⟨by decide, by decide⟩ d_Md_wordRank_253 (kE (h := h) ?_)
                          refine rz_if_eqB 263 d_Md_wordRank_256 (by decide) (fun c256 => ?_) (fun c256 => ?_)
                          · refine rz_iconst d_Md_wordRank_263 ?_
                            refine rz_Seq [vi (bi (decide (hi - lo = 1) && isD (mAt M t hi)))] (by rw [show (decide (hi - lo = 1) && isD (mAt M t hi)) = false from by simp [*]]; rfl) ?_
                            exact J264 () trivial
                          · refine rz_iconst d_Md_wordRank_259 ?_
                            refine rz_goto 264 d_Md_wordRank_260 (by decide) ?_
                            refine rz_Seq [vi (bi (decide (hi - lo = 1) && isD (mAt M t hi)))] (by rw [show (decide (hi - lo = 1) && isD (mAt M t hi)) = true from by simp [*]]; rfl) ?_
                            exact J264 () trivial
                    · refine rz_bipush (v := 7) d_Md_wordRank_237 (by decide) ?_
                      exact rz_ireturn (st := []) rfl d_Md_wordRank_239 ⟨by decide, by decide⟩ ⟨_, rfl, (by rw [e_w]; unfold wrR; first | (simp [*]; done) | (simp only [*]; simp; done) | grind), rfl⟩
                  · refine rz_bipush (v := 6) d_Md_wordRank_218 (by decide) ?_
                    exact rz_ireturn (st := []) rfl d_Md_wordRank_220 ⟨by decide, by decide⟩ ⟨_, rfl, (by rw [e_w]; unfold wrR; first | (simp [*]; done) | (simp only [*]; simp; done) | grind), rfl⟩
            · refine rz_iconst d_Md_wordRank_155 ?_
              exact rz_ireturn (st := []) rfl d_Md_wordRank_156 ⟨by decide, by decide⟩ ⟨_, rfl, (by rw [e_w]; unfold wrR; first | (simp [*]; done) | (simp only [*]; simp; done) | grind), rfl⟩
          · refine rz_iconst d_Md_wordRank_119 ?_
            exact rz_ireturn (st := []) rfl d_Md_wordRank_120 ⟨by decide, by decide⟩ ⟨_, rfl, (by rw [e_w]; unfold wrR; first | (simp [*]; done) | (simp only [*]; simp; done) | grind), rfl⟩
      · refine rz_iconst d_Md_wordRank_87 ?_
        exact rz_ireturn (st := []) rfl d_Md_wordRank_88 ⟨by decide, by decide⟩ ⟨_, rfl, (by rw [e_w]; unfold wrR; first | (simp [*]; done) | (simp only [*]; simp; done) | grind), rfl⟩
    · refine rz_iconst d_Md_wordRank_43 ?_
      exact rz_ireturn (st := []) rfl d_Md_wordRank_44 ⟨by decide, by decide⟩ ⟨_, rfl, (by rw [e_w]; unfold wrR; first | (simp [*]; done) | (simp only [*]; simp; done) | grind), rfl⟩
  · refine rz_iconst d_Md_wordRank_26 ?_
    exact rz_ireturn (st := []) rfl d_Md_wordRank_27 ⟨by decide, by decide⟩ ⟨_, rfl, (by rw [e_w]; unfold wrR; first | (simp [*]; done) | (simp only [*]; simp; done) | grind), rfl⟩

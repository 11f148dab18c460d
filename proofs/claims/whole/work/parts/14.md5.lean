/-! the reference: number, word, spelt, comma -/
def numF (f : Int → Int) : Nat → Int → Int → Int
  | 0, _, v => v
  | n + 1, i, v => numF f n (i + 1) (10 * v + f i - 48)
theorem numF_go {f : Int → Int} {n : Nat} {i v : Int} (hn : 0 < n) : numF f n i v = numF f (n - 1) (i + 1) (10 * v + f i - 48) := by
  cases n with
  | zero => omega
  | succ n => rfl
def wdF (f : Int → Int) : Nat → Int → Int → Int
  | 0, _, v => v
  | n + 1, i, v => wdF f n (i + 1) (v * 32 + f i - 96)
theorem wdF_go {f : Int → Int} {n : Nat} {i v : Int} (hn : 0 < n) : wdF f n i v = wdF f (n - 1) (i + 1) (v * 32 + f i - 96) := by
  cases n with
  | zero => omega
  | succ n => rfl
/-- a word by its letters, -1 if it has more than nine -/
def wrd (f : Int → Int) (lo hi : Int) : Int := if 9 < hi - lo then -1 else wdF f (hi - lo).toNat lo 0
theorem wrd_fin {f : Int → Int} {lo hi i v : Int} (h0 : hi ≤ i) (h1 : 9 < hi - lo → lo < i → v = -1) (h2 : ¬ 9 < hi - lo → wdF f (hi - lo).toNat lo 0 = wdF f (hi - i).toNat i v) : v = wrd f lo hi := by
  unfold wrd
  by_cases q : 9 < hi - lo
  · rw [if_pos q, h1 q (by omega)]
  · rw [if_neg q, h2 q, show (hi - i).toNat = 0 by omega]
    rfl
abbrev rm_Md_number : Room := { frames := 2, cells := 0, slots := 0, locals := 44 }
set_option maxRecDepth 100000 in
set_option maxHeartbeats 4000000 in
theorem c_Md_number {l : Launch} {Γ : rz_G} {h : rz_H} {x : Nat} {ad : Nat → Nat} {M : Nat → Int → Int} (hM : MdAt Γ h x ad M) (hw : mWF M) {t lo hi : Int} (ht : 0 ≤ t ∧ t < 126) (hlo : 0 ≤ lo ∧ lo ≤ 100) (hhi : -100 ≤ hi ∧ hi ≤ 100) : Ct l Γ x_Md_number y_Md_number rm_Md_number [.ref x, vi t, vi lo, vi hi] h (pEL (numF (mAt M t) (hi - lo).toNat lo 0) h) := by
  refine rz_met (by decide) rfl rfl (Nat.le_of_ble_eq_true rfl) (fun K _ => ?_)
  refine rz_Leq [(0, .ref x), (1, vi t), (2, vi lo), (3, vi hi)] rfl ?_
  refine rz_lconst (v := 0) d_Md_number_0 (by decide) ?_
  refine rz_lstore [(4, vl 0), (0, .ref x), (1, vi t), (2, vi lo), (3, vi hi)] d_Md_number_1 (by decide) rfl ?_
  refine rz_iload_n 3 d_Md_number_3 rfl rfl ?_
  refine rz_istore [(6, vi lo), (4, vl 0), (0, .ref x), (1, vi t), (2, vi lo), (3, vi hi)] d_Md_number_4 (by decide) rfl ?_
  refine rz_loop (α := Int × Int) 0 0 6 (fun (i, v) => (hi - i).toNat) (fun (i, v) => lo ≤ i ∧ (i ≤ hi ∨ i = lo) ∧ numF (mAt M t) (hi - lo).toNat lo 0 = numF (mAt M t) (hi - i).toNat i v) (fun (i, v) => [(6, vi i), (4, vl v), (0, .ref x), (1, vi t), (2, vi lo), (3, vi hi)]) (fun (i, v) => []) (fun (i, v) => h) (fun y hy ih6 => ?_) (fun LP => ?_)
  · obtain ⟨i, v⟩ := y
    try dsimp only at hy ih6 ⊢
    obtain ⟨hi0, hi1, hv⟩ := hy
    refine rz_iload 0 d_Md_number_6 rfl ?_
    refine rz_iload_n 5 d_Md_number_8 rfl rfl ?_
    refine rz_icmp_ge 39 d_Md_number_9 (by decide) (by omega) (by omega) (fun c9 => ?_) (fun c9 => ?_)
    · refine rz_lload 1 d_Md_number_39 rfl ?_
      exact rz_lreturn (st := []) rfl d_Md_number_41 ⟨by decide, by decide⟩ ⟨_, rfl, (by rw [hv, show (hi - i).toNat = 0 by omega]; rfl), rfl⟩
    · refine rz_ldc2 (v := 10) k_Md_125 d_Md_number_12 ?_
      refine rz_lload 1 d_Md_number_15 rfl ?_
      refine rz_lmul d_Md_number_17 ?_
      refine rz_aload_n 2 d_Md_number_18 rfl rfl ?_
      refine rz_iload_n 3 d_Md_number_19 rfl rfl ?_
      refine rz_iload 0 d_Md_number_20 rfl ?_
      refine rz_callV (As := [vi t, vi i]) (c_Md_at hM hw ht (by omega)) m_Md_74 hM.1 rfl rfl rfl rfl (Nat.le_of_ble_eq_true rfl) ⟨by decide, by decide⟩ ⟨by decide, by decide⟩ d_Md_number_22 (kE (h := h) ?_)
      refine rz_i2l (by have := mAt_in hw ht i; omega) d_Md_number_25 ?_
      refine rz_ladd d_Md_number_26 ?_
      refine rz_ldc2 (v := 48) k_Md_127 d_Md_number_27 ?_
      refine rz_lsub d_Md_number_30 ?_
      refine rz_lstore [(4, vl (((10 * v) + (mAt M t i)) - 48)), (6, vi i), (0, .ref x), (1, vi t), (2, vi lo), (3, vi hi)] d_Md_number_31 (by decide) rfl ?_
      refine rz_iinc (i + 1) 1 [(6, vi (i + 1)), (4, vl (((10 * v) + (mAt M t i)) - 48)), (0, .ref x), (1, vi t), (2, vi lo), (3, vi hi)] d_Md_number_33 rfl (by first | rfl | omega) (by decide) rfl ?_
      refine rz_goto 6 d_Md_number_36 (by decide) ?_
      refine rz_Lsub [(6, vi (i + 1)), (4, vl (((10 * v) + (mAt M t i)) - 48)), (0, .ref x), (1, vi t), (2, vi lo), (3, vi hi)] [0, 1, 2, 3, 4, 5] rfl ?_
      refine ih6 (i + 1, ((10 * v) + (mAt M t i)) - 48) ?_ ?_
      · try dsimp only
        exact ⟨by omega, by omega, (by rw [hv, numF_go (by omega)]; congr 1; omega)⟩
      · exact (by first | omega | (dsimp only; omega))
  · refine rz_Lsub [(6, vi lo), (4, vl 0), (0, .ref x), (1, vi t), (2, vi lo), (3, vi hi)] [0, 1, 2, 3, 4, 5] rfl ?_
    refine LP (lo, 0) ?_
    try dsimp only
    exact ⟨by omega, by omega, rfl⟩
abbrev rm_Md_word : Room := { frames := 2, cells := 0, slots := 0, locals := 44 }
set_option maxRecDepth 100000 in
set_option maxHeartbeats 4000000 in
theorem c_Md_word {l : Launch} {Γ : rz_G} {h : rz_H} {x : Nat} {ad : Nat → Nat} {M : Nat → Int → Int} (hM : MdAt Γ h x ad M) (hw : mWF M) {t lo hi : Int} (ht : 0 ≤ t ∧ t < 126) (hlo : 0 ≤ lo ∧ lo ≤ 100) (hhi : -100 ≤ hi ∧ hi ≤ 100) : Ct l Γ x_Md_word y_Md_word rm_Md_word [.ref x, vi t, vi lo, vi hi] h (pEL (wrd (mAt M t) lo hi) h) := by
  refine rz_met (by decide) rfl rfl (Nat.le_of_ble_eq_true rfl) (fun K _ => ?_)
  refine rz_Leq [(0, .ref x), (1, vi t), (2, vi lo), (3, vi hi)] rfl ?_
  refine rz_lconst (v := 0) d_Md_word_0 (by decide) ?_
  refine rz_lstore [(4, vl 0), (0, .ref x), (1, vi t), (2, vi lo), (3, vi hi)] d_Md_word_1 (by decide) rfl ?_
  refine rz_iload_n 3 d_Md_word_3 rfl rfl ?_
  refine rz_istore [(6, vi lo), (4, vl 0), (0, .ref x), (1, vi t), (2, vi lo), (3, vi hi)] d_Md_word_4 (by decide) rfl ?_
  refine rz_loop (α := Int × Int) 0 0 6 (fun (i, v) => (hi - i).toNat) (fun (i, v) => lo ≤ i ∧ (i ≤ hi ∨ i = lo) ∧ (9 < hi - lo → lo < i → v = -1) ∧ (¬ 9 < hi - lo → wdF (mAt M t) (hi - lo).toNat lo 0 = wdF (mAt M t) (hi - i).toNat i v)) (fun (i, v) => [(6, vi i), (4, vl v), (0, .ref x), (1, vi t), (2, vi lo), (3, vi hi)]) (fun (i, v) => []) (fun (i, v) => h) (fun y hy ih6 => ?_) (fun LP => ?_)
  · obtain ⟨i, v⟩ := y
    try dsimp only at hy ih6 ⊢
    obtain ⟨hi0, hi1, hv1, hv⟩ := hy
    refine rz_iload 0 d_Md_word_6 rfl ?_
    refine rz_iload_n 5 d_Md_word_8 rfl rfl ?_
    refine rz_icmp_ge 53 d_Md_word_9 (by decide) (by omega) (by omega) (fun c9 => ?_) (fun c9 => ?_)
    · refine rz_lload 1 d_Md_word_53 rfl ?_
      exact rz_lreturn (st := []) rfl d_Md_word_55 ⟨by decide, by decide⟩ ⟨_, rfl, wrd_fin c9 hv1 hv, rfl⟩
    · refine rz_iload_n 5 d_Md_word_12 rfl rfl ?_
      refine rz_iload_n 4 d_Md_word_13 rfl rfl ?_
      refine rz_isub d_Md_word_14 ?_
      refine rz_bipush (v := 9) d_Md_word_15 (by decide) ?_
      refine rz_icmp_le 26 d_Md_word_17 (by decide) (by omega) ⟨by decide, by decide⟩ (fun c17 => ?_) (fun c17 => ?_)
      · refine rz_lload 1 d_Md_word_26 rfl ?_
        refine rz_ldc2 (v := 32) k_Md_87 d_Md_word_28 ?_
        refine rz_lmul d_Md_word_31 ?_
        refine rz_aload_n 2 d_Md_word_32 rfl rfl ?_
        refine rz_iload_n 3 d_Md_word_33 rfl rfl ?_
        refine rz_iload 0 d_Md_word_34 rfl ?_
        refine rz_callV (As := [vi t, vi i]) (c_Md_at hM hw ht (by omega)) m_Md_74 hM.1 rfl rfl rfl rfl (Nat.le_of_ble_eq_true rfl) ⟨by decide, by decide⟩ ⟨by decide, by decide⟩ d_Md_word_36 (kE (h := h) ?_)
        refine rz_i2l (by have := mAt_in hw ht i; omega) d_Md_word_39 ?_
        refine rz_ladd d_Md_word_40 ?_
        refine rz_ldc2 (v := 96) k_Md_89 d_Md_word_41 ?_
        refine rz_lsub d_Md_word_44 ?_
        refine rz_lstore [(4, vl (((v * 32) + (mAt M t i)) - 96)), (6, vi i), (0, .ref x), (1, vi t), (2, vi lo), (3, vi hi)] d_Md_word_45 (by decide) rfl ?_
        refine rz_iinc (i + 1) 1 [(6, vi (i + 1)), (4, vl (((v * 32) + (mAt M t i)) - 96)), (0, .ref x), (1, vi t), (2, vi lo), (3, vi hi)] d_Md_word_47 rfl (by first | rfl | omega) (by decide) rfl ?_
        refine rz_goto 6 d_Md_word_50 (by decide) ?_
        refine rz_Lsub [(6, vi (i + 1)), (4, vl (((v * 32) + (mAt M t i)) - 96)), (0, .ref x), (1, vi t), (2, vi lo), (3, vi hi)] [0, 1, 2, 3, 4, 5] rfl ?_
        refine ih6 (i + 1, ((v * 32) + (mAt M t i)) - 96) ?_ ?_
        · try dsimp only
          exact ⟨by omega, by omega, (fun q _ => by first | rfl | omega), (fun q => by first | omega | (rw [hv q, wdF_go (by omega)]; congr 1; omega))⟩
        · exact (by first | omega | (dsimp only; omega))
      · refine rz_ldc2 (v := (-1)) k_Md_85 d_Md_word_20 ?_
        refine rz_goto 45 d_Md_word_23 (by decide) ?_
        refine rz_lstore [(4, vl (-1)), (6, vi i), (0, .ref x), (1, vi t), (2, vi lo), (3, vi hi)] d_Md_word_45 (by decide) rfl ?_
        refine rz_iinc (i + 1) 1 [(6, vi (i + 1)), (4, vl (-1)), (0, .ref x), (1, vi t), (2, vi lo), (3, vi hi)] d_Md_word_47 rfl (by first | rfl | omega) (by decide) rfl ?_
        refine rz_goto 6 d_Md_word_50 (by decide) ?_
        refine rz_Lsub [(6, vi (i + 1)), (4, vl (-1)), (0, .ref x), (1, vi t), (2, vi lo), (3, vi hi)] [0, 1, 2, 3, 4, 5] rfl ?_
        refine ih6 (i + 1, -1) ?_ ?_
        · try dsimp only
          exact ⟨by omega, by omega, (fun q _ => by first | rfl | omega), (fun q => by first | omega | (rw [hv q, wdF_go (by omega)]; congr 1; omega))⟩
        · exact (by first | omega | (dsimp only; omega))
  · refine rz_Lsub [(6, vi lo), (4, vl 0), (0, .ref x), (1, vi t), (2, vi lo), (3, vi hi)] [0, 1, 2, 3, 4, 5] rfl ?_
    refine LP (lo, 0) ?_
    try dsimp only
    exact ⟨by omega, by omega, (fun _ q => absurd q (by omega)), (fun _ => rfl)⟩
def cmF (f : Int → Int) : Nat → Int → Int
  | 0, _ => -1
  | n + 1, i => if f i = 44 then i else cmF f n (i + 1)
/-- where the first comma of n places stands, -1 if nowhere -/
def cma (f : Int → Int) (n : Int) : Int := cmF f n.toNat 0
theorem cmF_hit {f : Int → Int} {n : Nat} {i : Int} (hn : 0 < n) (h : f i = 44) : cmF f n i = i := by
  cases n with
  | zero => omega
  | succ n => simp only [cmF]; rw [if_pos h]
theorem cmF_go {f : Int → Int} {n : Nat} {i : Int} (hn : 0 < n) (h : ¬ f i = 44) : cmF f n i = cmF f (n - 1) (i + 1) := by
  cases n with
  | zero => omega
  | succ n => simp only [cmF]; rw [if_neg h]; rfl
theorem cmF_in (f : Int → Int) : ∀ (n : Nat) (i : Int), cmF f n i = -1 ∨ (i ≤ cmF f n i ∧ cmF f n i < i + n)
  | 0, _ => Or.inl rfl
  | n + 1, i => by
    simp only [cmF]
    have ih := cmF_in f n (i + 1)
    split <;> omega
theorem cma_in (f : Int → Int) {n : Int} (hn : 0 ≤ n) : -1 ≤ cma f n ∧ cma f n < n ∨ n = 0 ∧ cma f n = -1 := by
  have := cmF_in f n.toNat 0
  unfold cma
  omega
abbrev rm_Md_comma : Room := { frames := 2, cells := 0, slots := 0, locals := 44 }
set_option maxRecDepth 100000 in
set_option maxHeartbeats 4000000 in
theorem c_Md_comma {l : Launch} {Γ : rz_G} {h : rz_H} {x : Nat} {ad : Nat → Nat} {M : Nat → Int → Int} (hM : MdAt Γ h x ad M) (hw : mWF M) {t : Int} (ht : 0 ≤ t ∧ t < 126) : Ct l Γ x_Md_comma y_Md_comma rm_Md_comma [.ref x, vi t] h (pE (cma (mAt M t) (M 1 t)) h) := by
  refine rz_met (by decide) rfl rfl (Nat.le_of_ble_eq_true rfl) (fun K _ => ?_)
  refine rz_Leq [(0, .ref x), (1, vi t)] rfl ?_
  have hlen := hw.1 t ht.1 ht.2
  refine rz_iconst d_Md_comma_0 ?_
  refine rz_istore_n [(2, vi 0), (0, .ref x), (1, vi t)] d_Md_comma_1 rfl (by decide) rfl ?_
  refine rz_loop (α := Int) 0 0 2 (fun i => (M 1 t - i).toNat) (fun i => 0 ≤ i ∧ i ≤ M 1 t ∧ cmF (mAt M t) (M 1 t).toNat 0 = cmF (mAt M t) (M 1 t - i).toNat i) (fun i => [(2, vi i), (0, .ref x), (1, vi t)]) (fun i => []) (fun i => h) (fun y hy ih2 => ?_) (fun LP => ?_)
  · obtain ⟨i, rfl⟩ : ∃ z, z = y := ⟨_, rfl⟩
    try dsimp only at hy ih2 ⊢
    obtain ⟨hi0, hi1, hv⟩ := hy
    refine rz_iload_n 0 d_Md_comma_2 rfl rfl ?_
    refine rz_aload_n 1 d_Md_comma_3 rfl rfl ?_
    refine rz_getf f_Md_13 hM.1 rfl d_Md_comma_4 ?_
    refine rz_iload_n 2 d_Md_comma_7 rfl rfl ?_
    refine rz_iaload (md_a1 hM) (by decide) (by omega) d_Md_comma_8 ?_
    refine rz_icmp_ge 31 d_Md_comma_9 (by decide) (by omega) (by omega) (fun c9 => ?_) (fun c9 => ?_)
    · refine rz_iconst d_Md_comma_31 ?_
      exact rz_ireturn (st := []) rfl d_Md_comma_32 ⟨by decide, by decide⟩ ⟨_, rfl, (by rw [cma, hv, show (M 1 t - i).toNat = 0 by omega]; rfl), rfl⟩
    · refine rz_aload_n 1 d_Md_comma_12 rfl rfl ?_
      refine rz_iload_n 2 d_Md_comma_13 rfl rfl ?_
      refine rz_iload_n 0 d_Md_comma_14 rfl rfl ?_
      refine rz_callV (As := [vi t, vi i]) (c_Md_at hM hw ht (by omega)) m_Md_74 hM.1 rfl rfl rfl rfl (Nat.le_of_ble_eq_true rfl) ⟨by decide, by decide⟩ ⟨by decide, by decide⟩ d_Md_comma_15 (kE (h := h) ?_)
      refine rz_bipush (v := 44) d_Md_comma_18 (by decide) ?_
      refine rz_icmp_ne 25 d_Md_comma_20 (by decide) (by have := mAt_in hw ht i; omega) ⟨by decide, by decide⟩ (fun c20 => ?_) (fun c20 => ?_)
      · refine rz_iinc (i + 1) 0 [(2, vi (i + 1)), (0, .ref x), (1, vi t)] d_Md_comma_25 rfl (by first | rfl | omega) (by decide) rfl ?_
        refine rz_goto 2 d_Md_comma_28 (by decide) ?_
        refine rz_Lsub [(2, vi (i + 1)), (0, .ref x), (1, vi t)] [0, 1, 2] rfl ?_
        refine ih2 (i + 1) ?_ ?_
        · try dsimp only
          exact ⟨by omega, by omega, (by rw [hv, cmF_go (by omega) (by omega)]; congr 1; omega)⟩
        · exact (by first | omega | (dsimp only; omega))
      · refine rz_iload_n 0 d_Md_comma_23 rfl rfl ?_
        exact rz_ireturn (st := []) rfl d_Md_comma_24 ⟨by decide, by decide⟩ ⟨_, rfl, (by rw [cma, hv, cmF_hit (by omega) (by omega)]), rfl⟩
  · refine rz_Lsub [(2, vi 0), (0, .ref x), (1, vi t)] [0, 1, 2] rfl ?_
    refine LP 0 ?_
    try dsimp only
    exact ⟨by omega, by omega, (by congr 1; omega)⟩

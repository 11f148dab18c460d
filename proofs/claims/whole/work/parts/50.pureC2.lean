theorem mVal_k {M M' : Nat → Int → Int} (hw : mWF M) (h : mVal M) (t0 : Int) (ht : ∀ t, 1 ≤ t → t < 126 → t ≠ t0 → txE M M' t)
    (n2 : ∀ p r, 0 ≤ p → p < 6 → 0 ≤ r → r < M' 2 p → (r < M 2 p ∧ 6 + 4 * p + r ≠ t0) ∨ ver (mAt M' (6 + 4 * p + r)) 0 (M' 1 (6 + 4 * p + r)) = true)
    (n1 : t0 ≠ 1)
    (n4 : ∀ k, 0 ≤ k → k < 24 → ¬ M' 4 k = 0 → (¬ M 4 k = 0 ∧ 30 + k ≠ t0) ∨ rng (mAt M' (30 + k)) (M' 1 (30 + k)) = true)
    (n5 : ∀ k j, 0 ≤ k → k < 24 → 0 ≤ j → j < M' 5 k → (j < M 5 k ∧ 54 + (3 * k + j) ≠ t0) ∨ rng (mAt M' (54 + (3 * k + j))) (M' 1 (54 + (3 * k + j))) = true)
    (n8 : ∀ a, 0 ≤ a → a < M' 8 0 → (a < M 8 0 ∧ 2 + a ≠ t0) ∨ rng (mAt M' (2 + a)) (M' 1 (2 + a)) = true) : mVal M' := by
  obtain ⟨a, b, c, d, e⟩ := h
  obtain ⟨w2, w5, w6, w8, w9⟩ := M_big hw
  refine ⟨fun p r p0 p1 r0 r1 => ?_, ver_t (ht 1 (by omega) (by omega) n1.symm) b, fun k k0 k1 hk => ?_, fun k j k0 k1 j0 j1 => ?_, fun x x0 x1 => ?_⟩
  · rcases n2 p r p0 p1 r0 r1 with q | q
    · have := w2 p p0 p1; exact ver_t (ht _ (by omega) (by omega) q.2) (a p r p0 p1 r0 q.1)
    · exact q
  · rcases n4 k k0 k1 hk with q | q
    · exact rng_t (ht _ (by omega) (by omega) q.2) (c k k0 k1 q.1)
    · exact q
  · rcases n5 k j k0 k1 j0 j1 with q | q
    · have := w5 k k0 k1; exact rng_t (ht _ (by omega) (by omega) q.2) (d k j k0 k1 j0 q.1)
    · exact q
  · rcases n8 x x0 x1 with q | q
    · exact rng_t (ht _ (by omega) (by omega) q.2) (e x x0 q.1)
    · exact q
theorem fl_keep {M M' : Nat → Int → Int} {F : Int → Int → Int} (h : Big M F) (h2 : M' 2 = M 2) (t0 : Int) (ht : ∀ t, 1 ≤ t → t < 126 → t ≠ t0 → txE M M' t) (h6 : t0 < 6 ∨ 30 ≤ t0) : ∀ p, 0 ≤ p → p < 6 → flOK M' p (F p) := fun p p0 p1 => by
  have := (M_big h.wf).1 p p0 p1
  exact flOK_t (h.fl p p0 p1) (by rw [h2]) this.1 (fun s s0 s1 => ht _ (by omega) (by omega) (by omega))
theorem txE_n {M M' M1 : Nat → Int → Int} {t : Int} (h : txE M M1 t) (h0 : M' 0 = M1 0) (h1 : M' 1 = M1 1) : txE M M' t := by
  refine ⟨?_, by rw [h1]; exact h.2⟩
  rw [← h.1]; funext i; unfold mAt; rw [h0, h1]
theorem mAt_n {M' M1 : Nat → Int → Int} {t : Int} (h0 : M' 0 = M1 0) (h1 : M' 1 = M1 1) : mAt M' t = mAt M1 t := by funext i; unfold mAt; rw [h0, h1]
theorem Big.ask {M : Nat → Int → Int} {F : Int → Int → Int} (h : Big M F) (p : Int) : Big (sp_ask M p).2 F := by
  unfold sp_ask
  split
  · rename_i hp
    split
    · rename_i hv
      split
      · exact h.use
      · rename_i h4
        refine Big.use ?_
        have hp := mIn_t.1 hp
        obtain ⟨w2, w5, w6, w8, w9⟩ := M_big h.wf
        generalize hM : mu (mu (mKeep M (2 + M 8 0)) 9 (rz_u (M 9) (M 8 0) p)) 8 (fun _ => M 8 0 + 1) = M'
        have e0 : M' 0 = mKeep M (2 + M 8 0) 0 := by rw [← hM]; rfl
        have e1 : M' 1 = mKeep M (2 + M 8 0) 1 := by rw [← hM]; rfl
        have e8 : M' 8 0 = M 8 0 + 1 := by rw [← hM]; rfl
        have e9 : M' 9 = rz_u (M 9) (M 8 0) p := by rw [← hM]; rfl
        have en : ∀ k, k ∉ [0, 1, 8, 9] → M' k = M k := fun k hk => by
          simp only [List.mem_cons, List.not_mem_nil, or_false, not_or] at hk
          rw [← hM, mu_n hk.2.2.1, mu_n hk.2.2.2, keep_n hk.1 hk.2.1]
        have ht : ∀ t, 1 ≤ t → t < 126 → t ≠ 2 + M 8 0 → txE M M' t := fun t a b c => txE_n (keep_t h.wf (by omega) c) e0 e1
        have ks := keep_s h.wf (2 + M 8 0)
        have hw := keep_wf h.wf (2 + M 8 0)
        refine ⟨?_, mVal_k h.wf h.val (2 + M 8 0) ht (fun q r _ _ _ r1 => ?_) (by omega) (fun k _ _ hk => ?_) (fun k j _ _ _ j1 => ?_) (fun a _ a1 => ?_), ?_, ?_, fl_keep h (en 2 (by decide)) _ ht (by omega)⟩
        · unfold mWF at hw ⊢
          rw [e0, e1, e8, e9, en 2 (by decide), en 5 (by decide), en 6 (by decide), en 3 (by decide), en 4 (by decide), en 7 (by decide), en 12 (by decide), en 13 (by decide), en 14 (by decide), en 15 (by decide)]
          refine ⟨hw.1, hw.2.1, hw.2.2.1, hw.2.2.2.1, hw.2.2.2.2.1, by omega, fun a a0 a1 => ?_, hw.2.2.2.2.2.2.2⟩
          by_cases e : a = M 8 0
          · rw [e, rz_u_s]; exact hp
          · rw [rz_u_n e]; exact w9 a a0 a1
        · rw [en 2 (by decide)] at r1; left; have := w2 q ‹_› ‹_›; exact ⟨r1, by omega⟩
        · rw [en 4 (by decide)] at hk; left; exact ⟨hk, by omega⟩
        · rw [en 5 (by decide)] at j1; left; exact ⟨j1, by omega⟩
        · rw [e8] at a1
          by_cases e : a = M 8 0
          · right; rw [mAt_n e0 e1, e1, e, ks.1, ks.2]; exact hv
          · left; exact ⟨by omega, by omega⟩
        · have := h.ch; unfold chOK at this ⊢; rw [en 12 (by decide), en 14 (by decide), en 2 (by decide)]; exact this
        · have := h.na; unfold naOK at this ⊢; rw [en 2 (by decide), en 3 (by decide), en 4 (by decide), en 5 (by decide)]; exact this
    · exact h.use
  · exact h
theorem Big.need {M : Nat → Int → Int} {F : Int → Int → Int} (h : Big M F) (p r o : Int) (opt : Bool) : Big (sp_need M p r o opt).2 F := by
  unfold sp_need
  split
  · exact h
  · rename_i hn
    simp only [mNone, Bool.or_eq_true, not_or, Bool.not_eq_true', Bool.not_eq_false] at hn
    have hp := mIn_t.1 (by simpa using hn.1.1); have hr := mIn_t.1 (by simpa using hn.1.2); have ho := mIn_t.1 (by simpa using hn.2)
    split
    · rename_i hv
      split
      · exact h.use
      · rename_i h3
        refine Big.use ?_
        obtain ⟨w2, w5, w6, w8, w9⟩ := M_big h.wf
        have w := w2 p hp.1 (by omega)
        have w' := w5 (4 * p + r) (by omega) (by omega)
        generalize hi : 3 * (4 * p + r) + M 5 (4 * p + r) = i
        generalize hM : mu (mu (mu (mKeep M (54 + i)) 6 (rz_u (M 6) i o)) 7 (rz_u (M 7) i (bi opt))) 5 (rz_u (M 5) (4 * p + r) (M 5 (4 * p + r) + 1)) = M'
        have e0 : M' 0 = mKeep M (54 + i) 0 := by rw [← hM]; rfl
        have e1 : M' 1 = mKeep M (54 + i) 1 := by rw [← hM]; rfl
        have e5 : M' 5 = rz_u (M 5) (4 * p + r) (M 5 (4 * p + r) + 1) := by rw [← hM]; rfl
        have e6 : M' 6 = rz_u (M 6) i o := by rw [← hM]; rfl
        have e7 : M' 7 = rz_u (M 7) i (bi opt) := by rw [← hM]; rfl
        have en : ∀ k, k ∉ [0, 1, 5, 6, 7] → M' k = M k := fun k hk => by
          simp only [List.mem_cons, List.not_mem_nil, or_false, not_or] at hk
          rw [← hM, mu_n hk.2.2.1, mu_n hk.2.2.2.2, mu_n hk.2.2.2.1, keep_n hk.1 hk.2.1]
        have ht : ∀ t, 1 ≤ t → t < 126 → t ≠ 54 + i → txE M M' t := fun t a b c => txE_n (keep_t h.wf (by omega) c) e0 e1
        have ks := keep_s h.wf (54 + i)
        have hw := keep_wf h.wf (54 + i)
        refine ⟨?_, mVal_k h.wf h.val (54 + i) ht (fun q r' _ _ _ r1 => ?_) (by omega) (fun k _ _ hk => ?_) (fun k j _ _ _ j1 => ?_) (fun a _ a1 => ?_), ?_, fun k k0 k1 hk => ?_, fl_keep h (en 2 (by decide)) _ ht (by omega)⟩
        · unfold mWF at hw ⊢
          rw [e0, e1, e5, e6, e7, en 2 (by decide), en 8 (by decide), en 9 (by decide), en 3 (by decide), en 4 (by decide), en 12 (by decide), en 13 (by decide), en 14 (by decide), en 15 (by decide)]
          refine ⟨hw.1, hw.2.1, hw.2.2.1, fun k k0 k1 => ?_, fun k k0 k1 => ?_, hw.2.2.2.2.2.1, hw.2.2.2.2.2.2.1, hw.2.2.2.2.2.2.2.1, hw.2.2.2.2.2.2.2.2.1, fun k k0 k1 => ?_, hw.2.2.2.2.2.2.2.2.2.2⟩
          · by_cases e : k = 4 * p + r
            · rw [e, rz_u_s]; omega
            · rw [rz_u_n e]; exact w5 k k0 k1
          · by_cases e : k = i
            · rw [e, rz_u_s]; exact ho
            · rw [rz_u_n e]; exact w6 k k0 k1
          · by_cases e : k = i
            · rw [e, rz_u_s]; cases opt <;> simp [bi]
            · rw [rz_u_n e]; exact hw.2.2.2.2.2.2.2.2.2.1 k k0 k1
        · rw [en 2 (by decide)] at r1; left; have := w2 q ‹_› ‹_›; exact ⟨r1, by omega⟩
        · rw [en 4 (by decide)] at hk; left; exact ⟨hk, by omega⟩
        · rw [e5] at j1
          by_cases e : k = 4 * p + r
          · rw [e, rz_u_s] at j1
            by_cases f : j = M 5 (4 * p + r)
            · right; rw [e, f, hi, mAt_n e0 e1, e1, ks.1, ks.2]; exact hv
            · left; rw [e]; exact ⟨by omega, by omega⟩
          · rw [rz_u_n e] at j1; left; have := w5 k ‹_› ‹_›; exact ⟨j1, by omega⟩
        · rw [en 8 (by decide)] at a1; left; exact ⟨a1, by omega⟩
        · have := h.ch; unfold chOK at this ⊢; rw [en 12 (by decide), en 14 (by decide), en 2 (by decide)]; exact this
        · rw [en 2 (by decide)] at hk
          have := h.na k k0 k1 hk
          rw [en 3 (by decide), en 4 (by decide), e5, rz_u_n]
          · exact this
          · rintro rfl; rw [show (4 * p + r) / 4 = p by omega, show (4 * p + r) % 4 = r by omega] at hk; omega
    · exact h.use
theorem Big.needHost {M : Nat → Int → Int} {F : Int → Int → Int} (h : Big M F) (p r : Int) : Big (sp_needHost M p r).2 F := by
  unfold sp_needHost
  split
  · exact h
  · rename_i hn
    simp only [mNone, Bool.or_eq_true, not_or, Bool.not_eq_true', Bool.not_eq_false] at hn
    have hp := mIn_t.1 (by simpa using hn.1); have hr := mIn_t.1 (by simpa using hn.2)
    split
    · rename_i hv
      refine Big.use ?_
      obtain ⟨w2, w5, w6, w8, w9⟩ := M_big h.wf
      have w := w2 p hp.1 (by omega)
      generalize hi : 4 * p + r = i
      generalize hg : rz_u (M 4) i (bi (decide (0 < M 1 0))) = g4
      have hw4 : mWF (mu M 4 g4) := by
        have hw := h.wf
        unfold mWF at hw ⊢
        refine ⟨hw.1, hw.2.1, hw.2.2.1, hw.2.2.2.1, hw.2.2.2.2.1, hw.2.2.2.2.2.1, hw.2.2.2.2.2.2.1, hw.2.2.2.2.2.2.2.1, fun k k0 k1 => ?_, hw.2.2.2.2.2.2.2.2.2⟩
        rw [mu_s, ← hg]
        by_cases e : k = i
        · rw [e, rz_u_s]; cases decide (0 < M 1 0) <;> simp [bi]
        · rw [rz_u_n e]; exact hw.2.2.2.2.2.2.2.2.1 k k0 k1
      generalize hM : mKeep (mu M 4 g4) (30 + i) = M'
      have e4 : M' 4 = g4 := by rw [← hM]; rfl
      have en : ∀ k, k ∉ [0, 1, 4] → M' k = M k := fun k hk => by
        simp only [List.mem_cons, List.not_mem_nil, or_false, not_or] at hk
        rw [← hM, keep_n hk.1 hk.2.1, mu_n hk.2.2]
      have ht : ∀ t, 1 ≤ t → t < 126 → t ≠ 30 + i → txE M M' t := fun t a b c => by rw [← hM]; exact keep_t hw4 (by omega) c
      have ks := keep_s hw4 (30 + i)
      rw [hM] at ks
      have hw := keep_wf hw4 (30 + i)
      rw [hM] at hw
      refine ⟨hw, mVal_k h.wf h.val (30 + i) ht (fun q r' _ _ _ r1 => ?_) (by omega) (fun k _ _ hk => ?_) (fun k j _ _ _ j1 => ?_) (fun a _ a1 => ?_), ?_, fun k k0 k1 hk => ?_, fl_keep h (en 2 (by decide)) _ ht (by omega)⟩
      · rw [en 2 (by decide)] at r1; left; have := w2 q ‹_› ‹_›; exact ⟨r1, by omega⟩
      · rw [e4, ← hg] at hk
        by_cases e : k = i
        · right
          rw [e, rz_u_s] at hk
          have : 0 < M 1 0 := by
            by_cases q : 0 < M 1 0
            · exact q
            · simp [q, bi] at hk
          rw [e, ks.1, ks.2]
          show rng (mAt M 0) (M 1 0) = true
          rcases hv with q | q
          · omega
          · exact q
        · left; rw [rz_u_n e] at hk; exact ⟨hk, by omega⟩
      · rw [en 5 (by decide)] at j1; left; exact ⟨j1, by omega⟩
      · rw [en 8 (by decide)] at a1; left; exact ⟨a1, by omega⟩
      · have := h.ch; unfold chOK at this ⊢; rw [en 12 (by decide), en 14 (by decide), en 2 (by decide)]; exact this
      · rw [en 2 (by decide)] at hk
        have := h.na k k0 k1 hk
        rw [en 3 (by decide), en 5 (by decide), e4, ← hg, rz_u_n]
        · exact this
        · rintro rfl; rw [← hi, show (4 * p + r) / 4 = p by omega, show (4 * p + r) % 4 = r by omega] at hk; omega
    · exact h.use

theorem mAt_end (M : Nat → Int → Int) (t : Int) : isD (mAt M t (M 1 t)) = false := by
  unfold mAt; rw [if_neg (by omega)]; decide
def vRt (M : Nat → Int → Int) (t : Int) : Int → Int := vR (mAt M t) 0 (M 1 t)
def vPt (M : Nat → Int → Int) (t : Int) : Int → Int := vP (mAt M t) 0 (M 1 t)
theorem ord_t {M : Nat → Int → Int} {s t : Int} (hs : ver (mAt M s) 0 (M 1 s) = true) (ht : ver (mAt M t) 0 (M 1 t) = true) : ord (mAt M s) (mAt M t) (M 1 s) 0 (M 1 t) = cvF (vRt M s) (vPt M s) (vRt M t) (vPt M t) 12 0 := by
  have a := (ver_ch hs).1; have b := (ver_ch ht).1
  exact ord_cv (by omega) (by omega) (mAt_end M s) (mAt_end M t)
theorem twF_f {M : Nat → Int → Int} {p : Int} : ∀ (n : Nat) (r : Int), twF M p n r = false → ∀ j, r ≤ j → j < r + n → ¬ ord (mAt M (6 + 4 * p + j)) (mAt M 0) (M 1 (6 + 4 * p + j)) 0 (M 1 0) = 0
  | 0, r, _, j, a, b => by omega
  | n + 1, r, h, j, a, b => by
    rw [twF] at h
    split at h
    · exact absurd h (by decide)
    · by_cases e : j = r
      · rw [e]; assumption
      · exact twF_f n (r + 1) h j (by omega) (by omega)
def plM (M : Nat → Int → Int) (p : Int) : Int := cI (fun s => decide (0 < ord (mAt M (6 + 4 * p + s)) (mAt M 0) (M 1 (6 + 4 * p + s)) 0 (M 1 0))) (M 2 p).toNat 0
/-- the falling orders after a release -/
def rlF (M : Nat → Int → Int) (F : Int → Int → Int) (p : Int) : Int → Int → Int := if (sp_release M p).1 < 0 then F else fun q => if q = p then insF (F p) (plM M p) (M 2 p) else F q
theorem Big.release {M : Nat → Int → Int} {F : Int → Int → Int} (h : Big M F) (p : Int) : Big (sp_release M p).2 (rlF M F p) := by
  unfold rlF sp_release
  by_cases hp : mIn p 0 5 = true
  · by_cases hv : ver (mAt M 0) 0 (M 1 0) = true
    · by_cases ht : tw M p = true
      · simp only [if_pos hp, if_pos hv, if_pos ht]; exact h.use
      · by_cases h4 : M 2 p = 4
        · simp only [if_pos hp, if_pos hv, if_neg ht, if_pos h4]; exact h.use
        · simp only [if_pos hp, if_pos hv, if_neg ht, if_neg h4]
          have hp := mIn_t.1 hp
          obtain ⟨w2, w5, w6, w8, w9⟩ := M_big h.wf
          have w := w2 p hp.1 (by omega)
          rw [if_neg (by omega)]
          refine Big.use ?_
          generalize hM : mu (mKeep M (6 + 4 * p + M 2 p)) 2 (rz_u (M 2) p (M 2 p + 1)) = M'
          have e0 : M' 0 = mKeep M (6 + 4 * p + M 2 p) 0 := by rw [← hM]; rfl
          have e1 : M' 1 = mKeep M (6 + 4 * p + M 2 p) 1 := by rw [← hM]; rfl
          have e2 : M' 2 = rz_u (M 2) p (M 2 p + 1) := by rw [← hM]; rfl
          have en : ∀ k, k ∉ [0, 1, 2] → M' k = M k := fun k hk => by
            simp only [List.mem_cons, List.not_mem_nil, or_false, not_or] at hk
            rw [← hM, mu_n hk.2.2, keep_n hk.1 hk.2.1]
          have ht' : ∀ t, 1 ≤ t → t < 126 → t ≠ 6 + 4 * p + M 2 p → txE M M' t := fun t a b c => txE_n (keep_t h.wf (by omega) c) e0 e1
          have ks := keep_s h.wf (6 + 4 * p + M 2 p)
          have hw := keep_wf h.wf (6 + 4 * p + M 2 p)
          have n0 : mAt M' (6 + 4 * p + M 2 p) = mAt M 0 := by rw [mAt_n e0 e1]; exact ks.1
          have n1 : M' 1 (6 + 4 * p + M 2 p) = M 1 0 := by rw [e1]; exact ks.2
          have hval : mVal M' := mVal_k h.wf h.val (6 + 4 * p + M 2 p) ht' (fun q r' q0 q1 _ r1 => by
              rw [e2] at r1
              have wq := w2 q q0 q1
              by_cases e : q = p
              · rw [e, rz_u_s] at r1
                by_cases f : r' = M 2 p
                · right; rw [e, f, n0, n1]; exact hv
                · left; rw [e]; exact ⟨by omega, by omega⟩
              · rw [rz_u_n e] at r1; left; exact ⟨r1, by omega⟩) (by omega) (fun k _ _ hk => by rw [en 4 (by decide)] at hk; left; exact ⟨hk, by omega⟩) (fun k j _ _ _ j1 => by rw [en 5 (by decide)] at j1; left; exact ⟨j1, by omega⟩) (fun a _ a1 => by rw [en 8 (by decide)] at a1; left; exact ⟨a1, by omega⟩)
          have e2p : M' 2 p = M 2 p + 1 := by rw [e2, rz_u_s]
          have cN : ∀ s, 0 ≤ s → s < M 2 p → cmpR M' p s (M 2 p) = ord (mAt M (6 + 4 * p + s)) (mAt M 0) (M 1 (6 + 4 * p + s)) 0 (M 1 0) := fun s s0 s1 => by
            have := ht' (6 + 4 * p + s) (by omega) (by omega) (by omega)
            unfold cmpR; rw [n0, n1, this.1, this.2]
          refine ⟨?_, hval, ?_, fun k k0 k1 hk => ?_, fun q q0 q1 => ?_⟩
          · unfold mWF at hw ⊢
            rw [e0, e1, e2, en 3 (by decide), en 4 (by decide), en 5 (by decide), en 6 (by decide), en 7 (by decide), en 8 (by decide), en 9 (by decide), en 12 (by decide), en 13 (by decide), en 14 (by decide), en 15 (by decide)]
            refine ⟨hw.1, hw.2.1, fun q q0 q1 => ?_, hw.2.2.2⟩
            by_cases e : q = p
            · rw [e, rz_u_s]; omega
            · rw [rz_u_n e]; exact w2 q q0 q1
          · have := h.ch; unfold chOK at this ⊢; rw [en 12 (by decide), en 14 (by decide), e2]
            intro z q q0 q1
            have := this z q q0 q1
            by_cases e : q = p
            · rw [e] at this ⊢; rw [rz_u_s]; omega
            · rw [rz_u_n e]; exact this
          · rw [e2] at hk
            rw [en 3 (by decide), en 4 (by decide), en 5 (by decide)]
            refine h.na k k0 k1 ?_
            by_cases e : k / 4 = p
            · rw [e, rz_u_s] at hk; rw [e]; omega
            · rwa [rz_u_n e] at hk
          · have wq := w2 q q0 q1
            show flOK M' q (if q = p then insF (F p) (plM M p) (M 2 p) else F q)
            by_cases e : q = p
            · rw [if_pos e, e]
              refine fl_ins (h.fl p hp.1 (by omega)) w.1 e2p (fun s r s0 s1 r0 r1 => cmpR_t (ht' _ (by omega) (by omega) (by omega)) (ht' _ (by omega) (by omega) (by omega))) (fun s => (vRt M' (6 + 4 * p + s), vPt M' (6 + 4 * p + s))) (fun s r s0 s1 r0 r1 => ?_) (fun r r0 r1 => ?_) ?_
              · exact ord_t (hval.1 p s hp.1 (by omega) s0 s1) (hval.1 p r hp.1 (by omega) r0 r1)
              · rw [cN r r0 r1]
                exact twF_f _ 0 (by simpa [tw] using ht) r r0 (by omega)
              · unfold plM
                exact cI_c _ _ (fun j a b => by rw [cN j a (by omega)])
            · rw [if_neg e]
              exact flOK_t (h.fl q q0 q1) (by rw [e2, rz_u_n e]) wq.1 (fun s s0 s1 => ht' _ (by omega) (by omega) (by omega))
    · simp only [if_pos hp, if_neg hv]; exact h.use
  · simp only [if_neg hp]; exact h
/-! unask -/
theorem ua_t {M : Nat → Int → Int} (hw : mWF M) {a b : Int} (hab : 0 ≤ a ∧ a ≤ b ∧ b ≤ 3) {t : Int} (ht : 0 ≤ t ∧ t < 126) : mAt (uaS M a b) t = mAt M (if a + 2 ≤ t ∧ t < b + 2 then t + 1 else t) ∧ uaS M a b 1 t = M 1 (if a + 2 ≤ t ∧ t < b + 2 then t + 1 else t) := by
  have e : uaS M a b 1 t = M 1 (if a + 2 ≤ t ∧ t < b + 2 then t + 1 else t) := by
    have : uaS M a b 1 t = if a + 2 ≤ t ∧ t < b + 2 then M 1 (t + 1) else M 1 t := by rw [uaS, mu_n (by decide), mu_s]
    rw [this]; split <;> rfl
  refine ⟨?_, e⟩
  funext i
  unfold mAt
  rw [e]
  have w : 0 ≤ M 1 (if a + 2 ≤ t ∧ t < b + 2 then t + 1 else t) ∧ M 1 (if a + 2 ≤ t ∧ t < b + 2 then t + 1 else t) ≤ 24 := by
    split
    · exact hw.1 _ (by omega) (by omega)
    · exact hw.1 _ ht.1 ht.2
  generalize hn : M 1 (if a + 2 ≤ t ∧ t < b + 2 then t + 1 else t) = n at w ⊢
  by_cases c : 0 ≤ i ∧ i ≤ n - 1
  · rw [if_pos c, if_pos c, uaS, mu_s]
    by_cases d : a + 2 ≤ t ∧ t < b + 2
    · rw [if_pos d]
      show (if 48 + 24 * a ≤ 24 * t + i ∧ 24 * t + i < 48 + 24 * b then M 0 (24 * t + i + 24) else M 0 (24 * t + i)) = M 0 (24 * (t + 1) + i)
      rw [if_pos (by omega)]; congr 1; omega
    · rw [if_neg d]
      show (if 48 + 24 * a ≤ 24 * t + i ∧ 24 * t + i < 48 + 24 * b then M 0 (24 * t + i + 24) else M 0 (24 * t + i)) = M 0 (24 * t + i)
      rw [if_neg (by omega)]
  · rw [if_neg c, if_neg c]
theorem Big.unask {M : Nat → Int → Int} {F : Int → Int → Int} (h : Big M F) (a : Int) : Big (sp_unask M a).2 F := by
  unfold sp_unask
  split
  · rename_i ha
    have ha := mIn_t.1 ha
    obtain ⟨w2, w5, w6, w8, w9⟩ := M_big h.wf
    have hw8 : mWF (mu M 8 (fun _ => M 8 0 - 1)) := by
      have hw := h.wf
      unfold mWF at hw ⊢
      exact ⟨hw.1, hw.2.1, hw.2.2.1, hw.2.2.2.1, hw.2.2.2.2.1, (by show 0 ≤ M 8 0 - 1 ∧ M 8 0 - 1 ≤ 4; omega), hw.2.2.2.2.2.2⟩
    have ut := fun t ht => ua_t (t := t) hw8 (a := a) (b := M 8 0 - 1) ⟨ha.1, by omega, by omega⟩ ht
    show Big (uaS (mu M 8 (fun _ => M 8 0 - 1)) a (M 8 0 - 1)) F
    generalize hM : uaS (mu M 8 (fun _ => M 8 0 - 1)) a (M 8 0 - 1) = M' at ut ⊢
    have e8 : M' 8 0 = M 8 0 - 1 := by rw [← hM]; rfl
    have e9 : M' 9 = fun j => if a ≤ j ∧ j < M 8 0 - 1 then M 9 (j + 1) else M 9 j := by rw [← hM]; rfl
    have e0 : M' 0 = fun j => if 48 + 24 * a ≤ j ∧ j < 48 + 24 * (M 8 0 - 1) then M 0 (j + 24) else M 0 j := by rw [← hM]; rfl
    have e1 : M' 1 = fun j => if a + 2 ≤ j ∧ j < M 8 0 - 1 + 2 then M 1 (j + 1) else M 1 j := by rw [← hM]; rfl
    have en : ∀ k, k ∉ [0, 1, 8, 9] → M' k = M k := fun k hk => by
      simp only [List.mem_cons, List.not_mem_nil, or_false, not_or] at hk
      rw [← hM, uaS, mu_n hk.1, mu_n hk.2.1, mu_n hk.2.2.2, mu_n hk.2.2.1]
    have ht : ∀ t, 6 ≤ t ∨ t = 1 → t < 126 → txE M M' t := fun t c d => by
      have := ut t (by omega)
      rw [if_neg (by omega)] at this; exact this
    refine ⟨?_, ⟨fun p r p0 p1 r0 r1 => ?_, ver_t (ht 1 (Or.inr rfl) (by omega)) h.val.2.1, fun k k0 k1 hk => ?_, fun k j k0 k1 j0 j1 => ?_, fun x x0 x1 => ?_⟩, ?_, ?_, fun p p0 p1 => ?_⟩
    · have hw := h.wf
      unfold mWF at hw ⊢
      rw [e0, e1, e8, e9, en 2 (by decide), en 5 (by decide), en 6 (by decide), en 3 (by decide), en 4 (by decide), en 7 (by decide), en 12 (by decide), en 13 (by decide), en 14 (by decide), en 15 (by decide)]
      refine ⟨fun t a b => ?_, fun j a b => ?_, hw.2.2.1, hw.2.2.2.1, hw.2.2.2.2.1, by omega, fun x x0 x1 => ?_, hw.2.2.2.2.2.2.2⟩
      · dsimp only; split
        · exact hw.1 _ (by omega) (by omega)
        · exact hw.1 t a b
      · dsimp only; split
        · exact hw.2.1 _ (by omega) (by omega)
        · exact hw.2.1 j a b
      · dsimp only; split
        · exact w9 _ (by omega) (by omega)
        · exact w9 x x0 x1
    · rw [en 2 (by decide)] at r1; have := w2 p p0 p1; exact ver_t (ht _ (Or.inl (by omega)) (by omega)) (h.val.1 p r p0 p1 r0 r1)
    · rw [en 4 (by decide)] at hk; exact rng_t (ht _ (Or.inl (by omega)) (by omega)) (h.val.2.2.1 k k0 k1 hk)
    · rw [en 5 (by decide)] at j1; have := w5 k k0 k1; exact rng_t (ht _ (Or.inl (by omega)) (by omega)) (h.val.2.2.2.1 k j k0 k1 j0 j1)
    · rw [e8] at x1
      have := ut (2 + x) (by omega)
      rw [this.1, this.2]
      show rng (mAt M _) (M 1 _) = true
      split
      · have := h.val.2.2.2.2 (x + 1) (by omega) (by omega)
        rwa [show 2 + (x + 1) = 2 + x + 1 by omega] at this
      · exact h.val.2.2.2.2 x x0 (by omega)
    · have := h.ch; unfold chOK at this ⊢; rw [en 12 (by decide), en 14 (by decide), en 2 (by decide)]; exact this
    · have := h.na; unfold naOK at this ⊢; rw [en 2 (by decide), en 3 (by decide), en 4 (by decide), en 5 (by decide)]; exact this
    · have := w2 p p0 p1
      exact flOK_t (h.fl p p0 p1) (by rw [en 2 (by decide)]) this.1 (fun s s0 s1 => ht _ (Or.inl (by omega)) (by omega))
  · exact h
theorem Big.solve {M M' : Nat → Int → Int} {F : Int → Int → Int} (h : Big M F) (hs : solP M M') : Big M' F := by
  obtain ⟨hk, h12, h13, h14, _, h15, h15'⟩ := hs
  obtain ⟨w2, w5, w6, w8, w9⟩ := M_big h.wf
  have en : ∀ k, k < 10 → M' k = M k := fun k q => hk k (by simp; omega)
  have tx : ∀ t, txE M M' t := fun t => ⟨mAt_n (en 0 (by decide)) (en 1 (by decide)), by rw [en 1 (by decide)]⟩
  refine ⟨?_, mVal_t h.wf h.val (en 2 (by decide)) (en 4 (by decide)) (en 5 (by decide)) (en 8 (by decide)) (fun t _ _ => tx t), fun _ p p0 p1 => ?_, ?_, fun p p0 p1 => flOK_t (h.fl p p0 p1) (by rw [en 2 (by decide)]) (w2 p p0 p1).1 (fun s _ _ => tx _)⟩
  · have hw := h.wf
    unfold mWF at hw ⊢
    rw [en 0 (by decide), en 1 (by decide), en 2 (by decide), en 3 (by decide), en 4 (by decide), en 5 (by decide), en 6 (by decide), en 7 (by decide), en 8 (by decide), en 9 (by decide)]
    refine ⟨hw.1, hw.2.1, hw.2.2.1, hw.2.2.2.1, hw.2.2.2.2.1, hw.2.2.2.2.2.1, hw.2.2.2.2.2.2.1, hw.2.2.2.2.2.2.2.1, hw.2.2.2.2.2.2.2.2.1, hw.2.2.2.2.2.2.2.2.2.1, ?_, ?_, fun p p0 p1 => ?_, fun a a0 a1 => ?_⟩
    · rw [h12]; cases fnd M <;> simp [bi]
    · rw [h13]; cases fnd M <;> simp [bi]
    · have := h14 p p0 p1; have := w2 p p0 p1; omega
    · cases hf : fnd M
      · rw [h15' hf a a0 a1]; cases blB (mAll M) a <;> simp [bi]
      · rw [h15 hf]; exact hw.2.2.2.2.2.2.2.2.2.2.2.2.2 a a0 a1
  · rw [en 2 (by decide)]; exact h14 p p0 p1
  · have := h.na; unfold naOK at this ⊢; rw [en 2 (by decide), en 3 (by decide), en 4 (by decide), en 5 (by decide)]; exact this
theorem Big.unmet {M : Nat → Int → Int} {F : Int → Int → Int} (h : Big M F) : Big (sp_unmet M).2 F := by
  unfold sp_unmet
  split
  · exact h
  · refine h.c ?_ (fun k hk => mu_n (by rintro rfl; revert hk; decide)) (fun t _ _ => ⟨rfl, rfl⟩)
    exact h.wf

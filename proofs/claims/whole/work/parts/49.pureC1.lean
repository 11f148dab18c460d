/-! what holds between calls, of the numbers alone -/
def txE (M M' : Nat → Int → Int) (t : Int) : Prop := mAt M' t = mAt M t ∧ M' 1 t = M 1 t
def naOK (M : Nat → Int → Int) : Prop := ∀ k, 0 ≤ k → k < 24 → M 2 (k / 4) ≤ k % 4 → M 3 k = 0 ∧ M 4 k = 0 ∧ M 5 k = 0
def Big (M : Nat → Int → Int) (F : Int → Int → Int) : Prop := mWF M ∧ mVal M ∧ chOK M ∧ naOK M ∧ ∀ p, 0 ≤ p → p < 6 → flOK M p (F p)
theorem Big.wf {M : Nat → Int → Int} {F : Int → Int → Int} (h : Big M F) : mWF M := h.1
theorem Big.val {M : Nat → Int → Int} {F : Int → Int → Int} (h : Big M F) : mVal M := h.2.1
theorem Big.ch {M : Nat → Int → Int} {F : Int → Int → Int} (h : Big M F) : chOK M := h.2.2.1
theorem Big.na {M : Nat → Int → Int} {F : Int → Int → Int} (h : Big M F) : naOK M := h.2.2.2.1
theorem Big.fl {M : Nat → Int → Int} {F : Int → Int → Int} (h : Big M F) : ∀ p, 0 ≤ p → p < 6 → flOK M p (F p) := h.2.2.2.2
theorem cmpR_t {M M' : Nat → Int → Int} {p s r : Int} (h1 : txE M M' (6 + 4 * p + s)) (h2 : txE M M' (6 + 4 * p + r)) : cmpR M' p s r = cmpR M p s r := by
  unfold cmpR; rw [h1.1, h1.2, h2.1, h2.2]
theorem gtr_t {M M' : Nat → Int → Int} {p r : Int} (h2 : M' 2 p = M 2 p) (h0 : 0 ≤ M 2 p) (ht : ∀ s, 0 ≤ s → s < M 2 p → txE M M' (6 + 4 * p + s)) (hr : 0 ≤ r ∧ r < M 2 p) : gtr M' p r = gtr M p r := by
  unfold gtr
  rw [gtF_c, gtF_c, h2]
  exact cI_c _ _ (fun j a b => by rw [cmpR_t (ht j a (by omega)) (ht r hr.1 hr.2)])
theorem flOK_t {M M' : Nat → Int → Int} {p : Int} {F : Int → Int} (h : flOK M p F) (h2 : M' 2 p = M 2 p) (h0 : 0 ≤ M 2 p) (ht : ∀ s, 0 ≤ s → s < M 2 p → txE M M' (6 + 4 * p + s)) : flOK M' p F := by
  refine ⟨fun d a b => ?_, fun r a b => ?_, fun d a b => h.2.2 d (by omega) b⟩
  · obtain ⟨x, y, z⟩ := h.1 d a (by omega)
    rw [gtr_t h2 h0 ht ⟨x, y⟩]; exact ⟨x, by omega, z⟩
  · obtain ⟨x, y, z⟩ := h.2.1 r a (by omega)
    rw [gtr_t h2 h0 ht ⟨a, by omega⟩]; exact ⟨x, by omega, z⟩
theorem ver_t {M M' : Nat → Int → Int} {t : Int} (h : txE M M' t) (hv : ver (mAt M t) 0 (M 1 t) = true) : ver (mAt M' t) 0 (M' 1 t) = true := by rw [h.1, h.2]; exact hv
theorem rng_t {M M' : Nat → Int → Int} {t : Int} (h : txE M M' t) (hv : rng (mAt M t) (M 1 t) = true) : rng (mAt M' t) (M' 1 t) = true := by rw [h.1, h.2]; exact hv
theorem mVal_t {M M' : Nat → Int → Int} (hw : mWF M) (h : mVal M) (h2 : M' 2 = M 2) (h4 : M' 4 = M 4) (h5 : M' 5 = M 5) (h8 : M' 8 = M 8) (ht : ∀ t, 1 ≤ t → t < 126 → txE M M' t) : mVal M' := by
  obtain ⟨a, b, c, d, e⟩ := h
  obtain ⟨w2, w5, w6, w8, w9⟩ := M_big hw
  refine ⟨fun p r p0 p1 r0 r1 => ?_, ver_t (ht 1 (by omega) (by omega)) b, fun k k0 k1 hk => ?_, fun k j k0 k1 j0 j1 => ?_, fun x x0 x1 => ?_⟩
  · rw [h2] at r1; have := w2 p p0 p1; exact ver_t (ht _ (by omega) (by omega)) (a p r p0 p1 r0 r1)
  · rw [h4] at hk; exact rng_t (ht _ (by omega) (by omega)) (c k k0 k1 hk)
  · rw [h5] at j1; have := w5 k k0 k1; exact rng_t (ht _ (by omega) (by omega)) (d k j k0 k1 j0 j1)
  · rw [h8] at x1; exact rng_t (ht _ (by omega) (by omega)) (e x x0 x1)
/-- only the first text, or what is looked at within a call, has changed -/
theorem Big.c {M M' : Nat → Int → Int} {F : Int → Int → Int} (h : Big M F) (hw : mWF M') (hk : ∀ k, k ∈ [2, 3, 4, 5, 8, 12, 14] → M' k = M k) (ht : ∀ t, 1 ≤ t → t < 126 → txE M M' t) : Big M' F :=
  ⟨hw, mVal_t h.wf h.val (hk 2 (by decide)) (hk 4 (by decide)) (hk 5 (by decide)) (hk 8 (by decide)) ht, (by have := h.ch; unfold chOK at this ⊢; rw [hk 12 (by decide), hk 14 (by decide), hk 2 (by decide)]; exact this), (by have := h.na; unfold naOK at this ⊢; rw [hk 2 (by decide), hk 3 (by decide), hk 4 (by decide), hk 5 (by decide)]; exact this), fun p p0 p1 => flOK_t (h.fl p p0 p1) (by rw [hk 2 (by decide)]) ((M_big h.wf).1 p p0 p1).1 (fun s s0 s1 => ht _ (by omega) (by have := (M_big h.wf).1 p p0 p1; omega))⟩
theorem Big.s2 {M M' : Nat → Int → Int} {F : Int → Int → Int} (h : Big M F) (hs : mS2 M M') : Big M' F := h.c (mS2_wf hs h.wf) (fun k hk => hs k (by rintro rfl; revert hk; decide) (by rintro rfl; revert hk; decide)) (fun t _ _ => ⟨mS2_at hs t, by rw [hs 1 (by decide) (by decide)]⟩)
theorem use_wf {M : Nat → Int → Int} (hw : mWF M) : mWF (mUse M) := by
  unfold mWF at hw ⊢
  refine ⟨fun t a b => ?_, hw.2⟩
  rw [mUse, mu_s]
  by_cases e : t = 0
  · rw [e, rz_u_s]; omega
  · rw [rz_u_n e]; exact hw.1 t a b
theorem use_t (M : Nat → Int → Int) {t : Int} (ht : t ≠ 0) : txE M (mUse M) t := by
  have e : mUse M 1 t = M 1 t := by rw [mUse, mu_s, rz_u_n ht]
  refine ⟨?_, e⟩
  funext i
  unfold mAt
  rw [e]; rfl
theorem Big.use {M : Nat → Int → Int} {F : Int → Int → Int} (h : Big M F) : Big (mUse M) F := h.c (use_wf h.wf) (fun k hk => mu_n (by rintro rfl; revert hk; decide)) (fun t a _ => use_t M (by omega))
theorem put_t (M : Nat → Int → Int) (c : Int) (hl : 0 ≤ M 1 0 ∧ M 1 0 + mOne c ≤ 24) {t : Int} (ht : 1 ≤ t) : txE M (mPut M c) t := by
  unfold mPut
  split
  · exact ⟨rfl, rfl⟩
  · rename_i hc
    have h1 : mOne c = 1 := if_neg hc
    have e : mu (mu M 0 (rz_u (M 0) (M 1 0) c)) 1 (rz_u (M 1) 0 (M 1 0 + 1)) 1 t = M 1 t := by rw [mu_s, rz_u_n (by omega)]
    refine ⟨?_, e⟩
    funext i
    unfold mAt
    rw [e, mu_n (show (0 : Nat) ≠ 1 by decide), mu_s]
    split
    · rw [rz_u_n (by omega)]
    · rfl
theorem Big.put {M : Nat → Int → Int} {F : Int → Int → Int} (h : Big M F) {c : Int} (hc : mOk c = true) (hl : M 1 0 + mOne c ≤ 24) : Big (mPut M c) F := h.c (mPut_wf h.wf hc hl) (fun k hk => by
    unfold mPut; split
    · rfl
    · rw [mu_n (by rintro rfl; revert hk; decide), mu_n (by rintro rfl; revert hk; decide)]) (fun t a _ => put_t M c ⟨(h.wf.1 0 (by omega) (by omega)).1, hl⟩ a)
theorem Big.write {M : Nat → Int → Int} {F : Int → Int → Int} (h : Big M F) (a b c d : Int) : Big (mWrite M a b c d).2 F := by
  unfold mWrite
  split
  · rename_i ok
    simp only [Bool.and_eq_true] at ok
    split
    · rename_i hl
      have h1 := mOne_in a; have h2 := mOne_in b; have h3 := mOne_in c; have h4 := mOne_in d
      have e1 := mPut_len M a; have e2 := mPut_len (mPut M a) b; have e3 := mPut_len (mPut (mPut M a) b) c
      exact (((h.put ok.1.1.1 (by omega)).put ok.1.1.2 (by omega)).put ok.1.2 (by omega)).put ok.2 (by omega)
    · exact h
  · exact h
/-! keeping the first text -/
theorem keep_wf {M : Nat → Int → Int} (hw : mWF M) (t : Int) : mWF (mKeep M t) := by
  unfold mWF at hw ⊢
  refine ⟨fun s a b => ?_, fun j a b => ?_, hw.2.2⟩
  · rw [mKeep, mu_s]
    by_cases e : s = t
    · rw [e, rz_u_s]; exact hw.1 0 (by omega) (by omega)
    · rw [rz_u_n e]; exact hw.1 s a b
  · rw [mKeep, mu_n (by decide), mu_s, kpF]
    split
    · exact hw.2.1 _ (by omega) (by omega)
    · exact hw.2.1 j a b
theorem keep_n {M : Nat → Int → Int} {k : Nat} (h0 : k ≠ 0) (h1 : k ≠ 1) {u : Int} : mKeep M u k = M k := by rw [mKeep, mu_n h1, mu_n h0]
theorem keep_t {M : Nat → Int → Int} (hw : mWF M) {t s : Int} (hs : 0 ≤ s ∧ s < 126) (h : s ≠ t) : txE M (mKeep M t) s := by
  have e : mKeep M t 1 s = M 1 s := by rw [mKeep, mu_s, rz_u_n h]
  refine ⟨?_, e⟩
  funext i
  have := hw.1 s hs.1 hs.2
  unfold mAt
  rw [e]
  split
  · rw [mKeep, mu_n (by decide), mu_s, kpF, if_neg (by omega)]
  · rfl
theorem keep_s {M : Nat → Int → Int} (hw : mWF M) (t : Int) : mAt (mKeep M t) t = mAt M 0 ∧ mKeep M t 1 t = M 1 0 := by
  have e : mKeep M t 1 t = M 1 0 := by rw [mKeep, mu_s, rz_u_s]
  refine ⟨?_, e⟩
  funext i
  have := hw.1 0 (by omega) (by omega)
  unfold mAt
  rw [e]
  split
  · rw [mKeep, mu_n (by decide), mu_s, kpF, if_pos (by omega)]; congr 1; omega
  · rfl
theorem mVal_p {M : Nat → Int → Int} (h : mVal M) : (∀ p r, 0 ≤ p → p < 6 → 0 ≤ r → r < M 2 p → ver (mAt M (6 + 4 * p + r)) 0 (M 1 (6 + 4 * p + r)) = true) := h.1
theorem Big.host {M : Nat → Int → Int} {F : Int → Int → Int} (h : Big M F) : Big (sp_host M).2 F := by
  unfold sp_host
  split
  · rename_i hv
    refine Big.use ?_
    have kt := fun s hs hn => keep_t (t := 1) (s := s) h.wf hs hn
    have ks := keep_s h.wf 1
    obtain ⟨w2, w5, w6, w8, w9⟩ := M_big h.wf
    have kn := fun k h0 h1 => keep_n (M := M) (k := k) h0 h1 (u := 1)
    refine ⟨keep_wf h.wf 1, ⟨fun p r p0 p1 r0 r1 => ?_, by rw [ks.1, ks.2]; exact hv, fun k k0 k1 hk => ?_, fun k j k0 k1 j0 j1 => ?_, fun x x0 x1 => ?_⟩, ?_, ?_, fun p p0 p1 => ?_⟩
    · rw [kn 2 (by decide) (by decide)] at r1; have := w2 p p0 p1; exact ver_t (kt _ (by omega) (by omega)) (h.val.1 p r p0 p1 r0 r1)
    · rw [kn 4 (by decide) (by decide)] at hk; exact rng_t (kt _ (by omega) (by omega)) (h.val.2.2.1 k k0 k1 hk)
    · rw [kn 5 (by decide) (by decide)] at j1; have := w5 k k0 k1; exact rng_t (kt _ (by omega) (by omega)) (h.val.2.2.2.1 k j k0 k1 j0 j1)
    · rw [kn 8 (by decide) (by decide)] at x1; exact rng_t (kt _ (by omega) (by omega)) (h.val.2.2.2.2 x x0 x1)
    · have := h.ch; unfold chOK at this ⊢; rw [kn 12 (by decide) (by decide), kn 14 (by decide) (by decide), kn 2 (by decide) (by decide)]; exact this
    · have := h.na; unfold naOK at this ⊢; rw [kn 2 (by decide) (by decide), kn 3 (by decide) (by decide), kn 4 (by decide) (by decide), kn 5 (by decide) (by decide)]; exact this
    · have := w2 p p0 p1
      exact flOK_t (h.fl p p0 p1) (by rw [kn 2 (by decide) (by decide)]) this.1 (fun s s0 s1 => kt _ (by omega) (by omega))
  · exact h.use
theorem Big.withdraw {M : Nat → Int → Int} {F : Int → Int → Int} (h : Big M F) (p r : Int) (on : Bool) : Big (sp_withdraw M p r on).2 F := by
  unfold sp_withdraw
  split
  · exact h
  · rename_i hn
    simp only [mNone, Bool.or_eq_true, not_or, Bool.not_eq_true', Bool.not_eq_false] at hn
    have hp := mIn_t.1 (by simpa using hn.1); have hr := mIn_t.1 (by simpa using hn.2)
    obtain ⟨w2, w5, w6, w8, w9⟩ := M_big h.wf
    have w := w2 p hp.1 (by omega)
    have hw := h.wf
    show Big (mu M 3 (rz_u (M 3) (4 * p + r) (bi on))) F
    refine ⟨?_, mVal_t h.wf h.val rfl rfl rfl rfl (fun t _ _ => ⟨rfl, rfl⟩), h.ch, fun k k0 k1 hk => ?_, fun q q0 q1 => flOK_t (h.fl q q0 q1) rfl (w2 q q0 q1).1 (fun s _ _ => ⟨rfl, rfl⟩)⟩
    · unfold mWF at hw ⊢
      refine ⟨hw.1, hw.2.1, hw.2.2.1, hw.2.2.2.1, hw.2.2.2.2.1, hw.2.2.2.2.2.1, hw.2.2.2.2.2.2.1, fun k k0 k1 => ?_, hw.2.2.2.2.2.2.2.2⟩
      rw [mu_s]
      by_cases e : k = 4 * p + r
      · rw [e, rz_u_s]; cases on <;> simp [bi]
      · rw [rz_u_n e]; exact hw.2.2.2.2.2.2.2.1 k k0 k1
    · have hk' : M 2 (k / 4) ≤ k % 4 := hk
      have := h.na k k0 k1 hk'
      rw [mu_s]
      refine ⟨?_, this.2.1, this.2.2⟩
      rw [rz_u_n]
      · exact this.1
      · rintro rfl
        rw [show (4 * p + r) / 4 = p by omega, show (4 * p + r) % 4 = r by omega] at hk'; omega

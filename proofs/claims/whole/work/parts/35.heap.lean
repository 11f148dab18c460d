/-! HEAP: frames of one step, frames around one cell, texts -/
theorem rz_fr.one {h : rz_H} {a : Nat} {t : Nat × Nat} {e e' : va_E} (ha : h a = some (t, e)) : rz_fr [t.1] h (rz_up h a (t, e')) := rz_fr.rf.up ha (by simp)
theorem rz_fr.nw {h : rz_H} {a : Nat} {x : (Nat × Nat) × va_E} (ha : h a = none) : rz_fr [] h (rz_up h a x) := rz_fr.rf.new ha
theorem rz_fr.nn {h h' : rz_H} (hf : rz_fr [] h h') {a : Nat} (ha : h' a = none) : h a = none := by
  cases hx : h a with
  | none => rfl
  | some x => rw [hf a x.1 x.2 hx (by simp)] at ha; cases ha
theorem rz_fr.upn {rs : List Nat} {h h1 : rz_H} {a : Nat} {x : (Nat × Nat) × va_E} (hf : rz_fr rs h h1) (hn : h a = none) : rz_fr rs h (rz_up h1 a x) := fun q t e hq hr => by
  rw [rz_up_n (fun z => by rw [z, hn] at hq; cases hq)]
  exact hf q t e hq hr
/-- all cells but v's stay -/
def rz_fo (v : Nat) (h h' : rz_H) : Prop := ∀ (a : Nat) (x : (Nat × Nat) × va_E), a ≠ v → h a = some x → h' a = some x
theorem rz_fo.rf {v : Nat} {h : rz_H} : rz_fo v h h := fun _ _ _ q => q
theorem rz_fo.tr {v : Nat} {h h1 h2 : rz_H} (a : rz_fo v h h1) (b : rz_fo v h1 h2) : rz_fo v h h2 := fun q x hn hq => b q x hn (a q x hn hq)
theorem rz_fo.up {v : Nat} {h h1 : rz_H} {x : (Nat × Nat) × va_E} (a : rz_fo v h h1) : rz_fo v h (rz_up h1 v x) := fun q y hn hq => by
  rw [rz_up_n hn]
  exact a q y hn hq
theorem rz_fo.nw {v : Nat} {h h1 : rz_H} {b : Nat} {x : (Nat × Nat) × va_E} (a : rz_fo v h h1) (hb : h1 b = none) : rz_fo v h (rz_up h1 b x) := fun q y hn hq => rz_up_f hb (a q y hn hq)
theorem rz_fo.upn {v : Nat} {h h1 : rz_H} {b : Nat} {x : (Nat × Nat) × va_E} (a : rz_fo v h h1) (hb : h b = none) : rz_fo v h (rz_up h1 b x) := fun q y hn hq => by
  rw [rz_up_n (fun z => by rw [z, hb] at hq; cases hq)]
  exact a q y hn hq
theorem rz_fo.fr {v : Nat} {h h1 h2 : rz_H} (a : rz_fo v h h1) (b : rz_fr [] h1 h2) : rz_fo v h h2 := fun q x hn hq => b q x.1 x.2 (a q x hn hq) (by simp)
theorem rz_fo.nn {v : Nat} {h h1 : rz_H} (a : rz_fo v h h1) {b : Nat} (hb : h1 b = none) (hv : b ≠ v) : h b = none := by
  cases hx : h b with
  | none => rfl
  | some x => rw [a b x hv hx] at hb; cases hb
theorem rz_ne {h : rz_H} {a b : Nat} {x : (Nat × Nat) × va_E} (ha : h a = none) (hb : h b = some x) : a ≠ b := fun e => by rw [e, hb] at ha; cases ha
/-- an object made and filled: what was stays -/
theorem rz_fo.fr0 {h h2 : rz_H} {q : Nat} {x : (Nat × Nat) × va_E} (hq : h q = none) (hf : rz_fo q (rz_up h q x) h2) : rz_fr [] h h2 := fun a t e ha _ => hf a (t, e) (fun z => by rw [z, hq] at ha; cases ha) (rz_up_f hq ha)
/-- of role r: the cells of this role may change -/
theorem rz_fo.fr1 {h h2 : rz_H} {q : Nat} {t : Nat × Nat} {e : va_E} (hq : h q = some (t, e)) (hf : rz_fo q h h2) : rz_fr [t.1] h h2 := fun a t' e' ha hn => hf a (t', e') (fun z => by rw [z, hq] at ha; cases ha; exact hn (by simp)) ha
/-- cells whose tags ts doesn't name stay -/
def rz_ft (ts : List (Nat × Nat)) (h h' : rz_H) : Prop := ∀ (a : Nat) (t : Nat × Nat) (e : va_E), h a = some (t, e) → t ∉ ts → h' a = some (t, e)
theorem rz_ft.rf {ts : List (Nat × Nat)} {h : rz_H} : rz_ft ts h h := fun _ _ _ ha _ => ha
theorem rz_ft.tr {ts : List (Nat × Nat)} {h h1 h2 : rz_H} (a : rz_ft ts h h1) (b : rz_ft ts h1 h2) : rz_ft ts h h2 := fun q t e ha hn => b q t e (a q t e ha hn) hn
theorem rz_ft.up {ts : List (Nat × Nat)} {h h1 : rz_H} {a : Nat} {t : Nat × Nat} {e e' : va_E} (hf : rz_ft ts h h1) (ha : h1 a = some (t, e)) (ht : t ∈ ts) : rz_ft ts h (rz_up h1 a (t, e')) := fun q t2 e2 hq hn => rz_up_t ha (hf q t2 e2 hq hn) (fun z => hn (by rw [z]; exact ht))
theorem rz_ft.fr {ts : List (Nat × Nat)} {h h1 h2 : rz_H} (a : rz_ft ts h h1) (b : rz_fr [] h1 h2) : rz_ft ts h h2 := fun q t e ha hn => b q t e (a q t e ha hn) (by simp)
theorem rz_ft.fo {ts : List (Nat × Nat)} {h h1 h2 : rz_H} {v : Nat} {t : Nat × Nat} {e : va_E} (a : rz_ft ts h h1) (b : rz_fo v h1 h2) (hv : h1 v = some (t, e)) (ht : t ∈ ts) : rz_ft ts h h2 := fun q t' e' ha hn => b q (t', e') (fun z => hn (by have := a q t' e' ha hn; rw [z, hv] at this; cases this; exact ht)) (a q t' e' ha hn)
theorem rz_ft.mono {ts ts' : List (Nat × Nat)} {h h1 : rz_H} (hf : rz_ft ts h h1) (hs : ∀ r ∈ ts, r ∈ ts') : rz_ft ts' h h1 := fun q t e ha hn => hf q t e ha (fun z => hn (hs _ z))
theorem rz_ft.ro {ts : List (Nat × Nat)} {rs : List Nat} {h h1 : rz_H} (hf : rz_ft ts h h1) (hs : ∀ t ∈ ts, t.1 ∈ rs) : rz_fr rs h h1 := fun q t e ha hn => hf q t e ha (fun z => hn (hs _ z))
theorem nz_c {x : Int} (hx : 0 ≤ x ∧ x ≤ 65535) : narrow .char (vi x) = vi x := by
  have := (pk_charN (q := x.toNat) (by omega)).1
  rw [show nI x.toNat = Int32.ofInt x from by unfold nI; rw [← Int32.ofInt_eq_ofNat]; congr 1; omega] at this
  exact this
theorem fz_b (b : Bool) : fits .boolean (vi (bi b)) = true := by cases b <;> rfl
theorem sh_r0 (a : Int) : Int32.ofInt a >>> (Int32.ofInt 0 &&& 31) = Int32.ofInt a := sb_shr0 _
theorem sh_l0 (a : Int) : Int32.ofInt a <<< (Int32.ofInt 0 &&& 31) = Int32.ofInt a := sb_shl0 _
theorem nI_i {x : Int} (hx : 0 ≤ x) : Int32.ofInt x = nI x.toNat := by
  unfold nI
  rw [← Int32.ofInt_eq_ofNat]
  congr 1
  omega
theorem and255 {x : Int} (hx : 0 ≤ x ∧ x ≤ 255) : Int32.ofInt x &&& Int32.ofInt 255 = Int32.ofInt x := by
  rw [nI_i hx.1, pk_andN (k := 8) (by omega) (by decide), Nat.mod_eq_of_lt (by omega)]
/-- a text of n small letters -/
def tOK (n : Nat) (f : Int → Int) : Prop := n ≤ 100 ∧ ∀ j, 0 ≤ j → j < (n : Int) → 0 ≤ f j ∧ f j ≤ 127
/-- a String at s: n letters f; it stays as it is (roles below 3); of the old ones no longer than m -/
def StrAt (Γ : rz_G) (h : rz_H) (s n : Nat) (f : Int → Int) (m : Nat) : Prop := ∃ (ts tv : Nat × Nat) (va : Nat) (fs : List Value) (g : Int → Int), h s = some (ts, .inr (0, fs)) ∧ ts.1 < 3 ∧ fs[0]? = some (.ref va) ∧ fs[1]? = some (vi 0) ∧ h va = some (tv, aI Γ 2 n g) ∧ tv.1 < 3 ∧ (tv.1 = 0 → tv.2 = 2 ∧ n ≤ m) ∧ tOK n f ∧ ∀ j, 0 ≤ j → j < (n : Int) → g j = f j
theorem StrAt.fr {Γ : rz_G} {h h' : rz_H} {s n m : Nat} {f : Int → Int} {rs : List Nat} (hs : StrAt Γ h s n f m) (hf : rz_fr rs h h') (hr : ∀ r ∈ rs, 3 ≤ r) : StrAt Γ h' s n f m := by
  obtain ⟨ts, tv, va, fs, g, a1, a2, a3, a4, a5, a6, a7⟩ := hs
  exact ⟨ts, tv, va, fs, g, hf _ _ _ a1 (fun q => by have := hr _ q; omega), a2, a3, a4, hf _ _ _ a5 (fun q => by have := hr _ q; omega), a6, a7⟩
theorem StrAt.ok {Γ : rz_G} {h : rz_H} {s n m : Nat} {f : Int → Int} (hs : StrAt Γ h s n f m) : tOK n f := by
  obtain ⟨ts, tv, va, fs, g, a1, a2, a3, a4, a5, a6, a7, a8, a9⟩ := hs
  exact a8
theorem StrAt.c {Γ : rz_G} {h : rz_H} {s n m : Nat} {f f' : Int → Int} (hs : StrAt Γ h s n f m) (e : ∀ j, 0 ≤ j → j < (n : Int) → f' j = f j) : StrAt Γ h s n f' m := by
  obtain ⟨ts, tv, va, fs, g, a1, a2, a3, a4, a5, a6, a7, a8, a9⟩ := hs
  exact ⟨ts, tv, va, fs, g, a1, a2, a3, a4, a5, a6, a7, ⟨a8.1, fun j p q => by rw [e j p q]; exact a8.2 j p q⟩, fun j p q => by rw [e j p q]; exact a9 j p q⟩
def rz_mmaxW (own : String) (idx : Nat) : Prop := Cond.methodLink own idx Lib.Math.max.name ∈ rz_W ∧ Cond.static Lib.Math.max.name ∈ rz_W ∧ Cond.initialized "java/lang/Math" ∈ rz_W ∧ Cond.code Lib.Math.max.name Lib.Math.max.code 2 (some .int) ∈ rz_W
theorem rz_mmax {Γ : rz_G} {X : rz_X} {rm : Room} {post : Option Value → rz_H → Prop} {K : rz_K} {cells slots pc : Nat} {L : List (Nat × Value)} {st : List Value} {h : rz_H} {idx : Nat} {a b : Int} (r : Int) (hw : rz_mmaxW X.2.1 idx) (ra : -2147483648 ≤ a ∧ a ≤ 2147483647) (rb : -2147483648 ≤ b ∧ b ≤ 2147483647) (hr : r = a ∧ b ≤ a ∨ r = b ∧ a ≤ b) (hfr : 1 ≤ rm.frames) (hlo : (st.map fun v => v.category).sum + 24 ≤ rm.locals) (hc : cells ≤ rm.cells ∧ slots ≤ rm.slots) (hd : decode X.1 pc = .ok (.invokestatic idx, 3)) (kk : Wk Γ X rm post K cells slots (pc + 3) L (vi r :: st) h) : Wk Γ X rm post K cells slots pc L (vi b :: vi a :: st) h := by
  intro C H locs ls hO hS hl
  have hW := C.2.2.2.2.2.2.2.2.2.1
  refine va_mmax C.1 C.2.1 (C.2.2.1.trans hl.1.symm) C.2.2.2.1 (hW _ hw.1 _) (hW _ hw.2.1 _) (hW _ hw.2.2.1 _) (hW _ hw.2.2.2 _) hfr (by omega) hc.1 hc.2 hd ?_
  have e : (if Int32.ofInt a < Int32.ofInt b then Int32.ofInt b else Int32.ofInt a) = Int32.ofInt r := by
    by_cases q : a < b
    · rw [if_pos ((rz_lt ra rb).mpr q)]
      congr 1
      omega
    · rw [if_neg (fun z => q ((rz_lt ra rb).mp z))]
      congr 1
      omega
  rw [e]
  exact kk C H locs ls hO hS hl
def rz_mminW (own : String) (idx : Nat) : Prop := Cond.methodLink own idx Lib.Math.min.name ∈ rz_W ∧ Cond.static Lib.Math.min.name ∈ rz_W ∧ Cond.initialized "java/lang/Math" ∈ rz_W ∧ Cond.code Lib.Math.min.name Lib.Math.min.code 2 (some .int) ∈ rz_W
theorem rz_mmin {Γ : rz_G} {X : rz_X} {rm : Room} {post : Option Value → rz_H → Prop} {K : rz_K} {cells slots pc : Nat} {L : List (Nat × Value)} {st : List Value} {h : rz_H} {idx : Nat} {a b : Int} (r : Int) (hw : rz_mminW X.2.1 idx) (ra : -2147483648 ≤ a ∧ a ≤ 2147483647) (rb : -2147483648 ≤ b ∧ b ≤ 2147483647) (hr : r = a ∧ a ≤ b ∨ r = b ∧ b ≤ a) (hfr : 1 ≤ rm.frames) (hlo : (st.map fun v => v.category).sum + 24 ≤ rm.locals) (hc : cells ≤ rm.cells ∧ slots ≤ rm.slots) (hd : decode X.1 pc = .ok (.invokestatic idx, 3)) (kk : Wk Γ X rm post K cells slots (pc + 3) L (vi r :: st) h) : Wk Γ X rm post K cells slots pc L (vi b :: vi a :: st) h := by
  intro C H locs ls hO hS hl
  have hW := C.2.2.2.2.2.2.2.2.2.1
  refine va_mmin C.1 C.2.1 (C.2.2.1.trans hl.1.symm) C.2.2.2.1 (hW _ hw.1 _) (hW _ hw.2.1 _) (hW _ hw.2.2.1 _) (hW _ hw.2.2.2 _) hfr (by omega) hc.1 hc.2 hd ?_
  have e : (if Int32.ofInt b < Int32.ofInt a then Int32.ofInt b else Int32.ofInt a) = Int32.ofInt r := by
    by_cases q : b < a
    · rw [if_pos ((rz_lt rb ra).mpr q)]
      congr 1
      omega
    · rw [if_neg (fun z => q ((rz_lt rb ra).mp z))]
      congr 1
      omega
  rw [e]
  exact kk C H locs ls hO hS hl
theorem mm_Se_133 : rz_mminW "ReleaseSolver$Search" 133 := ⟨(rz_mem 906 (by decide +kernel) rfl), (rz_mem 282 (by decide +kernel) rfl), (rz_mem 62 (by decide +kernel) rfl), (rz_mem 283 (by decide +kernel) rfl)⟩
theorem mm_S1_38 : rz_mminW "java/lang/StringLatin1" 38 := ⟨(rz_mem 718 (by decide +kernel) rfl), (rz_mem 282 (by decide +kernel) rfl), (rz_mem 62 (by decide +kernel) rfl), (rz_mem 283 (by decide +kernel) rfl)⟩
theorem mm_S1_92 : rz_mmaxW "java/lang/StringLatin1" 92 := ⟨(rz_mem 717 (by decide +kernel) rfl), (rz_mem 459 (by decide +kernel) rfl), (rz_mem 62 (by decide +kernel) rfl), (rz_mem 460 (by decide +kernel) rfl)⟩
theorem mm_Al_79 : rz_mmaxW "java/util/ArrayList" 79 := ⟨(rz_mem 661 (by decide +kernel) rfl), (rz_mem 459 (by decide +kernel) rfl), (rz_mem 62 (by decide +kernel) rfl), (rz_mem 460 (by decide +kernel) rfl)⟩
theorem mm_Ar_304 : rz_mminW "java/util/Arrays" 304 := ⟨(rz_mem 281 (by decide +kernel) rfl), (rz_mem 282 (by decide +kernel) rfl), (rz_mem 62 (by decide +kernel) rfl), (rz_mem 283 (by decide +kernel) rfl)⟩
theorem mm_As_194 : rz_mmaxW "jdk/internal/util/ArraysSupport" 194 := ⟨(rz_mem 458 (by decide +kernel) rfl), (rz_mem 459 (by decide +kernel) rfl), (rz_mem 62 (by decide +kernel) rfl), (rz_mem 460 (by decide +kernel) rfl)⟩

/-! CORE 3: bits, switches, texts, copies, inherited methods -/
theorem rz_iand {Γ : rz_G} {X : rz_X} {rm : Room} {post : Option Value → rz_H → Prop} {K : rz_K} {cells slots pc : Nat} {L : List (Nat × Value)} {st : List Value} {h : rz_H} {a b : Int} (r : Int) (hr : Int32.ofInt a &&& Int32.ofInt b = Int32.ofInt r) (hd : decode X.1 pc = .ok (.iand, 1)) (k : Wk Γ X rm post K cells slots (pc + 1) L (vi r :: st) h) : Wk Γ X rm post K cells slots pc L (vi b :: vi a :: st) h :=
  fun C H locs ls hO hS hl => lv_iand C.1 C.2.1 hd (by rw [hr]; exact k C H locs ls hO hS hl)
theorem rz_ior {Γ : rz_G} {X : rz_X} {rm : Room} {post : Option Value → rz_H → Prop} {K : rz_K} {cells slots pc : Nat} {L : List (Nat × Value)} {st : List Value} {h : rz_H} {a b : Int} (r : Int) (hr : Int32.ofInt a ||| Int32.ofInt b = Int32.ofInt r) (hd : decode X.1 pc = .ok (.ior, 1)) (k : Wk Γ X rm post K cells slots (pc + 1) L (vi r :: st) h) : Wk Γ X rm post K cells slots pc L (vi b :: vi a :: st) h :=
  fun C H locs ls hO hS hl => lv_ior C.1 C.2.1 hd (by rw [hr]; exact k C H locs ls hO hS hl)
theorem rz_ixor {Γ : rz_G} {X : rz_X} {rm : Room} {post : Option Value → rz_H → Prop} {K : rz_K} {cells slots pc : Nat} {L : List (Nat × Value)} {st : List Value} {h : rz_H} {a b : Int} (r : Int) (hr : Int32.ofInt a ^^^ Int32.ofInt b = Int32.ofInt r) (hd : decode X.1 pc = .ok (.ixor, 1)) (k : Wk Γ X rm post K cells slots (pc + 1) L (vi r :: st) h) : Wk Γ X rm post K cells slots pc L (vi b :: vi a :: st) h :=
  fun C H locs ls hO hS hl => lv_ixor C.1 C.2.1 hd (by rw [hr]; exact k C H locs ls hO hS hl)
theorem rz_ishl {Γ : rz_G} {X : rz_X} {rm : Room} {post : Option Value → rz_H → Prop} {K : rz_K} {cells slots pc : Nat} {L : List (Nat × Value)} {st : List Value} {h : rz_H} {a b : Int} (r : Int) (hr : Int32.ofInt a <<< (Int32.ofInt b &&& 31) = Int32.ofInt r) (hd : decode X.1 pc = .ok (.ishl, 1)) (k : Wk Γ X rm post K cells slots (pc + 1) L (vi r :: st) h) : Wk Γ X rm post K cells slots pc L (vi b :: vi a :: st) h :=
  fun C H locs ls hO hS hl => lv_ishl C.1 C.2.1 hd (by rw [hr]; exact k C H locs ls hO hS hl)
theorem rz_ishr {Γ : rz_G} {X : rz_X} {rm : Room} {post : Option Value → rz_H → Prop} {K : rz_K} {cells slots pc : Nat} {L : List (Nat × Value)} {st : List Value} {h : rz_H} {a b : Int} (r : Int) (hr : Int32.ofInt a >>> (Int32.ofInt b &&& 31) = Int32.ofInt r) (hd : decode X.1 pc = .ok (.ishr, 1)) (k : Wk Γ X rm post K cells slots (pc + 1) L (vi r :: st) h) : Wk Γ X rm post K cells slots pc L (vi b :: vi a :: st) h :=
  fun C H locs ls hO hS hl => lv_ishr C.1 C.2.1 hd (by rw [hr]; exact k C H locs ls hO hS hl)
theorem rz_i2b {Γ : rz_G} {X : rz_X} {rm : Room} {post : Option Value → rz_H → Prop} {K : rz_K} {cells slots pc : Nat} {L : List (Nat × Value)} {st : List Value} {h : rz_H} {a : Int} (ha : -128 ≤ a ∧ a ≤ 127) (hd : decode X.1 pc = .ok (.i2b, 1)) (k : Wk Γ X rm post K cells slots (pc + 1) L (vi a :: st) h) : Wk Γ X rm post K cells slots pc L (vi a :: st) h :=
  fun C H locs ls hO hS hl => lv_i2b C.1 C.2.1 hd (by have e := rz_nb ha; rw [vp_nar_byte] at e; exact e) (k C H locs ls hO hS hl)
theorem rz_tsOut {Γ : rz_G} {X : rz_X} {rm : Room} {post : Option Value → rz_H → Prop} {K : rz_K} {cells slots pc : Nat} {L : List (Nat × Value)} {st : List Value} {h : rz_H} {a dflt lo hi : Int} {offs : Array Int} {len : Nat} (tgt : Nat) (ra : -2147483648 ≤ a ∧ a ≤ 2147483647) (ho : a < lo ∨ hi < a) (hd : decode X.1 pc = .ok (.tableswitch dflt lo hi offs, len)) (ht : (pc : Int) + dflt = (tgt : Int)) (k : Wk Γ X rm post K cells slots tgt L st h) : Wk Γ X rm post K cells slots pc L (vi a :: st) h :=
  fun C H locs ls hO hS hl => lv_tableOut C.1 C.2.1 hd (by rw [rz_ti ra]; exact ho) ht (k C H locs ls hO hS hl)
theorem rz_tsIn {Γ : rz_G} {X : rz_X} {rm : Room} {post : Option Value → rz_H → Prop} {K : rz_K} {cells slots pc : Nat} {L : List (Nat × Value)} {st : List Value} {h : rz_H} {a dflt lo hi off : Int} {offs : Array Int} {len : Nat} (tgt : Nat) (ra : -2147483648 ≤ a ∧ a ≤ 2147483647) (h1 : ¬ a < lo) (h2 : ¬ hi < a) (ho : offs[(a - lo).toNat]? = some off) (hd : decode X.1 pc = .ok (.tableswitch dflt lo hi offs, len)) (ht : (pc : Int) + off = (tgt : Int)) (k : Wk Γ X rm post K cells slots tgt L st h) : Wk Γ X rm post K cells slots pc L (vi a :: st) h :=
  fun C H locs ls hO hS hl => lv_tableIn C.1 C.2.1 hd (by rw [rz_ti ra]; exact h1) (by rw [rz_ti ra]; exact h2) (by rw [rz_ti ra]; exact ho) ht (k C H locs ls hO hS hl)
theorem rz_acmp_ne {Γ : rz_G} {X : rz_X} {rm : Room} {post : Option Value → rz_H → Prop} {K : rz_K} {cells slots pc : Nat} {L : List (Nat × Value)} {st : List Value} {h : rz_H} {a b : Nat} {off : Int} (tgt : Nat) (hd : decode X.1 pc = .ok (.if_acmp .ne off, 3)) (ht : (pc : Int) + off = (tgt : Int)) (kt : ¬ a = b → Wk Γ X rm post K cells slots tgt L st h) (kf : a = b → Wk Γ X rm post K cells slots (pc + 3) L st h) : Wk Γ X rm post K cells slots pc L (.ref b :: .ref a :: st) h :=
  fun C H locs ls hO hS hl => lv_acmp_ne (rx := some a) (ry := some b) C.1 C.2.1 hd ht (fun q => kt (fun z => q (by rw [z])) C H locs ls hO hS hl) (fun q => kf (Option.some.inj q) C H locs ls hO hS hl)
theorem rz_acmp_eq {Γ : rz_G} {X : rz_X} {rm : Room} {post : Option Value → rz_H → Prop} {K : rz_K} {cells slots pc : Nat} {L : List (Nat × Value)} {st : List Value} {h : rz_H} {a b : Nat} {off : Int} (tgt : Nat) (hd : decode X.1 pc = .ok (.if_acmp .eq off, 3)) (ht : (pc : Int) + off = (tgt : Int)) (kt : a = b → Wk Γ X rm post K cells slots tgt L st h) (kf : ¬ a = b → Wk Γ X rm post K cells slots (pc + 3) L st h) : Wk Γ X rm post K cells slots pc L (.ref b :: .ref a :: st) h :=
  fun C H locs ls hO hS hl => lv_acmp_eq (rx := some a) (ry := some b) C.1 C.2.1 hd ht (fun q => kt (Option.some.inj q) C H locs ls hO hS hl) (fun q => kf (fun z => q (by rw [z])) C H locs ls hO hS hl)
/-- an array's length, of old or new -/
theorem rz_alenB {Γ : rz_G} {X : rz_X} {rm : Room} {post : Option Value → rz_H → Prop} {K : rz_K} {cells slots pc : Nat} {L : List (Nat × Value)} {st : List Value} {h : rz_H} {a k n : Nat} {t : Nat × Nat} {g : Int → Int} {ty : FieldType} {v : Int} (ha : h a = some (t, aI Γ k n g)) (ht : t.1 = 0 → t.2 = k) (hk : (rz_T Γ.2.1)[k]? = some (Γ.2.1 k, ty)) (hv : v = (n : Int)) (hd : decode X.1 pc = .ok (.arraylength, 1)) (kk : Wk Γ X rm post K cells slots (pc + 1) L (vi v :: st) h) : Wk Γ X rm post K cells slots pc L (.ref a :: st) h := by
  obtain ⟨t1, t2⟩ := t
  by_cases e : t1 = 0
  · subst e
    have e2 := ht rfl
    dsimp only at e2
    subst e2
    exact rz_alenF ha hv hd kk
  · exact rz_alen ha e hk hv hd kk
theorem rz_newI {Γ : rz_G} {X : rz_X} {rm : Room} {post : Option Value → rz_H → Prop} {K : rz_K} {cells slots pc : Nat} {L : List (Nat × Value)} {st : List Value} {h : rz_H} {n : Int} (N : Nat) (t : Nat × Nat) (ht : t.1 ≠ 0) (hw : Cond.arrayClass .int ∈ rz_W) (hn : n = (N : Int)) (hN : N ≤ 10000000) (hc : cells + 1 ≤ rm.cells ∧ slots + N ≤ rm.slots) (hd : decode X.1 pc = .ok (.newarray .int, 2))
    (kk : ∀ q : Nat, h q = none → Wk Γ X rm post K (cells + 1) (slots + N) (pc + 2) L (.ref q :: st) (rz_up h q (t, aI Γ 0 N (fun _ => 0)))) : Wk Γ X rm post K cells slots pc L (vi n :: st) h :=
  rz_newa (k := 0) (ty := .int) (atype := .int) N t ht rfl rfl (fun U cA q => q) (a0 := (N, .inl (fun _ => Int32.ofInt 0))) (fun cA => rfl) hw hn hN (by decide) hc hd kk
theorem rz_newZ {Γ : rz_G} {X : rz_X} {rm : Room} {post : Option Value → rz_H → Prop} {K : rz_K} {cells slots pc : Nat} {L : List (Nat × Value)} {st : List Value} {h : rz_H} {n : Int} (N : Nat) (t : Nat × Nat) (ht : t.1 ≠ 0) (hw : Cond.arrayClass .boolean ∈ rz_W) (hn : n = (N : Int)) (hN : N ≤ 10000000) (hc : cells + 1 ≤ rm.cells ∧ slots + N ≤ rm.slots) (hd : decode X.1 pc = .ok (.newarray .boolean, 2))
    (kk : ∀ q : Nat, h q = none → Wk Γ X rm post K (cells + 1) (slots + N) (pc + 2) L (.ref q :: st) (rz_up h q (t, aI Γ 1 N (fun _ => 0)))) : Wk Γ X rm post K cells slots pc L (vi n :: st) h :=
  rz_newa (k := 1) (ty := .boolean) (atype := .boolean) N t ht rfl rfl (fun U cA q => q) (a0 := (N, .inl (fun _ => Int32.ofInt 0))) (fun cA => rfl) hw hn hN (by decide) hc hd kk
theorem rz_newB {Γ : rz_G} {X : rz_X} {rm : Room} {post : Option Value → rz_H → Prop} {K : rz_K} {cells slots pc : Nat} {L : List (Nat × Value)} {st : List Value} {h : rz_H} {n : Int} (N : Nat) (t : Nat × Nat) (ht : t.1 ≠ 0) (hw : Cond.arrayClass .byte ∈ rz_W) (hn : n = (N : Int)) (hN : N ≤ 10000000) (hc : cells + 1 ≤ rm.cells ∧ slots + N ≤ rm.slots) (hd : decode X.1 pc = .ok (.newarray .byte, 2))
    (kk : ∀ q : Nat, h q = none → Wk Γ X rm post K (cells + 1) (slots + N) (pc + 2) L (.ref q :: st) (rz_up h q (t, aI Γ 2 N (fun _ => 0)))) : Wk Γ X rm post K cells slots pc L (vi n :: st) h :=
  rz_newa (k := 2) (ty := .byte) (atype := .byte) N t ht rfl rfl (fun U cA q => q) (a0 := (N, .inl (fun _ => Int32.ofInt 0))) (fun cA => rfl) hw hn hN (by decide) hc hd kk
theorem rz_newL {Γ : rz_G} {X : rz_X} {rm : Room} {post : Option Value → rz_H → Prop} {K : rz_K} {cells slots pc : Nat} {L : List (Nat × Value)} {st : List Value} {h : rz_H} {n : Int} (N : Nat) (t : Nat × Nat) (ht : t.1 ≠ 0) (hw : Cond.arrayClass .long ∈ rz_W) (hn : n = (N : Int)) (hN : N ≤ 10000000) (hc : cells + 1 ≤ rm.cells ∧ slots + N ≤ rm.slots) (hd : decode X.1 pc = .ok (.newarray .long, 2))
    (kk : ∀ q : Nat, h q = none → Wk Γ X rm post K (cells + 1) (slots + N) (pc + 2) L (.ref q :: st) (rz_up h q (t, aL Γ N (fun _ => 0)))) : Wk Γ X rm post K cells slots pc L (vi n :: st) h :=
  rz_newa (k := 3) (ty := .long) (atype := .long) N t ht rfl rfl (fun U cA q => q) (a0 := (N, .inr (.inl (fun _ => Int64.ofInt 0)))) (fun cA => rfl) hw hn hN (by decide) hc hd kk
theorem rz_aastore {Γ : rz_G} {X : rz_X} {rm : Room} {post : Option Value → rz_H → Prop} {K : rz_K} {cells slots pc : Nat} {L : List (Nat × Value)} {st : List Value} {h : rz_H} {a n k v ci : Nat} {t tv : Nat × Nat} {f : Int → Option Nat} {i : Int} {vs : List Value} {q0 : vw_C} {E : String} (ha : h a = some (t, aR Γ k n f)) (hk : (rz_T Γ.2.1)[k]? = some (Γ.2.1 k, .object E)) (ht : t.1 ≠ 0) (hv : h v = some (tv, .inr (ci, vs))) (htv : tv.1 ≠ 0) (hc : rz_cl[ci]? = some q0) (hca : q0.1 = E ∨ (q0.1, E) ∈ rz_NC) (hi : 0 ≤ i ∧ i < n ∧ i ≤ 2147483647) (hd : decode X.1 pc = .ok (.aastore, 1)) (kk : Wk Γ X rm post K cells slots (pc + 1) L st (rz_up h a (t, aR Γ k n (rz_u f i (some v))))) : Wk Γ X rm post K cells slots pc L (.ref v :: vi i :: .ref a :: st) h := by
  intro C H locs ls hO hS hl
  have hE := C.2.2.2.2.2.2.2
  obtain ⟨ws, hP, hD, hws⟩ := hO
  rcases hws a t _ ha with ⟨-, p0, hp0⟩ | ⟨h0, -⟩
  · rcases hws v tv _ hv with ⟨-, p1, hp1⟩ | ⟨h0, -⟩
    · rcases hca with hca | hca
      · subst hca
        refine va_astq C.1 C.2.1 hE.1 hP hD hS p0 k p1 ci hp0 hk hp1 hc (rz_in hi) hd (fun H1 locs1 hP1 hD1 hS1 => ?_)
        rw [rz_updQ ⟨hi.1, hi.2.2⟩] at hP1 hD1
        exact kk C H1 locs1 ls (rz_O.set hws hp0 ht hP1 hD1) hS1 hl
      · refine va_astqO C.1 C.2.1 hE.1 hP hD hS p0 k p1 ci hp0 hk (hE.2.2.2.1.2.2.1 _ hca) hp1 hc (rz_in hi) hd (fun H1 locs1 hP1 hD1 hS1 => ?_)
        rw [rz_updQ ⟨hi.1, hi.2.2⟩] at hP1 hD1
        exact kk C H1 locs1 ls (rz_O.set hws hp0 ht hP1 hD1) hS1 hl
    · exact absurd h0 htv
  · exact absurd h0 ht
theorem rz_aastoreN {Γ : rz_G} {X : rz_X} {rm : Room} {post : Option Value → rz_H → Prop} {K : rz_K} {cells slots pc : Nat} {L : List (Nat × Value)} {st : List Value} {h : rz_H} {a n k : Nat} {t : Nat × Nat} {f : Int → Option Nat} {i : Int} {E : String} (ha : h a = some (t, aR Γ k n f)) (hk : (rz_T Γ.2.1)[k]? = some (Γ.2.1 k, .object E)) (ht : t.1 ≠ 0) (hi : 0 ≤ i ∧ i < n ∧ i ≤ 2147483647) (hd : decode X.1 pc = .ok (.aastore, 1)) (kk : Wk Γ X rm post K cells slots (pc + 1) L st (rz_up h a (t, aR Γ k n (rz_u f i none)))) : Wk Γ X rm post K cells slots pc L (.null :: vi i :: .ref a :: st) h := by
  intro C H locs ls hO hS hl
  have hE := C.2.2.2.2.2.2.2
  obtain ⟨ws, hP, hD, hws⟩ := hO
  rcases hws a t _ ha with ⟨-, p0, hp0⟩ | ⟨h0, -⟩
  · refine va_astqN C.1 C.2.1 hE.1 hP hD hS p0 k hp0 hk (rz_in hi) hd (fun H1 locs1 hP1 hD1 hS1 => ?_)
    rw [rz_updQ ⟨hi.1, hi.2.2⟩] at hP1 hD1
    exact kk C H1 locs1 ls (rz_O.set hws hp0 ht hP1 hD1) hS1 hl
  · exact absurd h0 ht
/-- f's places sp .. sp+n-1 over g's dp .. -/
def rz_cp {α : Type} (f g : Int → α) (sp dp n : Int) : Int → α := fun j => if dp ≤ j ∧ j < dp + n then f (sp + (j - dp)) else g j
theorem rz_cpy {α β : Type} (w : α → β) {f g : Int → α} {sp dp n : Int} (h1 : 0 ≤ sp) (h2 : 0 ≤ dp) (h3 : 0 ≤ n) : va_cpy (fun j : Nat => w (f (j : Int))) (fun j : Nat => w (g (j : Int))) sp.toNat dp.toNat n.toNat = fun j : Nat => w (rz_cp f g sp dp n (j : Int)) := by
  funext j
  unfold rz_cp
  by_cases c : dp ≤ j ∧ (j : Int) < dp + n
  · rw [if_pos c, pk_cpy_in (by omega) (by omega)]
    congr 2
    omega
  · rw [if_neg c, pk_cpy_out (by omega)]
theorem rz_n0 {i : Int} (hi : 0 ≤ i ∧ i ≤ 2147483647) : ¬ Int32.ofInt i < 0 := by rw [rz_0, rz_lt (by omega) (by omega)]; omega
def rz_cpW (own : String) (idx : Nat) : Prop := Cond.methodLink own idx arraycopyName ∈ rz_W ∧ Cond.native arraycopyName ∈ rz_W ∧ Cond.static arraycopyName ∈ rz_W ∧ Cond.initialized "java/lang/System" ∈ rz_W
theorem rz_nfw : nativeFrameWords "java/lang/System" "arraycopy" 5 ≤ 16 := by decide +kernel
theorem rz_copyI {Γ : rz_G} {X : rz_X} {rm : Room} {post : Option Value → rz_H → Prop} {K : rz_K} {cells slots pc : Nat} {L : List (Nat × Value)} {st : List Value} {h : rz_H} {a0 a n0 n1 idx : Nat} {t0 t : Nat × Nat} {f g : Int → Int} {sp dp n : Int} (hw : rz_cpW X.2.1 idx) (ha0 : h a0 = some (t0, aI Γ 0 n0 f)) (ht0 : t0.1 ≠ 0) (ha : h a = some (t, aI Γ 0 n1 g)) (ht : t.1 ≠ 0) (h1 : 0 ≤ sp ∧ 0 ≤ dp ∧ 0 ≤ n) (h2 : sp + n ≤ n0 ∧ dp + n ≤ n1) (h3 : sp ≤ 1000000 ∧ dp ≤ 1000000 ∧ n ≤ 1000000) (hfr : 1 ≤ rm.frames) (hlo : (st.map fun v => v.category).sum + 27 ≤ rm.locals) (hd : decode X.1 pc = .ok (.invokestatic idx, 3))
    (kk : Wk Γ X rm post K cells slots (pc + 3) L st (rz_up h a (t, aI Γ 0 n1 (rz_cp f g sp dp n)))) : Wk Γ X rm post K cells slots pc L (vi n :: vi dp :: .ref a :: vi sp :: .ref a0 :: st) h := by
  intro C H locs ls hO hS hl
  have hE := C.2.2.2.2.2.2.2
  have hW := hE.2.2.1
  obtain ⟨ws, hP, hD, hws⟩ := hO
  have hnf := rz_nfw
  rcases hws a t _ ha with ⟨-, p0, hp0⟩ | ⟨h0, -⟩
  · rcases hws a0 t0 _ ha0 with ⟨-, p1, hp1⟩ | ⟨h0, -⟩
    · refine va_copyi C.1 C.2.1 (C.2.2.1.trans hl.1.symm) C.2.2.2.1 (hW _ hw.1 _) (hW _ hw.2.1 _) (hW _ hw.2.2.1 _) (hW _ hw.2.2.2 _) hE.1 hP hD hS p1 p0 0 0 hp1 hp0 rfl rfl rfl (rz_n0 (by omega)) (rz_n0 (by omega)) (rz_n0 (by omega)) (by rw [rz_cl_i (by omega), rz_cl_i (by omega)]; omega) (by rw [rz_cl_i (by omega), rz_cl_i (by omega)]; omega) (fun i _ => rfl) hfr (by omega) hd (fun H1 locs1 hP1 hD1 hS1 => ?_)
      rw [rz_cl_i (by omega), rz_cl_i (by omega), rz_cl_i (by omega), rz_cpy Int32.ofInt h1.1 h1.2.1 h1.2.2] at hP1 hD1
      exact kk C H1 locs1 ls (rz_O.set hws hp0 ht hP1 hD1) hS1 hl
    · exact absurd h0 ht0
  · exact absurd h0 ht
theorem rz_fitb {v : Int} (hv : -128 ≤ v ∧ v ≤ 127) : fits .byte (.int (Int32.ofInt v)) = true := by
  have e := rz_nb hv
  rw [vp_nar_byte] at e
  rw [← e]
  exact pk_fb _
theorem rz_copyB {Γ : rz_G} {X : rz_X} {rm : Room} {post : Option Value → rz_H → Prop} {K : rz_K} {cells slots pc : Nat} {L : List (Nat × Value)} {st : List Value} {h : rz_H} {a0 a n0 n1 idx : Nat} {t0 t : Nat × Nat} {f g : Int → Int} {sp dp n : Int} (hw : rz_cpW X.2.1 idx) (ha0 : h a0 = some (t0, aI Γ 2 n0 f)) (ht0 : t0.1 ≠ 0) (ha : h a = some (t, aI Γ 2 n1 g)) (ht : t.1 ≠ 0) (h1 : 0 ≤ sp ∧ 0 ≤ dp ∧ 0 ≤ n) (h2 : sp + n ≤ n0 ∧ dp + n ≤ n1) (h3 : sp ≤ 1000000 ∧ dp ≤ 1000000 ∧ n ≤ 1000000) (hf : ∀ j, 0 ≤ j → j < n → -128 ≤ f (sp + j) ∧ f (sp + j) ≤ 127) (hfr : 1 ≤ rm.frames) (hlo : (st.map fun v => v.category).sum + 27 ≤ rm.locals) (hd : decode X.1 pc = .ok (.invokestatic idx, 3))
    (kk : Wk Γ X rm post K cells slots (pc + 3) L st (rz_up h a (t, aI Γ 2 n1 (rz_cp f g sp dp n)))) : Wk Γ X rm post K cells slots pc L (vi n :: vi dp :: .ref a :: vi sp :: .ref a0 :: st) h := by
  intro C H locs ls hO hS hl
  have hE := C.2.2.2.2.2.2.2
  have hW := hE.2.2.1
  obtain ⟨ws, hP, hD, hws⟩ := hO
  have hnf := rz_nfw
  rcases hws a t _ ha with ⟨-, p0, hp0⟩ | ⟨h0, -⟩
  · rcases hws a0 t0 _ ha0 with ⟨-, p1, hp1⟩ | ⟨h0, -⟩
    · refine va_copyi C.1 C.2.1 (C.2.2.1.trans hl.1.symm) C.2.2.2.1 (hW _ hw.1 _) (hW _ hw.2.1 _) (hW _ hw.2.2.1 _) (hW _ hw.2.2.2 _) hE.1 hP hD hS p1 p0 2 2 hp1 hp0 rfl rfl rfl (rz_n0 (by omega)) (rz_n0 (by omega)) (rz_n0 (by omega)) (by rw [rz_cl_i (by omega), rz_cl_i (by omega)]; omega) (by rw [rz_cl_i (by omega), rz_cl_i (by omega)]; omega) (fun i hi => ?_) hfr (by omega) hd (fun H1 locs1 hP1 hD1 hS1 => ?_)
      · rw [rz_cl_i (by omega)] at hi; rw [rz_cl_i (by omega)]; exact rz_fitb (by have q := hf i (by omega) (by omega); rw [show sp + (i : Int) = ((sp.toNat + i : Nat) : Int) by omega] at q; exact q)
      · rw [rz_cl_i (by omega), rz_cl_i (by omega), rz_cl_i (by omega), rz_cpy Int32.ofInt h1.1 h1.2.1 h1.2.2] at hP1 hD1
        exact kk C H1 locs1 ls (rz_O.set hws hp0 ht hP1 hD1) hS1 hl
    · exact absurd h0 ht0
  · exact absurd h0 ht
theorem rz_copyQ {Γ : rz_G} {X : rz_X} {rm : Room} {post : Option Value → rz_H → Prop} {K : rz_K} {cells slots pc : Nat} {L : List (Nat × Value)} {st : List Value} {h : rz_H} {a n0 k idx ci : Nat} {t : Nat × Nat} {f : Int → Option Nat} {sp dp n : Int} {q0 : vw_C} {E : String} (hw : rz_cpW X.2.1 idx) (ha : h a = some (t, aR Γ k n0 f)) (ht : t.1 ≠ 0) (hk : (rz_T Γ.2.1)[k]? = some (Γ.2.1 k, .object E)) (hc : rz_cl[ci]? = some q0) (hca : (q0.1, E) ∈ rz_NC) (hel : ∀ j y, 0 ≤ j → j < n → f (sp + j) = some y → ∃ (ty : Nat × Nat) (vs : List Value), h y = some (ty, .inr (ci, vs))) (h1 : 0 ≤ sp ∧ 0 ≤ dp ∧ 0 ≤ n) (h2 : sp + n ≤ n0 ∧ dp + n ≤ n0) (h3 : sp ≤ 1000000 ∧ dp ≤ 1000000 ∧ n ≤ 1000000) (hfr : 1 ≤ rm.frames) (hlo : (st.map fun v => v.category).sum + 27 ≤ rm.locals) (hd : decode X.1 pc = .ok (.invokestatic idx, 3))
    (kk : Wk Γ X rm post K cells slots (pc + 3) L st (rz_up h a (t, aR Γ k n0 (rz_cp f f sp dp n)))) : Wk Γ X rm post K cells slots pc L (vi n :: vi dp :: .ref a :: vi sp :: .ref a :: st) h := by
  intro C H locs ls hO hS hl
  have hO0 := hO
  have hE := C.2.2.2.2.2.2.2
  have hW := hE.2.2.1
  obtain ⟨ws, hP, hD, hws⟩ := hO
  have hnf := rz_nfw
  rcases hws a t _ ha with ⟨-, p0, hp0⟩ | ⟨h0, -⟩
  · refine va_copyq (C := q0.1) C.1 C.2.1 (C.2.2.1.trans hl.1.symm) C.2.2.2.1 (hW _ hw.1 _) (hW _ hw.2.1 _) (hW _ hw.2.2.1 _) (hW _ hw.2.2.2 _) hE.1 hP hD hS p0 p0 k k hp0 hp0 hk hk (rz_n0 (by omega)) (rz_n0 (by omega)) (rz_n0 (by omega)) (by rw [rz_cl_i (by omega), rz_cl_i (by omega)]; omega) (by rw [rz_cl_i (by omega), rz_cl_i (by omega)]; omega) (fun i hi y hy => ?_) (fun comp c0 f1 f2 => ?_) hfr (by omega) hd (fun H1 locs1 hP1 hD1 hS1 => ?_)
    · rw [rz_cl_i (by omega)] at hi hy
      obtain ⟨ty, vs, hy2⟩ := hel i y (by omega) (by omega) (by rw [← hy]; congr 1; omega)
      exact rz_cell hE hO0 hS hy2 hc
    · obtain ⟨c1, t1, g1, g2, g3⟩ := Cond.castable_spec (va_Nw.use (A := #[]) rfl (hE.2.2.2.1.2.2.1 _ hca))
      cases f2.symm.trans g1
      cases f1.symm.trans g2
      exact g3
    · rw [rz_cl_i (by omega), rz_cl_i (by omega), rz_cl_i (by omega), rz_cpy (fun x : Option Nat => x) h1.1 h1.2.1 h1.2.2] at hP1 hD1
      exact kk C H1 locs1 ls (rz_O.set hws hp0 ht hP1 hD1) hS1 hl
  · exact absurd h0 ht
/-- a byte array's clone -/
def rz_clW (own : String) (idx : Nat) : Prop := Cond.methodLink own idx ⟨"[B", "clone", "()Ljava/lang/Object;"⟩ ∈ rz_W ∧ Cond.sameMethod "[B" "java/lang/Object" "clone" "()Ljava/lang/Object;" ∈ rz_W ∧ Cond.native ⟨"java/lang/Object", "clone", "()Ljava/lang/Object;"⟩ ∈ rz_W ∧ Cond.instanceMethod ⟨"java/lang/Object", "clone", "()Ljava/lang/Object;"⟩ ∈ rz_W ∧ Cond.selects "[B" ⟨"[B", "clone", "()Ljava/lang/Object;"⟩ ⟨"java/lang/Object", "clone", "()Ljava/lang/Object;"⟩ ∈ rz_W ∧ ("[B", "java/lang/Cloneable") ∈ rz_NC
theorem rz_cloneB {Γ : rz_G} {X : rz_X} {rm : Room} {post : Option Value → rz_H → Prop} {K : rz_K} {cells slots pc : Nat} {L : List (Nat × Value)} {st : List Value} {h : rz_H} {a n idx : Nat} {t0 : Nat × Nat} {g : Int → Int} (t : Nat × Nat) (htn : t.1 ≠ 0) (hw : rz_clW X.2.1 idx) (ha : h a = some (t0, aI Γ 2 n g)) (ht : t0.1 ≠ 0) (hf : ∀ j, 0 ≤ j → j < (n : Int) → -128 ≤ g j ∧ g j ≤ 127) (hfr : 1 ≤ rm.frames) (hlo : (st.map fun v => v.category).sum + 14 ≤ rm.locals) (hc : cells + 1 ≤ rm.cells ∧ slots + n ≤ rm.slots) (hd : decode X.1 pc = .ok (.invokevirtual idx, 3))
    (kk : ∀ q : Nat, h q = none → Wk Γ X rm post K (cells + 1) (slots + n) (pc + 3) L (.ref q :: st) (rz_up h q (t, aI Γ 2 n g))) : Wk Γ X rm post K cells slots pc L (.ref a :: st) h := by
  intro C H locs ls hO hS hl
  have hE := C.2.2.2.2.2.2.2
  have hW := hE.2.2.1
  obtain ⟨ws, hP, hD, hws⟩ := hO
  rcases hws a t0 _ ha with ⟨-, p0, hp0⟩ | ⟨h0, -⟩
  · refine va_clone (ad := "[B") C.1 C.2.1 (C.2.2.1.trans hl.1.symm) C.2.2.2.1 (hW _ hw.1 _) (hW _ hw.2.1 _) (hW _ hw.2.2.1 _) (hW _ hw.2.2.2.1 _) (hW _ hw.2.2.2.2.1 _) (hE.2.2.2.1.2.2.1 _ hw.2.2.2.2.2) hE.1 hP hD hS (fun q hq => Nat.le_trans hE.2.1 hq) p0 2 hp0 rfl (hE.1.2 2 _ rfl).2 (fun i v hv => ?_) hfr hlo hc.1 hc.2 hd (fun q H1 hK1 hP1 hD1 hS1 => ?_)
    · rw [vp_cell_i] at hv
      simp only [arrV, Array.getElem?_ofFn] at hv
      split at hv
      · cases hv
        exact rz_fitb (hf i (by omega) (by omega))
      · cases hv
    · obtain ⟨hq, hO1⟩ := rz_O.push hE hws htn hP1 hD1
      exact kk q hq C H1 locs ls hO1 hS1 hl
  · exact absurd h0 ht
theorem rz_castB {Γ : rz_G} {X : rz_X} {rm : Room} {post : Option Value → rz_H → Prop} {K : rz_K} {cells slots pc : Nat} {L : List (Nat × Value)} {st : List Value} {h : rz_H} {a n idx : Nat} {t : Nat × Nat} {g : Int → Int} (ha : h a = some (t, aI Γ 2 n g)) (ht : t.1 ≠ 0) (hw : Cond.classLink X.2.1 idx "[B" ∈ rz_W) (hd : decode X.1 pc = .ok (.checkcast idx, 3)) (kk : Wk Γ X rm post K cells slots (pc + 3) L (.ref a :: st) h) : Wk Γ X rm post K cells slots pc L (.ref a :: st) h := by
  intro C H locs ls hO hS hl
  have kk' := kk C H locs ls hO hS hl
  have hE := C.2.2.2.2.2.2.2
  obtain ⟨ws, hP, hD, hws⟩ := hO
  rcases hws a t _ ha with ⟨-, p0, hp0⟩ | ⟨h0, -⟩
  · exact va_castA C.1 C.2.1 C.2.2.2.1 (hE.2.2.1 _ hw _) hP p0 hp0 (hE.1.2 2 _ rfl).2 hd kk'
  · exact absurd h0 ht
/-- a private method of a class above is selected, whatever the receiver -/
theorem rz_selP {s : State} {args : Array Value} {y : MethodName} {C : String} {c : ClassId} (hC : s.vm.findClass C = some c) (hpriv : (Cond.privateMethod y).before args s = true) (hinst : (Cond.instanceMethod y).before args s = true) (hsame : (Cond.sameMethod y.cls y.cls y.name y.desc).before args s = true) : (Cond.selects C y y).before args s = true := by
  obtain ⟨mk, methM, hnamed, hmethM, -, -⟩ := Cond.instanceMethod_spec hinst
  obtain ⟨c2, ck, r, hc2, hck, hni, hf, hn2⟩ := Cond.sameMethod_found hsame
  cases hnamed.symm.trans hn2
  have hcls : mk.cls = c2 := Option.some.inj ((findClass_of_methodNamed hnamed).symm.trans hc2)
  have hsel : selectMethod {} s.vm c mk = .method mk := selectMethod_private hmethM (Cond.privateMethod_at hpriv mk methM hnamed hmethM)
  simp only [Cond.before, Cond.holds, Cond.value, hC, hf, hnamed, hsel, hcls, hck]
  simp
  exact hni
/-- a method that a class above declares, and the receiver's class has its own -/
def rz_mU (own : String) (idx : Nat) (C : String) (x : MethodName) (Xx : rz_X) (y : MethodName) (Xc : rz_X) (n : Nat) : Prop := Cond.methodLink own idx x ∈ rz_W ∧ Cond.sameMethod x.cls x.cls x.name x.desc ∈ rz_W ∧ Cond.instanceMethod x ∈ rz_W ∧ Cond.code x Xx.1 Xx.2.2.1 Xx.2.2.2.1 ∈ rz_W ∧ (x.cls ≠ "java/lang/invoke/MethodHandle" ∧ x.cls ≠ "java/lang/invoke/VarHandle") ∧ (parseMethodDescriptor x.desc).map (fun d => d.parameters.length) = some n ∧ Cond.selects C x y ∈ rz_W ∧ Cond.instanceMethod y ∈ rz_W ∧ rz_mB y Xc n
theorem rz_aaloadA {Γ : rz_G} {X : rz_X} {rm : Room} {post : Option Value → rz_H → Prop} {K : rz_K} {cells slots pc : Nat} {L : List (Nat × Value)} {st : List Value} {h : rz_H} {a n : Nat} {t : Nat × Nat} {f : Int → Option Nat} {i : Int} (ha : h a = some (t, aR Γ 6 n f)) (ht : t.1 ≠ 0) (hi : 0 ≤ i ∧ i < n ∧ i ≤ 2147483647) (hd : decode X.1 pc = .ok (.aaload, 1)) (kk : Wk Γ X rm post K cells slots (pc + 1) L (va_rf (f i) :: st) h) : Wk Γ X rm post K cells slots pc L (vi i :: .ref a :: st) h := by
  intro C H locs ls hO hS hl
  have kk' := kk C H locs ls hO hS hl
  have hE := C.2.2.2.2.2.2.2
  obtain ⟨ws, hP, hD, hws⟩ := hO
  rcases hws a t _ ha with ⟨-, q0, hq0⟩ | ⟨h0, -⟩
  · have hin := rz_in hi
    have hlt : (Int32.ofInt i).toNatClampNeg < n := Nat.not_le.mp fun q => hin (Or.inr q)
    refine W.aald (v := va_rf (f i)) (ty := .array .int) C.1 C.2.1 (hP q0 _ hq0) ((hE.1.2 6 _ rfl).1 n (fun j => va_rf (f (j : Int)))) rfl (fun q => by cases q) (by show ¬ (Int32.ofInt i < 0 ∨ (arrV _ _ _).slots.size ≤ _); rw [arrV_size]; exact hin) (by show (arrV _ _ _).slots[_]? = _; rw [arrV_read _ _ hlt]; show some (va_rf (f (((Int32.ofInt i).toNatClampNeg : Nat) : Int))) = _; rw [rz_ixn ⟨hi.1, hi.2.2⟩]) rfl rfl hd kk'
  · exact absurd h0 ht
theorem rz_callU {Γ : rz_G} {X : rz_X} {rm : Room} {post : Option Value → rz_H → Prop} {K : rz_K} {cells slots pc : Nat} {L : List (Nat × Value)} {st : List Value} {h : rz_H} {x : MethodName} {Xx : rz_X} {Xc : rz_X} {y : MethodName} {rmc : Room} {post' : Option Value → rz_H → Prop} {idx n : Nat} {st0 : List Value} {Cn : String} {As : List Value} {b ci : Nat} {tb : Nat × Nat} {fs : List Value} {q0 : vw_C} (hM : Ct K.1 Γ Xc y rmc (.ref b :: As) h post') (hm : rz_mU X.2.1 idx Cn x Xx y Xc n) (ha : h b = some (tb, .inr (ci, fs))) (hc : rz_cl[ci]? = some q0) (hC : q0.1 = Cn) (hn : As.length = n) (hst : st0 = As.reverse ++ .ref b :: st) (hcat : (st.map fun v => v.category).sum ≤ 8) (hR : rmc.frames + 1 ≤ rm.frames ∧ 8 + (Xc.2.2.1 + 11) + rmc.locals ≤ rm.locals) (hf : cells + rmc.cells ≤ rm.cells ∧ slots + rmc.slots ≤ rm.slots) (hd : decode X.1 pc = .ok (.invokevirtual idx, 3))
    (kk : ∀ (v : Option Value) (h' : rz_H), post' v h' → Wk Γ X rm post K (cells + rmc.cells) (slots + rmc.slots) (pc + 3) L (v.toList ++ st) h') : Wk Γ X rm post K cells slots pc L st0 h := by
  obtain ⟨hlink, hsa, hix, hcx, hxm, hxl, hse, hin, hini, hcd, hmh, hdl⟩ := hm
  subst hC
  intro C H locs ls hO hS hl
  have C0 := C
  obtain ⟨hx, hb, hml, hown, hr, hlk, hnm, hE⟩ := C
  have hW := hE.2.2.1
  have hcw := hW _ hcd K.2.2.2.2.2.1
  have hws : ∀ w ∈ [Cond.code y Xc.1 Xc.2.2.1 Xc.2.2.2.1], ∀ (a' : Array Value) (U : State), K.2.2.2.1.WarmedH U.vm → w.before a' U = true := fun w hw a' U hWm => by
    rw [List.mem_singleton.mp hw]
    exact word_at hWm (rz_good _ hcd) hcw
  have hcell := rz_cell hE hO hS ha hc
  have hp : PreV K.2.2.2.1 H q0.1 b (va_Pc (.ref b :: As) (fun U => rz_E Γ U ∧ rz_O Γ h U.heap)) As := ⟨rz_blind, hcell, rz_pre hE hO hS⟩
  refine rz_go (a := (Value.ref b :: As).toArray) C0 hl ?_ hS kk
  exact va_runU (Ts := rz_W) (owner := x.cls) ⟨hx, hb, hml, hown, fun w hw => hW w hw _⟩ hM ⟨⟨rfl, rfl, hR.1, hR.2, hws, List.mem_singleton.mpr rfl⟩, hcw, hW _ hini _, hxm, rz_len hxl, hW _ hlink _, hW _ hsa _, va_Decl.of (hW _ hix K.2.2.2.2.2.1) (hW _ hcx _), hW _ hse _, hW _ hin _⟩ hp rfl hn hl.1 hst (lv_room hcat) hd hf
/-- the method of the class above, by super -/
def rz_mSU (own : String) (idx : Nat) (y : MethodName) (Xc : rz_X) (n : Nat) : Prop := Cond.methodLink own idx y ∈ rz_W ∧ Cond.sameMethod y.cls y.cls y.name y.desc ∈ rz_W ∧ Cond.superclass own y.cls ∈ rz_W ∧ Cond.instanceMethod y ∈ rz_W ∧ y.name ≠ "<init>" ∧ rz_mB y Xc n
theorem rz_callSU {Γ : rz_G} {X : rz_X} {rm : Room} {post : Option Value → rz_H → Prop} {K : rz_K} {cells slots pc : Nat} {L : List (Nat × Value)} {st : List Value} {h : rz_H} {Xc : rz_X} {y : MethodName} {rmc : Room} {post' : Option Value → rz_H → Prop} {idx n : Nat} {st0 : List Value} {Cn : String} {As : List Value} {b ci : Nat} {tb : Nat × Nat} {fs : List Value} {q0 : vw_C} (hM : Ct K.1 Γ Xc y rmc (.ref b :: As) h post') (hm : rz_mSU X.2.1 idx y Xc n) (ha : h b = some (tb, .inr (ci, fs))) (hc : rz_cl[ci]? = some q0) (hC : q0.1 = Cn) (hn : As.length = n) (hst : st0 = As.reverse ++ .ref b :: st) (hcat : (st.map fun v => v.category).sum ≤ 8) (hR : rmc.frames + 1 ≤ rm.frames ∧ 8 + (Xc.2.2.1 + 11) + rmc.locals ≤ rm.locals) (hf : cells + rmc.cells ≤ rm.cells ∧ slots + rmc.slots ≤ rm.slots) (hd : decode X.1 pc = .ok (.invokespecial idx, 3))
    (kk : ∀ (v : Option Value) (h' : rz_H), post' v h' → Wk Γ X rm post K (cells + rmc.cells) (slots + rmc.slots) (pc + 3) L (v.toList ++ st) h') : Wk Γ X rm post K cells slots pc L st0 h := by
  obtain ⟨hlink, hsa, hsu, hin, hni, hini, hcd, hmh, hdl⟩ := hm
  subst hC
  intro C H locs ls hO hS hl
  have C0 := C
  obtain ⟨hx, hb, hml, hown, hr, hlk, hnm, hE⟩ := C
  have hW := hE.2.2.1
  have hcw := hW _ hcd K.2.2.2.2.2.1
  have hws : ∀ w ∈ [Cond.code y Xc.1 Xc.2.2.1 Xc.2.2.2.1], ∀ (a' : Array Value) (U : State), K.2.2.2.1.WarmedH U.vm → w.before a' U = true := fun w hw a' U hWm => by
    rw [List.mem_singleton.mp hw]
    exact word_at hWm (rz_good _ hcd) hcw
  have hcell := rz_cell hE hO hS ha hc
  have hp : PreV K.2.2.2.1 H q0.1 b (va_Pc (.ref b :: As) (fun U => rz_E Γ U ∧ rz_O Γ h U.heap)) As := ⟨rz_blind, hcell, rz_pre hE hO hS⟩
  refine rz_go (a := (Value.ref b :: As).toArray) C0 hl ?_ hS kk
  exact va_runSU (Ts := rz_W) (hE.1.1 ci q0 hc).2 ⟨hx, hb, hml, hown, fun w hw => hW w hw _⟩ hM ⟨⟨rfl, rfl, hR.1, hR.2, hws, List.mem_singleton.mpr rfl⟩, hW _ hlink _, hW _ hsa _, hW _ hsu _, hW _ hin _, hW _ hini _, hcw, hni, rz_len hdl⟩ hp rfl hn hl.1 hst (lv_room hcat) hd hf

/-! CORE: Java's numbers as integers; the heap as a map with tags; a walk that hides the machine -/
abbrev vi (x : Int) : Value := Value.int (Int32.ofInt x)
abbrev vl (x : Int) : Value := Value.long (Int64.ofInt x)
def bi (b : Bool) : Int := if b = true then 1 else 0
theorem bi_t : bi true = 1 := rfl
theorem bi_f : bi false = 0 := rfl
theorem bi_in (b : Bool) : 0 ≤ bi b ∧ bi b ≤ 1 := by cases b <;> decide
theorem bi_eq0 (b : Bool) : bi b = 0 ↔ b = false := by cases b <;> decide
/-- tables: data of the classes, array classes, where the world begins, what lay there before, its addresses -/
abbrev rz_G : Type := va_G × (Nat → ClassId) × Nat × (Nat → Option (Nat × va_E)) × (Nat → Nat)
/-- the heap: an address, a tag (what for, whose), a cell; tag (0, t) is of old, read only -/
abbrev rz_H : Type := Nat → Option ((Nat × Nat) × va_E)
abbrev rz_K : Type := Launch × Program × Env × State × MethodId × Array Value × List Frame × Method × Code
abbrev rz_A (Γ : rz_G) : Nat → Prop := fun q => Γ.2.2.1 ≤ q
def rz_up (h : rz_H) (a : Nat) (x : (Nat × Nat) × va_E) : rz_H := fun b => if b = a then some x else h b
theorem rz_up_s (h : rz_H) (a : Nat) (x : (Nat × Nat) × va_E) : rz_up h a x a = some x := by simp [rz_up]
theorem rz_up_n {h : rz_H} {a b : Nat} {x : (Nat × Nat) × va_E} (hn : b ≠ a) : rz_up h a x b = h b := by simp [rz_up, hn]
/-- cells of other tags stay -/
theorem rz_up_t {h : rz_H} {a b : Nat} {x : (Nat × Nat) × va_E} {ta tb : Nat × Nat} {ea eb : va_E} (ha : h a = some (ta, ea)) (hb : h b = some (tb, eb)) (hn : tb ≠ ta) : rz_up h a x b = some (tb, eb) := by
  rw [rz_up_n (fun e => hn (by rw [e, ha] at hb; cases hb; rfl)), hb]
/-- a new cell: all others stay -/
theorem rz_up_f {h : rz_H} {a b : Nat} {x y : (Nat × Nat) × va_E} (ha : h a = none) (hb : h b = some y) : rz_up h a x b = some y := by
  rw [rz_up_n (fun e => by rw [e, ha] at hb; cases hb), hb]
/-- what lay there before: objects whose first fields are known, arrays of numbers or of references -/
def rz_fz (Γ : rz_G) (t a : Nat) (e : va_E) (U : State) : Prop := match e with
  | .inr o => ∃ r : vw_C, rz_cl[o.1]? = some r ∧ va_O r.1 a (rz_A Γ) U U.heap ∧ ∀ k v, o.2[k]? = some v → va_OF (r.2.1 k).1 (r.2.1 k).2.1 (r.2.1 k).2.2.1 v a (rz_A Γ) U U.heap
  | .inl (_, n, .inl f) => ∃ ty, (rz_T Γ.2.1)[t]? = some ty ∧ va_T ty.2 a n (fun j => .int (f j)) (rz_A Γ) U U.heap
  | .inl (_, n, .inr (.inr (.inr (.inr f)))) => ∃ ty, (rz_T Γ.2.1)[t]? = some ty ∧ va_T ty.2 a n (fun j => va_rf (f j)) (rz_A Γ) U U.heap
  | _ => False
theorem rz_fz.moved {Γ : rz_G} {t a : Nat} {e : va_E} {s U : State} (hvm : s.vm.Alike U.vm) (hk : ∀ q : Nat, q < s.heap.size → ¬ rz_A Γ q → U.heap[q]? = s.heap[q]?) (h : rz_fz Γ t a e s) : rz_fz Γ t a e U := by
  obtain ⟨cA, n, f | f | f | f | f⟩ | o := e
  · obtain ⟨ty, h1, h2⟩ := h
    exact ⟨ty, h1, (va_T.moved hvm h2).kept hk⟩
  · exact h
  · exact h
  · exact h
  · obtain ⟨ty, h1, h2⟩ := h
    exact ⟨ty, h1, (va_T.moved hvm h2).kept hk⟩
  · obtain ⟨r, h1, h2, h3⟩ := h
    exact ⟨r, h1, (va_O.moved hvm h2).kept hk, fun k v hv => (va_OF.moved hvm (h3 k v hv)).kept hk⟩
theorem rz_fz.out {Γ : rz_G} {t a : Nat} {e : va_E} {U : State} (h : rz_fz Γ t a e U) : ¬ rz_A Γ a := by
  obtain ⟨cA, n, f | f | f | f | f⟩ | o := e
  · obtain ⟨ty, h1, cell, -, -, -, -, -, -, h2⟩ := h
    exact h2
  · exact h.elim
  · exact h.elim
  · exact h.elim
  · obtain ⟨ty, h1, cell, -, -, -, -, -, -, h2⟩ := h
    exact h2
  · obtain ⟨r, h1, ⟨cell, -, -, -, h2⟩, h3⟩ := h
    exact h2
def rz_AOA (U : State) : Prop := (Cond.arrayOver (.array .int)).before #[] U = true
theorem rz_AOA_key {i1 i2 : Option Nat} (e : i1 = i2) {F1 F2 : Nat → Option Bool} (hF : ∀ c, F2 c = some true → F1 c = some true) (h : ((i2.bind F2) == some true) = true) : ((i1.bind F1) == some true) = true := by
  subst e
  cases i1 with
  | none => simp at h
  | some c =>
    simp only [Option.bind_some, beq_iff_eq] at h ⊢
    exact hF c h
theorem rz_AOA.moved {u U : State} (hvm : u.vm.Alike U.vm) (h : rz_AOA u) : rz_AOA U := by
  unfold rz_AOA Cond.before Cond.holds at h ⊢
  simp only [Cond.value] at h ⊢
  cases hf : u.vm.findClass (FieldType.array .int).toString with
  | none => rw [hf] at h; simp at h
  | some comp =>
    have f1 : U.vm.findClass (FieldType.array .int).toString = some comp := by rw [hvm.findClass]; exact hf
    rw [hf, Option.bind_some] at h
    rw [f1, Option.bind_some]
    have e : (U.vm.classes.findIdx? fun (x : Class) => match x.kind with | .array component _ => component == comp | _ => false) = (u.vm.classes.findIdx? fun (x : Class) => match x.kind with | .array component _ => component == comp | _ => false) := by
      have e2 := va_idx_bare U.vm comp
      have e3 := va_idx_bare u.vm comp
      rw [← hvm.bare_eq] at e3
      exact e2.symm.trans e3
    refine rz_AOA_key e (fun c hc => ?_) h
    cases hk : u.vm.classes[c]? with
    | none => rw [hk] at hc; simp at hc
    | some k =>
      obtain ⟨k', hk', he⟩ := hvm.2.2 _ _ hk
      rw [hk] at hc
      rw [hk', hvm.findClass]
      simp only [Option.map_some] at hc ⊢
      rw [he]
      exact hc
/-- what a method may count on: tables, words, statics, constants -/
def rz_E (Γ : rz_G) (U : State) : Prop :=
  va_K Γ.1 rz_cl (rz_T Γ.2.1) U ∧ Γ.2.2.1 ≤ U.heap.size ∧ (∀ w ∈ rz_W, ∀ a : Array Value, w.before a U = true) ∧
  ((∀ q ∈ rz_NF, va_Nw (.fieldLinkNest q.1 q.2.1 q.2.2.1 q.2.2.2.1 q.2.2.2.2.1 q.2.2.2.2.2) U) ∧ (∀ q ∈ rz_NM, va_Nw (.methodLinkNest q.1 q.2.1 q.2.2.1 q.2.2.2) U) ∧ (∀ q ∈ rz_NC, va_Nw (.castable q.1 q.2) U) ∧ (∀ q ∈ rz_NA, va_AO q U) ∧ rz_AOA U) ∧
  (∀ a t e, Γ.2.2.2.1 a = some (t, e) → rz_fz Γ t a e U) ∧ (∀ q ∈ rz_Z Γ.2.2.2.2, va_Z q.1 q.2.1 q.2.2.1 q.2.2.2 (rz_A Γ) U U.heap) ∧ ∀ q ∈ rz_S Γ.2.2.2.2, vk_R q.1 q.2.1 q.2.2.1 q.2.2.2 U
theorem rz_E.moved {Γ : rz_G} {s U : State} (hE : rz_E Γ s) (hz : s.heap.size ≤ U.heap.size) (hk : ∀ q : Nat, q < s.heap.size → ¬ rz_A Γ q → U.heap[q]? = s.heap[q]?) (hW : s.WarmedH U.vm) : rz_E Γ U := by
  obtain ⟨h1, h2, h3, ⟨h4, h5, h6, h7, h7a⟩, h8, h9, h10⟩ := hE
  refine ⟨va_K.moved hW.alike h1, Nat.le_trans h2 hz, fun w hw a => word_at hW (rz_good w hw) (h3 w hw a), ⟨fun q hq => va_Nw.warmF hW (h4 q hq), fun q hq => va_Nw.warmM hW (h5 q hq), fun q hq => va_Nw.warmC hW (h6 q hq), fun q hq => va_AO.moved hW.alike (h7 q hq), rz_AOA.moved hW.alike h7a⟩,
    fun a t e he => (h8 a t e he).moved hW.alike hk, fun q hq => (va_Z.moved hW.alike (h9 q hq)).kept hk, fun q hq => vk_R.warm hW (h10 q hq)⟩
/-- the machine's heap holds the map -/
def rz_O (Γ : rz_G) (h : rz_H) (H : Heap) : Prop := ∃ ws : va_W, va_P Γ.1 rz_cl ws H ∧ va_D (rz_A Γ) ws ∧ ∀ (a : Nat) (t : Nat × Nat) (e : va_E), h a = some (t, e) → (t.1 ≠ 0 ∧ ∃ k : Nat, ws[k]? = some (a, e)) ∨ (t.1 = 0 ∧ Γ.2.2.2.1 a = some (t.2, e))
theorem rz_O.set {Γ : rz_G} {h : rz_H} {ws : va_W} {k a : Nat} {t : Nat × Nat} {e e' : va_E} {H1 : Heap} (hws : ∀ (a : Nat) (t : Nat × Nat) (e : va_E), h a = some (t, e) → (t.1 ≠ 0 ∧ ∃ k : Nat, ws[k]? = some (a, e)) ∨ (t.1 = 0 ∧ Γ.2.2.2.1 a = some (t.2, e)))
    (hk : ws[k]? = some (a, e)) (ht : t.1 ≠ 0) (hP1 : va_P Γ.1 rz_cl (ws.set k (a, e')) H1) (hD1 : va_D (rz_A Γ) (ws.set k (a, e'))) : rz_O Γ (rz_up h a (t, e')) H1 := by
  refine ⟨_, hP1, hD1, fun b tb eb hb => ?_⟩
  have hl := (List.getElem?_eq_some_iff.mp hk).1
  by_cases hba : b = a
  · subst hba
    rw [rz_up_s] at hb
    cases hb
    exact Or.inl ⟨ht, k, List.getElem?_set_self hl⟩
  · rw [rz_up_n hba] at hb
    rcases hws b tb eb hb with ⟨h1, j, hj⟩ | h1
    · refine Or.inl ⟨h1, j, ?_⟩
      rw [List.getElem?_set_ne (fun e => hba (by rw [e, hj] at hk; cases hk; rfl))]
      exact hj
    · exact Or.inr h1
theorem rz_O.push {Γ : rz_G} {h : rz_H} {ws : va_W} {q : Nat} {t : Nat × Nat} {e : va_E} {s : State} {H1 : Heap} (hE : rz_E Γ s) (hws : ∀ (a : Nat) (t : Nat × Nat) (e : va_E), h a = some (t, e) → (t.1 ≠ 0 ∧ ∃ k : Nat, ws[k]? = some (a, e)) ∨ (t.1 = 0 ∧ Γ.2.2.2.1 a = some (t.2, e)))
    (ht : t.1 ≠ 0) (hP1 : va_P Γ.1 rz_cl (ws ++ [(q, e)]) H1) (hD1 : va_D (rz_A Γ) (ws ++ [(q, e)])) : h q = none ∧ rz_O Γ (rz_up h q (t, e)) H1 := by
  have hq : (ws ++ [(q, e)])[ws.length]? = some (q, e) := by simp
  have hn : h q = none := by
    cases hx : h q with
    | none => rfl
    | some x =>
      obtain ⟨tx, ex⟩ := x
      rcases hws q tx ex hx with ⟨-, j, hj⟩ | ⟨-, h2⟩
      · have hl := (List.getElem?_eq_some_iff.mp hj).1
        have hj2 : (ws ++ [(q, e)])[j]? = some (q, ex) := by rw [List.getElem?_append_left hl]; exact hj
        have := hD1.1 j ws.length _ _ hj2 hq rfl
        omega
      · exact absurd (hD1.2 _ _ hq) (hE.2.2.2.2.1 q _ _ h2).out
  refine ⟨hn, _, hP1, hD1, fun b tb eb hb => ?_⟩
  by_cases hba : b = q
  · subst hba
    rw [rz_up_s] at hb
    cases hb
    exact Or.inl ⟨ht, _, hq⟩
  · rw [rz_up_n hba] at hb
    rcases hws b tb eb hb with ⟨h1, j, hj⟩ | h1
    · exact Or.inl ⟨h1, j, by rw [List.getElem?_append_left (List.getElem?_eq_some_iff.mp hj).1]; exact hj⟩
    · exact Or.inr h1
/-- a contract's end -/
def rz_Q (Γ : rz_G) (post : Option Value → rz_H → Prop) : Array Value → State → Outcome → State → Prop := fun _ st oc t => (∃ (v : Option Value) (h' : rz_H), oc = .returned v ∧ post v h' ∧ rz_O Γ h' t.heap) ∧ va_F (rz_A Γ) st t
/-- a contract: y with these arguments, over this heap -/
def Ct (l : Launch) (Γ : rz_G) (X : rz_X) (y : MethodName) (rm : Room) (args : List Value) (h : rz_H) (post : Option Value → rz_H → Prop) : Prop :=
  Met l y [.code y X.1 X.2.2.1 X.2.2.2.1] rm (va_Pc args (fun U => rz_E Γ U ∧ rz_O Γ h U.heap)) (rz_Q Γ post) rm.cells rm.slots (rz_A Γ)
def rz_C (Γ : rz_G) (X : rz_X) (K : rz_K) : Prop := K.2.1.tables.exec = Jvm.exec ∧ K.2.2.2.2.2.2.2.2.code = X.1 ∧ K.2.2.2.2.2.2.2.2.maxLocals = X.2.2.1 ∧ K.2.2.2.1.vm.findClass X.2.1 = some K.2.2.2.2.1.cls ∧ K.2.2.2.2.2.2.2.1.sig.returnType = X.2.2.2.1 ∧ K.2.2.2.2.2.2.2.1.locks = false ∧ K.2.2.2.2.2.2.2.1.name = X.2.2.2.2 ∧ rz_E Γ K.2.2.2.1
def Wk (Γ : rz_G) (X : rz_X) (rm : Room) (post : Option Value → rz_H → Prop) (K : rz_K) (cells slots pc : Nat) (L : List (Nat × Value)) (st : List Value) (h : rz_H) : Prop :=
  rz_C Γ X K → ∀ (H : Heap) (locs : List Loc) (ls : Array Slot), rz_O Γ h H → va_S (rz_A Γ) K.2.2.2.1.heap H locs → lv_has ls X.2.2.1 L →
    W K.2.1 K.1 K.2.2.1 rm K.2.2.2.1 K.2.2.2.2.1 K.2.2.2.2.2.1 K.2.2.2.2.2.2.1 K.2.2.2.2.2.2.2.1 K.2.2.2.2.2.2.2.2 H locs cells slots (MQ K.2.2.2.2.2.2.1 (rz_Q Γ post) K.2.2.2.2.2.1 K.2.2.2.1 rm.cells rm.slots (rz_A Γ)) (F0 K.2.2.2.2.1 pc ls st)
/-- a contract out of a walk of the body -/
theorem rz_met {l : Launch} {Γ : rz_G} {X : rz_X} {y : MethodName} {rm : Room} {args : List Value} {h : rz_H} {post : Option Value → rz_H → Prop} (hy : plainName y.cls = true) (hX : X.2.1 = y.cls) (hN : X.2.2.2.2 = y.name) (hl : (lg_sl args).length ≤ X.2.2.1)
    (body : ∀ K : rz_K, K.1 = l → Wk Γ X rm post K 0 0 0 (lv_args 0 args) [] h) : Ct l Γ X y rm args h post := by
  refine Met.ofW (cc := X.1) (maxL := X.2.2.1) (ret := X.2.2.2.1) hy rfl ?_
  intro p e s m args' below meth c s₁ B hml hv
  obtain ⟨rfl, hE, hO⟩ := hv
  have hown : s.vm.findClass y.cls = some m.cls := findClass_of_methodNamed B.named
  have hnm : meth.name = y.name := (name_of_methodNamed B.named B.method).1
  rw [lg_entry_eq]
  exact body (l, p, e, s, m, args.toArray, below, meth, c) rfl ⟨B.exec, B.bytes, hml, by rw [hX]; exact hown, B.returns, B.notSynchronized, by rw [hN]; exact hnm, hE⟩ s.heap [] _ hO va_S.rf (lv_entry args hl)
/-- more room than is needed -/
theorem Wk.widen {Γ : rz_G} {X : rz_X} {rm : Room} {post : Option Value → rz_H → Prop} {K : rz_K} {cells slots pc : Nat} {L : List (Nat × Value)} {st : List Value} {h : rz_H} {k n : Nat} (h1 : cells ≤ k) (h2 : slots ≤ n) (kk : Wk Γ X rm post K k n pc L st h) : Wk Γ X rm post K cells slots pc L st h :=
  fun C H locs ls hO hS hl => W.widen h1 h2 (kk C H locs ls hO hS hl)
theorem rz_top {Γ : rz_G} {X : rz_X} {rm : Room} {post : Option Value → rz_H → Prop} {K : rz_K} {cells slots pc : Nat} {L : List (Nat × Value)} {st : List Value} {h : rz_H} {x : Int} (k : ∀ y : Int, y = x → Wk Γ X rm post K cells slots pc L (vi y :: st) h) : Wk Γ X rm post K cells slots pc L (vi x :: st) h := k x rfl
theorem rz_topl {Γ : rz_G} {X : rz_X} {rm : Room} {post : Option Value → rz_H → Prop} {K : rz_K} {cells slots pc : Nat} {L : List (Nat × Value)} {st : List Value} {h : rz_H} {x : Int} (k : ∀ y : Int, y = x → Wk Γ X rm post K cells slots pc L (vl y :: st) h) : Wk Γ X rm post K cells slots pc L (vl x :: st) h := k x rfl
/-! numbers -/
theorem rz_ti {a : Int} (r : -2147483648 ≤ a ∧ a ≤ 2147483647) : (Int32.ofInt a).toInt = a := Int32.toInt_ofInt_of_le (by omega) (by omega)
theorem rz_tl {a : Int} (r : -9223372036854775808 ≤ a ∧ a ≤ 9223372036854775807) : (Int64.ofInt a).toInt = a := Int64.toInt_ofInt_of_le (by omega) (by omega)
theorem rz_lt {a b : Int} (ra : -2147483648 ≤ a ∧ a ≤ 2147483647) (rb : -2147483648 ≤ b ∧ b ≤ 2147483647) : Int32.ofInt a < Int32.ofInt b ↔ a < b := by rw [Int32.lt_iff_toInt_lt, rz_ti ra, rz_ti rb]
theorem rz_le {a b : Int} (ra : -2147483648 ≤ a ∧ a ≤ 2147483647) (rb : -2147483648 ≤ b ∧ b ≤ 2147483647) : Int32.ofInt a ≤ Int32.ofInt b ↔ a ≤ b := by rw [Int32.le_iff_toInt_le, rz_ti ra, rz_ti rb]
theorem rz_eq {a b : Int} (ra : -2147483648 ≤ a ∧ a ≤ 2147483647) (rb : -2147483648 ≤ b ∧ b ≤ 2147483647) : Int32.ofInt a = Int32.ofInt b ↔ a = b := by rw [← Int32.toInt_inj, rz_ti ra, rz_ti rb]
theorem rz_0 : (0 : Int32) = Int32.ofInt 0 := rfl
theorem rz_in {i : Int} {n : Nat} (hi : 0 ≤ i ∧ i < n ∧ i ≤ 2147483647) : vp_in (Int32.ofInt i) n := vp_in_iff.mpr (by rw [rz_ti (by omega)]; omega)
theorem rz_cl_i {i : Int} (hi : 0 ≤ i ∧ i ≤ 2147483647) : (Int32.ofInt i).toNatClampNeg = i.toNat := by rw [← Int32.toNat_toInt, rz_ti (by omega)]
theorem rz_of (x : Int32) : ∃ a : Int, (-2147483648 ≤ a ∧ a ≤ 2147483647) ∧ x = Int32.ofInt a := ⟨x.toInt, by have h1 := x.toInt_lt; have h2 := x.le_toInt; omega, (Int32.ofInt_toInt x).symm⟩
/-! rows: constants -/
theorem rz_iconst {Γ : rz_G} {X : rz_X} {rm : Room} {post : Option Value → rz_H → Prop} {K : rz_K} {cells slots pc : Nat} {L : List (Nat × Value)} {st : List Value} {h : rz_H} {n : Int} (hd : decode X.1 pc = .ok (.iconst n, 1)) (k : Wk Γ X rm post K cells slots (pc + 1) L (vi n :: st) h) : Wk Γ X rm post K cells slots pc L st h :=
  fun C H locs ls hO hS hl => lv_iconst C.1 C.2.1 hd rfl (k C H locs ls hO hS hl)
theorem rz_bipush {Γ : rz_G} {X : rz_X} {rm : Room} {post : Option Value → rz_H → Prop} {K : rz_K} {cells slots pc : Nat} {L : List (Nat × Value)} {st : List Value} {h : rz_H} {n v : Int} (hd : decode X.1 pc = .ok (.bipush n, 2)) (hv : (Int8.ofInt n).toInt32 = Int32.ofInt v) (k : Wk Γ X rm post K cells slots (pc + 2) L (vi v :: st) h) : Wk Γ X rm post K cells slots pc L st h :=
  fun C H locs ls hO hS hl => lv_bipush C.1 C.2.1 hd hv (k C H locs ls hO hS hl)
theorem rz_sipush {Γ : rz_G} {X : rz_X} {rm : Room} {post : Option Value → rz_H → Prop} {K : rz_K} {cells slots pc : Nat} {L : List (Nat × Value)} {st : List Value} {h : rz_H} {n v : Int} (hd : decode X.1 pc = .ok (.sipush n, 3)) (hv : (Int16.ofInt n).toInt32 = Int32.ofInt v) (k : Wk Γ X rm post K cells slots (pc + 3) L (vi v :: st) h) : Wk Γ X rm post K cells slots pc L st h :=
  fun C H locs ls hO hS hl => lv_sipush C.1 C.2.1 hd hv (k C H locs ls hO hS hl)
theorem rz_lconst {Γ : rz_G} {X : rz_X} {rm : Room} {post : Option Value → rz_H → Prop} {K : rz_K} {cells slots pc : Nat} {L : List (Nat × Value)} {st : List Value} {h : rz_H} {n : Fin 2} {v : Int} (hd : decode X.1 pc = .ok (.lconst n, 1)) (hv : Int64.ofNat (n : Nat) = Int64.ofInt v) (k : Wk Γ X rm post K cells slots (pc + 1) L (vl v :: st) h) : Wk Γ X rm post K cells slots pc L st h :=
  fun C H locs ls hO hS hl => lv_lconst C.1 C.2.1 hd hv (k C H locs ls hO hS hl)
theorem rz_null {Γ : rz_G} {X : rz_X} {rm : Room} {post : Option Value → rz_H → Prop} {K : rz_K} {cells slots pc : Nat} {L : List (Nat × Value)} {st : List Value} {h : rz_H} (hd : decode X.1 pc = .ok (.aconst_null, 1)) (k : Wk Γ X rm post K cells slots (pc + 1) L (.null :: st) h) : Wk Γ X rm post K cells slots pc L st h :=
  fun C H locs ls hO hS hl => lv_null C.1 C.2.1 hd (k C H locs ls hO hS hl)
theorem rz_ldc {Γ : rz_G} {X : rz_X} {rm : Room} {post : Option Value → rz_H → Prop} {K : rz_K} {cells slots pc : Nat} {L : List (Nat × Value)} {st : List Value} {h : rz_H} {index : Nat} {v : Int} (hw : Cond.constant X.2.1 index (Int32.ofInt v) ∈ rz_W) (hd : decode X.1 pc = .ok (.ldc index, 2)) (k : Wk Γ X rm post K cells slots (pc + 2) L (vi v :: st) h) : Wk Γ X rm post K cells slots pc L st h :=
  fun C H locs ls hO hS hl => lv_ldc C.1 C.2.1 C.2.2.2.1 (C.2.2.2.2.2.2.2.2.2.1 _ hw _) hd (k C H locs ls hO hS hl)
theorem rz_ldc2 {Γ : rz_G} {X : rz_X} {rm : Room} {post : Option Value → rz_H → Prop} {K : rz_K} {cells slots pc : Nat} {L : List (Nat × Value)} {st : List Value} {h : rz_H} {index : Nat} {v : Int} (hw : Cond.constantLong X.2.1 index (Int64.ofInt v) ∈ rz_W) (hd : decode X.1 pc = .ok (.ldc2_w index, 3)) (k : Wk Γ X rm post K cells slots (pc + 3) L (vl v :: st) h) : Wk Γ X rm post K cells slots pc L st h :=
  fun C H locs ls hO hS hl => lv_ldc2 C.1 C.2.1 C.2.2.2.1 (C.2.2.2.2.2.2.2.2.2.1 _ hw _) hd (k C H locs ls hO hS hl)
theorem rz_ldcS {Γ : rz_G} {X : rz_X} {rm : Room} {post : Option Value → rz_H → Prop} {K : rz_K} {cells slots pc : Nat} {L : List (Nat × Value)} {st : List Value} {h : rz_H} {index q : Nat} {tx : String} (hw : (X.2.1, index, tx, q) ∈ rz_S Γ.2.2.2.2) (hd : decode X.1 pc = .ok (.ldc index, 2)) (k : Wk Γ X rm post K cells slots (pc + 2) L (.ref q :: st) h) : Wk Γ X rm post K cells slots pc L st h :=
  fun C H locs ls hO hS hl => va_ldcS C.1 C.2.1 C.2.2.2.1 (C.2.2.2.2.2.2.2.2.2.2.2.2.2 _ hw) hd (k C H locs ls hO hS hl)
/-! rows: locals -/
theorem rz_iload_n {Γ : rz_G} {X : rz_X} {rm : Room} {post : Option Value → rz_H → Prop} {K : rz_K} {cells slots pc : Nat} {L : List (Nat × Value)} {st : List Value} {h : rz_H} {j : Fin 4} {i : Nat} {x : Int} (k : Nat) (hd : decode X.1 pc = .ok (.iload_n j, 1)) (hi : (j : Nat) = i) (hk : L[k]? = some (i, vi x)) (kk : Wk Γ X rm post K cells slots (pc + 1) L (vi x :: st) h) : Wk Γ X rm post K cells slots pc L st h :=
  fun C H locs ls hO hS hl => lv_iload_n C.1 C.2.1 hd hi (lv_at hl k hk) (kk C H locs ls hO hS hl)
theorem rz_iload {Γ : rz_G} {X : rz_X} {rm : Room} {post : Option Value → rz_H → Prop} {K : rz_K} {cells slots pc : Nat} {L : List (Nat × Value)} {st : List Value} {h : rz_H} {i : Nat} {x : Int} (k : Nat) (hd : decode X.1 pc = .ok (.iload i, 2)) (hk : L[k]? = some (i, vi x)) (kk : Wk Γ X rm post K cells slots (pc + 2) L (vi x :: st) h) : Wk Γ X rm post K cells slots pc L st h :=
  fun C H locs ls hO hS hl => lv_iload C.1 C.2.1 hd (lv_at hl k hk) (kk C H locs ls hO hS hl)
theorem rz_istore_n {Γ : rz_G} {X : rz_X} {rm : Room} {post : Option Value → rz_H → Prop} {K : rz_K} {cells slots pc : Nat} {L : List (Nat × Value)} {st : List Value} {h : rz_H} {j : Fin 4} {i : Nat} {x : Int} (L' : List (Nat × Value)) (hd : decode X.1 pc = .ok (.istore_n j, 1)) (hi : (j : Nat) = i) (hn : i < X.2.2.1) (hL : (i, vi x) :: L.filter (fun q => !(q.1 == i) && !(q.1 + 1 == i && q.2.category == 2)) = L') (kk : Wk Γ X rm post K cells slots (pc + 1) L' st h) : Wk Γ X rm post K cells slots pc L (vi x :: st) h :=
  fun C H locs ls hO hS hl => lv_istore_n C.1 C.2.1 hd hi hl hn hL (fun ls' hl' => kk C H locs ls' hO hS hl')
theorem rz_istore {Γ : rz_G} {X : rz_X} {rm : Room} {post : Option Value → rz_H → Prop} {K : rz_K} {cells slots pc : Nat} {L : List (Nat × Value)} {st : List Value} {h : rz_H} {i : Nat} {x : Int} (L' : List (Nat × Value)) (hd : decode X.1 pc = .ok (.istore i, 2)) (hn : i < X.2.2.1) (hL : (i, vi x) :: L.filter (fun q => !(q.1 == i) && !(q.1 + 1 == i && q.2.category == 2)) = L') (kk : Wk Γ X rm post K cells slots (pc + 2) L' st h) : Wk Γ X rm post K cells slots pc L (vi x :: st) h :=
  fun C H locs ls hO hS hl => lv_istore C.1 C.2.1 hd hl hn hL (fun ls' hl' => kk C H locs ls' hO hS hl')
theorem rz_lload_n {Γ : rz_G} {X : rz_X} {rm : Room} {post : Option Value → rz_H → Prop} {K : rz_K} {cells slots pc : Nat} {L : List (Nat × Value)} {st : List Value} {h : rz_H} {j : Fin 4} {i : Nat} {x : Int} (k : Nat) (hd : decode X.1 pc = .ok (.lload_n j, 1)) (hi : (j : Nat) = i) (hk : L[k]? = some (i, vl x)) (kk : Wk Γ X rm post K cells slots (pc + 1) L (vl x :: st) h) : Wk Γ X rm post K cells slots pc L st h :=
  fun C H locs ls hO hS hl => lv_lload_n C.1 C.2.1 hd hi (lv_at hl k hk) (kk C H locs ls hO hS hl)
theorem rz_lload {Γ : rz_G} {X : rz_X} {rm : Room} {post : Option Value → rz_H → Prop} {K : rz_K} {cells slots pc : Nat} {L : List (Nat × Value)} {st : List Value} {h : rz_H} {i : Nat} {x : Int} (k : Nat) (hd : decode X.1 pc = .ok (.lload i, 2)) (hk : L[k]? = some (i, vl x)) (kk : Wk Γ X rm post K cells slots (pc + 2) L (vl x :: st) h) : Wk Γ X rm post K cells slots pc L st h :=
  fun C H locs ls hO hS hl => lv_lload C.1 C.2.1 hd (lv_at hl k hk) (kk C H locs ls hO hS hl)
theorem rz_lstore_n {Γ : rz_G} {X : rz_X} {rm : Room} {post : Option Value → rz_H → Prop} {K : rz_K} {cells slots pc : Nat} {L : List (Nat × Value)} {st : List Value} {h : rz_H} {j : Fin 4} {i : Nat} {x : Int} (L' : List (Nat × Value)) (hd : decode X.1 pc = .ok (.lstore_n j, 1)) (hi : (j : Nat) = i) (hn : i + 1 < X.2.2.1) (hL : (i, vl x) :: L.filter (fun q => !(q.1 == i) && (!(q.1 == i + 1) && !(q.1 + 1 == i && q.2.category == 2))) = L') (kk : Wk Γ X rm post K cells slots (pc + 1) L' st h) : Wk Γ X rm post K cells slots pc L (vl x :: st) h :=
  fun C H locs ls hO hS hl => lv_lstore_n C.1 C.2.1 hd hi hl hn hL (fun ls' hl' => kk C H locs ls' hO hS hl')
theorem rz_lstore {Γ : rz_G} {X : rz_X} {rm : Room} {post : Option Value → rz_H → Prop} {K : rz_K} {cells slots pc : Nat} {L : List (Nat × Value)} {st : List Value} {h : rz_H} {i : Nat} {x : Int} (L' : List (Nat × Value)) (hd : decode X.1 pc = .ok (.lstore i, 2)) (hn : i + 1 < X.2.2.1) (hL : (i, vl x) :: L.filter (fun q => !(q.1 == i) && (!(q.1 == i + 1) && !(q.1 + 1 == i && q.2.category == 2))) = L') (kk : Wk Γ X rm post K cells slots (pc + 2) L' st h) : Wk Γ X rm post K cells slots pc L (vl x :: st) h :=
  fun C H locs ls hO hS hl => lv_lstore C.1 C.2.1 hd hl hn hL (fun ls' hl' => kk C H locs ls' hO hS hl')
theorem rz_aload_n {Γ : rz_G} {X : rz_X} {rm : Room} {post : Option Value → rz_H → Prop} {K : rz_K} {cells slots pc : Nat} {L : List (Nat × Value)} {st : List Value} {h : rz_H} {j : Fin 4} {i : Nat} {x : Nat} (k : Nat) (hd : decode X.1 pc = .ok (.aload_n j, 1)) (hi : (j : Nat) = i) (hk : L[k]? = some (i, .ref x)) (kk : Wk Γ X rm post K cells slots (pc + 1) L (.ref x :: st) h) : Wk Γ X rm post K cells slots pc L st h :=
  fun C H locs ls hO hS hl => lv_aload_n C.1 C.2.1 hd hi (lv_at hl k hk) (kk C H locs ls hO hS hl)
theorem rz_aload {Γ : rz_G} {X : rz_X} {rm : Room} {post : Option Value → rz_H → Prop} {K : rz_K} {cells slots pc : Nat} {L : List (Nat × Value)} {st : List Value} {h : rz_H} {i : Nat} {x : Nat} (k : Nat) (hd : decode X.1 pc = .ok (.aload i, 2)) (hk : L[k]? = some (i, .ref x)) (kk : Wk Γ X rm post K cells slots (pc + 2) L (.ref x :: st) h) : Wk Γ X rm post K cells slots pc L st h :=
  fun C H locs ls hO hS hl => lv_aload C.1 C.2.1 hd (lv_at hl k hk) (kk C H locs ls hO hS hl)
theorem rz_astore_n {Γ : rz_G} {X : rz_X} {rm : Room} {post : Option Value → rz_H → Prop} {K : rz_K} {cells slots pc : Nat} {L : List (Nat × Value)} {st : List Value} {h : rz_H} {j : Fin 4} {i : Nat} {x : Nat} (L' : List (Nat × Value)) (hd : decode X.1 pc = .ok (.astore_n j, 1)) (hi : (j : Nat) = i) (hn : i < X.2.2.1) (hL : (i, .ref x) :: L.filter (fun q => !(q.1 == i) && !(q.1 + 1 == i && q.2.category == 2)) = L') (kk : Wk Γ X rm post K cells slots (pc + 1) L' st h) : Wk Γ X rm post K cells slots pc L (.ref x :: st) h :=
  fun C H locs ls hO hS hl => lv_astore_n C.1 C.2.1 hd hi hl hn hL (fun ls' hl' => kk C H locs ls' hO hS hl')
theorem rz_astore {Γ : rz_G} {X : rz_X} {rm : Room} {post : Option Value → rz_H → Prop} {K : rz_K} {cells slots pc : Nat} {L : List (Nat × Value)} {st : List Value} {h : rz_H} {i : Nat} {x : Nat} (L' : List (Nat × Value)) (hd : decode X.1 pc = .ok (.astore i, 2)) (hn : i < X.2.2.1) (hL : (i, .ref x) :: L.filter (fun q => !(q.1 == i) && !(q.1 + 1 == i && q.2.category == 2)) = L') (kk : Wk Γ X rm post K cells slots (pc + 2) L' st h) : Wk Γ X rm post K cells slots pc L (.ref x :: st) h :=
  fun C H locs ls hO hS hl => lv_astore C.1 C.2.1 hd hl hn hL (fun ls' hl' => kk C H locs ls' hO hS hl')
theorem rz_aload_nN {Γ : rz_G} {X : rz_X} {rm : Room} {post : Option Value → rz_H → Prop} {K : rz_K} {cells slots pc : Nat} {L : List (Nat × Value)} {st : List Value} {h : rz_H} {j : Fin 4} {i : Nat} (k : Nat) (hd : decode X.1 pc = .ok (.aload_n j, 1)) (hi : (j : Nat) = i) (hk : L[k]? = some (i, .null)) (kk : Wk Γ X rm post K cells slots (pc + 1) L (.null :: st) h) : Wk Γ X rm post K cells slots pc L st h :=
  fun C H locs ls hO hS hl => lv_aload_nN C.1 C.2.1 hd hi (lv_at hl k hk) (kk C H locs ls hO hS hl)
theorem rz_astore_nN {Γ : rz_G} {X : rz_X} {rm : Room} {post : Option Value → rz_H → Prop} {K : rz_K} {cells slots pc : Nat} {L : List (Nat × Value)} {st : List Value} {h : rz_H} {j : Fin 4} {i : Nat} (L' : List (Nat × Value)) (hd : decode X.1 pc = .ok (.astore_n j, 1)) (hi : (j : Nat) = i) (hn : i < X.2.2.1) (hL : (i, Value.null) :: L.filter (fun q => !(q.1 == i) && !(q.1 + 1 == i && q.2.category == 2)) = L') (kk : Wk Γ X rm post K cells slots (pc + 1) L' st h) : Wk Γ X rm post K cells slots pc L (.null :: st) h :=
  fun C H locs ls hO hS hl => lv_astore_nN C.1 C.2.1 hd hi hl hn hL (fun ls' hl' => kk C H locs ls' hO hS hl')
theorem rz_iinc {Γ : rz_G} {X : rz_X} {rm : Room} {post : Option Value → rz_H → Prop} {K : rz_K} {cells slots pc : Nat} {L : List (Nat × Value)} {st : List Value} {h : rz_H} {i : Nat} {n x : Int} (v : Int) (k : Nat) (L' : List (Nat × Value)) (hd : decode X.1 pc = .ok (.iinc i n, 3)) (hk : L[k]? = some (i, vi x)) (hv : v = x + n) (hn : i < X.2.2.1) (hL : (i, vi v) :: L.filter (fun q => !(q.1 == i) && !(q.1 + 1 == i && q.2.category == 2)) = L') (kk : Wk Γ X rm post K cells slots (pc + 3) L' st h) : Wk Γ X rm post K cells slots pc L st h := by
  intro C H locs ls hO hS hl
  exact lv_iinc C.1 C.2.1 hd hl hk (v := Int32.ofInt v) (by rw [hv, Int32.ofInt_add]) hn hL (fun ls' hl' => kk C H locs ls' hO hS hl')
/-! rows: arithmetic -/
theorem rz_iadd {Γ : rz_G} {X : rz_X} {rm : Room} {post : Option Value → rz_H → Prop} {K : rz_K} {cells slots pc : Nat} {L : List (Nat × Value)} {st : List Value} {h : rz_H} {a b : Int} (hd : decode X.1 pc = .ok (.iadd, 1)) (k : Wk Γ X rm post K cells slots (pc + 1) L (vi (a + b) :: st) h) : Wk Γ X rm post K cells slots pc L (vi b :: vi a :: st) h := by
  intro C H locs ls hO hS hl
  refine lv_iadd C.1 C.2.1 hd ?_
  rw [← Int32.ofInt_add]
  exact k C H locs ls hO hS hl
theorem rz_isub {Γ : rz_G} {X : rz_X} {rm : Room} {post : Option Value → rz_H → Prop} {K : rz_K} {cells slots pc : Nat} {L : List (Nat × Value)} {st : List Value} {h : rz_H} {a b : Int} (hd : decode X.1 pc = .ok (.isub, 1)) (k : Wk Γ X rm post K cells slots (pc + 1) L (vi (a - b) :: st) h) : Wk Γ X rm post K cells slots pc L (vi b :: vi a :: st) h := by
  intro C H locs ls hO hS hl
  refine lv_isub C.1 C.2.1 hd ?_
  rw [← Int32.ofInt_sub]
  exact k C H locs ls hO hS hl
theorem rz_imul {Γ : rz_G} {X : rz_X} {rm : Room} {post : Option Value → rz_H → Prop} {K : rz_K} {cells slots pc : Nat} {L : List (Nat × Value)} {st : List Value} {h : rz_H} {a b : Int} (hd : decode X.1 pc = .ok (.imul, 1)) (k : Wk Γ X rm post K cells slots (pc + 1) L (vi (a * b) :: st) h) : Wk Γ X rm post K cells slots pc L (vi b :: vi a :: st) h := by
  intro C H locs ls hO hS hl
  refine lv_imul C.1 C.2.1 hd ?_
  rw [← Int32.ofInt_mul]
  exact k C H locs ls hO hS hl
theorem rz_ladd {Γ : rz_G} {X : rz_X} {rm : Room} {post : Option Value → rz_H → Prop} {K : rz_K} {cells slots pc : Nat} {L : List (Nat × Value)} {st : List Value} {h : rz_H} {a b : Int} (hd : decode X.1 pc = .ok (.ladd, 1)) (k : Wk Γ X rm post K cells slots (pc + 1) L (vl (a + b) :: st) h) : Wk Γ X rm post K cells slots pc L (vl b :: vl a :: st) h := by
  intro C H locs ls hO hS hl
  refine lv_ladd C.1 C.2.1 hd ?_
  rw [← Int64.ofInt_add]
  exact k C H locs ls hO hS hl
theorem rz_lsub {Γ : rz_G} {X : rz_X} {rm : Room} {post : Option Value → rz_H → Prop} {K : rz_K} {cells slots pc : Nat} {L : List (Nat × Value)} {st : List Value} {h : rz_H} {a b : Int} (hd : decode X.1 pc = .ok (.lsub, 1)) (k : Wk Γ X rm post K cells slots (pc + 1) L (vl (a - b) :: st) h) : Wk Γ X rm post K cells slots pc L (vl b :: vl a :: st) h := by
  intro C H locs ls hO hS hl
  refine lv_lsub C.1 C.2.1 hd ?_
  rw [← Int64.ofInt_sub]
  exact k C H locs ls hO hS hl
theorem rz_lmul {Γ : rz_G} {X : rz_X} {rm : Room} {post : Option Value → rz_H → Prop} {K : rz_K} {cells slots pc : Nat} {L : List (Nat × Value)} {st : List Value} {h : rz_H} {a b : Int} (hd : decode X.1 pc = .ok (.lmul, 1)) (k : Wk Γ X rm post K cells slots (pc + 1) L (vl (a * b) :: st) h) : Wk Γ X rm post K cells slots pc L (vl b :: vl a :: st) h := by
  intro C H locs ls hO hS hl
  refine lv_lmul C.1 C.2.1 hd ?_
  rw [← Int64.ofInt_mul]
  exact k C H locs ls hO hS hl
theorem rz_div0 {a b : Int} (ra : 0 ≤ a ∧ a ≤ 2147483647) (rb : 0 < b ∧ b ≤ 2147483647) : Int32.ofInt a / Int32.ofInt b = Int32.ofInt (a / b) := by
  rw [← Int32.toInt_inj, Int32.toInt_div, rz_ti (by omega), rz_ti (by omega), Int.tdiv_eq_ediv_of_nonneg ra.1]
  have h1 : 0 ≤ a / b := Int.ediv_nonneg ra.1 (by omega)
  have h2 : a / b ≤ a := Int.ediv_le_self b ra.1
  rw [rz_ti (by omega)]
  exact Int.bmod_eq_of_le (by omega) (by omega)
theorem rz_ne0 {b : Int} (rb : 0 < b ∧ b ≤ 2147483647) : ¬ Int32.ofInt b = 0 := by
  rw [rz_0, rz_eq (by omega) (by omega)]
  omega
theorem rz_idiv {Γ : rz_G} {X : rz_X} {rm : Room} {post : Option Value → rz_H → Prop} {K : rz_K} {cells slots pc : Nat} {L : List (Nat × Value)} {st : List Value} {h : rz_H} {a b : Int} (ra : 0 ≤ a ∧ a ≤ 2147483647) (rb : 0 < b ∧ b ≤ 2147483647) (hd : decode X.1 pc = .ok (.idiv, 1)) (k : Wk Γ X rm post K cells slots (pc + 1) L (vi (a / b) :: st) h) : Wk Γ X rm post K cells slots pc L (vi b :: vi a :: st) h := by
  intro C H locs ls hO hS hl
  refine lv_idiv C.1 C.2.1 hd (rz_ne0 rb) ?_
  rw [rz_div0 ra rb]
  exact k C H locs ls hO hS hl
theorem rz_irem {Γ : rz_G} {X : rz_X} {rm : Room} {post : Option Value → rz_H → Prop} {K : rz_K} {cells slots pc : Nat} {L : List (Nat × Value)} {st : List Value} {h : rz_H} {a b : Int} (ra : 0 ≤ a ∧ a ≤ 2147483647) (rb : 0 < b ∧ b ≤ 2147483647) (hd : decode X.1 pc = .ok (.irem, 1)) (k : Wk Γ X rm post K cells slots (pc + 1) L (vi (a % b) :: st) h) : Wk Γ X rm post K cells slots pc L (vi b :: vi a :: st) h := by
  intro C H locs ls hO hS hl
  refine lv_irem C.1 C.2.1 hd (rz_ne0 rb) ?_
  rw [rz_div0 ra rb, ← Int32.ofInt_mul, ← Int32.ofInt_sub, show a - a / b * b = a % b from by rw [Int.emod_def, Int.mul_comm]]
  exact k C H locs ls hO hS hl
theorem rz_i2l {Γ : rz_G} {X : rz_X} {rm : Room} {post : Option Value → rz_H → Prop} {K : rz_K} {cells slots pc : Nat} {L : List (Nat × Value)} {st : List Value} {h : rz_H} {a : Int} (ra : -2147483648 ≤ a ∧ a ≤ 2147483647) (hd : decode X.1 pc = .ok (.i2l, 1)) (k : Wk Γ X rm post K cells slots (pc + 1) L (vl a :: st) h) : Wk Γ X rm post K cells slots pc L (vi a :: st) h :=
  fun C H locs ls hO hS hl => lv_i2l C.1 C.2.1 hd (v := Int64.ofInt a) (by rw [← Int64.toInt_inj, Int32.toInt_toInt64, rz_ti ra, rz_tl (by omega)]) (k C H locs ls hO hS hl)
theorem rz_l2i {Γ : rz_G} {X : rz_X} {rm : Room} {post : Option Value → rz_H → Prop} {K : rz_K} {cells slots pc : Nat} {L : List (Nat × Value)} {st : List Value} {h : rz_H} {a : Int} (hd : decode X.1 pc = .ok (.l2i, 1)) (k : Wk Γ X rm post K cells slots (pc + 1) L (vi a :: st) h) : Wk Γ X rm post K cells slots pc L (vl a :: st) h :=
  fun C H locs ls hO hS hl => lv_l2i C.1 C.2.1 hd (v := Int32.ofInt a) Int64.toInt32_ofInt (k C H locs ls hO hS hl)
theorem rz_i2c {Γ : rz_G} {X : rz_X} {rm : Room} {post : Option Value → rz_H → Prop} {K : rz_K} {cells slots pc : Nat} {L : List (Nat × Value)} {st : List Value} {h : rz_H} {a : Int} (ra : 0 ≤ a ∧ a ≤ 65535) (hd : decode X.1 pc = .ok (.i2c, 1)) (k : Wk Γ X rm post K cells slots (pc + 1) L (vi a :: st) h) : Wk Γ X rm post K cells slots pc L (vi a :: st) h := by
  intro C H locs ls hO hS hl
  refine lv_i2c C.1 C.2.1 hd (v := Int32.ofInt a) ?_ (k C H locs ls hO hS hl)
  obtain ⟨n, rfl⟩ : ∃ n : Nat, a = n := ⟨a.toNat, by omega⟩
  rw [pk_char, Int32.ofInt_eq_ofNat]
  show nI ((nI n).toBitVec.toNat % 65536) = nI n
  rw [pk_tn (by omega), Nat.mod_eq_of_lt (by omega)]
def rz_cmp (a b : Int) : Int := if b < a then 1 else if a = b then 0 else -1
theorem rz_lcmp {Γ : rz_G} {X : rz_X} {rm : Room} {post : Option Value → rz_H → Prop} {K : rz_K} {cells slots pc : Nat} {L : List (Nat × Value)} {st : List Value} {h : rz_H} {a b : Int} (ra : -9223372036854775808 ≤ a ∧ a ≤ 9223372036854775807) (rb : -9223372036854775808 ≤ b ∧ b ≤ 9223372036854775807) (hd : decode X.1 pc = .ok (.lcmp, 1)) (k : Wk Γ X rm post K cells slots (pc + 1) L (vi (rz_cmp a b) :: st) h) : Wk Γ X rm post K cells slots pc L (vl b :: vl a :: st) h := by
  intro C H locs ls hO hS hl
  refine W.lcmp C.1 C.2.1 hd ?_
  have e : lg_cmp (Int64.ofInt a) (Int64.ofInt b) = Int32.ofInt (rz_cmp a b) := by
    have h1 : (Int64.ofInt a > Int64.ofInt b) ↔ b < a := by rw [gt_iff_lt, Int64.lt_iff_toInt_lt, rz_tl ra, rz_tl rb]
    have h2 : (Int64.ofInt a = Int64.ofInt b) ↔ a = b := by rw [← Int64.toInt_inj, rz_tl ra, rz_tl rb]
    unfold lg_cmp rz_cmp
    by_cases q1 : b < a
    · rw [if_pos (h1.mpr q1), if_pos q1]
      rfl
    · rw [if_neg (fun z => q1 (h1.mp z)), if_neg q1]
      by_cases q2 : a = b
      · rw [if_pos (h2.mpr q2), if_pos q2]
        rfl
      · rw [if_neg (fun z => q2 (h2.mp z)), if_neg q2]
        rfl
  rw [e]
  exact k C H locs ls hO hS hl
theorem rz_dup {Γ : rz_G} {X : rz_X} {rm : Room} {post : Option Value → rz_H → Prop} {K : rz_K} {cells slots pc : Nat} {L : List (Nat × Value)} {st : List Value} {h : rz_H} {v : Value} (hd : decode X.1 pc = .ok (.dup, 1)) (hc : v.category = 1) (k : Wk Γ X rm post K cells slots (pc + 1) L (v :: v :: st) h) : Wk Γ X rm post K cells slots pc L (v :: st) h :=
  fun C H locs ls hO hS hl => lv_dup C.1 C.2.1 hd hc (k C H locs ls hO hS hl)
theorem rz_dup_x1 {Γ : rz_G} {X : rz_X} {rm : Room} {post : Option Value → rz_H → Prop} {K : rz_K} {cells slots pc : Nat} {L : List (Nat × Value)} {st : List Value} {h : rz_H} {v w : Value} (hd : decode X.1 pc = .ok (.dup_x1, 1)) (hc : v.category = 1) (hw : w.category = 1) (k : Wk Γ X rm post K cells slots (pc + 1) L (v :: w :: v :: st) h) : Wk Γ X rm post K cells slots pc L (v :: w :: st) h :=
  fun C H locs ls hO hS hl => lv_dup_x1 C.1 C.2.1 hd hc hw (k C H locs ls hO hS hl)
theorem rz_dup2 {Γ : rz_G} {X : rz_X} {rm : Room} {post : Option Value → rz_H → Prop} {K : rz_K} {cells slots pc : Nat} {L : List (Nat × Value)} {st : List Value} {h : rz_H} {v w : Value} (hd : decode X.1 pc = .ok (.dup2, 1)) (hc : v.category = 1) (hw : w.category = 1) (k : Wk Γ X rm post K cells slots (pc + 1) L (v :: w :: v :: w :: st) h) : Wk Γ X rm post K cells slots pc L (v :: w :: st) h :=
  fun C H locs ls hO hS hl => lv_dup2_11 C.1 C.2.1 hd hc hw (k C H locs ls hO hS hl)
theorem rz_pop {Γ : rz_G} {X : rz_X} {rm : Room} {post : Option Value → rz_H → Prop} {K : rz_K} {cells slots pc : Nat} {L : List (Nat × Value)} {st : List Value} {h : rz_H} {v : Value} (hd : decode X.1 pc = .ok (.pop, 1)) (hc : v.category = 1) (k : Wk Γ X rm post K cells slots (pc + 1) L st h) : Wk Γ X rm post K cells slots pc L (v :: st) h :=
  fun C H locs ls hO hS hl => lv_pop C.1 C.2.1 hd hc (k C H locs ls hO hS hl)
theorem rz_goto {Γ : rz_G} {X : rz_X} {rm : Room} {post : Option Value → rz_H → Prop} {K : rz_K} {cells slots pc : Nat} {L : List (Nat × Value)} {st : List Value} {h : rz_H} {off : Int} (tgt : Nat) (hd : decode X.1 pc = .ok (.goto off, 3)) (ht : (pc : Int) + off = (tgt : Int)) (k : Wk Γ X rm post K cells slots tgt L st h) : Wk Γ X rm post K cells slots pc L st h :=
  fun C H locs ls hO hS hl => lv_goto C.1 C.2.1 hd ht (k C H locs ls hO hS hl)
/-! rows: branches -/
theorem rz_icmp_eq {Γ : rz_G} {X : rz_X} {rm : Room} {post : Option Value → rz_H → Prop} {K : rz_K} {cells slots pc : Nat} {L : List (Nat × Value)} {st : List Value} {h : rz_H} {a b off : Int} (tgt : Nat) (hd : decode X.1 pc = .ok (.if_icmp .eq off, 3)) (ht : (pc : Int) + off = (tgt : Int)) (ra : -2147483648 ≤ a ∧ a ≤ 2147483647) (rb : -2147483648 ≤ b ∧ b ≤ 2147483647) (kt : a = b → Wk Γ X rm post K cells slots tgt L st h) (kf : ¬ a = b → Wk Γ X rm post K cells slots (pc + 3) L st h) : Wk Γ X rm post K cells slots pc L (vi b :: vi a :: st) h :=
  fun C H locs ls hO hS hl => lv_icmp_eq C.1 C.2.1 hd ht (fun q => kt ((rz_eq ra rb).mp q) C H locs ls hO hS hl) (fun q => kf (fun z => q ((rz_eq ra rb).mpr z)) C H locs ls hO hS hl)
theorem rz_icmp_ne {Γ : rz_G} {X : rz_X} {rm : Room} {post : Option Value → rz_H → Prop} {K : rz_K} {cells slots pc : Nat} {L : List (Nat × Value)} {st : List Value} {h : rz_H} {a b off : Int} (tgt : Nat) (hd : decode X.1 pc = .ok (.if_icmp .ne off, 3)) (ht : (pc : Int) + off = (tgt : Int)) (ra : -2147483648 ≤ a ∧ a ≤ 2147483647) (rb : -2147483648 ≤ b ∧ b ≤ 2147483647) (kt : ¬ a = b → Wk Γ X rm post K cells slots tgt L st h) (kf : a = b → Wk Γ X rm post K cells slots (pc + 3) L st h) : Wk Γ X rm post K cells slots pc L (vi b :: vi a :: st) h :=
  fun C H locs ls hO hS hl => lv_icmp_ne C.1 C.2.1 hd ht (fun q => kt (fun z => q ((rz_eq ra rb).mpr z)) C H locs ls hO hS hl) (fun q => kf ((rz_eq ra rb).mp q) C H locs ls hO hS hl)
theorem rz_icmp_lt {Γ : rz_G} {X : rz_X} {rm : Room} {post : Option Value → rz_H → Prop} {K : rz_K} {cells slots pc : Nat} {L : List (Nat × Value)} {st : List Value} {h : rz_H} {a b off : Int} (tgt : Nat) (hd : decode X.1 pc = .ok (.if_icmp .lt off, 3)) (ht : (pc : Int) + off = (tgt : Int)) (ra : -2147483648 ≤ a ∧ a ≤ 2147483647) (rb : -2147483648 ≤ b ∧ b ≤ 2147483647) (kt : a < b → Wk Γ X rm post K cells slots tgt L st h) (kf : ¬ a < b → Wk Γ X rm post K cells slots (pc + 3) L st h) : Wk Γ X rm post K cells slots pc L (vi b :: vi a :: st) h :=
  fun C H locs ls hO hS hl => lv_icmp_lt C.1 C.2.1 hd ht (fun q => kt ((rz_lt ra rb).mp q) C H locs ls hO hS hl) (fun q => kf (fun z => q ((rz_lt ra rb).mpr z)) C H locs ls hO hS hl)
theorem rz_icmp_ge {Γ : rz_G} {X : rz_X} {rm : Room} {post : Option Value → rz_H → Prop} {K : rz_K} {cells slots pc : Nat} {L : List (Nat × Value)} {st : List Value} {h : rz_H} {a b off : Int} (tgt : Nat) (hd : decode X.1 pc = .ok (.if_icmp .ge off, 3)) (ht : (pc : Int) + off = (tgt : Int)) (ra : -2147483648 ≤ a ∧ a ≤ 2147483647) (rb : -2147483648 ≤ b ∧ b ≤ 2147483647) (kt : b ≤ a → Wk Γ X rm post K cells slots tgt L st h) (kf : ¬ b ≤ a → Wk Γ X rm post K cells slots (pc + 3) L st h) : Wk Γ X rm post K cells slots pc L (vi b :: vi a :: st) h :=
  fun C H locs ls hO hS hl => lv_icmp_ge C.1 C.2.1 hd ht (fun q => kt ((rz_le rb ra).mp q) C H locs ls hO hS hl) (fun q => kf (fun z => q ((rz_le rb ra).mpr z)) C H locs ls hO hS hl)
theorem rz_icmp_gt {Γ : rz_G} {X : rz_X} {rm : Room} {post : Option Value → rz_H → Prop} {K : rz_K} {cells slots pc : Nat} {L : List (Nat × Value)} {st : List Value} {h : rz_H} {a b off : Int} (tgt : Nat) (hd : decode X.1 pc = .ok (.if_icmp .gt off, 3)) (ht : (pc : Int) + off = (tgt : Int)) (ra : -2147483648 ≤ a ∧ a ≤ 2147483647) (rb : -2147483648 ≤ b ∧ b ≤ 2147483647) (kt : b < a → Wk Γ X rm post K cells slots tgt L st h) (kf : ¬ b < a → Wk Γ X rm post K cells slots (pc + 3) L st h) : Wk Γ X rm post K cells slots pc L (vi b :: vi a :: st) h :=
  fun C H locs ls hO hS hl => lv_icmp_gt C.1 C.2.1 hd ht (fun q => kt ((rz_lt rb ra).mp q) C H locs ls hO hS hl) (fun q => kf (fun z => q ((rz_lt rb ra).mpr z)) C H locs ls hO hS hl)
theorem rz_icmp_le {Γ : rz_G} {X : rz_X} {rm : Room} {post : Option Value → rz_H → Prop} {K : rz_K} {cells slots pc : Nat} {L : List (Nat × Value)} {st : List Value} {h : rz_H} {a b off : Int} (tgt : Nat) (hd : decode X.1 pc = .ok (.if_icmp .le off, 3)) (ht : (pc : Int) + off = (tgt : Int)) (ra : -2147483648 ≤ a ∧ a ≤ 2147483647) (rb : -2147483648 ≤ b ∧ b ≤ 2147483647) (kt : a ≤ b → Wk Γ X rm post K cells slots tgt L st h) (kf : ¬ a ≤ b → Wk Γ X rm post K cells slots (pc + 3) L st h) : Wk Γ X rm post K cells slots pc L (vi b :: vi a :: st) h :=
  fun C H locs ls hO hS hl => lv_icmp_le C.1 C.2.1 hd ht (fun q => kt ((rz_le ra rb).mp q) C H locs ls hO hS hl) (fun q => kf (fun z => q ((rz_le ra rb).mpr z)) C H locs ls hO hS hl)
theorem rz_if_eq {Γ : rz_G} {X : rz_X} {rm : Room} {post : Option Value → rz_H → Prop} {K : rz_K} {cells slots pc : Nat} {L : List (Nat × Value)} {st : List Value} {h : rz_H} {a off : Int} (tgt : Nat) (hd : decode X.1 pc = .ok (.ifCond .eq off, 3)) (ht : (pc : Int) + off = (tgt : Int)) (ra : -2147483648 ≤ a ∧ a ≤ 2147483647) (kt : a = 0 → Wk Γ X rm post K cells slots tgt L st h) (kf : ¬ a = 0 → Wk Γ X rm post K cells slots (pc + 3) L st h) : Wk Γ X rm post K cells slots pc L (vi a :: st) h :=
  fun C H locs ls hO hS hl => lv_if_eq C.1 C.2.1 hd ht (fun q => kt ((rz_eq ra ⟨by decide, by decide⟩).mp q) C H locs ls hO hS hl) (fun q => kf (fun z => q ((rz_eq ra ⟨by decide, by decide⟩).mpr z)) C H locs ls hO hS hl)
theorem rz_if_ne {Γ : rz_G} {X : rz_X} {rm : Room} {post : Option Value → rz_H → Prop} {K : rz_K} {cells slots pc : Nat} {L : List (Nat × Value)} {st : List Value} {h : rz_H} {a off : Int} (tgt : Nat) (hd : decode X.1 pc = .ok (.ifCond .ne off, 3)) (ht : (pc : Int) + off = (tgt : Int)) (ra : -2147483648 ≤ a ∧ a ≤ 2147483647) (kt : ¬ a = 0 → Wk Γ X rm post K cells slots tgt L st h) (kf : a = 0 → Wk Γ X rm post K cells slots (pc + 3) L st h) : Wk Γ X rm post K cells slots pc L (vi a :: st) h :=
  fun C H locs ls hO hS hl => lv_if_ne C.1 C.2.1 hd ht (fun q => kt (fun z => q ((rz_eq ra ⟨by decide, by decide⟩).mpr z)) C H locs ls hO hS hl) (fun q => kf ((rz_eq ra ⟨by decide, by decide⟩).mp q) C H locs ls hO hS hl)
theorem rz_if_lt {Γ : rz_G} {X : rz_X} {rm : Room} {post : Option Value → rz_H → Prop} {K : rz_K} {cells slots pc : Nat} {L : List (Nat × Value)} {st : List Value} {h : rz_H} {a off : Int} (tgt : Nat) (hd : decode X.1 pc = .ok (.ifCond .lt off, 3)) (ht : (pc : Int) + off = (tgt : Int)) (ra : -2147483648 ≤ a ∧ a ≤ 2147483647) (kt : a < 0 → Wk Γ X rm post K cells slots tgt L st h) (kf : ¬ a < 0 → Wk Γ X rm post K cells slots (pc + 3) L st h) : Wk Γ X rm post K cells slots pc L (vi a :: st) h :=
  fun C H locs ls hO hS hl => lv_if_lt C.1 C.2.1 hd ht (fun q => kt ((rz_lt ra ⟨by decide, by decide⟩).mp q) C H locs ls hO hS hl) (fun q => kf (fun z => q ((rz_lt ra ⟨by decide, by decide⟩).mpr z)) C H locs ls hO hS hl)
theorem rz_if_ge {Γ : rz_G} {X : rz_X} {rm : Room} {post : Option Value → rz_H → Prop} {K : rz_K} {cells slots pc : Nat} {L : List (Nat × Value)} {st : List Value} {h : rz_H} {a off : Int} (tgt : Nat) (hd : decode X.1 pc = .ok (.ifCond .ge off, 3)) (ht : (pc : Int) + off = (tgt : Int)) (ra : -2147483648 ≤ a ∧ a ≤ 2147483647) (kt : 0 ≤ a → Wk Γ X rm post K cells slots tgt L st h) (kf : ¬ 0 ≤ a → Wk Γ X rm post K cells slots (pc + 3) L st h) : Wk Γ X rm post K cells slots pc L (vi a :: st) h :=
  fun C H locs ls hO hS hl => lv_if_ge C.1 C.2.1 hd ht (fun q => kt ((rz_le ⟨by decide, by decide⟩ ra).mp q) C H locs ls hO hS hl) (fun q => kf (fun z => q ((rz_le ⟨by decide, by decide⟩ ra).mpr z)) C H locs ls hO hS hl)
theorem rz_if_gt {Γ : rz_G} {X : rz_X} {rm : Room} {post : Option Value → rz_H → Prop} {K : rz_K} {cells slots pc : Nat} {L : List (Nat × Value)} {st : List Value} {h : rz_H} {a off : Int} (tgt : Nat) (hd : decode X.1 pc = .ok (.ifCond .gt off, 3)) (ht : (pc : Int) + off = (tgt : Int)) (ra : -2147483648 ≤ a ∧ a ≤ 2147483647) (kt : 0 < a → Wk Γ X rm post K cells slots tgt L st h) (kf : ¬ 0 < a → Wk Γ X rm post K cells slots (pc + 3) L st h) : Wk Γ X rm post K cells slots pc L (vi a :: st) h :=
  fun C H locs ls hO hS hl => lv_if_gt C.1 C.2.1 hd ht (fun q => kt ((rz_lt ⟨by decide, by decide⟩ ra).mp q) C H locs ls hO hS hl) (fun q => kf (fun z => q ((rz_lt ⟨by decide, by decide⟩ ra).mpr z)) C H locs ls hO hS hl)
theorem rz_if_le {Γ : rz_G} {X : rz_X} {rm : Room} {post : Option Value → rz_H → Prop} {K : rz_K} {cells slots pc : Nat} {L : List (Nat × Value)} {st : List Value} {h : rz_H} {a off : Int} (tgt : Nat) (hd : decode X.1 pc = .ok (.ifCond .le off, 3)) (ht : (pc : Int) + off = (tgt : Int)) (ra : -2147483648 ≤ a ∧ a ≤ 2147483647) (kt : a ≤ 0 → Wk Γ X rm post K cells slots tgt L st h) (kf : ¬ a ≤ 0 → Wk Γ X rm post K cells slots (pc + 3) L st h) : Wk Γ X rm post K cells slots pc L (vi a :: st) h :=
  fun C H locs ls hO hS hl => lv_if_le C.1 C.2.1 hd ht (fun q => kt ((rz_le ra ⟨by decide, by decide⟩).mp q) C H locs ls hO hS hl) (fun q => kf (fun z => q ((rz_le ra ⟨by decide, by decide⟩).mpr z)) C H locs ls hO hS hl)
theorem rz_ifnullN {Γ : rz_G} {X : rz_X} {rm : Room} {post : Option Value → rz_H → Prop} {K : rz_K} {cells slots pc : Nat} {L : List (Nat × Value)} {st : List Value} {h : rz_H} {off : Int} (tgt : Nat) (hd : decode X.1 pc = .ok (.ifnull off, 3)) (ht : (pc : Int) + off = (tgt : Int)) (k : Wk Γ X rm post K cells slots tgt L st h) : Wk Γ X rm post K cells slots pc L (.null :: st) h :=
  fun C H locs ls hO hS hl => lv_ifnullN C.1 C.2.1 hd ht (k C H locs ls hO hS hl)
theorem rz_ifnullR {Γ : rz_G} {X : rz_X} {rm : Room} {post : Option Value → rz_H → Prop} {K : rz_K} {cells slots pc : Nat} {L : List (Nat × Value)} {st : List Value} {h : rz_H} {off : Int} {a : Nat} (hd : decode X.1 pc = .ok (.ifnull off, 3)) (k : Wk Γ X rm post K cells slots (pc + 3) L st h) : Wk Γ X rm post K cells slots pc L (.ref a :: st) h :=
  fun C H locs ls hO hS hl => lv_ifnull C.1 C.2.1 hd (k C H locs ls hO hS hl)
theorem rz_ifnonnullN {Γ : rz_G} {X : rz_X} {rm : Room} {post : Option Value → rz_H → Prop} {K : rz_K} {cells slots pc : Nat} {L : List (Nat × Value)} {st : List Value} {h : rz_H} {off : Int} (hd : decode X.1 pc = .ok (.ifnonnull off, 3)) (k : Wk Γ X rm post K cells slots (pc + 3) L st h) : Wk Γ X rm post K cells slots pc L (.null :: st) h :=
  fun C H locs ls hO hS hl => lv_ifnonnullN C.1 C.2.1 hd (k C H locs ls hO hS hl)
theorem rz_ifnonnullR {Γ : rz_G} {X : rz_X} {rm : Room} {post : Option Value → rz_H → Prop} {K : rz_K} {cells slots pc : Nat} {L : List (Nat × Value)} {st : List Value} {h : rz_H} {off : Int} {a : Nat} (tgt : Nat) (hd : decode X.1 pc = .ok (.ifnonnull off, 3)) (ht : (pc : Int) + off = (tgt : Int)) (k : Wk Γ X rm post K cells slots tgt L st h) : Wk Γ X rm post K cells slots pc L (.ref a :: st) h :=
  fun C H locs ls hO hS hl => lv_ifnonnull C.1 C.2.1 hd ht (k C H locs ls hO hS hl)
theorem bi_r (b : Bool) : -2147483648 ≤ bi b ∧ bi b ≤ 2147483647 := by cases b <;> decide
theorem rz_if_eqB {Γ : rz_G} {X : rz_X} {rm : Room} {post : Option Value → rz_H → Prop} {K : rz_K} {cells slots pc : Nat} {L : List (Nat × Value)} {st : List Value} {h : rz_H} {b : Bool} {off : Int} (tgt : Nat) (hd : decode X.1 pc = .ok (.ifCond .eq off, 3)) (ht : (pc : Int) + off = (tgt : Int)) (kt : b = false → Wk Γ X rm post K cells slots tgt L st h) (kf : b = true → Wk Γ X rm post K cells slots (pc + 3) L st h) : Wk Γ X rm post K cells slots pc L (vi (bi b) :: st) h :=
  rz_if_eq tgt hd ht (bi_r b) (fun q => kt ((bi_eq0 b).mp q)) (fun q => kf (by cases b with | true => rfl | false => exact absurd rfl q))
theorem rz_if_neB {Γ : rz_G} {X : rz_X} {rm : Room} {post : Option Value → rz_H → Prop} {K : rz_K} {cells slots pc : Nat} {L : List (Nat × Value)} {st : List Value} {h : rz_H} {b : Bool} {off : Int} (tgt : Nat) (hd : decode X.1 pc = .ok (.ifCond .ne off, 3)) (ht : (pc : Int) + off = (tgt : Int)) (kt : b = true → Wk Γ X rm post K cells slots tgt L st h) (kf : b = false → Wk Γ X rm post K cells slots (pc + 3) L st h) : Wk Γ X rm post K cells slots pc L (vi (bi b) :: st) h :=
  rz_if_ne tgt hd ht (bi_r b) (fun q => kt (by cases b with | true => rfl | false => exact absurd rfl q)) (fun q => kf ((bi_eq0 b).mp q))
/-! rows: ends -/
theorem rz_ireturn {Γ : rz_G} {X : rz_X} {rm : Room} {post : Option Value → rz_H → Prop} {K : rz_K} {cells slots pc : Nat} {L : List (Nat × Value)} {st : List Value} {h : rz_H} {x : Int} (hr : X.2.2.2.1 = some .int) (hd : decode X.1 pc = .ok (.ireturn, 1)) (hc : cells ≤ rm.cells ∧ slots ≤ rm.slots) (hp : post (some (vi x)) h) : Wk Γ X rm post K cells slots pc L [vi x] h :=
  fun C H locs ls hO hS hl => W.widen hc.1 hc.2 (W.iret C.1 C.2.1 (C.2.2.2.2.1.trans hr) (fun t ht hW => ⟨⟨_, _, rfl, hp, by rw [ht]; exact hO⟩, hS.F ht⟩) hS.2.2 hd (hlocks := C.2.2.2.2.2.1))
theorem rz_zreturn {Γ : rz_G} {X : rz_X} {rm : Room} {post : Option Value → rz_H → Prop} {K : rz_K} {cells slots pc : Nat} {L : List (Nat × Value)} {st : List Value} {h : rz_H} {x : Int} {ty : FieldType} (hr : X.2.2.2.1 = some ty) (hn : narrow ty (vi x) = vi x) (hd : decode X.1 pc = .ok (.ireturn, 1)) (hc : cells ≤ rm.cells ∧ slots ≤ rm.slots) (hp : post (some (vi x)) h) : Wk Γ X rm post K cells slots pc L [vi x] h :=
  fun C H locs ls hO hS hl => W.widen hc.1 hc.2 (W.zret C.1 C.2.1 (C.2.2.2.2.1.trans hr) hn (fun t ht hW => ⟨⟨_, _, rfl, hp, by rw [ht]; exact hO⟩, hS.F ht⟩) hS.2.2 hd (hlocks := C.2.2.2.2.2.1))
theorem rz_lreturn {Γ : rz_G} {X : rz_X} {rm : Room} {post : Option Value → rz_H → Prop} {K : rz_K} {cells slots pc : Nat} {L : List (Nat × Value)} {st : List Value} {h : rz_H} {x : Int} (hr : X.2.2.2.1 = some .long) (hd : decode X.1 pc = .ok (.lreturn, 1)) (hc : cells ≤ rm.cells ∧ slots ≤ rm.slots) (hp : post (some (vl x)) h) : Wk Γ X rm post K cells slots pc L [vl x] h :=
  fun C H locs ls hO hS hl => W.widen hc.1 hc.2 (W.lret C.1 C.2.1 (C.2.2.2.2.1.trans hr) (fun t ht hW => ⟨⟨_, _, rfl, hp, by rw [ht]; exact hO⟩, hS.F ht⟩) hS.2.2 hd (hlocks := C.2.2.2.2.2.1))
theorem rz_return {Γ : rz_G} {X : rz_X} {rm : Room} {post : Option Value → rz_H → Prop} {K : rz_K} {cells slots pc : Nat} {L : List (Nat × Value)} {st : List Value} {h : rz_H} (hr : X.2.2.2.1 = none) (hd : decode X.1 pc = .ok (.return_, 1)) (hc : cells ≤ rm.cells ∧ slots ≤ rm.slots) (hp : post none h) : Wk Γ X rm post K cells slots pc L [] h :=
  fun C H locs ls hO hS hl => W.widen hc.1 hc.2 (W.vret C.1 C.2.1 (C.2.2.2.2.1.trans hr) (fun t ht hW => ⟨⟨_, _, rfl, hp, by rw [ht]; exact hO⟩, hS.F ht⟩) hS.2.2 hd (hlocks := C.2.2.2.2.2.1))
theorem rz_areturn {Γ : rz_G} {X : rz_X} {rm : Room} {post : Option Value → rz_H → Prop} {K : rz_K} {cells slots pc : Nat} {L : List (Nat × Value)} {st : List Value} {h : rz_H} {r : Option Nat} {rt : FieldType} (hr : X.2.2.2.1 = some rt) (hrt : (∃ n, rt = .object n) ∨ ∃ t, rt = .array t) (hd : decode X.1 pc = .ok (.areturn, 1)) (hc : cells ≤ rm.cells ∧ slots ≤ rm.slots) (hp : post (some (va_rf r)) h) : Wk Γ X rm post K cells slots pc L [va_rf r] h :=
  fun C H locs ls hO hS hl => W.widen hc.1 hc.2 (W.aret C.1 C.2.1 (C.2.2.2.2.1.trans hr) hrt (by cases r with | none => exact Or.inl rfl | some a => exact Or.inr ⟨a, rfl⟩) (fun t ht hW => ⟨⟨_, _, rfl, hp, by rw [ht]; exact hO⟩, hS.F ht⟩) hS.2.2 hd (hlocks := C.2.2.2.2.2.1))
/-! forms of a contract's end -/
def pI (P : Int → rz_H → Prop) : Option Value → rz_H → Prop := fun v h' => ∃ r : Int, v = some (vi r) ∧ P r h'
def pL (P : Int → rz_H → Prop) : Option Value → rz_H → Prop := fun v h' => ∃ r : Int, v = some (vl r) ∧ P r h'
def pV (P : rz_H → Prop) : Option Value → rz_H → Prop := fun v h' => v = none ∧ P h'
def pR (P : Nat → rz_H → Prop) : Option Value → rz_H → Prop := fun v h' => ∃ a : Nat, v = some (.ref a) ∧ P a h'
def pO (P : Option Nat → rz_H → Prop) : Option Value → rz_H → Prop := fun v h' => ∃ a : Option Nat, v = some (va_rf a) ∧ P a h'
/-- an answer, and the heap as it was -/
abbrev pE (x : Int) (h : rz_H) : Option Value → rz_H → Prop := pI (fun r h' => r = x ∧ h' = h)
abbrev pEL (x : Int) (h : rz_H) : Option Value → rz_H → Prop := pL (fun r h' => r = x ∧ h' = h)
theorem nz_b (b : Bool) : narrow .boolean (vi (bi b)) = vi (bi b) := by cases b <;> rfl
theorem bi1 {b : Bool} (h : b = true) : (1 : Int) = bi b := by rw [h]; rfl
theorem bi0 {b : Bool} (h : b = false) : (0 : Int) = bi b := by rw [h]; rfl
theorem kI {Γ : rz_G} {X : rz_X} {rm : Room} {post : Option Value → rz_H → Prop} {K : rz_K} {cells slots pc : Nat} {L : List (Nat × Value)} {st : List Value} {h : rz_H} {P : Int → rz_H → Prop} (k : ∀ (r : Int) (h' : rz_H), P r h' → Wk Γ X rm post K cells slots pc L (vi r :: st) h') : ∀ (v : Option Value) (h' : rz_H), pI P v h' → Wk Γ X rm post K cells slots pc L (v.toList ++ st) h' := by
  rintro v h' ⟨r, rfl, hp⟩
  exact k r h' hp
theorem kL {Γ : rz_G} {X : rz_X} {rm : Room} {post : Option Value → rz_H → Prop} {K : rz_K} {cells slots pc : Nat} {L : List (Nat × Value)} {st : List Value} {h : rz_H} {P : Int → rz_H → Prop} (k : ∀ (r : Int) (h' : rz_H), P r h' → Wk Γ X rm post K cells slots pc L (vl r :: st) h') : ∀ (v : Option Value) (h' : rz_H), pL P v h' → Wk Γ X rm post K cells slots pc L (v.toList ++ st) h' := by
  rintro v h' ⟨r, rfl, hp⟩
  exact k r h' hp
theorem kE {Γ : rz_G} {X : rz_X} {rm : Room} {post : Option Value → rz_H → Prop} {K : rz_K} {cells slots pc : Nat} {L : List (Nat × Value)} {st : List Value} {h : rz_H} {x : Int} {h0 : rz_H} (k : Wk Γ X rm post K cells slots pc L (vi x :: st) h0) : ∀ (v : Option Value) (h' : rz_H), pE x h0 v h' → Wk Γ X rm post K cells slots pc L (v.toList ++ st) h' := by
  rintro v h' ⟨r, rfl, rfl, rfl⟩
  exact k
theorem kEL {Γ : rz_G} {X : rz_X} {rm : Room} {post : Option Value → rz_H → Prop} {K : rz_K} {cells slots pc : Nat} {L : List (Nat × Value)} {st : List Value} {h : rz_H} {x : Int} {h0 : rz_H} (k : Wk Γ X rm post K cells slots pc L (vl x :: st) h0) : ∀ (v : Option Value) (h' : rz_H), pEL x h0 v h' → Wk Γ X rm post K cells slots pc L (v.toList ++ st) h' := by
  rintro v h' ⟨r, rfl, rfl, rfl⟩
  exact k
theorem kV {Γ : rz_G} {X : rz_X} {rm : Room} {post : Option Value → rz_H → Prop} {K : rz_K} {cells slots pc : Nat} {L : List (Nat × Value)} {st : List Value} {h : rz_H} {P : rz_H → Prop} (k : ∀ h' : rz_H, P h' → Wk Γ X rm post K cells slots pc L st h') : ∀ (v : Option Value) (h' : rz_H), pV P v h' → Wk Γ X rm post K cells slots pc L (v.toList ++ st) h' := by
  rintro v h' ⟨rfl, hp⟩
  exact k h' hp
theorem kR {Γ : rz_G} {X : rz_X} {rm : Room} {post : Option Value → rz_H → Prop} {K : rz_K} {cells slots pc : Nat} {L : List (Nat × Value)} {st : List Value} {h : rz_H} {P : Nat → rz_H → Prop} (k : ∀ (a : Nat) (h' : rz_H), P a h' → Wk Γ X rm post K cells slots pc L (.ref a :: st) h') : ∀ (v : Option Value) (h' : rz_H), pR P v h' → Wk Γ X rm post K cells slots pc L (v.toList ++ st) h' := by
  rintro v h' ⟨a, rfl, hp⟩
  exact k a h' hp
theorem rz_nm {Γ : rz_G} {X : rz_X} {rm : Room} {post : Option Value → rz_H → Prop} {K : rz_K} {cells slots pc : Nat} {L : List (Nat × Value)} {st : List Value} {h : rz_H} (k : ∀ h2 : rz_H, h2 = h → Wk Γ X rm post K cells slots pc L st h2) : Wk Γ X rm post K cells slots pc L st h := k h rfl

/-! the start -/
theorem rz_AOA_spec {s : State} (h : rz_AOA s) : ∃ c k comp, s.vm.findClass ("[" ++ (FieldType.array .int).toString) = some c ∧ s.vm.classes[c]? = some k ∧ k.kind = .array comp (.array .int) := by
  unfold rz_AOA Cond.before Cond.holds at h
  simp only [Cond.value, beq_iff_eq] at h
  cases hc : s.vm.findClass (FieldType.array .int).toString with
  | none => simp [hc] at h
  | some comp =>
    simp only [hc, Option.bind_some, Option.bind_eq_some_iff, Option.map_eq_some_iff] at h
    obtain ⟨c, hi, k, hk, hb⟩ := h
    cases hkind : k.kind with
    | array component ty =>
      rw [hkind] at hb
      simp at hb
      exact ⟨c, k, component, hb.2, hk, by rw [hkind, hb.1]⟩
    | _ => rw [hkind] at hb; simp at hb
/-- an array's class, by its word -/
theorem sA_prim {s : State} {args : Array Value} {ty : FieldType} (h : (Cond.arrayClass ty).before args s = true) : ∃ c, ArrOfT s c ty ∧ s.vm.findClass ("[" ++ ty.toString) = some c := by
  obtain ⟨c, k, comp, h1, h2, h3⟩ := Cond.arrayClass_spec h
  exact ⟨c, fun n z => ⟨fun k h => (by cases h), k, h2, comp, h3⟩, h1⟩
theorem sA_obj {s : State} {C : String} (h : va_AO C s) : ∃ c, ArrOfT s c (.object C) ∧ va_RA s c (.object C) := by
  obtain ⟨comp, c, k, h1, -, h2, h3, h4⟩ := Cond.arrayOver_spec h
  exact ⟨c, fun n z => ⟨fun k h => (by cases h), k, h2, comp, h3⟩, k, comp, h2, h3, h1, h4⟩
theorem sA_arr {s : State} (h : rz_AOA s) : ∃ c, ArrOfT s c (.array .int) ∧ s.vm.findClass ("[" ++ (FieldType.array .int).toString) = some c := by
  obtain ⟨c, k, comp, h1, h2, h3⟩ := rz_AOA_spec h
  exact ⟨c, fun n z => ⟨fun k h => (by cases h), k, h2, comp, h3⟩, h1⟩
/-- the literals: their letters, their terms, what is said of them -/
def sW : List (List Int) := [[49], [], [], kAlpha, [97], kBeta, [98], kMilestone, [109], [114, 99], [99, 114], kSnapshot, [103, 97], kFinal, kRelease, [115, 112]]
def sO : List (String × Nat × String) := [("ReleaseSolver", 38, "1"), ("java/lang/StringLatin1", 151, ""), ("java/lang/StringUTF16", 295, ""), ("ReleaseSolver$Version", 83, "alpha"), ("ReleaseSolver$Version", 89, "a"), ("ReleaseSolver$Version", 91, "beta"), ("ReleaseSolver$Version", 93, "b"), ("ReleaseSolver$Version", 95, "milestone"), ("ReleaseSolver$Version", 97, "m"), ("ReleaseSolver$Version", 99, "rc"), ("ReleaseSolver$Version", 101, "cr"), ("ReleaseSolver$Version", 103, "snapshot"), ("ReleaseSolver$Version", 105, "ga"), ("ReleaseSolver$Version", 107, "final"), ("ReleaseSolver$Version", 109, "release"), ("ReleaseSolver$Version", 111, "sp")]
def sTm (i : Nat) : Term := .string (sO.getD i ("", 0, "")).1 (sO.getD i ("", 0, "")).2.1
def sV (i : Nat) : Term := .field (sTm i) "java/lang/String" "value" "[B"
def sL (i : Nat) : List Int := sW.getD i []
def sN (i : Nat) : List Cond := [.exactly (sTm i) "java/lang/String", .eq (.field (sTm i) "java/lang/String" "coder" "B") (.int 0), .arrayOf (sV i) .byte, .eq (.length (sV i)) (.int (Int32.ofNat (sL i).length))]
def sE (i j : Nat) : Cond := .eq (.elem (sV i) (.int (Int32.ofNat j))) (.int (Int32.ofInt ((sL i).getD j 0)))
theorem sN_all : ∀ i, i < 16 → ∀ w ∈ sN i, w ∈ flatC (Jvm.Cond.and given_1 narrow_1) := by decide +kernel
theorem sE_all : ∀ i, i < 16 → ∀ j, j < (sL i).length → sE i j ∈ flatC (Jvm.Cond.and given_1 narrow_1) := by decide +kernel
theorem getD_in {l : List Int} {n : Nat} (h : n < l.length) : l.getD n 0 ∈ l := by
  rw [List.getD_eq_getElem?_getD, List.getElem?_eq_getElem h]
  exact List.getElem_mem h
theorem sL_ok : ∀ i, i < 16 → (sL i).length ≤ 9 ∧ ∀ c ∈ sL i, 0 ≤ c ∧ c ≤ 127 := by decide +kernel
def sAt (A : Nat → Prop) (s : State) (i a v : Nat) : Prop := va_O "java/lang/String" a A s s.heap ∧ va_OF "java/lang/String" "coder" "B" (.int 0) a A s s.heap ∧ va_OF "java/lang/String" "value" "[B" (.ref v) a A s s.heap ∧ va_T .byte v (sL i).length (fun j => .int (Int32.ofInt ((sL i).getD j 0))) A s s.heap
theorem sOf {args : Array Value} {s : State} {A : Nat → Prop} (hs : ∀ w ∈ flatC (Jvm.Cond.and given_1 narrow_1), w.before args s = true) (hA : ∀ a : Nat, a < s.heap.size → ¬ A a) (i : Nat) (hi : i < 16) : ∃ a v, (sTm i).eval args s none [] s = some (.ref a) ∧ sAt A s i a v := by
  have hn := fun w hw => hs w (sN_all i hi w hw)
  have h1 := hn (.exactly (sTm i) "java/lang/String") (by simp [sN])
  have h2 := hn (.eq (.field (sTm i) "java/lang/String" "coder" "B") (.int 0)) (by simp [sN])
  have h3 := hn (.arrayOf (sV i) .byte) (by simp [sN])
  have h4 := hn (.eq (.length (sV i)) (.int (Int32.ofNat (sL i).length))) (by simp [sN])
  obtain ⟨a, c, cA, kA, q1, q2, q3, q4, q5, q6, -⟩ := Cond.exactly_spec (args := args) (first := s) (o := none) (s := s) (idx := []) (t := sTm i) (cls := "java/lang/String") h1
  obtain ⟨t, ht, hT⟩ := va_Tof (f := fun j => .int (Int32.ofInt ((sL i).getD j 0))) (A := A) (by have := (sL_ok i hi).1; omega) h3 (va_eqt h4) (fun j hj => va_eqt (hs _ (sE_all i hi j hj))) hA
  exact ⟨a, t, q1, ⟨cA, q3, q5, by rw [q6]; exact q2, hA a (Array.getElem?_eq_some_iff.mp q3).1⟩, vk_OFof q1 (va_eqt h2) hA, vk_OFof q1 ht hA, hT⟩
/-- cells of unlike kinds are not the same cell; a field holds one value; an array has one length -/
theorem sK_1 {s : State} {A : Nat → Prop} {args : Array Value} {a n : Nat} {ty : FieldType} {f : Nat → Value} (hi : (Cond.instantiable "java/lang/String" 4).before args s = true) (h1 : va_O "java/lang/String" a A s s.heap) (h2 : va_T ty a n f A s s.heap) : False := by
  obtain ⟨c, k, f1, f2, f3, -⟩ := Cond.instantiable_spec hi
  obtain ⟨cell, p1, -, p3, -⟩ := h1
  obtain ⟨cell', q1, ⟨-, k', q2, comp, q3⟩, -⟩ := h2
  rw [p1] at q1; cases q1
  rw [f1] at p3; cases p3
  rw [f2] at q2; cases q2
  rw [f3] at q3; cases q3
theorem sK_2 {s : State} {A : Nat → Prop} {a n n' : Nat} {ty ty' : FieldType} {f f' : Nat → Value} (hn : ty ≠ ty') (h1 : va_T ty a n f A s s.heap) (h2 : va_T ty' a n' f' A s s.heap) : False := by
  obtain ⟨cell, p1, ⟨-, k, p2, comp, p3⟩, -⟩ := h1
  obtain ⟨cell', q1, ⟨-, k', q2, comp', q3⟩, -⟩ := h2
  rw [p1] at q1; cases q1
  rw [p2] at q2; cases q2
  rw [p3] at q3; cases q3
  exact hn rfl
theorem sK_3 {s : State} {A : Nat → Prop} {a : Nat} {o n d : String} {v v' : Value} (h1 : va_OF o n d v a A s s.heap) (h2 : va_OF o n d v' a A s s.heap) : v = v' := by
  obtain ⟨cf, k, i, f, cell, p1, -, p2, -, p3, -⟩ := h1
  obtain ⟨cf', k', i', f', cell', q1, -, q2, -, q3, -⟩ := h2
  rw [p1] at q1; cases q1
  rw [p2] at q2; cases q2
  rw [p3] at q3; cases q3
  rfl
theorem sK_4 {s : State} {A : Nat → Prop} {a n n' : Nat} {ty : FieldType} {f f' : Nat → Value} (b1 : n < 2147483648) (b2 : n' < 2147483648) (h1 : va_T ty a n f A s s.heap) (h2 : va_T ty a n' f' A s s.heap) : n = n' ∧ ∀ j, j < n → f j = f' j := by
  obtain ⟨cell, p1, -, -, -, p2, p3, -⟩ := h1
  obtain ⟨cell', q1, -, -, -, q2, q3, -⟩ := h2
  rw [p1] at q1; cases q1
  have e : n = n' := by
    rw [p2] at q2
    have := congrArg Int32.toInt q2
    rw [Int32.toInt_ofNat_of_lt b1, Int32.toInt_ofNat_of_lt b2] at this
    omega
  refine ⟨e, fun j hj => ?_⟩
  have x := p3 j hj; have y := q3 j (by omega)
  rw [x] at y
  exact Option.some.inj y
/-- what lay there before: literals, their bytes, the empty list's array -/
def oldM (dA : Nat → ClassId) (ak av : Nat → Nat) (a0 : Nat) : Nat → Option (Nat × va_E) := fun a =>
  match (List.range 16).find? (fun i => ak i == a) with
  | some i => some (0, .inr (0, [.ref (av i), vi 0]))
  | none => match (List.range 16).find? (fun i => av i == a) with
    | some i => some (2, .inl (dA 2, (sL i).length, .inl (fun j : Nat => Int32.ofInt ((sL i).getD j 0))))
    | none => if a = a0 then some (4, .inl (dA 4, 0, .inr (.inr (.inr (.inr (fun _ : Nat => none)))))) else none
def adF (a0 z1 z2 : Nat) (ak : Nat → Nat) : Nat → Nat := fun k => if k = 0 then a0 else if k = 1 then z1 else if k = 2 then z2 else ak (k - 10)
theorem fnd_s {p : Nat → Bool} {i : Nat} (h : (List.range 16).find? p = some i) : i < 16 ∧ p i = true := ⟨List.mem_range.mp (List.mem_of_find?_eq_some h), List.find?_some h⟩
theorem fnd_n {p : Nat → Bool} (h : (List.range 16).find? p = none) (i : Nat) (hi : i < 16) : p i = false := by
  have := List.find?_eq_none.mp h i (List.mem_range.mpr hi)
  simpa using this
theorem old_k {dA : Nat → ClassId} {ak av : Nat → Nat} {a0 i : Nat} (hi : i < 16) : ∃ j, j < 16 ∧ ak j = ak i ∧ oldM dA ak av a0 (ak i) = some (0, .inr (0, [.ref (av j), vi 0])) := by
  unfold oldM
  cases h : (List.range 16).find? (fun j => ak j == ak i) with
  | none => have := fnd_n h i hi; simp at this
  | some j =>
    obtain ⟨a, b⟩ := fnd_s h
    exact ⟨j, a, by simpa using b, rfl⟩
theorem old_v {dA : Nat → ClassId} {ak av : Nat → Nat} {a0 i : Nat} (hi : i < 16) (hn : ∀ j, j < 16 → ak j ≠ av i) : ∃ j, j < 16 ∧ av j = av i ∧ oldM dA ak av a0 (av i) = some (2, .inl (dA 2, (sL j).length, .inl (fun j' : Nat => Int32.ofInt ((sL j).getD j' 0)))) := by
  unfold oldM
  cases h : (List.range 16).find? (fun j => ak j == av i) with
  | some j =>
    obtain ⟨a, b⟩ := fnd_s h
    exact absurd (by simpa using b) (hn j a)
  | none =>
    dsimp only
    cases h' : (List.range 16).find? (fun j => av j == av i) with
    | none => have := fnd_n h' i hi; simp at this
    | some j =>
      obtain ⟨a, b⟩ := fnd_s h'
      exact ⟨j, a, by simpa using b, rfl⟩
theorem old_0 {dA : Nat → ClassId} {ak av : Nat → Nat} {a0 : Nat} (hk : ∀ j, j < 16 → ak j ≠ a0) (hv : ∀ j, j < 16 → av j ≠ a0) : oldM dA ak av a0 a0 = some (4, .inl (dA 4, 0, .inr (.inr (.inr (.inr (fun _ : Nat => none)))))) := by
  unfold oldM
  cases h : (List.range 16).find? (fun j => ak j == a0) with
  | some j =>
    obtain ⟨a, b⟩ := fnd_s h
    exact absurd (by simpa using b) (hk j a)
  | none =>
    dsimp only
    cases h' : (List.range 16).find? (fun j => av j == a0) with
    | some j =>
      obtain ⟨a, b⟩ := fnd_s h'
      exact absurd (by simpa using b) (hv j a)
    | none => simp
abbrev G0 (dC : Nat → ClassId) (dI : Nat → Nat → Nat) (dA : Nat → ClassId) (sz : Nat) (ak av : Nat → Nat) (a0 z1 z2 : Nat) : rz_G := ((dC, dI), dA, sz, oldM dA ak av a0, adF a0 z1 z2 ak)
def h0M (Γ : rz_G) : rz_H := fun a => (Γ.2.2.2.1 a).map (fun x => ((0, x.1), x.2))
theorem h0M_O (Γ : rz_G) (H : Heap) : rz_O Γ (h0M Γ) H := by
  refine ⟨[], fun k q h => by simp at h, ⟨fun i j p q h => by simp at h, fun k q h => by simp at h⟩, fun a t e h => ?_⟩
  unfold h0M at h
  cases hx : Γ.2.2.2.1 a with
  | none => rw [hx] at h; cases h
  | some x => rw [hx] at h; cases h; exact Or.inr ⟨rfl, rfl⟩
section
variable {dC : Nat → ClassId} {dI : Nat → Nat → Nat} {dA : Nat → ClassId} {s : State} {args : Array Value} {ak av : Nat → Nat} {a0 z1 z2 : Nat}
theorem st_fz (hS : ∀ i, i < 16 → sAt (fun q => s.heap.size ≤ q) s i (ak i) (av i)) (hZ : va_T (.object "java/lang/Object") a0 0 (fun _ => .null) (fun q => s.heap.size ≤ q) s s.heap) : ∀ a t e, (G0 dC dI dA s.heap.size ak av a0 z1 z2).2.2.2.1 a = some (t, e) → rz_fz (G0 dC dI dA s.heap.size ak av a0 z1 z2) t a e s := by
  intro a t e h
  change oldM dA ak av a0 a = some (t, e) at h
  unfold oldM at h
  cases h1 : (List.range 16).find? (fun j => ak j == a) with
  | some i =>
    rw [h1] at h; cases h
    obtain ⟨p, q⟩ := fnd_s h1
    have ea : ak i = a := by simpa using q
    obtain ⟨x1, x2, x3, x4⟩ := hS i p
    rw [ea] at x1 x2 x3
    refine ⟨("java/lang/String", k_T0, 4), rfl, x1, fun k v hv => ?_⟩
    match k, hv with
    | 0, hv => cases hv; exact x3
    | 1, hv => cases hv; exact x2
    | k + 2, hv => simp at hv
  | none =>
    rw [h1] at h; dsimp only at h
    cases h2 : (List.range 16).find? (fun j => av j == a) with
    | some i =>
      rw [h2] at h; cases h
      obtain ⟨p, q⟩ := fnd_s h2
      have ea : av i = a := by simpa using q
      obtain ⟨x1, x2, x3, x4⟩ := hS i p
      rw [ea] at x4
      exact ⟨(dA 2, .byte), rfl, x4⟩
    | none =>
      rw [h2] at h; dsimp only at h
      by_cases e0 : a = a0
      · rw [if_pos e0] at h; cases h
        rw [e0]
        exact ⟨(dA 4, .object "java/lang/Object"), rfl, hZ⟩
      · rw [if_neg e0] at h; cases h
theorem st_str (hi4 : (Cond.instantiable "java/lang/String" 4).before args s = true) (hS : ∀ i, i < 16 → sAt (fun q => s.heap.size ≤ q) s i (ak i) (av i)) (i : Nat) (hi : i < 16) (m : Nat) (hm : (sL i).length ≤ m) : StrAt (G0 dC dI dA s.heap.size ak av a0 z1 z2) (h0M (G0 dC dI dA s.heap.size ak av a0 z1 z2)) (ak i) (sL i).length (ltr (sL i)) m := by
  obtain ⟨j, j1, j2, j3⟩ := old_k (dA := dA) (ak := ak) (av := av) (a0 := a0) hi
  have ev : av j = av i := by
    have x := (hS j j1).2.2.1
    rw [j2] at x
    exact Value.ref.inj (sK_3 x (hS i hi).2.2.1)
  obtain ⟨u, u1, u2, u3⟩ := old_v (dA := dA) (ak := ak) (av := av) (a0 := a0) hi (fun k hk e => sK_1 hi4 (by have := (hS k hk).1; rw [e] at this; exact this) (hS i hi).2.2.2)
  have bl : ∀ k, k < 16 → (sL k).length < 2147483648 := fun k hk => by have := (sL_ok k hk).1; omega
  have sm := sK_4 (bl u u1) (bl i hi) (by have := (hS u u1).2.2.2; rw [u2] at this; exact this) (hS i hi).2.2.2
  refine ⟨(0, 0), (0, 2), av i, [.ref (av j), vi 0], ltr (sL u), ?_, by decide, by rw [ev]; rfl, rfl, ?_, by decide, fun _ => ⟨rfl, hm⟩, ⟨by have := (sL_ok i hi).1; omega, fun j' p q => ?_⟩, fun j' p q => ?_⟩
  · show (oldM dA ak av a0 (ak i)).map _ = _
    rw [j3]; rfl
  · show (oldM dA ak av a0 (av i)).map _ = _
    rw [u3]
    show some (((0, 2) : Nat × Nat), (Sum.inl (dA 2, (sL u).length, _) : va_E)) = _
    rw [sm.1]
    rfl
  · have hx := (sL_ok i hi).2
    have hl : j'.toNat < (sL i).length := by omega
    exact hx _ (getD_in hl)
  · have := sm.2 j'.toNat (by omega)
    have e2 := Value.int.inj this
    have r1 : ∀ k, k < 16 → ∀ n, 0 ≤ (sL k).getD n 0 ∧ (sL k).getD n 0 ≤ 127 := fun k hk n => by
      by_cases hl : n < (sL k).length
      · exact (sL_ok k hk).2 _ (getD_in hl)
      · rw [List.getD_eq_getElem?_getD, List.getElem?_eq_none (by omega)]; decide
    show (sL u).getD j'.toNat 0 = (sL i).getD j'.toNat 0
    exact (rz_eq (by have := r1 u u1 j'.toNat; omega) (by have := r1 i hi j'.toNat; omega)).mp e2
theorem st_ks (hi4 : (Cond.instantiable "java/lang/String" 4).before args s = true) (hS : ∀ i, i < 16 → sAt (fun q => s.heap.size ≤ q) s i (ak i) (av i)) (hZ : va_T (.object "java/lang/Object") a0 0 (fun _ => .null) (fun q => s.heap.size ≤ q) s s.heap) : KsAt (G0 dC dI dA s.heap.size ak av a0 z1 z2) (h0M (G0 dC dI dA s.heap.size ak av a0 z1 z2)) := by
  refine ⟨fun q hq => ?_, ?_, ?_, ?_⟩
  · simp only [ks_L, List.mem_cons, List.not_mem_nil, or_false] at hq
    rcases hq with rfl | rfl | rfl | rfl | rfl | rfl | rfl | rfl | rfl | rfl | rfl | rfl | rfl | rfl
    all_goals first
      | exact st_str (dC := dC) (dI := dI) (dA := dA) (a0 := a0) (z1 := z1) (z2 := z2) hi4 hS 3 (by decide) 1000 (by decide)
      | exact st_str (dC := dC) (dI := dI) (dA := dA) (a0 := a0) (z1 := z1) (z2 := z2) hi4 hS 4 (by decide) 1000 (by decide)
      | exact st_str (dC := dC) (dI := dI) (dA := dA) (a0 := a0) (z1 := z1) (z2 := z2) hi4 hS 5 (by decide) 1000 (by decide)
      | exact st_str (dC := dC) (dI := dI) (dA := dA) (a0 := a0) (z1 := z1) (z2 := z2) hi4 hS 6 (by decide) 1000 (by decide)
      | exact st_str (dC := dC) (dI := dI) (dA := dA) (a0 := a0) (z1 := z1) (z2 := z2) hi4 hS 7 (by decide) 1000 (by decide)
      | exact st_str (dC := dC) (dI := dI) (dA := dA) (a0 := a0) (z1 := z1) (z2 := z2) hi4 hS 8 (by decide) 1000 (by decide)
      | exact st_str (dC := dC) (dI := dI) (dA := dA) (a0 := a0) (z1 := z1) (z2 := z2) hi4 hS 9 (by decide) 1000 (by decide)
      | exact st_str (dC := dC) (dI := dI) (dA := dA) (a0 := a0) (z1 := z1) (z2 := z2) hi4 hS 10 (by decide) 1000 (by decide)
      | exact st_str (dC := dC) (dI := dI) (dA := dA) (a0 := a0) (z1 := z1) (z2 := z2) hi4 hS 11 (by decide) 1000 (by decide)
      | exact st_str (dC := dC) (dI := dI) (dA := dA) (a0 := a0) (z1 := z1) (z2 := z2) hi4 hS 12 (by decide) 1000 (by decide)
      | exact st_str (dC := dC) (dI := dI) (dA := dA) (a0 := a0) (z1 := z1) (z2 := z2) hi4 hS 13 (by decide) 1000 (by decide)
      | exact st_str (dC := dC) (dI := dI) (dA := dA) (a0 := a0) (z1 := z1) (z2 := z2) hi4 hS 14 (by decide) 1000 (by decide)
      | exact st_str (dC := dC) (dI := dI) (dA := dA) (a0 := a0) (z1 := z1) (z2 := z2) hi4 hS 15 (by decide) 1000 (by decide)
      | exact st_str (dC := dC) (dI := dI) (dA := dA) (a0 := a0) (z1 := z1) (z2 := z2) hi4 hS 0 (by decide) 1000 (by decide)
  · exact (st_str (dC := dC) (dI := dI) (dA := dA) (a0 := a0) (z1 := z1) (z2 := z2) hi4 hS 1 (by decide) 1 (by decide)).c (fun j p q => absurd q (by have : (sL 1).length = 0 := rfl; omega))
  · exact (st_str (dC := dC) (dI := dI) (dA := dA) (a0 := a0) (z1 := z1) (z2 := z2) hi4 hS 0 (by decide) 1 (by decide)).c (fun j p q => by
      have : (sL 0).length = 1 := rfl
      have : j = 0 := by omega
      subst this; rfl)
  · show (oldM dA ak av a0 a0).map _ = _
    rw [old_0 (fun j hj e => sK_1 hi4 (by have := (hS j hj).1; rw [e] at this; exact this) hZ) (fun j hj e => sK_2 (ty := .byte) (by intro z; cases z) (by have := (hS j hj).2.2.2; rw [e] at this; exact this) hZ)]
    rfl
end

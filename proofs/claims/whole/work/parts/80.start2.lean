/-! the start: what a method may count on -/
theorem st_W {args : Array Value} {s : State} (hts : ∀ w ∈ lw_tbl, w.before args s = true) : ∀ w ∈ rz_W, ∀ a : Array Value, w.before a s = true := by
  intro w hw a
  obtain ⟨h1, h2⟩ := List.mem_filter.mp hw
  obtain ⟨c, k, hC, -⟩ := Cond.instantiable_spec (hts (.instantiable "java/lang/StringBuilder" 4) (List.mem_of_getElem? (i := 82) (by decide +kernel)))
  have hb : w.before args s = true := by
    rcases List.mem_append.mp h1 with h | h
    · exact hts w h
    · simp only [rz_more, List.mem_cons, List.not_mem_nil, or_false] at h
      rcases h with rfl | rfl | rfl
      · exact rz_selP hC (hts _ (List.mem_of_getElem? (i := 448) (by decide +kernel))) (hts _ (List.mem_of_getElem? (i := 449) (by decide +kernel))) (hts _ (List.mem_of_getElem? (i := 1252) (by decide +kernel)))
      · exact rz_selP hC (hts _ (List.mem_of_getElem? (i := 452) (by decide +kernel))) (hts _ (List.mem_of_getElem? (i := 453) (by decide +kernel))) (hts _ (List.mem_of_getElem? (i := 1253) (by decide +kernel)))
      · exact rz_selP hC (hts _ (List.mem_of_getElem? (i := 478) (by decide +kernel))) (hts _ (List.mem_of_getElem? (i := 479) (by decide +kernel))) (hts _ (List.mem_of_getElem? (i := 1254) (by decide +kernel)))
  exact word_at (State.WarmedH.refl s) (good_of_word h2) hb
theorem nf_all : ∀ q ∈ rz_NF, Cond.fieldLinkNest q.1 q.2.1 q.2.2.1 q.2.2.2.1 q.2.2.2.2.1 q.2.2.2.2.2 ∈ lw_tbl := by decide +kernel
theorem nm_all : ∀ q ∈ rz_NM, Cond.methodLinkNest q.1 q.2.1 q.2.2.1 q.2.2.2 ∈ lw_tbl := by decide +kernel
theorem nc_all : ∀ q ∈ rz_NC, Cond.castable q.1 q.2 ∈ lw_tbl := by decide +kernel
theorem na_all : ∀ q ∈ rz_NA, Cond.arrayOver (.object q) ∈ lw_tbl := by decide +kernel
theorem no_all : Cond.arrayOver (.array .int) ∈ lw_tbl := (List.mem_of_getElem? (i := 149) (by decide +kernel))
def dAF (c0 c1 c2 c3 c4 c5 c6 : ClassId) : Nat → ClassId := fun k => match k with
  | 0 => c0
  | 1 => c1
  | 2 => c2
  | 3 => c3
  | 4 => c4
  | 5 => c5
  | _ => c6
theorem st_K {args : Array Value} {s : State} (hW : ∀ w ∈ rz_W, ∀ a : Array Value, w.before a s = true) (hO : va_AO "java/lang/Object" s) (hPl : va_AO "ReleaseSolver$Plugin" s) (hA : rz_AOA s) : ∃ dC dI dA, va_K (dC, dI) rz_cl (rz_T dA) s := by
  have h0 : ∀ c : Nat, ∃ q : ClassId × (Nat → Nat), ∀ r : vw_C, rz_cl[c]? = some r → u_Kn s r.1 r.2.1 r.2.2 q.1 q.2 := by
    intro c
    cases hc : rz_cl[c]? with
    | none => exact ⟨(0, fun _ => 0), fun r hr => by cases hr⟩
    | some r =>
      obtain ⟨-, -, -, hin, -⟩ := rz_born c r hc
      obtain ⟨cC, iS, hk⟩ := u_known (ws := rz_W) (args := #[]) (fun w hw => hW w hw _) (rz_lays c r hc) (hW _ hin _)
      exact ⟨(cC, iS), fun r' hr => by cases hr; exact hk⟩
  obtain ⟨d, hd⟩ := Classical.axiomOfChoice h0
  obtain ⟨c0, x0, y0⟩ := sA_prim (hW _ aw_int #[])
  obtain ⟨c1, x1, y1⟩ := sA_prim (hW _ aw_boolean #[])
  obtain ⟨c2, x2, y2⟩ := sA_prim (hW _ aw_byte #[])
  obtain ⟨c3, x3, y3⟩ := sA_prim (hW _ aw_long #[])
  obtain ⟨c4, x4, y4⟩ := sA_obj hO
  obtain ⟨c5, x5, y5⟩ := sA_obj hPl
  obtain ⟨c6, x6, y6⟩ := sA_arr hA
  refine ⟨fun c => (d c).1, fun c => (d c).2, dAF c0 c1 c2 c3 c4 c5 c6, fun c r hr => hd c r hr, fun k q hk => ?_⟩
  match k, hk with
  | 0, hk => cases hk; exact ⟨x0, y0⟩
  | 1, hk => cases hk; exact ⟨x1, y1⟩
  | 2, hk => cases hk; exact ⟨x2, y2⟩
  | 3, hk => cases hk; exact ⟨x3, y3⟩
  | 4, hk => cases hk; exact ⟨x4, y4⟩
  | 5, hk => cases hk; exact ⟨x5, y5⟩
  | 6, hk => cases hk; exact ⟨x6, y6⟩
  | k + 7, hk => simp [rz_T] at hk
theorem st_E {args : Array Value} {s : State} (hts : ∀ w ∈ lw_tbl, w.before args s = true) (hs : ∀ w ∈ flatC (Jvm.Cond.and given_1 narrow_1), w.before args s = true) : ∃ Γ : rz_G, Γ.2.2.1 = s.heap.size ∧ rz_E Γ s ∧ KsAt Γ (h0M Γ) := by
  have hA : ∀ a : Nat, a < s.heap.size → ¬ (fun q => s.heap.size ≤ q) a := fun a ha => by dsimp only; omega
  have hW := st_W hts
  have hO : va_AO "java/lang/Object" s := va_AO.of (hts _ (na_all "java/lang/Object" (by decide)))
  have hPl : va_AO "ReleaseSolver$Plugin" s := va_AO.of (hts _ (na_all "ReleaseSolver$Plugin" (by decide)))
  have hAO : rz_AOA s := hts _ no_all
  obtain ⟨dC, dI, dA, hK⟩ := st_K (args := args) hW hO hPl hAO
  have h0 : ∀ i : Nat, ∃ q : Nat × Nat, i < 16 → (sTm i).eval args s none [] s = some (.ref q.1) ∧ sAt (fun q => s.heap.size ≤ q) s i q.1 q.2 := by
    intro i
    by_cases hi : i < 16
    · obtain ⟨a, v, x, y⟩ := sOf hs hA i hi
      exact ⟨(a, v), fun _ => ⟨x, y⟩⟩
    · exact ⟨(0, 0), fun h => absurd h hi⟩
  obtain ⟨d, had⟩ := Classical.axiomOfChoice h0
  have hS : ∀ i, i < 16 → sAt (fun q => s.heap.size ≤ q) s i ((fun i => (d i).1) i) ((fun i => (d i).2) i) := fun i hi => (had i hi).2
  have hi4 := hts (.instantiable "java/lang/String" 4) (List.mem_of_getElem? (i := 271) (by decide +kernel))
  obtain ⟨a0, ha0, hZ⟩ := va_Tof (tm := (.static "java/util/ArrayList" "DEFAULTCAPACITY_EMPTY_ELEMENTDATA" "[Ljava/lang/Object;")) (ty := .object "java/lang/Object") (N := 0) (f := fun _ => .null) (A := fun q => s.heap.size ≤ q) (by decide) (hs (.arrayOf (.static "java/util/ArrayList" "DEFAULTCAPACITY_EMPTY_ELEMENTDATA" "[Ljava/lang/Object;") (.object "java/lang/Object")) (by decide +kernel)) (va_eqt (hs (.eq (.length (.static "java/util/ArrayList" "DEFAULTCAPACITY_EMPTY_ELEMENTDATA" "[Ljava/lang/Object;")) (.int (Int32.ofNat 0))) (by decide +kernel))) (fun j hj => absurd hj (by omega)) hA
  have hz0 : va_Z "java/lang/String" "COMPACT_STRINGS" "Z" (.int (Int32.ofInt 1)) (fun q => s.heap.size ≤ q) s s.heap := va_Zof (hts (.laysStatic "java/lang/String" "COMPACT_STRINGS" "Z") (List.mem_of_getElem? (i := 91) (by decide +kernel))) (hts (.initialized "java/lang/String") (List.mem_of_getElem? (i := 52) (by decide +kernel))) (va_eqi (z := 1) (hs _ (by decide +kernel))) hA
  have hz1 := va_Zof (hts (.laysStatic "java/util/ArrayList" "DEFAULTCAPACITY_EMPTY_ELEMENTDATA" "[Ljava/lang/Object;") (List.mem_of_getElem? (i := 129) (by decide +kernel))) (hts (.initialized "java/util/ArrayList") (List.mem_of_getElem? (i := 56) (by decide +kernel))) ha0 hA
  have hz2 := va_Zqof (hts (.laysStatic "jdk/internal/util/Preconditions" "SIOOBE_FORMATTER" "Ljava/util/function/BiFunction;") (List.mem_of_getElem? (i := 216) (by decide +kernel))) (hts (.initialized "jdk/internal/util/Preconditions") (List.mem_of_getElem? (i := 61) (by decide +kernel))) (hs (.isRef (.static "jdk/internal/util/Preconditions" "SIOOBE_FORMATTER" "Ljava/util/function/BiFunction;")) (by decide +kernel)) hA
  have hz3 : ∃ z1 z2 : Nat, va_Z "jdk/internal/util/Preconditions" "SIOOBE_FORMATTER" "Ljava/util/function/BiFunction;" (if z1 = 0 then .null else .ref z2) (fun q => s.heap.size ≤ q) s s.heap := by
    rcases hz2 with h | ⟨t, h⟩
    · exact ⟨0, 0, h⟩
    · exact ⟨1, t, h⟩
  obtain ⟨z1, z2, hz3⟩ := hz3
  refine ⟨G0 dC dI dA s.heap.size (fun i => (d i).1) (fun i => (d i).2) a0 z1 z2, rfl, ⟨hK, Nat.le_refl _, hW, ⟨fun q hq => va_Nw.of rfl (hts _ (nf_all q hq)), fun q hq => va_Nw.of rfl (hts _ (nm_all q hq)), fun q hq => va_Nw.of rfl (hts _ (nc_all q hq)), fun q hq => va_AO.of (hts _ (na_all q hq)), hAO⟩, st_fz hS hZ, fun q hq => ?_, fun q hq => ?_⟩, st_ks hi4 hS hZ⟩
  · simp only [rz_Z, List.mem_cons, List.not_mem_nil, or_false] at hq
    rcases hq with rfl | rfl | rfl
    · exact hz0
    · exact hz1
    · exact hz3
  · simp only [rz_S, List.mem_cons, List.not_mem_nil, or_false] at hq
    rcases hq with rfl | rfl | rfl | rfl | rfl | rfl | rfl | rfl | rfl | rfl | rfl | rfl | rfl | rfl | rfl | rfl
    · exact vk_R.of (hts (.stringRef "ReleaseSolver" 38 "1") (List.mem_of_getElem? (i := 181) (by decide +kernel))) (had 0 (by decide)).1
    · exact vk_R.of (hts (.stringRef "java/lang/StringLatin1" 151 "") (List.mem_of_getElem? (i := 269) (by decide +kernel))) (had 1 (by decide)).1
    · exact vk_R.of (hts (.stringRef "java/lang/StringUTF16" 295 "") (List.mem_of_getElem? (i := 313) (by decide +kernel))) (had 2 (by decide)).1
    · exact vk_R.of (hts (.stringRef "ReleaseSolver$Version" 83 "alpha") (List.mem_of_getElem? (i := 343) (by decide +kernel))) (had 3 (by decide)).1
    · exact vk_R.of (hts (.stringRef "ReleaseSolver$Version" 89 "a") (List.mem_of_getElem? (i := 352) (by decide +kernel))) (had 4 (by decide)).1
    · exact vk_R.of (hts (.stringRef "ReleaseSolver$Version" 91 "beta") (List.mem_of_getElem? (i := 353) (by decide +kernel))) (had 5 (by decide)).1
    · exact vk_R.of (hts (.stringRef "ReleaseSolver$Version" 93 "b") (List.mem_of_getElem? (i := 354) (by decide +kernel))) (had 6 (by decide)).1
    · exact vk_R.of (hts (.stringRef "ReleaseSolver$Version" 95 "milestone") (List.mem_of_getElem? (i := 355) (by decide +kernel))) (had 7 (by decide)).1
    · exact vk_R.of (hts (.stringRef "ReleaseSolver$Version" 97 "m") (List.mem_of_getElem? (i := 356) (by decide +kernel))) (had 8 (by decide)).1
    · exact vk_R.of (hts (.stringRef "ReleaseSolver$Version" 99 "rc") (List.mem_of_getElem? (i := 357) (by decide +kernel))) (had 9 (by decide)).1
    · exact vk_R.of (hts (.stringRef "ReleaseSolver$Version" 101 "cr") (List.mem_of_getElem? (i := 358) (by decide +kernel))) (had 10 (by decide)).1
    · exact vk_R.of (hts (.stringRef "ReleaseSolver$Version" 103 "snapshot") (List.mem_of_getElem? (i := 359) (by decide +kernel))) (had 11 (by decide)).1
    · exact vk_R.of (hts (.stringRef "ReleaseSolver$Version" 105 "ga") (List.mem_of_getElem? (i := 360) (by decide +kernel))) (had 12 (by decide)).1
    · exact vk_R.of (hts (.stringRef "ReleaseSolver$Version" 107 "final") (List.mem_of_getElem? (i := 361) (by decide +kernel))) (had 13 (by decide)).1
    · exact vk_R.of (hts (.stringRef "ReleaseSolver$Version" 109 "release") (List.mem_of_getElem? (i := 362) (by decide +kernel))) (had 14 (by decide)).1
    · exact vk_R.of (hts (.stringRef "ReleaseSolver$Version" 111 "sp") (List.mem_of_getElem? (i := 363) (by decide +kernel))) (had 15 (by decide)).1

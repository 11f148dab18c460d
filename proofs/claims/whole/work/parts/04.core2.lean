/-! CORE 2: fields, arrays, new cells, calls -/
/-- a field of class number ci, place k, as the method's class spells it -/
def rz_lnk (own : String) (idx ci k : Nat) : Prop := ∃ (q : vw_C) (ref : String), rz_cl[ci]? = some q ∧ k < q.2.2 ∧ ((Cond.fieldLink own idx ref (q.2.1 k).2.1 (q.2.1 k).2.2.1 ∈ rz_W) ∨ ∃ host, (own, idx, ref, (q.2.1 k).2.1, (q.2.1 k).2.2.1, host) ∈ rz_NF) ∧ (ref = (q.2.1 k).1 ∨ Cond.sameField ref (q.2.1 k).1 (q.2.1 k).2.1 (q.2.1 k).2.2.1 ∈ rz_W)
/-- .. that may be written here -/
def rz_lnkP (own nm : String) (idx ci k : Nat) (ty : FieldType) : Prop := ∃ (q : vw_C) (ref : String), rz_cl[ci]? = some q ∧ k < q.2.2 ∧ ((Cond.fieldLink own idx ref (q.2.1 k).2.1 (q.2.1 k).2.2.1 ∈ rz_W ∧ ((q.2.1 k).2.2.2 = false ∨ ((q.2.1 k).2.2.2 = true ∧ nm = "<init>" ∧ (q.2.1 k).1 = own))) ∨ ((q.2.1 k).2.2.2 = false ∧ ∃ host, (own, idx, ref, (q.2.1 k).2.1, (q.2.1 k).2.2.1, host) ∈ rz_NF)) ∧ (ref = (q.2.1 k).1 ∨ Cond.sameField ref (q.2.1 k).1 (q.2.1 k).2.1 (q.2.1 k).2.2.1 ∈ rz_W) ∧ parseFieldDescriptor (q.2.1 k).2.2.1 = some ty
theorem rz_cell {Γ : rz_G} {h : rz_H} {s : State} {H : Heap} {locs : List Loc} {a ci : Nat} {t : Nat × Nat} {fs : List Value} {q : vw_C} (hE : rz_E Γ s) (hO : rz_O Γ h H) (hS : va_S (rz_A Γ) s.heap H locs) (ha : h a = some (t, .inr (ci, fs))) (hc : rz_cl[ci]? = some q) : ∃ cell : Cell, H[a]? = some cell ∧ cell.vm.isStatics = false ∧ s.vm.findClass q.1 = some cell.cls := by
  obtain ⟨ws, hP, hD, hws⟩ := hO
  rcases hws a t _ ha with ⟨-, q0, hq0⟩ | ⟨-, hz⟩
  · exact va_recv hE.1 hP hc hq0
  · obtain ⟨r, h1, h2, h3⟩ := hE.2.2.2.2.1 a _ _ hz
    cases h1.symm.trans hc
    obtain ⟨cell, g1, g2, g3, -⟩ := h2.kept hS.2.1
    exact ⟨cell, g1, g2, g3⟩
theorem rz_getf {Γ : rz_G} {X : rz_X} {rm : Room} {post : Option Value → rz_H → Prop} {K : rz_K} {cells slots pc : Nat} {L : List (Nat × Value)} {st : List Value} {h : rz_H} {idx ci k a : Nat} {t : Nat × Nat} {fs : List Value} {v : Value} (hf : rz_lnk X.2.1 idx ci k) (ha : h a = some (t, .inr (ci, fs))) (hv : fs[k]? = some v) (hd : decode X.1 pc = .ok (.getfield idx, 3)) (kk : Wk Γ X rm post K cells slots (pc + 3) L (v :: st) h) : Wk Γ X rm post K cells slots pc L (.ref a :: st) h := by
  intro C H locs ls hO hS hl
  have kk' := kk C H locs ls hO hS hl
  obtain ⟨hx, hb, hml, hown, hr, hlk, hnm, hE⟩ := C
  have hW := hE.2.2.1
  obtain ⟨⟨Cn, T, N⟩, ref, hc, hkN, hlink, hsame⟩ := hf
  have hs' : ∀ x, K.2.2.2.1.fieldFound? (T k).1 (T k).2.1 (T k).2.2.1 = some x → K.2.2.2.1.fieldFound? ref (T k).2.1 (T k).2.2.1 = some x := by
    rcases hsame with h1 | h1
    · intro x hx
      rw [h1]
      exact hx
    · exact fun x hx => u_same (hW _ h1 #[]) x hx
  obtain ⟨ws, hP, hD, hws⟩ := hO
  rcases hws a t _ ha with ⟨-, q0, hq0⟩ | ⟨-, hz⟩
  · rcases hlink with hlink | ⟨host, hlink⟩
    · exact va_get hx hb (fun w hw => hW w hw _) (rz_lays ci _ hc) hown hE.1 hP q0 hq0 hc k hkN (hW _ hlink _) hs' hv hd kk'
    · exact va_getN hx hb (fun w hw => hW w hw _) (rz_lays ci _ hc) hown hE.1 hP q0 hq0 hc k hkN (va_Nw.use rfl (hE.2.2.2.1.1 _ hlink)) hs' hv hd kk'
  · obtain ⟨r, h1, h2, h3⟩ := hE.2.2.2.2.1 a _ _ hz
    cases h1.symm.trans hc
    rcases hlink with hlink | ⟨host, hlink⟩
    · exact vk_getf hx hb (h3 k v hv) hS hown (hW _ hlink _) hs' hd kk'
    · obtain ⟨cf, kf, fi, f, cell, g1, g2, g3, g4, g5, g6⟩ := (h3 k v hv).kept hS.2.1
      exact va_Wgetf hx hb hown (va_Nw.use rfl (hE.2.2.2.1.1 _ hlink)) (hs' _ g1) g2 g3 g4 (v := v) g5 rfl rfl hd kk'
theorem rz_putf {Γ : rz_G} {X : rz_X} {rm : Room} {post : Option Value → rz_H → Prop} {K : rz_K} {cells slots pc : Nat} {L : List (Nat × Value)} {st : List Value} {h : rz_H} {idx ci k a : Nat} {t : Nat × Nat} {fs : List Value} {v : Value} {ty : FieldType} (hf : rz_lnkP X.2.1 X.2.2.2.2 idx ci k ty) (ha : h a = some (t, .inr (ci, fs))) (ht : t.1 ≠ 0) (hn : narrow ty v = v) (hfit : fits ty v = true) (hl0 : k < fs.length) (hd : decode X.1 pc = .ok (.putfield idx, 3)) (kk : Wk Γ X rm post K cells slots (pc + 3) L st (rz_up h a (t, .inr (ci, fs.set k v)))) : Wk Γ X rm post K cells slots pc L (v :: .ref a :: st) h := by
  intro C H locs ls hO hS hl
  have kk' := kk C
  obtain ⟨hx, hb, hml, hown, hr, hlk, hnm, hE⟩ := C
  have hW := hE.2.2.1
  obtain ⟨⟨Cn, T, N⟩, ref, hc, hkN, hlink, hsame, hpd⟩ := hf
  have hs' : ∀ x, K.2.2.2.1.fieldFound? (T k).1 (T k).2.1 (T k).2.2.1 = some x → K.2.2.2.1.fieldFound? ref (T k).2.1 (T k).2.2.1 = some x := by
    rcases hsame with h1 | h1
    · intro x hx
      rw [h1]
      exact hx
    · exact fun x hx => u_same (hW _ h1 #[]) x hx
  obtain ⟨⟨ty0, hty⟩, hnn⟩ := rz_tys ci _ hc
  obtain ⟨ws, hP, hD, hws⟩ := hO
  rcases hws a t _ ha with ⟨-, q0, hq0⟩ | ⟨h0, -⟩
  · rcases hlink with ⟨hlink, hfin | ⟨hfin, hi, hdc⟩⟩ | ⟨hfin, host, hlink⟩
    · exact va_put hx hb (fun w hw => hW w hw _) (rz_lays ci _ hc) ty0 hty hnn hown hE.1 hP hD hS q0 hq0 hc k hkN (hW _ hlink _) hs' hfin hpd hn hfit hl0 hd (fun H1 locs1 hP1 hD1 hS1 => kk' H1 locs1 ls (rz_O.set hws hq0 ht hP1 hD1) hS1 hl)
    · exact va_putF hx hb (fun w hw => hW w hw _) (rz_lays ci _ hc) ty0 hty hnn hown hE.1 hP hD hS q0 hq0 hc k hkN (hW _ hlink _) hs' hfin (hnm.trans hi) hdc hpd hn hfit hl0 hd (fun H1 locs1 hP1 hD1 hS1 => kk' H1 locs1 ls (rz_O.set hws hq0 ht hP1 hD1) hS1 hl)
    · exact va_putN hx hb (fun w hw => hW w hw _) (rz_lays ci _ hc) ty0 hty hnn hown hE.1 hP hD hS q0 hq0 hc k hkN (va_Nw.use rfl (hE.2.2.2.1.1 _ hlink)) hs' hfin hpd hn hfit hl0 hd (fun H1 locs1 hP1 hD1 hS1 => kk' H1 locs1 ls (rz_O.set hws hq0 ht hP1 hD1) hS1 hl)
  · exact absurd h0 ht
theorem rz_gets {Γ : rz_G} {X : rz_X} {rm : Room} {post : Option Value → rz_H → Prop} {K : rz_K} {cells slots pc : Nat} {L : List (Nat × Value)} {st : List Value} {h : rz_H} {idx : Nat} {C0 n d ref : String} {v : Value} (hz : (C0, n, d, v) ∈ rz_Z Γ.2.2.2.2) (hw : Cond.fieldLink X.2.1 idx ref n d ∈ rz_W) (hsame : ref = C0 ∨ Cond.sameField ref C0 n d ∈ rz_W) (hd : decode X.1 pc = .ok (.getstatic idx, 3)) (kk : Wk Γ X rm post K cells slots (pc + 3) L (v :: st) h) : Wk Γ X rm post K cells slots pc L st h := by
  intro C H locs ls hO hS hl
  have kk' := kk C H locs ls hO hS hl
  obtain ⟨hx, hb, hml, hown, hr, hlk, hnm, hE⟩ := C
  refine va_gets hx hb (hE.2.2.2.2.2.1 _ hz) hS hown (hE.2.2.1 _ hw _) ?_ hd kk'
  rcases hsame with h1 | h1
  · intro x hx
    rw [h1]
    exact hx
  · exact fun x hx => u_same (hE.2.2.1 _ h1 #[]) x hx
/-! arrays -/
abbrev aI (Γ : rz_G) (k n : Nat) (g : Int → Int) : va_E := .inl (Γ.2.1 k, n, .inl (fun j : Nat => Int32.ofInt (g (j : Int))))
abbrev aL (Γ : rz_G) (n : Nat) (g : Int → Int) : va_E := .inl (Γ.2.1 3, n, .inr (.inl (fun j : Nat => Int64.ofInt (g (j : Int)))))
abbrev aR (Γ : rz_G) (k n : Nat) (f : Int → Option Nat) : va_E := .inl (Γ.2.1 k, n, .inr (.inr (.inr (.inr (fun j : Nat => f (j : Int))))))
def rz_u {α : Type} (g : Int → α) (i : Int) (v : α) : Int → α := fun j => if j = i then v else g j
theorem rz_u_s {α : Type} (g : Int → α) (i : Int) (v : α) : rz_u g i v i = v := by simp [rz_u]
theorem rz_u_n {α : Type} {g : Int → α} {i j : Int} {v : α} (hn : j ≠ i) : rz_u g i v j = g j := by simp [rz_u, hn]
theorem rz_upd {g : Int → Int} {i v : Int} {x : Int32} (hi : 0 ≤ i ∧ i ≤ 2147483647) (hx : x = Int32.ofInt v) : upd (fun j : Nat => Int32.ofInt (g (j : Int))) (Int32.ofInt i).toNatClampNeg x = fun j : Nat => Int32.ofInt (rz_u g i v (j : Int)) := by
  funext j
  rw [rz_cl_i hi]
  by_cases hj : (j : Int) = i
  · rw [hj, rz_u_s, show j = i.toNat by omega, pk_us, hx]
  · rw [rz_u_n hj, pk_un (by omega)]
theorem rz_updL {g : Int → Int} {i v : Int} (hi : 0 ≤ i ∧ i ≤ 2147483647) : vp_updL (fun j : Nat => Int64.ofInt (g (j : Int))) (Int32.ofInt i).toNatClampNeg (Int64.ofInt v) = fun j : Nat => Int64.ofInt (rz_u g i v (j : Int)) := by
  funext j
  rw [rz_cl_i hi]
  by_cases hj : (j : Int) = i
  · rw [hj, rz_u_s, show j = i.toNat by omega, pk_uLs]
  · rw [rz_u_n hj, pk_uLn (by omega)]
theorem rz_updQ {f : Int → Option Nat} {i : Int} {v : Option Nat} (hi : 0 ≤ i ∧ i ≤ 2147483647) : va_up (fun j : Nat => f (j : Int)) (Int32.ofInt i).toNatClampNeg v = fun j : Nat => rz_u f i v (j : Int) := by
  funext j
  rw [rz_cl_i hi]
  by_cases hj : (j : Int) = i
  · rw [hj, rz_u_s, show j = i.toNat by omega, va_up_self]
  · rw [rz_u_n hj, va_up_ne _ _ (by omega)]
theorem rz_ixn {i : Int} (hi : 0 ≤ i ∧ i ≤ 2147483647) : (((Int32.ofInt i).toNatClampNeg : Nat) : Int) = i := by rw [rz_cl_i hi]; omega
theorem rz_iaload {Γ : rz_G} {X : rz_X} {rm : Room} {post : Option Value → rz_H → Prop} {K : rz_K} {cells slots pc : Nat} {L : List (Nat × Value)} {st : List Value} {h : rz_H} {a n : Nat} {t : Nat × Nat} {g : Int → Int} {i : Int} (ha : h a = some (t, aI Γ 0 n g)) (ht : t.1 ≠ 0) (hi : 0 ≤ i ∧ i < n ∧ i ≤ 2147483647) (hd : decode X.1 pc = .ok (.iaload, 1)) (kk : Wk Γ X rm post K cells slots (pc + 1) L (vi (g i) :: st) h) : Wk Γ X rm post K cells slots pc L (vi i :: .ref a :: st) h := by
  intro C H locs ls hO hS hl
  have kk' := kk C H locs ls hO hS hl
  have hE := C.2.2.2.2.2.2.2
  obtain ⟨ws, hP, hD, hws⟩ := hO
  rcases hws a t _ ha with ⟨-, q0, hq0⟩ | ⟨h0, -⟩
  · refine va_iald C.1 C.2.1 hE.1 hP q0 0 hq0 rfl (rz_in hi) hd ?_
    rw [rz_ixn ⟨hi.1, hi.2.2⟩]
    exact kk'
  · exact absurd h0 ht
theorem rz_zaload {Γ : rz_G} {X : rz_X} {rm : Room} {post : Option Value → rz_H → Prop} {K : rz_K} {cells slots pc : Nat} {L : List (Nat × Value)} {st : List Value} {h : rz_H} {a n : Nat} {t : Nat × Nat} {g : Int → Int} {i : Int} (ha : h a = some (t, aI Γ 1 n g)) (ht : t.1 ≠ 0) (hi : 0 ≤ i ∧ i < n ∧ i ≤ 2147483647) (hd : decode X.1 pc = .ok (.baload, 1)) (kk : Wk Γ X rm post K cells slots (pc + 1) L (vi (g i) :: st) h) : Wk Γ X rm post K cells slots pc L (vi i :: .ref a :: st) h := by
  intro C H locs ls hO hS hl
  have kk' := kk C H locs ls hO hS hl
  have hE := C.2.2.2.2.2.2.2
  obtain ⟨ws, hP, hD, hws⟩ := hO
  rcases hws a t _ ha with ⟨-, q0, hq0⟩ | ⟨h0, -⟩
  · refine va_zald C.1 C.2.1 hE.1 hP q0 1 hq0 rfl (rz_in hi) hd ?_
    rw [rz_ixn ⟨hi.1, hi.2.2⟩]
    exact kk'
  · exact absurd h0 ht
theorem rz_laload {Γ : rz_G} {X : rz_X} {rm : Room} {post : Option Value → rz_H → Prop} {K : rz_K} {cells slots pc : Nat} {L : List (Nat × Value)} {st : List Value} {h : rz_H} {a n : Nat} {t : Nat × Nat} {g : Int → Int} {i : Int} (ha : h a = some (t, aL Γ n g)) (ht : t.1 ≠ 0) (hi : 0 ≤ i ∧ i < n ∧ i ≤ 2147483647) (hd : decode X.1 pc = .ok (.laload, 1)) (kk : Wk Γ X rm post K cells slots (pc + 1) L (vl (g i) :: st) h) : Wk Γ X rm post K cells slots pc L (vi i :: .ref a :: st) h := by
  intro C H locs ls hO hS hl
  have kk' := kk C H locs ls hO hS hl
  have hE := C.2.2.2.2.2.2.2
  obtain ⟨ws, hP, hD, hws⟩ := hO
  rcases hws a t _ ha with ⟨-, q0, hq0⟩ | ⟨h0, -⟩
  · refine va_lald C.1 C.2.1 hE.1 hP q0 3 hq0 rfl (rz_in hi) hd ?_
    rw [rz_ixn ⟨hi.1, hi.2.2⟩]
    exact kk'
  · exact absurd h0 ht
theorem rz_baload {Γ : rz_G} {X : rz_X} {rm : Room} {post : Option Value → rz_H → Prop} {K : rz_K} {cells slots pc : Nat} {L : List (Nat × Value)} {st : List Value} {h : rz_H} {a n : Nat} {t : Nat × Nat} {g : Int → Int} {i : Int} (ha : h a = some (t, aI Γ 2 n g)) (ht : t.1 = 0 → t.2 = 2) (hi : 0 ≤ i ∧ i < n ∧ i ≤ 2147483647) (hd : decode X.1 pc = .ok (.baload, 1)) (kk : Wk Γ X rm post K cells slots (pc + 1) L (vi (g i) :: st) h) : Wk Γ X rm post K cells slots pc L (vi i :: .ref a :: st) h := by
  intro C H locs ls hO hS hl
  have kk' := kk C H locs ls hO hS hl
  have hE := C.2.2.2.2.2.2.2
  obtain ⟨ws, hP, hD, hws⟩ := hO
  rcases hws a t _ ha with ⟨-, q0, hq0⟩ | ⟨h0, hz⟩
  · refine va_bald C.1 C.2.1 hE.1 hP q0 2 hq0 rfl (rz_in hi) hd ?_
    rw [rz_ixn ⟨hi.1, hi.2.2⟩]
    exact kk'
  · obtain ⟨ty, h1, h2⟩ := hE.2.2.2.2.1 a _ _ hz
    rw [ht h0] at h1
    cases h1
    exact va_tb C.1 C.2.1 h2 hS (rz_in hi) (v := vi (g i)) (by show Value.int (Int32.ofInt (g (((Int32.ofInt i).toNatClampNeg : Nat) : Int))) = _; rw [rz_ixn ⟨hi.1, hi.2.2⟩]) hd kk'
theorem rz_aaload {Γ : rz_G} {X : rz_X} {rm : Room} {post : Option Value → rz_H → Prop} {K : rz_K} {cells slots pc : Nat} {L : List (Nat × Value)} {st : List Value} {h : rz_H} {a n k : Nat} {C0 : String} {t : Nat × Nat} {f : Int → Option Nat} {i : Int} (ha : h a = some (t, aR Γ k n f)) (hk : (rz_T Γ.2.1)[k]? = some (Γ.2.1 k, .object C0)) (ht : t.1 ≠ 0) (hi : 0 ≤ i ∧ i < n ∧ i ≤ 2147483647) (hd : decode X.1 pc = .ok (.aaload, 1)) (kk : Wk Γ X rm post K cells slots (pc + 1) L (va_rf (f i) :: st) h) : Wk Γ X rm post K cells slots pc L (vi i :: .ref a :: st) h := by
  intro C H locs ls hO hS hl
  have kk' := kk C H locs ls hO hS hl
  have hE := C.2.2.2.2.2.2.2
  obtain ⟨ws, hP, hD, hws⟩ := hO
  rcases hws a t _ ha with ⟨-, q0, hq0⟩ | ⟨h0, -⟩
  · refine va_aldq C.1 C.2.1 hE.1 hP q0 k hq0 hk (rz_in hi) hd ?_
    rw [rz_ixn ⟨hi.1, hi.2.2⟩]
    exact kk'
  · exact absurd h0 ht
theorem rz_iastore {Γ : rz_G} {X : rz_X} {rm : Room} {post : Option Value → rz_H → Prop} {K : rz_K} {cells slots pc : Nat} {L : List (Nat × Value)} {st : List Value} {h : rz_H} {a n : Nat} {t : Nat × Nat} {g : Int → Int} {i v : Int} (ha : h a = some (t, aI Γ 0 n g)) (ht : t.1 ≠ 0) (hi : 0 ≤ i ∧ i < n ∧ i ≤ 2147483647) (hd : decode X.1 pc = .ok (.iastore, 1)) (kk : Wk Γ X rm post K cells slots (pc + 1) L st (rz_up h a (t, aI Γ 0 n (rz_u g i v)))) : Wk Γ X rm post K cells slots pc L (vi v :: vi i :: .ref a :: st) h := by
  intro C H locs ls hO hS hl
  have hE := C.2.2.2.2.2.2.2
  obtain ⟨ws, hP, hD, hws⟩ := hO
  rcases hws a t _ ha with ⟨-, q0, hq0⟩ | ⟨h0, -⟩
  · refine va_iast C.1 C.2.1 hE.1 hP hD hS q0 0 hq0 rfl (rz_in hi) hd (fun H1 locs1 hP1 hD1 hS1 => ?_)
    rw [rz_upd (v := v) ⟨hi.1, hi.2.2⟩ rfl] at hP1 hD1
    exact kk C H1 locs1 ls (rz_O.set hws hq0 ht hP1 hD1) hS1 hl
  · exact absurd h0 ht
theorem rz_zastore {Γ : rz_G} {X : rz_X} {rm : Room} {post : Option Value → rz_H → Prop} {K : rz_K} {cells slots pc : Nat} {L : List (Nat × Value)} {st : List Value} {h : rz_H} {a n : Nat} {t : Nat × Nat} {g : Int → Int} {i v : Int} (ha : h a = some (t, aI Γ 1 n g)) (ht : t.1 ≠ 0) (hi : 0 ≤ i ∧ i < n ∧ i ≤ 2147483647) (hv : v = 0 ∨ v = 1) (hd : decode X.1 pc = .ok (.bastore, 1)) (kk : Wk Γ X rm post K cells slots (pc + 1) L st (rz_up h a (t, aI Γ 1 n (rz_u g i v)))) : Wk Γ X rm post K cells slots pc L (vi v :: vi i :: .ref a :: st) h := by
  intro C H locs ls hO hS hl
  have hE := C.2.2.2.2.2.2.2
  obtain ⟨ws, hP, hD, hws⟩ := hO
  rcases hws a t _ ha with ⟨-, q0, hq0⟩ | ⟨h0, -⟩
  · refine va_zast C.1 C.2.1 hE.1 hP hD hS q0 1 hq0 rfl (rz_in hi) hd (fun H1 locs1 hP1 hD1 hS1 => ?_)
    rw [rz_upd (v := v) ⟨hi.1, hi.2.2⟩ (by rcases hv with rfl | rfl <;> rfl)] at hP1 hD1
    exact kk C H1 locs1 ls (rz_O.set hws hq0 ht hP1 hD1) hS1 hl
  · exact absurd h0 ht
theorem rz_nb {v : Int} (hv : -128 ≤ v ∧ v ≤ 127) : vp_nar .byte (Int32.ofInt v) = Int32.ofInt v := by
  rw [vp_nar_byte, ← Int32.toInt_inj, Int8.toInt_toInt32, rz_ti (by omega), Int32.toInt_toInt8, rz_ti (by omega)]
  exact Int.bmod_eq_of_le (by omega) (by omega)
theorem rz_bastore {Γ : rz_G} {X : rz_X} {rm : Room} {post : Option Value → rz_H → Prop} {K : rz_K} {cells slots pc : Nat} {L : List (Nat × Value)} {st : List Value} {h : rz_H} {a n : Nat} {t : Nat × Nat} {g : Int → Int} {i v : Int} (ha : h a = some (t, aI Γ 2 n g)) (ht : t.1 ≠ 0) (hi : 0 ≤ i ∧ i < n ∧ i ≤ 2147483647) (hv : -128 ≤ v ∧ v ≤ 127) (hd : decode X.1 pc = .ok (.bastore, 1)) (kk : Wk Γ X rm post K cells slots (pc + 1) L st (rz_up h a (t, aI Γ 2 n (rz_u g i v)))) : Wk Γ X rm post K cells slots pc L (vi v :: vi i :: .ref a :: st) h := by
  intro C H locs ls hO hS hl
  have hE := C.2.2.2.2.2.2.2
  obtain ⟨ws, hP, hD, hws⟩ := hO
  rcases hws a t _ ha with ⟨-, q0, hq0⟩ | ⟨h0, -⟩
  · refine va_bast C.1 C.2.1 hE.1 hP hD hS q0 2 hq0 rfl (rz_in hi) hd (fun H1 locs1 hP1 hD1 hS1 => ?_)
    rw [rz_upd (v := v) ⟨hi.1, hi.2.2⟩ (rz_nb hv)] at hP1 hD1
    exact kk C H1 locs1 ls (rz_O.set hws hq0 ht hP1 hD1) hS1 hl
  · exact absurd h0 ht
theorem rz_lastore {Γ : rz_G} {X : rz_X} {rm : Room} {post : Option Value → rz_H → Prop} {K : rz_K} {cells slots pc : Nat} {L : List (Nat × Value)} {st : List Value} {h : rz_H} {a n : Nat} {t : Nat × Nat} {g : Int → Int} {i v : Int} (ha : h a = some (t, aL Γ n g)) (ht : t.1 ≠ 0) (hi : 0 ≤ i ∧ i < n ∧ i ≤ 2147483647) (hd : decode X.1 pc = .ok (.lastore, 1)) (kk : Wk Γ X rm post K cells slots (pc + 1) L st (rz_up h a (t, aL Γ n (rz_u g i v)))) : Wk Γ X rm post K cells slots pc L (vl v :: vi i :: .ref a :: st) h := by
  intro C H locs ls hO hS hl
  have hE := C.2.2.2.2.2.2.2
  obtain ⟨ws, hP, hD, hws⟩ := hO
  rcases hws a t _ ha with ⟨-, q0, hq0⟩ | ⟨h0, -⟩
  · refine va_last C.1 C.2.1 hE.1 hP hD hS q0 3 hq0 rfl (rz_in hi) hd (fun H1 locs1 hP1 hD1 hS1 => ?_)
    rw [rz_updL (v := v) ⟨hi.1, hi.2.2⟩] at hP1 hD1
    exact kk C H1 locs1 ls (rz_O.set hws hq0 ht hP1 hD1) hS1 hl
  · exact absurd h0 ht
theorem rz_alen {Γ : rz_G} {X : rz_X} {rm : Room} {post : Option Value → rz_H → Prop} {K : rz_K} {cells slots pc : Nat} {L : List (Nat × Value)} {st : List Value} {h : rz_H} {a k : Nat} {t : Nat × Nat} {x : vp_A} {ty : FieldType} {v : Int} (ha : h a = some (t, .inl (Γ.2.1 k, x))) (ht : t.1 ≠ 0) (hk : (rz_T Γ.2.1)[k]? = some (Γ.2.1 k, ty)) (hv : v = (x.1 : Int)) (hd : decode X.1 pc = .ok (.arraylength, 1)) (kk : Wk Γ X rm post K cells slots (pc + 1) L (vi v :: st) h) : Wk Γ X rm post K cells slots pc L (.ref a :: st) h := by
  intro C H locs ls hO hS hl
  have kk' := kk C H locs ls hO hS hl
  have hE := C.2.2.2.2.2.2.2
  obtain ⟨ws, hP, hD, hws⟩ := hO
  rcases hws a t _ ha with ⟨-, q0, hq0⟩ | ⟨h0, -⟩
  · exact va_alen C.1 C.2.1 hE.1 hP q0 k hq0 hk (by rw [hv, Int32.ofInt_eq_ofNat]) hd kk'
  · exact absurd h0 ht
theorem rz_alenF {Γ : rz_G} {X : rz_X} {rm : Room} {post : Option Value → rz_H → Prop} {K : rz_K} {cells slots pc : Nat} {L : List (Nat × Value)} {st : List Value} {h : rz_H} {a k n : Nat} {g : Int → Int} {v : Int} (ha : h a = some ((0, k), aI Γ k n g)) (hv : v = (n : Int)) (hd : decode X.1 pc = .ok (.arraylength, 1)) (kk : Wk Γ X rm post K cells slots (pc + 1) L (vi v :: st) h) : Wk Γ X rm post K cells slots pc L (.ref a :: st) h := by
  intro C H locs ls hO hS hl
  have kk' := kk C H locs ls hO hS hl
  have hE := C.2.2.2.2.2.2.2
  obtain ⟨ws, hP, hD, hws⟩ := hO
  rcases hws a _ _ ha with ⟨h0, -⟩ | ⟨-, hz⟩
  · exact absurd rfl h0
  · obtain ⟨ty, h1, h2⟩ := hE.2.2.2.2.1 a _ _ hz
    exact va_tlen C.1 C.2.1 h2 hS (by rw [hv, Int32.ofInt_eq_ofNat]) hd kk'
theorem rz_alenQ {Γ : rz_G} {X : rz_X} {rm : Room} {post : Option Value → rz_H → Prop} {K : rz_K} {cells slots pc : Nat} {L : List (Nat × Value)} {st : List Value} {h : rz_H} {a k n : Nat} {f : Int → Option Nat} {v : Int} (ha : h a = some ((0, k), aR Γ k n f)) (hv : v = (n : Int)) (hd : decode X.1 pc = .ok (.arraylength, 1)) (kk : Wk Γ X rm post K cells slots (pc + 1) L (vi v :: st) h) : Wk Γ X rm post K cells slots pc L (.ref a :: st) h := by
  intro C H locs ls hO hS hl
  have kk' := kk C H locs ls hO hS hl
  have hE := C.2.2.2.2.2.2.2
  obtain ⟨ws, hP, hD, hws⟩ := hO
  rcases hws a _ _ ha with ⟨h0, -⟩ | ⟨-, hz⟩
  · exact absurd rfl h0
  · obtain ⟨ty, h1, h2⟩ := hE.2.2.2.2.1 a _ _ hz
    exact va_tlen C.1 C.2.1 h2 hS (by rw [hv, Int32.ofInt_eq_ofNat]) hd kk'
/-- what a new array of a type holds -/
theorem rz_newa {Γ : rz_G} {X : rz_X} {rm : Room} {post : Option Value → rz_H → Prop} {K : rz_K} {cells slots pc : Nat} {L : List (Nat × Value)} {st : List Value} {h : rz_H} {atype : ArrayType} {k : Nat} {ty : FieldType} {a0 : vp_A} {n : Int} (N : Nat) (t : Nat × Nat) (ht : t.1 ≠ 0) (hty : newarray.typeOf atype = ty) (hk : (rz_T Γ.2.1)[k]? = some (Γ.2.1 k, ty)) (hR : ∀ (U : State) (cA : ClassId), va_RA U cA ty → U.vm.findClass ("[" ++ ty.toString) = some cA) (ha0 : ∀ cA : ClassId, vp_cell cA a0 = arrV cA N (fun _ => defaultValue ty)) (hw : Cond.arrayClass ty ∈ rz_W) (hn : n = (N : Int)) (hN : N ≤ 10000000) (hby : componentBytes ty ≤ 8) (hc : cells + 1 ≤ rm.cells ∧ slots + N ≤ rm.slots) (hd : decode X.1 pc = .ok (.newarray atype, 2))
    (kk : ∀ q : Nat, h q = none → Wk Γ X rm post K (cells + 1) (slots + N) (pc + 2) L (.ref q :: st) (rz_up h q (t, .inl (Γ.2.1 k, a0)))) : Wk Γ X rm post K cells slots pc L (vi n :: st) h := by
  intro C H locs ls hO hS hl
  have hE := C.2.2.2.2.2.2.2
  obtain ⟨ws, hP, hD, hws⟩ := hO
  subst hty
  refine va_newa C.1 C.2.1 (hE.2.2.1 _ hw _) rfl hE.1 hP hD hS (fun q hq => Nat.le_trans hE.2.1 hq) (a0 := a0) ha0 (n := Int32.ofInt n) (by rw [rz_0, rz_lt (by omega) (by omega)]; omega) (by rw [rz_cl_i (by omega)]; omega) (Nat.le_trans (Nat.mul_le_mul hN hby) (by decide)) hc.1 hc.2 hd (fun q cA H1 hK1 hP1 hD1 hS1 => ?_)
  have e1 := hR _ _ (hE.1.2 k _ hk).2
  have e2 := hR _ _ (hK1.2 (rz_T Γ.2.1).length (cA, newarray.typeOf atype) (by rw [List.getElem?_append_right (Nat.le_refl _), Nat.sub_self]; rfl)).2
  have e3 : cA = Γ.2.1 k := Option.some.inj (e2.symm.trans e1)
  subst e3
  obtain ⟨hq, hO1⟩ := rz_O.push hE hws ht hP1 hD1
  exact kk q hq C H1 locs ls hO1 hS1 hl
theorem rz_anew {Γ : rz_G} {X : rz_X} {rm : Room} {post : Option Value → rz_H → Prop} {K : rz_K} {cells slots pc : Nat} {L : List (Nat × Value)} {st : List Value} {h : rz_H} {idx k : Nat} {C0 : String} {n : Int} (N : Nat) (t : Nat × Nat) (ht : t.1 ≠ 0) (hk : (rz_T Γ.2.1)[k]? = some (Γ.2.1 k, .object C0)) (hw : Cond.classLink X.2.1 idx C0 ∈ rz_W) (ho : C0 ∈ rz_NA) (hn : n = (N : Int)) (hN : N ≤ 10000000) (hc : cells + 1 ≤ rm.cells ∧ slots + N ≤ rm.slots) (hd : decode X.1 pc = .ok (.anewarray idx, 3))
    (kk : ∀ q : Nat, h q = none → Wk Γ X rm post K (cells + 1) (slots + N) (pc + 3) L (.ref q :: st) (rz_up h q (t, aR Γ k N (fun _ => none)))) : Wk Γ X rm post K cells slots pc L (vi n :: st) h := by
  intro C H locs ls hO hS hl
  have hE := C.2.2.2.2.2.2.2
  obtain ⟨ws, hP, hD, hws⟩ := hO
  refine va_newq C.1 C.2.1 C.2.2.2.1 (hE.2.2.1 _ hw _) (hE.2.2.2.1.2.2.2.1 _ ho) hE.1 hP hD hS (fun q hq => Nat.le_trans hE.2.1 hq) (n := Int32.ofInt n) (N' := N) (by rw [rz_0, rz_lt (by omega) (by omega)]; omega) (by rw [rz_cl_i (by omega)]; omega) (by omega) hc.1 hc.2 hd (fun q cA H1 hK1 hP1 hD1 hS1 => ?_)
  obtain ⟨-, -, -, -, -, e1⟩ := (hE.1.2 k _ hk).2
  obtain ⟨-, -, -, -, -, e2⟩ := (hK1.2 (rz_T Γ.2.1).length (cA, .object C0) (by rw [List.getElem?_append_right (Nat.le_refl _), Nat.sub_self]; rfl)).2
  have e3 : cA = Γ.2.1 k := Option.some.inj (e2.symm.trans e1)
  subst e3
  obtain ⟨hq, hO1⟩ := rz_O.push hE hws ht hP1 hD1
  exact kk q hq C H1 locs ls hO1 hS1 hl
/-- an object is made: its fields are blank -/
theorem rz_new {Γ : rz_G} {X : rz_X} {rm : Room} {post : Option Value → rz_H → Prop} {K : rz_K} {cells slots pc : Nat} {L : List (Nat × Value)} {st : List Value} {h : rz_H} {idx ci : Nat} {q0 : vw_C} {fs : List Value} (t : Nat × Nat) (ht : t.1 ≠ 0) (hc : rz_cl[ci]? = some q0) (hfs : rz_bl ci = fs) (hw : Cond.classLink X.2.1 idx q0.1 ∈ rz_W) (hcs : cells + 1 ≤ rm.cells ∧ slots + q0.2.2 ≤ rm.slots) (hd : decode X.1 pc = .ok (.new idx, 3))
    (kk : ∀ q : Nat, h q = none → Wk Γ X rm post K (cells + 1) (slots + q0.2.2) (pc + 3) L (.ref q :: st) (rz_up h q (t, .inr (ci, fs)))) : Wk Γ X rm post K cells slots pc L st h := by
  intro C H locs ls hO hS hl
  have hE := C.2.2.2.2.2.2.2
  have hW := hE.2.2.1
  obtain ⟨ws, hP, hD, hws⟩ := hO
  obtain ⟨ty0, hty, hdf, hi1, hi2⟩ := rz_born ci _ hc
  subst hfs
  obtain ⟨Cn, T, N⟩ := q0
  refine va_new C.1 C.2.1 (fun w hw => hW w hw _) (rz_lays ci _ hc) ty0 hty C.2.2.2.1 (hW _ hw _) (hW _ hi1 _) (hW _ hi2 _) hE.1 hP hD hS (fun q hq => Nat.le_trans hE.2.1 hq) hc hdf hcs.1 hcs.2 hd (fun q H1 hP1 hD1 hS1 => ?_)
  obtain ⟨hq, hO1⟩ := rz_O.push hE hws ht hP1 hD1
  exact kk q hq C H1 locs ls hO1 hS1 hl
theorem rz_cast {Γ : rz_G} {X : rz_X} {rm : Room} {post : Option Value → rz_H → Prop} {K : rz_K} {cells slots pc : Nat} {L : List (Nat × Value)} {st : List Value} {h : rz_H} {idx a ci : Nat} {t : Nat × Nat} {fs : List Value} {q0 : vw_C} (ha : h a = some (t, .inr (ci, fs))) (hc : rz_cl[ci]? = some q0) (hw : Cond.classLink X.2.1 idx q0.1 ∈ rz_W) (hd : decode X.1 pc = .ok (.checkcast idx, 3)) (kk : Wk Γ X rm post K cells slots (pc + 3) L (.ref a :: st) h) : Wk Γ X rm post K cells slots pc L (.ref a :: st) h :=
  fun C H locs ls hO hS hl => va_castE C.1 C.2.1 C.2.2.2.1 (C.2.2.2.2.2.2.2.2.2.1 _ hw _) (rz_cell C.2.2.2.2.2.2.2 hO hS ha hc) hd (kk C H locs ls hO hS hl)
theorem rz_inst {Γ : rz_G} {X : rz_X} {rm : Room} {post : Option Value → rz_H → Prop} {K : rz_K} {cells slots pc : Nat} {L : List (Nat × Value)} {st : List Value} {h : rz_H} {idx a ci : Nat} {t : Nat × Nat} {fs : List Value} {q0 : vw_C} (ha : h a = some (t, .inr (ci, fs))) (hc : rz_cl[ci]? = some q0) (hw : Cond.classLink X.2.1 idx q0.1 ∈ rz_W) (hd : decode X.1 pc = .ok (.instanceof idx, 3)) (kk : Wk Γ X rm post K cells slots (pc + 3) L (vi 1 :: st) h) : Wk Γ X rm post K cells slots pc L (.ref a :: st) h :=
  fun C H locs ls hO hS hl => va_instE C.1 C.2.1 C.2.2.2.1 (C.2.2.2.2.2.2.2.2.2.1 _ hw _) (rz_cell C.2.2.2.2.2.2.2 hO hS ha hc) hd (kk C H locs ls hO hS hl)
theorem rz_objInit {Γ : rz_G} {X : rz_X} {rm : Room} {post : Option Value → rz_H → Prop} {K : rz_K} {cells slots pc : Nat} {L : List (Nat × Value)} {st : List Value} {h : rz_H} {idx a : Nat} (hw : Cond.methodLink X.2.1 idx objectInit ∈ rz_W) (hi : Cond.instanceMethod objectInit ∈ rz_W) (hcd : Cond.code objectInit ⟨#[0xb1]⟩ 1 none ∈ rz_W) (hs : (st.map fun v => v.category).sum + 12 ≤ rm.locals) (hfr : 1 ≤ rm.frames) (hd : decode X.1 pc = .ok (.invokespecial idx, 3)) (kk : Wk Γ X rm post K cells slots (pc + 3) L st h) : Wk Γ X rm post K cells slots pc L (.ref a :: st) h := by
  intro C H locs ls hO hS hl
  have kk' := kk C H locs ls hO hS hl
  obtain ⟨hx, hb, hml, hown, hr, hlk, hnm, hE⟩ := C
  refine W.objInit hx hb hown (hE.2.2.1 _ hw _) (hE.2.2.1 _ hi _) (hE.2.2.1 _ hcd _) rfl (by rw [hml]; exact hl.1) rfl hd hfr ?_ kk'
  show 2 * 0 + _ + 12 ≤ _
  omega
/-! calls -/
theorem rz_go {Γ : rz_G} {X : rz_X} {rm : Room} {post : Option Value → rz_H → Prop} {K : rz_K} {cells slots pc : Nat} {L : List (Nat × Value)} {rest st0 : List Value} {a : Array Value} {mc ms : Nat} {post' : Option Value → rz_H → Prop} {H : Heap} {locs : List Loc} {ls : Array Slot} (C : rz_C Γ X K) (hl : lv_has ls X.2.2.1 L)
    (hr : va_Run K.2.1 K.1 K.2.2.1 rm K.2.2.2.1 K.2.2.2.2.1 K.2.2.2.2.2.1 K.2.2.2.2.2.2.1 K.2.2.2.2.2.2.2.1 K.2.2.2.2.2.2.2.2 H locs cells slots mc ms (F0 K.2.2.2.2.1 pc ls st0) rest (rz_Q Γ post' a) (rz_A Γ)) (hS : va_S (rz_A Γ) K.2.2.2.1.heap H locs)
    (kk : ∀ (v : Option Value) (h' : rz_H), post' v h' → Wk Γ X rm post K (cells + mc) (slots + ms) (pc + 3) L (v.toList ++ rest) h') :
    W K.2.1 K.1 K.2.2.1 rm K.2.2.2.1 K.2.2.2.2.1 K.2.2.2.2.2.1 K.2.2.2.2.2.2.1 K.2.2.2.2.2.2.2.1 K.2.2.2.2.2.2.2.2 H locs cells slots (MQ K.2.2.2.2.2.2.1 (rz_Q Γ post) K.2.2.2.2.2.1 K.2.2.2.1 rm.cells rm.slots (rz_A Γ)) (F0 K.2.2.2.2.1 pc ls st0) := by
  intro T hT X0
  obtain ⟨v, st₀, t, T', Ls, h0, X', hL, e1, e2, ⟨⟨v', h', hv, hp, ho⟩, hz, hk⟩, sts⟩ := hr T hT X0
  cases hv
  rw [h0] at hz hk
  obtain ⟨t2, a1, b1⟩ := kk v h' hp C T'.heap (locs ++ Ls) ls (by rw [e1]; exact ho)
    ⟨Nat.le_trans hS.1 (by rw [e1]; exact hz), fun q h1 h2 => by rw [e1, hk q (Nat.lt_of_lt_of_le h1 hS.1) h2]; exact hS.2.1 q h1 h2, fun q hq => by
      rcases List.mem_append.mp hq with h | h
      · exact hS.2.2 q h
      · exact hL q h⟩ hl T' rfl X'
  exact ⟨t2, sts t2 a1, b1⟩
theorem rz_blind {Γ : rz_G} {args : List Value} {h : rz_H} : FrameBlind (va_Pc args (fun U => rz_E Γ U ∧ rz_O Γ h U.heap)) := fun a U g mk q => ⟨q.1, rz_E.moved q.2.1 (Nat.le_refl _) (fun _ _ _ => rfl) (State.WarmedH.refl U), q.2.2⟩
theorem rz_pre {Γ : rz_G} {As : List Value} {h : rz_H} {s : State} {H : Heap} {locs : List Loc} (hE : rz_E Γ s) (hO : rz_O Γ h H) (hS : va_S (rz_A Γ) s.heap H locs) : ∀ U : State, U.heap = H → s.WarmedH U.vm → va_Pc As (fun U => rz_E Γ U ∧ rz_O Γ h U.heap) As.toArray U :=
  fun U hU hW => ⟨rfl, rz_E.moved hE (by rw [hU]; exact hS.1) (fun q h1 h2 => by rw [hU]; exact hS.2.1 q h1 h2) hW, by rw [hU]; exact hO⟩
theorem rz_len {y : MethodName} {n : Nat} (hd : (parseMethodDescriptor y.desc).map (fun d => d.parameters.length) = some n) : ∀ sig, parseMethodDescriptor y.desc = some sig → n = sig.parameters.length := fun sig h => by
  rw [h] at hd
  exact (Option.some.inj hd).symm
def rz_mB (y : MethodName) (Xc : rz_X) (n : Nat) : Prop := Cond.initialized y.cls ∈ rz_W ∧ Cond.code y Xc.1 Xc.2.2.1 Xc.2.2.2.1 ∈ rz_W ∧ (y.cls ≠ "java/lang/invoke/MethodHandle" ∧ y.cls ≠ "java/lang/invoke/VarHandle") ∧ (parseMethodDescriptor y.desc).map (fun d => d.parameters.length) = some n
def rz_mL (own : String) (idx : Nat) (y : MethodName) : Prop := Cond.methodLink own idx y ∈ rz_W ∨ ∃ host, (own, idx, y, host) ∈ rz_NM
def rz_mV (own : String) (idx : Nat) (C : String) (y : MethodName) (Xc : rz_X) (n : Nat) : Prop := rz_mL own idx y ∧ Cond.instanceMethod y ∈ rz_W ∧ Cond.selects C y y ∈ rz_W ∧ rz_mB y Xc n
def rz_mS (own : String) (idx : Nat) (y : MethodName) (Xc : rz_X) (n : Nat) : Prop := rz_mL own idx y ∧ Cond.static y ∈ rz_W ∧ rz_mB y Xc n
def rz_mI (own : String) (idx : Nat) (y : MethodName) (Xc : rz_X) (n : Nat) : Prop := rz_mL own idx y ∧ Cond.instanceMethod y ∈ rz_W ∧ y.name = "<init>" ∧ Xc.2.2.2.1 = none ∧ rz_mB y Xc n
theorem rz_callV {Γ : rz_G} {X : rz_X} {rm : Room} {post : Option Value → rz_H → Prop} {K : rz_K} {cells slots pc : Nat} {L : List (Nat × Value)} {st : List Value} {h : rz_H} {Xc : rz_X} {y : MethodName} {rmc : Room} {post' : Option Value → rz_H → Prop} {idx n : Nat} {st0 : List Value} {Cn : String} {As : List Value} {b ci : Nat} {tb : Nat × Nat} {fs : List Value} {q0 : vw_C} (hM : Ct K.1 Γ Xc y rmc (.ref b :: As) h post') (hm : rz_mV X.2.1 idx Cn y Xc n) (ha : h b = some (tb, .inr (ci, fs))) (hc : rz_cl[ci]? = some q0) (hC : q0.1 = Cn) (hn : As.length = n) (hst : st0 = As.reverse ++ .ref b :: st) (hcat : (st.map fun v => v.category).sum ≤ 8) (hR : rmc.frames + 1 ≤ rm.frames ∧ 8 + (Xc.2.2.1 + 11) + rmc.locals ≤ rm.locals) (hf : cells + rmc.cells ≤ rm.cells ∧ slots + rmc.slots ≤ rm.slots) (hd : decode X.1 pc = .ok (.invokevirtual idx, 3))
    (kk : ∀ (v : Option Value) (h' : rz_H), post' v h' → Wk Γ X rm post K (cells + rmc.cells) (slots + rmc.slots) (pc + 3) L (v.toList ++ st) h') : Wk Γ X rm post K cells slots pc L st0 h := by
  obtain ⟨hlink, hin, hse, hini, hcd, hmh, hdl⟩ := hm
  subst hC
  intro C H locs ls hO hS hl
  have C0 := C
  obtain ⟨hx, hb, hml, hown, hr, hlk, hnm, hE⟩ := C
  have hW := hE.2.2.1
  have hcw := hW _ hcd K.2.2.2.2.2.1
  have hws : ∀ w ∈ [Cond.code y Xc.1 Xc.2.2.1 Xc.2.2.2.1], ∀ (a' : Array Value) (U : State), K.2.2.2.1.WarmedH U.vm → w.before a' U = true := fun w hw a' U hWm => by
    rw [List.mem_singleton.mp hw]
    exact word_at hWm (rz_good _ hcd) hcw
  have hp : PreV K.2.2.2.1 H q0.1 b (va_Pc (.ref b :: As) (fun U => rz_E Γ U ∧ rz_O Γ h U.heap)) As := ⟨rz_blind, rz_cell hE hO hS ha hc, rz_pre hE hO hS⟩
  refine rz_go (a := (Value.ref b :: As).toArray) C0 hl ?_ hS kk
  rcases hlink with hlink | ⟨host, hlink⟩
  · exact va_runV (Ts := rz_W) ⟨hx, hb, hml, hown, fun w hw => hW w hw _⟩ hM ⟨⟨rfl, rfl, hR.1, hR.2, hws, List.mem_singleton.mpr rfl, hcw, hW _ hini _, hmh, rz_len hdl, hW _ hlink _⟩, hW _ hin _, hW _ hse _⟩ hp rfl hn hl.1 hst (lv_room hcat) hd hf
  · exact va_runVN (Ts := rz_W) ⟨hx, hb, hml, hown, fun w hw => hW w hw _⟩ hM ⟨⟨⟨rfl, rfl, hR.1, hR.2, hws, List.mem_singleton.mpr rfl⟩, hcw, hW _ hini _, hmh, rz_len hdl, va_Nw.use rfl (hE.2.2.2.1.2.1 _ hlink)⟩, hW _ hin _, hW _ hse _⟩ hp rfl hn hl.1 hst (lv_room hcat) hd hf
theorem rz_callS {Γ : rz_G} {X : rz_X} {rm : Room} {post : Option Value → rz_H → Prop} {K : rz_K} {cells slots pc : Nat} {L : List (Nat × Value)} {st : List Value} {h : rz_H} {Xc : rz_X} {y : MethodName} {rmc : Room} {post' : Option Value → rz_H → Prop} {idx n : Nat} {st0 : List Value} {As : List Value} (hM : Ct K.1 Γ Xc y rmc As h post') (hm : rz_mS X.2.1 idx y Xc n) (hn : As.length = n) (hst : st0 = As.reverse ++ st) (hcat : (st.map fun v => v.category).sum ≤ 8) (hR : rmc.frames + 1 ≤ rm.frames ∧ 8 + (Xc.2.2.1 + 11) + rmc.locals ≤ rm.locals) (hf : cells + rmc.cells ≤ rm.cells ∧ slots + rmc.slots ≤ rm.slots) (hd : decode X.1 pc = .ok (.invokestatic idx, 3))
    (kk : ∀ (v : Option Value) (h' : rz_H), post' v h' → Wk Γ X rm post K (cells + rmc.cells) (slots + rmc.slots) (pc + 3) L (v.toList ++ st) h') : Wk Γ X rm post K cells slots pc L st0 h := by
  obtain ⟨hlink, hin, hini, hcd, hmh, hdl⟩ := hm
  intro C H locs ls hO hS hl
  have C0 := C
  obtain ⟨hx, hb, hml, hown, hr, hlk, hnm, hE⟩ := C
  have hW := hE.2.2.1
  have hcw := hW _ hcd K.2.2.2.2.2.1
  have hws : ∀ w ∈ [Cond.code y Xc.1 Xc.2.2.1 Xc.2.2.2.1], ∀ (a' : Array Value) (U : State), K.2.2.2.1.WarmedH U.vm → w.before a' U = true := fun w hw a' U hWm => by
    rw [List.mem_singleton.mp hw]
    exact word_at hWm (rz_good _ hcd) hcw
  have hp : PreS K.2.2.2.1 H (va_Pc As (fun U => rz_E Γ U ∧ rz_O Γ h U.heap)) As := ⟨rz_blind, rz_pre hE hO hS⟩
  refine rz_go (a := As.toArray) C0 hl ?_ hS kk
  rcases hlink with hlink | ⟨host, hlink⟩
  · exact va_runS (Ts := rz_W) ⟨hx, hb, hml, hown, fun w hw => hW w hw _⟩ hM ⟨⟨rfl, rfl, hR.1, hR.2, hws, List.mem_singleton.mpr rfl, hcw, hW _ hini _, hmh, rz_len hdl, hW _ hlink _⟩, hW _ hin _⟩ hp rfl hn hl.1 hst (lv_room hcat) hd hf
  · exact va_runSN (Ts := rz_W) ⟨hx, hb, hml, hown, fun w hw => hW w hw _⟩ hM ⟨⟨⟨rfl, rfl, hR.1, hR.2, hws, List.mem_singleton.mpr rfl⟩, hcw, hW _ hini _, hmh, rz_len hdl, va_Nw.use rfl (hE.2.2.2.1.2.1 _ hlink)⟩, hW _ hin _, trivial⟩ hp rfl hn hl.1 hst (lv_room hcat) hd hf
theorem rz_callI {Γ : rz_G} {X : rz_X} {rm : Room} {post : Option Value → rz_H → Prop} {K : rz_K} {cells slots pc : Nat} {L : List (Nat × Value)} {st : List Value} {h : rz_H} {Xc : rz_X} {y : MethodName} {rmc : Room} {post' : Option Value → rz_H → Prop} {idx n : Nat} {st0 : List Value} {As : List Value} {b : Nat} (hM : Ct K.1 Γ Xc y rmc (.ref b :: As) h post') (hm : rz_mI X.2.1 idx y Xc n) (hn : As.length = n) (hst : st0 = As.reverse ++ .ref b :: st) (hcat : (st.map fun v => v.category).sum ≤ 8) (hR : rmc.frames + 1 ≤ rm.frames ∧ 8 + (Xc.2.2.1 + 11) + rmc.locals ≤ rm.locals) (hf : cells + rmc.cells ≤ rm.cells ∧ slots + rmc.slots ≤ rm.slots) (hd : decode X.1 pc = .ok (.invokespecial idx, 3))
    (kk : ∀ (v : Option Value) (h' : rz_H), post' v h' → Wk Γ X rm post K (cells + rmc.cells) (slots + rmc.slots) (pc + 3) L (v.toList ++ st) h') : Wk Γ X rm post K cells slots pc L st0 h := by
  obtain ⟨hlink, hin, hy1, hret, hini, hcd, hmh, hdl⟩ := hm
  obtain ⟨c1, o1, n1, r1, m1⟩ := Xc
  dsimp only at hret
  subst hret
  intro C H locs ls hO hS hl
  have C0 := C
  obtain ⟨hx, hb, hml, hown, hr, hlk, hnm, hE⟩ := C
  have hW := hE.2.2.1
  have hcw := hW _ hcd K.2.2.2.2.2.1
  have hws : ∀ w ∈ [Cond.code y c1 n1 none], ∀ (a' : Array Value) (U : State), K.2.2.2.1.WarmedH U.vm → w.before a' U = true := fun w hw a' U hWm => by
    rw [List.mem_singleton.mp hw]
    exact word_at hWm (rz_good _ hcd) hcw
  have hp : PreS K.2.2.2.1 H (va_Pc (.ref b :: As) (fun U => rz_E Γ U ∧ rz_O Γ h U.heap)) (.ref b :: As) := ⟨rz_blind, rz_pre hE hO hS⟩
  refine rz_go (a := (Value.ref b :: As).toArray) C0 hl ?_ hS kk
  rcases hlink with hlink | ⟨host, hlink⟩
  · exact va_runI (Ts := rz_W) ⟨hx, hb, hml, hown, fun w hw => hW w hw _⟩ hM ⟨⟨rfl, rfl, hR.1, hR.2, hws, List.mem_singleton.mpr rfl, hcw, hW _ hini _, hmh, rz_len hdl, hW _ hlink _⟩, hy1, hW _ hin _⟩ hp rfl hn hl.1 hst (lv_room hcat) hd hf
  · exact va_runIN (Ts := rz_W) ⟨hx, hb, hml, hown, fun w hw => hW w hw _⟩ hM ⟨⟨⟨rfl, rfl, hR.1, hR.2, hws, List.mem_singleton.mpr rfl⟩, hcw, hW _ hini _, hmh, rz_len hdl, va_Nw.use rfl (hE.2.2.2.1.2.1 _ hlink)⟩, hy1, hW _ hin _⟩ hp rfl hn hl.1 hst (lv_room hcat) hd hf

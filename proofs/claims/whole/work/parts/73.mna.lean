/-! a row: arrays of arrays of int -/
theorem rz_outer (c : ClassId) (N h0 : Nat) : ∀ i : Nat, Jvm.Free.Multi.outerC c N h0 i = arrV c N (fun j => va_rf (if j < i then some (h0 + 1 + j) else none))
  | 0 => by
    show ({ cls := c, slots := Array.replicate N .null, vm := .none } : Cell) = _
    rw [arrV_new]
    exact congrArg (arrV c N) (funext fun j => by simp [va_rf])
  | i + 1 => by
    show (Jvm.Free.Multi.outerC c N h0 i).setSlot i (.ref (h0 + 1 + i)) = _
    rw [rz_outer c N h0 i, arrV_store]
    refine congrArg (arrV c N) (funext fun j => ?_)
    by_cases e : j = i
    · subst e; simp [updV, va_rf]
    · by_cases q : j < i
      · simp [updV, e, q, Nat.lt_succ_of_lt q]
      · simp [updV, e, q, show ¬ j < i + 1 by omega]
theorem rz_before {w : Cond} {U : State} (h : w.before #[] U = true) (hw : w = .arrayOver (.array .int)) (a : Array Value) : w.before a U = true := by
  subst hw; exact h
/-- the map with rows i < N at r, and one more at q -/
def rz_rows (h : rz_H) (q : Nat) (x : (Nat × Nat) × va_E) (z N : Nat) (y : Nat → (Nat × Nat) × va_E) : rz_H := fun a => if a = q then some x else if z ≤ a ∧ a < z + N then some (y (a - z)) else h a
theorem rz_mna {Γ : rz_G} {X : rz_X} {rm : Room} {post : Option Value → rz_H → Prop} {K : rz_K} {cells slots pc : Nat} {L : List (Nat × Value)} {st : List Value} {h : rz_H} {n k : Int} {idx : Nat} (N' K' : Nat) (t : Nat × Nat) (ti : Nat) (ht : t.1 ≠ 0) (hti : ti ≠ 0) (hw : Cond.classLink X.2.1 idx "[[I" ∈ rz_W) (hwi : Cond.arrayClass .int ∈ rz_W) (hn : n = (N' : Int)) (hk : k = (K' : Int)) (hb : N' ≤ 1000 ∧ K' ≤ 1000) (hc : cells + (1 + N') ≤ rm.cells ∧ slots + (N' + N' * K') ≤ rm.slots) (hd : decode X.1 pc = .ok (.multianewarray idx 2, 4))
    (kk : ∀ (q : Nat) (r : Nat → Nat) (h' : rz_H), h q = none → (∀ i, i < N' → h (r i) = none) → h' q = some (t, aR Γ 6 N' (fun j => if 0 ≤ j ∧ j < (N' : Int) then some (r j.toNat) else none)) → (∀ i, i < N' → h' (r i) = some ((ti, i), aI Γ 0 K' (fun _ => 0))) → rz_fr [] h h' → Wk Γ X rm post K (cells + 1 + N') (slots + N' + N' * K') (pc + 4) L (.ref q :: st) h') : Wk Γ X rm post K cells slots pc L (vi k :: vi n :: st) h := by
  intro C H locs ls hO hS hl
  have hE := C.2.2.2.2.2.2.2
  obtain ⟨ws, hP, hD, hws⟩ := hO
  have hA : ∀ q, K.2.2.2.1.heap.size ≤ q → rz_A Γ q := fun q hq => Nat.le_trans hE.2.1 hq
  have tn : (Int32.ofInt n).toNatClampNeg = N' := by rw [rz_cl_i (by omega)]; omega
  have tk : (Int32.ofInt k).toNatClampNeg = K' := by rw [rz_cl_i (by omega)]; omega
  intro T hT Xs
  obtain ⟨vm₁, cA, comp, -, fA, fC, -, -, X', step⟩ := Xs.multianewarray2F C.1 (ty := .int) C.2.2.2.1 (hE.2.2.1 _ hw _) (rz_before hE.2.2.2.1.2.2.2.2 rfl _) (hE.2.2.1 _ hwi _) (g := F0 K.2.2.2.2.1 pc ls (vi k :: vi n :: st)) rfl (by rw [C.2.1]; exact hd) (n := Int32.ofInt n) (k := Int32.ofInt k) rfl (by rw [rz_0, rz_lt (by omega) (by omega)]; omega) (by rw [rz_0, rz_lt (by omega) (by omega)]; omega) (by rw [tn]; omega) (by rw [tk]; show K' * 4 ≤ _; omega) (by rw [tk]; omega) rfl rfl (by rw [tn]; exact hc.1) (by rw [tn, tk]; exact hc.2)
  have e6 : cA = Γ.2.1 6 := by
    have := (hE.1.2 6 (Γ.2.1 6, .array .int) rfl).2
    exact Option.some.inj (fA.symm.trans this)
  have e0 : comp = Γ.2.1 0 := by
    have := (hE.1.2 0 (Γ.2.1 0, .int) rfl).2
    exact Option.some.inj (fC.symm.trans this)
  rw [tn, tk] at X' step
  generalize hF : Jvm.Free.Multi.fill (T.setVm vm₁) cA comp N' K' (defaultValue .int) N' = Fs at X' step
  have hTh : (T.setVm vm₁).heap = H := hT
  obtain ⟨f1, f2, -, -⟩ := Jvm.Free.Multi.fill_facts (T.setVm vm₁) cA comp N' K' (defaultValue .int) N'
  rw [hF, hTh] at f1 f2
  have hold : ∀ x : Nat, x < H.size → Fs.heap[x]? = H[x]? := fun x hx => by
    have := Jvm.Free.Multi.fill_old (T.setVm vm₁) cA comp N' K' (defaultValue .int) (a := x) (by rw [hTh]; exact hx) N'
    rw [hF, hTh] at this; exact this
  have hrow : ∀ j : Nat, j < N' → Fs.heap[H.size + 1 + j]? = some (vp_cell (Γ.2.1 0) (K', .inl (fun _ => Int32.ofInt 0))) := fun j hj => by
    have := Jvm.Free.Multi.fill_inner (T.setVm vm₁) cA comp N' K' (defaultValue .int) N' j hj
    rw [hF, hTh] at this
    rw [this, e0]
    congr 1
    show ({ cls := Γ.2.1 0, slots := Array.replicate K' (.int 0), vm := .none } : Cell) = arrV (Γ.2.1 0) K' (fun _ => .int (Int32.ofInt 0))
    rw [arrV_new]
    rfl
  have hout : Fs.heap[H.size]? = some (vp_cell (Γ.2.1 6) (N', .inr (.inr (.inr (.inr (fun i => if i < N' then some (H.size + 1 + i) else none)))))) := by
    rw [f2, e6, rz_outer, vp_cell_q]
  have hlt : ∀ (k9 : Nat) (x : Nat × va_E), ws[k9]? = some x → x.1 < H.size := fun k9 x hx => (hP k9 x hx).lt
  let rows : va_W := (List.range N').map (fun i => (H.size + 1 + i, .inl (Γ.2.1 0, K', .inl (fun _ => Int32.ofInt 0))))
  let ow : Nat × va_E := (H.size, .inl (Γ.2.1 6, N', .inr (.inr (.inr (.inr (fun i => if i < N' then some (H.size + 1 + i) else none))))))
  have rg : ∀ (k9 : Nat) (x : Nat × va_E), rows[k9]? = some x → k9 < N' ∧ x = (H.size + 1 + k9, .inl (Γ.2.1 0, K', .inl (fun _ => Int32.ofInt 0))) := fun k9 x hx => by
    rw [List.getElem?_map] at hx
    by_cases h9 : k9 < N'
    · rw [List.getElem?_range h9] at hx; cases hx; exact ⟨h9, rfl⟩
    · have hn0 : (List.range N')[k9]? = none := List.getElem?_eq_none (by rw [List.length_range]; omega)
      rw [hn0] at hx; cases hx
  have rk : ∀ k9, k9 < N' → rows[k9]? = some (H.size + 1 + k9, .inl (Γ.2.1 0, K', .inl (fun _ => Int32.ofInt 0))) := fun k9 h9 => by
    rw [List.getElem?_map, List.getElem?_range h9]; rfl
  have at2 : ∀ (k9 : Nat) (x : Nat × va_E), (ws ++ (ow :: rows))[k9]? = some x → (k9 < ws.length ∧ ws[k9]? = some x) ∨ (k9 = ws.length ∧ x = ow) ∨ ∃ j, j < N' ∧ k9 = ws.length + 1 + j ∧ x = (H.size + 1 + j, .inl (Γ.2.1 0, K', .inl (fun _ => Int32.ofInt 0))) := fun k9 x hx => by
    by_cases h1 : k9 < ws.length
    · rw [List.getElem?_append_left h1] at hx; exact Or.inl ⟨h1, hx⟩
    · rw [List.getElem?_append_right (by omega)] at hx
      by_cases h2 : k9 = ws.length
      · rw [h2, Nat.sub_self] at hx; cases hx; exact Or.inr (Or.inl ⟨h2, rfl⟩)
      · rw [show k9 - ws.length = (k9 - ws.length - 1) + 1 by omega, List.getElem?_cons_succ] at hx
        obtain ⟨a, b⟩ := rg _ _ hx
        exact Or.inr (Or.inr ⟨k9 - ws.length - 1, a, by omega, b⟩)
  have hP1 : va_P Γ.1 rz_cl (ws ++ (ow :: rows)) Fs.heap := fun k9 x hx => by
    rcases at2 k9 x hx with ⟨-, a⟩ | ⟨-, a⟩ | ⟨j, j1, -, a⟩
    · exact (hP.kept (fun k9 x hx => hold x.1 (hlt k9 x hx))) k9 x a
    · rw [a]; exact hout
    · rw [a]; exact hrow j j1
  have hD1 : va_D (rz_A Γ) (ws ++ (ow :: rows)) := by
    have hs := hS.1
    refine ⟨fun i j x y hi hj hxy => ?_, fun k9 x hx => ?_⟩
    · rcases at2 i x hi with ⟨-, a⟩ | ⟨a0, a⟩ | ⟨u, u1, u2, a⟩ <;> rcases at2 j y hj with ⟨-, b⟩ | ⟨b0, b⟩ | ⟨v, v1, v2, b⟩
      · exact hD.1 i j x y a b hxy
      · have := hlt _ _ a; rw [b] at hxy; have : x.1 = H.size := hxy; omega
      · have := hlt _ _ a; rw [b] at hxy; have : x.1 = H.size + 1 + v := hxy; omega
      · have := hlt _ _ b; rw [a] at hxy; have : H.size = y.1 := hxy; omega
      · omega
      · rw [a, b] at hxy; have : H.size = H.size + 1 + v := hxy; omega
      · have := hlt _ _ b; rw [a] at hxy; have : H.size + 1 + u = y.1 := hxy; omega
      · rw [a, b] at hxy; have : H.size + 1 + u = H.size := hxy; omega
      · rw [a, b] at hxy; have : H.size + 1 + u = H.size + 1 + v := hxy; omega
    · rcases at2 k9 x hx with ⟨-, a⟩ | ⟨-, a⟩ | ⟨j, j1, -, a⟩
      · exact hD.2 k9 x a
      · rw [a]; exact hA _ hs
      · rw [a]; exact hA _ (by show _ ≤ H.size + 1 + j; omega)
  have fresh : ∀ a, H.size ≤ a → h a = none := fun a ha => by
    cases hx : h a with
    | none => rfl
    | some x =>
      obtain ⟨tx, ex⟩ := x
      rcases hws a tx ex hx with ⟨-, j, hj⟩ | ⟨-, h2⟩
      · have := hlt _ _ hj; have : a < H.size := this; omega
      · have := (hE.2.2.2.2.1 a _ _ h2).out
        exact absurd (hA a (Nat.le_trans hS.1 ha)) this
  generalize hh : rz_rows h H.size (t, aR Γ 6 N' (fun j => if 0 ≤ j ∧ j < (N' : Int) then some (H.size + 1 + j.toNat) else none)) (H.size + 1) N' (fun i => ((ti, i), aI Γ 0 K' (fun _ => 0))) = h'
  have hO1 : rz_O Γ h' Fs.heap := by
    refine ⟨ws ++ (ow :: rows), hP1, hD1, fun a ta e ha => ?_⟩
    rw [← hh] at ha
    unfold rz_rows at ha
    by_cases c1 : a = H.size
    · rw [if_pos c1] at ha
      cases ha
      refine Or.inl ⟨ht, ws.length, ?_⟩
      rw [List.getElem?_append_right (Nat.le_refl _), Nat.sub_self, c1]
      show some ow = _
      show some ((H.size, _) : Nat × va_E) = some (H.size, _)
      congr 3
      congr 5
      congr 1
      funext i
      show _ = if 0 ≤ (i : Int) ∧ (i : Int) < (N' : Int) then some (H.size + 1 + (i : Int).toNat) else none
      by_cases ci : i < N'
      · rw [if_pos ci, if_pos (by omega)]; congr 1
      · rw [if_neg ci, if_neg (by omega)]
    · rw [if_neg c1] at ha
      by_cases c2 : H.size + 1 ≤ a ∧ a < H.size + 1 + N'
      · rw [if_pos c2] at ha
        cases ha
        refine Or.inl ⟨hti, ws.length + 1 + (a - (H.size + 1)), ?_⟩
        rw [List.getElem?_append_right (by omega), show ws.length + 1 + (a - (H.size + 1)) - ws.length = (a - (H.size + 1)) + 1 by omega, List.getElem?_cons_succ, rk _ (by omega), show H.size + 1 + (a - (H.size + 1)) = a by omega]
      · rw [if_neg c2] at ha
        rcases hws a ta e ha with ⟨x1, j, x2⟩ | x1
        · exact Or.inl ⟨x1, j, by rw [List.getElem?_append_left (List.getElem?_eq_some_iff.mp x2).1]; exact x2⟩
        · exact Or.inr x1
  have hS1 : va_S (rz_A Γ) K.2.2.2.1.heap Fs.heap locs := ⟨by rw [f1]; have := hS.1; omega, fun q hq hn => by rw [hold q (by have := hS.1; omega)]; exact hS.2.1 q hq hn, hS.2.2⟩
  have kq := kk H.size (fun i => H.size + 1 + i) h' (fresh _ (Nat.le_refl _)) (fun i _ => fresh _ (by omega)) (by rw [← hh, rz_rows, if_pos rfl]) (fun i hi => by rw [← hh, rz_rows, if_neg (by omega), if_pos (by omega), show H.size + 1 + i - (H.size + 1) = i by omega]) (fun a ta e ha _ => by
    have hz : a < H.size := by
      by_cases z : a < H.size
      · exact z
      · rw [fresh a (by omega)] at ha; cases ha
    rw [← hh, rz_rows, if_neg (by omega), if_neg (by omega)]; exact ha)
  obtain ⟨tt, s1, s2⟩ := kq C Fs.heap locs ls hO1 hS1 hl Fs rfl X'
  have eT : T.heap.size = H.size := by rw [hT]
  exact ⟨tt, step _ (by rw [eT]; exact s1), s2⟩

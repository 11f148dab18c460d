/-! the class: Search, trying and settling -/
theorem itc_all {E : Nat → Nat → Bool} {A : Nat → Bool} {k : Nat} (h : fix E (itc E A k)) : ∀ (d q : Nat), q < 6 → itc E A (k + d) q = itc E A k q
  | 0, _, _ => rfl
  | d + 1, q, hq => by
    have ih := itc_all h d
    have fx : fix E (itc E A (k + d)) := fun p q hp hq a b => by rw [ih p hp] at a; rw [ih q hq]; exact h p q hp hq a b
    rw [show k + (d + 1) = (k + d) + 1 by omega, itc_fx fx hq, ih q hq]
theorem itc_at5 {E : Nat → Nat → Bool} {A : Nat → Bool} {s : Nat} (hs : s ≤ 5) (h : ∀ q, q < 6 → itc E A (s + 1) q = itc E A s q) (q : Nat) (hq : q < 6) : itc E A s q = itc E A 5 q := by
  have := itc_all (itc_stay h) (5 - s) q hq
  rw [← this, show s + (5 - s) = 5 by omega]
abbrev rm_Se_allMayBeLedTo : Room := { frames := 2, cells := 0, slots := 0, locals := 46 }
set_option maxRecDepth 100000 in
set_option maxHeartbeats 4000000 in
theorem c_Se_allMayBeLedTo {l : Launch} {Γ : rz_G} {h : rz_H} {se : Nat} {B : Nat → Int → Nat} {S : Nat → Int → Int → Int} (hS : SeAt Γ h se B S) {k : Int} (hk : 0 ≤ k ∧ k < 7) {O : Nat → Nat → Bool} (hO : ∀ p : Nat, p < 6 → Bt 5 (S 8 k p) (O p)) {z : Pz} (ha : Bt 6 (S 7 0 0) z.aq) (hd : ∀ p x : Nat, p < 6 → x < 4 → Bt 6 (S 3 0 (p * 5 + x)) (z.ld p x)) : Ct l Γ x_Se_allMayBeLedTo y_Se_allMayBeLedTo rm_Se_allMayBeLedTo [.ref se, .ref (B 8 k)] h (pE (bi (may z O)) h) := by
  refine rz_met (by decide) rfl rfl (Nat.le_of_ble_eq_true rfl) (fun K _ => ?_)
  refine rz_Leq [(0, .ref se), (1, .ref (B 8 k))] rfl ?_
  refine rz_aload_n 0 d_Se_allMayBeLedTo_0 rfl rfl ?_
  refine rz_getf f_Se_36 hS.1 rfl d_Se_allMayBeLedTo_1 ?_
  refine rz_istore_n [(2, vi (S 7 0 0)), (0, .ref se), (1, .ref (B 8 k))] d_Se_allMayBeLedTo_4 rfl (by decide) rfl ?_
  refine rz_iconst d_Se_allMayBeLedTo_5 ?_
  refine rz_istore_n [(3, vi 1), (2, vi (S 7 0 0)), (0, .ref se), (1, .ref (B 8 k))] d_Se_allMayBeLedTo_6 rfl (by decide) rfl ?_
  refine rz_loop (α := Nat × Int) 0 0 7 (fun (s, led) => 5 - s) (fun (s, led) => s ≤ 5 ∧ Bt 6 led (itc (edO z O) z.aq s)) (fun (s, led) => [(3, vi ((s : Int) + 1)), (2, vi led), (0, .ref se), (1, .ref (B 8 k))]) (fun (s, led) => []) (fun (s, led) => h) (fun y hy ih7 => ?_) (fun LP => ?_)
  · obtain ⟨s, led⟩ := y
    try dsimp only at hy ih7 ⊢
    obtain ⟨hs5, hl⟩ := hy
    refine rz_iload_n 0 d_Se_allMayBeLedTo_7 rfl rfl ?_
    refine rz_cut (α := Unit) 0 0 41 (fun _ => Bt 6 led (itc (edO z O) z.aq 5)) (fun _ => [(2, vi led), (0, .ref se), (1, .ref (B 8 k))]) (fun _ => []) (fun _ => h) (fun _ k41 => ?_) (fun J41 => ?_)
    · refine rz_iconst d_Se_allMayBeLedTo_41 ?_
      refine rz_istore_n [(3, vi 0), (2, vi led), (0, .ref se), (1, .ref (B 8 k))] d_Se_allMayBeLedTo_42 rfl (by decide) rfl ?_
      refine rz_loop (α := Nat) 0 0 43 (fun p => 6 - p) (fun p => p ≤ 6 ∧ al p (fun p => O p 4 || itc (edO z O) z.aq 5 p) = true) (fun p => [(3, vi (p : Int)), (2, vi led), (0, .ref se), (1, .ref (B 8 k))]) (fun p => []) (fun p => h) (fun y hy ih43 => ?_) (fun LP => ?_)
      · obtain ⟨p, rfl⟩ : ∃ z, z = y := ⟨_, rfl⟩
        try dsimp only at hy ih43 ⊢
        obtain ⟨hp6, hv⟩ := hy
        refine rz_iload_n 0 d_Se_allMayBeLedTo_43 rfl rfl ?_
        refine rz_bipush (v := 6) d_Se_allMayBeLedTo_44 (by decide) ?_
        refine rz_icmp_ge 75 d_Se_allMayBeLedTo_46 (by decide) (by omega) ⟨by decide, by decide⟩ (fun c46 => ?_) (fun c46 => ?_)
        · refine rz_iconst d_Se_allMayBeLedTo_75 ?_
          exact rz_zreturn (st := []) (ty := .boolean) rfl rfl d_Se_allMayBeLedTo_76 ⟨by decide, by decide⟩ ⟨_, rfl, bi1 (by rw [may, show (6 : Nat) = p by omega]; exact hv), rfl⟩
        · refine rz_aload_n 3 d_Se_allMayBeLedTo_49 rfl rfl ?_
          refine rz_iload_n 0 d_Se_allMayBeLedTo_50 rfl rfl ?_
          refine rz_iaload (se_r8 hS (i := k) (by omega)) (show 58 ≠ 0 by decide) (by omega) d_Se_allMayBeLedTo_51 ?_
          refine rz_iconst d_Se_allMayBeLedTo_52 ?_
          refine rz_callS (As := [vi (S 8 k (p : Int)), vi 4]) (c_Rs_hasBit (hO p (by omega)) (by decide) (by omega)) m_Se_70 rfl rfl (Nat.le_of_ble_eq_true rfl) ⟨by decide, by decide⟩ ⟨by decide, by decide⟩ d_Se_allMayBeLedTo_53 (kE (h := h) ?_)
          refine rz_Seq [vi (bi (O p 4))] rfl ?_
          refine rz_if_neB 69 d_Se_allMayBeLedTo_56 (by decide) (fun c56 => ?_) (fun c56 => ?_)
          · refine rz_iinc ((p : Int) + 1) 0 [(3, vi ((p : Int) + 1)), (2, vi led), (0, .ref se), (1, .ref (B 8 k))] d_Se_allMayBeLedTo_69 rfl (by first | rfl | omega) (by decide) rfl ?_
            refine rz_goto 43 d_Se_allMayBeLedTo_72 (by decide) ?_
            refine rz_Lsub [(3, vi ((p : Int) + 1)), (2, vi led), (0, .ref se), (1, .ref (B 8 k))] [0, 1, 2, 3] rfl ?_
            refine ih43 (p + 1) ?_ ?_
            · try dsimp only
              exact ⟨by omega, (by rw [al_s, hv, Bool.true_and]; first | (rw [c56]; rfl) | (rw [c64, Bool.or_true]))⟩
            · exact (by first | omega | (dsimp only; omega))
          · refine rz_iload_n 1 d_Se_allMayBeLedTo_59 rfl rfl ?_
            refine rz_iload_n 0 d_Se_allMayBeLedTo_60 rfl rfl ?_
            refine rz_callS (As := [vi led, vi (p : Int)]) (c_Rs_hasBit k41 (by decide) (by omega)) m_Se_70 rfl rfl (Nat.le_of_ble_eq_true rfl) ⟨by decide, by decide⟩ ⟨by decide, by decide⟩ d_Se_allMayBeLedTo_61 (kE (h := h) ?_)
            refine rz_Seq [vi (bi (itc (edO z O) z.aq 5 p))] rfl ?_
            refine rz_if_neB 69 d_Se_allMayBeLedTo_64 (by decide) (fun c64 => ?_) (fun c64 => ?_)
            · refine rz_iinc ((p : Int) + 1) 0 [(3, vi ((p : Int) + 1)), (2, vi led), (0, .ref se), (1, .ref (B 8 k))] d_Se_allMayBeLedTo_69 rfl (by first | rfl | omega) (by decide) rfl ?_
              refine rz_goto 43 d_Se_allMayBeLedTo_72 (by decide) ?_
              refine rz_Lsub [(3, vi ((p : Int) + 1)), (2, vi led), (0, .ref se), (1, .ref (B 8 k))] [0, 1, 2, 3] rfl ?_
              refine ih43 (p + 1) ?_ ?_
              · try dsimp only
                exact ⟨by omega, (by rw [al_s, hv, Bool.true_and]; first | (rw [c56]; rfl) | (rw [c64, Bool.or_true]))⟩
              · exact (by first | omega | (dsimp only; omega))
            · refine rz_iconst d_Se_allMayBeLedTo_67 ?_
              exact rz_zreturn (st := []) (ty := .boolean) rfl rfl d_Se_allMayBeLedTo_68 ⟨by decide, by decide⟩ ⟨_, rfl, bi0 (by cases q : may z O with | false => rfl | true => have := al_t.1 q p (by omega); rw [c56, c64] at this; exact absurd this (by decide)), rfl⟩
      · refine rz_Lsub [(3, vi 0), (2, vi led), (0, .ref se), (1, .ref (B 8 k))] [0, 1, 2, 3] rfl ?_
        refine LP 0 ?_
        try dsimp only
        exact ⟨by omega, rfl⟩
    · refine rz_bipush (v := 6) d_Se_allMayBeLedTo_8 (by decide) ?_
      refine rz_icmp_ge 41 d_Se_allMayBeLedTo_10 (by decide) (by omega) ⟨by decide, by decide⟩ (fun c10 => ?_) (fun c10 => ?_)
      · refine rz_Lsub [(2, vi led), (0, .ref se), (1, .ref (B 8 k))] [1, 2, 3] rfl ?_
        exact J41 () (by first | (rw [show (5 : Nat) = s by omega]; exact hl) | exact hl.c (fun q hq => itc_at5 (by omega) (fun q hq => ((zz.e hl).1 c26 q hq)) q hq))
      · refine rz_iload_n 1 d_Se_allMayBeLedTo_13 rfl rfl ?_
        refine rz_aload_n 2 d_Se_allMayBeLedTo_14 rfl rfl ?_
        refine rz_iload_n 1 d_Se_allMayBeLedTo_15 rfl rfl ?_
        refine rz_aload_n 3 d_Se_allMayBeLedTo_16 rfl rfl ?_
        refine rz_callV (As := [vi led, .ref (B 8 k)]) (c_Se_leadsFrom hS hk hl hO hd) m_Se_149 hS.1 rfl rfl rfl rfl (Nat.le_of_ble_eq_true rfl) ⟨by decide, by decide⟩ ⟨by decide, by decide⟩ d_Se_allMayBeLedTo_17 (kI (h := h) fun m1 h1 q1 => ?_)
        obtain ⟨b1, e1⟩ := q1
        rw [e1]
        obtain ⟨r1, x1, y1⟩ := hl.or b1
        have z1 : Bt 6 r1 (itc (edO z O) z.aq (s + 1)) := y1
        refine rz_ior r1 x1 d_Se_allMayBeLedTo_20 ?_
        refine rz_istore [(4, vi r1), (3, vi ((s : Int) + 1)), (2, vi led), (0, .ref se), (1, .ref (B 8 k))] d_Se_allMayBeLedTo_21 (by decide) rfl ?_
        have hin := hl.in (by decide)
        have zz := z1
        have hin2 := zz.in (by decide)
        refine rz_iload 0 d_Se_allMayBeLedTo_23 rfl ?_
        refine rz_iload_n 2 d_Se_allMayBeLedTo_25 rfl rfl ?_
        refine rz_icmp_ne 32 d_Se_allMayBeLedTo_26 (by decide) (by omega) (by omega) (fun c26 => ?_) (fun c26 => ?_)
        · refine rz_iload 0 d_Se_allMayBeLedTo_32 rfl ?_
          refine rz_istore_n [(2, vi r1), (4, vi r1), (3, vi ((s : Int) + 1)), (0, .ref se), (1, .ref (B 8 k))] d_Se_allMayBeLedTo_34 rfl (by decide) rfl ?_
          refine rz_iinc (((s : Int) + 1) + 1) 2 [(3, vi (((s : Int) + 1) + 1)), (2, vi r1), (4, vi r1), (0, .ref se), (1, .ref (B 8 k))] d_Se_allMayBeLedTo_35 rfl (by first | rfl | omega) (by decide) rfl ?_
          refine rz_goto 7 d_Se_allMayBeLedTo_38 (by decide) ?_
          refine rz_Lsub [(3, vi (((s : Int) + 1) + 1)), (2, vi r1), (0, .ref se), (1, .ref (B 8 k))] [0, 1, 3, 4] rfl ?_
          refine ih7 (s + 1, r1) ?_ ?_
          · try dsimp only
            exact ⟨by omega, z1⟩
          · exact (by first | omega | (dsimp only; omega))
        · refine rz_goto 41 d_Se_allMayBeLedTo_29 (by decide) ?_
          refine rz_Lsub [(2, vi led), (0, .ref se), (1, .ref (B 8 k))] [2, 3, 4] rfl ?_
          exact J41 () (by first | (rw [show (5 : Nat) = s by omega]; exact hl) | exact hl.c (fun q hq => itc_at5 (by omega) (fun q hq => ((zz.e hl).1 c26 q hq)) q hq))
  · refine rz_Lsub [(3, vi 1), (2, vi (S 7 0 0)), (0, .ref se), (1, .ref (B 8 k))] [0, 1, 2, 3] rfl ?_
    refine LP (0, S 7 0 0) ?_
    try dsimp only
    exact ⟨by omega, ha⟩
theorem ex5_z {n : Nat} {v : Int} {F : Nat → Bool} (h : Bt n v F) : (¬ v = 0 ↔ ex n F = true) := by
  rw [h.z, ex_t]
  constructor
  · intro q
    exact Classical.byContradiction fun c => q fun i hi => by
      cases e : F i
      · rfl
      · exact absurd ⟨i, hi, e⟩ c
  · rintro ⟨i, hi, e⟩ q
    rw [q i hi] at e; exact absurd e (by decide)
abbrev rm_Se_tryOption : Room := { frames := 3, cells := 0, slots := 0, locals := 70 }
set_option maxRecDepth 100000 in
set_option maxHeartbeats 4000000 in
theorem c_Se_tryOption {l : Launch} {Γ : rz_G} {h : rz_H} {se : Nat} {B : Nat → Int → Nat} {S : Nat → Int → Int → Int} (hS : SeAt Γ h se B S) {z : Pz} {o : Nat → Nat} {k : Nat} (hk : k < 6) (ho : o k < 5) (ha : Bt 6 (S 7 0 0) z.aq) (hd : ∀ p x : Nat, p < 6 → x < 4 → Bt 6 (S 3 0 (p * 5 + x)) (z.ld p x)) (hB : ∀ p x q : Nat, p < 6 → x < 5 → q < 6 → Bt 5 (S 2 (p * 5 + x) q) (z.bs p x q)) (hL : ∀ q : Nat, q < 6 → Bt 5 (S 8 k q) (Lv z o k q)) : Ct l Γ x_Se_tryOption y_Se_tryOption rm_Se_tryOption [.ref se, vi (k : Int), vi (o k : Int)] h (pI (fun r h' => ∃ S', SeAt Γ h' se B S' ∧ (∀ c i, ¬ (c = 8 ∧ i = (k : Int) + 1) → S' c i = S c i) ∧ r = bi (tri z o k) ∧ (tri z o k = true → ∀ q : Nat, q < 6 → Bt 5 (S' 8 ((k : Int) + 1) q) (Lv z o (k + 1) q)) ∧ rz_fr SR h h')) := by
  refine rz_met (by decide) rfl rfl (Nat.le_of_ble_eq_true rfl) (fun K _ => ?_)
  refine rz_Leq [(0, .ref se), (1, vi (k : Int)), (2, vi (o k : Int))] rfl ?_
  refine rz_aload_n 0 d_Se_tryOption_0 rfl rfl ?_
  refine rz_getf f_Se_39 hS.1 rfl d_Se_tryOption_1 ?_
  refine rz_iload_n 1 d_Se_tryOption_4 rfl rfl ?_
  obtain ⟨f1, fo1, fe1⟩ := hS.2.1 (8, 7) (by decide)
  refine rz_aaloadA fo1 (show 60 + 8 ≠ 0 by decide) (by omega) d_Se_tryOption_5 ?_
  refine rz_Seq [.ref (B 8 (k : Int))] (by rw [fe1 (k : Int) (by omega) (by omega)]; rfl) ?_
  refine rz_astore_n [(3, .ref (B 8 (k : Int))), (0, .ref se), (1, vi (k : Int)), (2, vi (o k : Int))] d_Se_tryOption_6 rfl (by decide) rfl ?_
  refine rz_aload_n 1 d_Se_tryOption_7 rfl rfl ?_
  refine rz_getf f_Se_39 hS.1 rfl d_Se_tryOption_8 ?_
  refine rz_iload_n 2 d_Se_tryOption_11 rfl rfl ?_
  refine rz_iconst d_Se_tryOption_12 ?_
  refine rz_iadd d_Se_tryOption_13 ?_
  obtain ⟨f2, fo2, fe2⟩ := hS.2.1 (8, 7) (by decide)
  refine rz_aaloadA fo2 (show 60 + 8 ≠ 0 by decide) (by omega) d_Se_tryOption_14 ?_
  refine rz_Seq [.ref (B 8 ((k : Int) + 1))] (by rw [fe2 ((k : Int) + 1) (by omega) (by omega)]; rfl) ?_
  refine rz_astore [(4, .ref (B 8 ((k : Int) + 1))), (3, .ref (B 8 (k : Int))), (0, .ref se), (1, vi (k : Int)), (2, vi (o k : Int))] d_Se_tryOption_15 (by decide) rfl ?_
  refine rz_aload_n 1 d_Se_tryOption_17 rfl rfl ?_
  refine rz_iload_n 3 d_Se_tryOption_18 rfl rfl ?_
  refine rz_iaload (se_r8 hS (i := (k : Int)) (by omega)) (show 58 ≠ 0 by decide) (by omega) d_Se_tryOption_19 ?_
  refine rz_iload_n 4 d_Se_tryOption_20 rfl rfl ?_
  refine rz_callS (As := [vi (S 8 (k : Int) (k : Int)), vi (o k : Int)]) (c_Rs_hasBit (hL k hk) (by decide) (by omega)) m_Se_70 rfl rfl (Nat.le_of_ble_eq_true rfl) ⟨by decide, by decide⟩ ⟨by decide, by decide⟩ d_Se_tryOption_21 (kE (h := h) ?_)
  refine rz_Seq [vi (bi (Lv z o k k (o k)))] rfl ?_
  refine rz_if_neB 29 d_Se_tryOption_24 (by decide) (fun c24 => ?_) (fun c24 => ?_)
  · refine rz_aload_n 2 d_Se_tryOption_29 rfl rfl ?_
    refine rz_getf f_Se_20 hS.1 rfl d_Se_tryOption_30 ?_
    refine rz_iload_n 3 d_Se_tryOption_33 rfl rfl ?_
    refine rz_iload_n 4 d_Se_tryOption_34 rfl rfl ?_
    refine rz_callS (As := [vi (k : Int), vi (o k : Int)]) c_Se_row m_Se_121 rfl rfl (Nat.le_of_ble_eq_true rfl) ⟨by decide, by decide⟩ ⟨by decide, by decide⟩ d_Se_tryOption_35 (kE (h := h) ?_)
    obtain ⟨f3, fo3, fe3⟩ := hS.2.1 (2, 30) (by decide)
    refine rz_aaloadA fo3 (show 60 + 2 ≠ 0 by decide) (by omega) d_Se_tryOption_38 ?_
    refine rz_Seq [.ref (B 2 ((k : Int) * 5 + (o k : Int)))] (by rw [fe3 ((k : Int) * 5 + (o k : Int)) (by omega) (by omega)]; rfl) ?_
    refine rz_astore [(5, .ref (B 2 ((k : Int) * 5 + (o k : Int)))), (4, .ref (B 8 ((k : Int) + 1))), (3, .ref (B 8 (k : Int))), (0, .ref se), (1, vi (k : Int)), (2, vi (o k : Int))] d_Se_tryOption_39 (by decide) rfl ?_
    refine rz_iconst d_Se_tryOption_41 ?_
    refine rz_istore [(6, vi 0), (5, .ref (B 2 ((k : Int) * 5 + (o k : Int)))), (4, .ref (B 8 ((k : Int) + 1))), (3, .ref (B 8 (k : Int))), (0, .ref se), (1, vi (k : Int)), (2, vi (o k : Int))] d_Se_tryOption_42 (by decide) rfl ?_
    refine rz_loop (α := Nat × rz_H × (Nat → Int → Int → Int)) 0 0 44 (fun (q, hA, SA) => 6 - q) (fun (q, hA, SA) => q ≤ 6 ∧ SeAt Γ hA se B SA ∧ rz_fr SR h hA ∧ (∀ c i, ¬ (c = 8 ∧ i = (k : Int) + 1) → SA c i = S c i) ∧ (∀ q2 : Nat, q2 < q → Bt 5 (SA 8 ((k : Int) + 1) q2) (fun x => Lv z o k q2 x && z.bs k (o k) q2 x)) ∧ (∀ q2 : Nat, q2 < q → ex 5 (fun x => Lv z o k q2 x && z.bs k (o k) q2 x) = true)) (fun (q, hA, SA) => [(6, vi (q : Int)), (0, .ref se), (1, vi (k : Int)), (2, vi (o k : Int)), (3, .ref (B 8 (k : Int))), (4, .ref (B 8 ((k : Int) + 1))), (5, .ref (B 2 ((k : Int) * 5 + (o k : Int))))]) (fun (q, hA, SA) => []) (fun (q, hA, SA) => hA) (fun y hy ih44 => ?_) (fun LP => ?_)
    · obtain ⟨q, hA, SA⟩ := y
      try dsimp only at hy ih44 ⊢
      obtain ⟨hq6, hSA, hFA, KA, bA, nA⟩ := hy
      refine rz_iload 0 d_Se_tryOption_44 rfl ?_
      refine rz_bipush (v := 6) d_Se_tryOption_46 (by decide) ?_
      refine rz_icmp_ge 82 d_Se_tryOption_48 (by decide) (by omega) ⟨by decide, by decide⟩ (fun c48 => ?_) (fun c48 => ?_)
      · obtain ⟨s1, es1, bs1⟩ := Bt.shl (n := 5) (i := (o k : Int)) (by decide) (by omega)
        refine rz_aload 5 d_Se_tryOption_82 rfl ?_
        refine rz_iload_n 2 d_Se_tryOption_84 rfl rfl ?_
        refine rz_iconst d_Se_tryOption_85 ?_
        refine rz_iload_n 3 d_Se_tryOption_86 rfl rfl ?_
        refine rz_ishl s1 es1 d_Se_tryOption_87 ?_
        refine se_st8 hSA hFA (i := ((k : Int) + 1)) (by omega) (by omega) d_Se_tryOption_88 (fun h4 hS4 hF4 => ?_)
        obtain ⟨S4, eS4⟩ : ∃ z, z = su SA 8 ((k : Int) + 1) (rz_u (SA 8 ((k : Int) + 1)) (k : Int) s1) := ⟨_, rfl⟩
        rw [← eS4] at hS4
        have KE2 : ∀ c i, ¬ (c = 8 ∧ i = (k : Int) + 1) → S4 c i = S c i := fun c i hc => by rw [eS4, su_n hc]; exact KA c i hc
        have LL : ∀ q : Nat, q < 6 → Bt 5 (S4 8 ((k : Int) + 1) q) (Lv z o (k + 1) q) := fun q hq => by
          rw [eS4, su_s]
          by_cases c : q = k
          · rw [c, rz_u_s]; exact bs1.c (fun i _ => by simp [Lv])
          · rw [rz_u_n (by omega)]; exact (bA q (by omega)).c (fun i _ => by simp only [Lv, if_neg c])
        have TM : tri z o k = may z (Lv z o (k + 1)) := by rw [tri, c24, show al 6 (fun q => ex 5 (fun x => Lv z o k q x && z.bs k (o k) q x)) = true from al_t.2 (fun q hq => nA q (by omega))]; rfl
        refine rz_aload_n 1 d_Se_tryOption_89 rfl rfl ?_
        refine rz_aload 5 d_Se_tryOption_90 rfl ?_
        refine rz_callV (As := [.ref (B 8 ((k : Int) + 1))]) (c_Se_allMayBeLedTo hS4 (k := (k : Int) + 1) (O := Lv z o (k + 1)) (by omega) LL (by rw [KE2 7 0 (by omega)]; exact ha) (fun p x hp hx => by rw [KE2 3 0 (by omega)]; exact hd p x hp hx)) m_Se_145 hS4.1 rfl rfl rfl rfl (Nat.le_of_ble_eq_true rfl) ⟨by decide, by decide⟩ ⟨by decide, by decide⟩ d_Se_tryOption_92 (kE (h := h4) ?_)
        exact rz_zreturn (st := []) (ty := .boolean) rfl (nz_b _) d_Se_tryOption_95 ⟨by decide, by decide⟩ ⟨_, rfl, S4, hS4, KE2, (by rw [TM]), (fun _ => LL), hF4⟩
      · refine rz_aload 5 d_Se_tryOption_51 rfl ?_
        refine rz_iload 0 d_Se_tryOption_53 rfl ?_
        refine rz_aload_n 4 d_Se_tryOption_55 rfl rfl ?_
        refine rz_iload 0 d_Se_tryOption_56 rfl ?_
        refine rz_iaload (se_r8 hSA (i := (k : Int)) (by omega)) (show 58 ≠ 0 by decide) (by omega) d_Se_tryOption_58 ?_
        refine rz_aload 6 d_Se_tryOption_59 rfl ?_
        refine rz_iload 0 d_Se_tryOption_61 rfl ?_
        refine rz_iaload (se_r2 hSA (i := ((k : Int) * 5 + (o k : Int))) (by omega)) (show 52 ≠ 0 by decide) (by omega) d_Se_tryOption_63 ?_
        have y1 := hL q (by omega)
        have y2 := hB k (o k) q hk ho (by omega)
        rw [← KA 8 k (by omega)] at y1
        rw [← KA 2 ((k : Int) * 5 + (o k : Int)) (by omega)] at y2
        obtain ⟨r1, e1, b1⟩ := y1.and y2
        refine rz_iand r1 e1 d_Se_tryOption_64 ?_
        refine se_st8 hSA hFA (i := ((k : Int) + 1)) (by omega) (by omega) d_Se_tryOption_65 (fun h5 hS5 hF5 => ?_)
        obtain ⟨S5, eS5⟩ : ∃ z, z = su SA 8 ((k : Int) + 1) (rz_u (SA 8 ((k : Int) + 1)) (q : Int) r1) := ⟨_, rfl⟩
        rw [← eS5] at hS5
        have KB : ∀ c i, ¬ (c = 8 ∧ i = (k : Int) + 1) → S5 c i = S c i := fun c i hc => by rw [eS5, su_n hc]; exact KA c i hc
        have VQ : S5 8 ((k : Int) + 1) q = r1 := by rw [eS5, su_s, rz_u_s]
        have BB : ∀ q2 : Nat, q2 < q + 1 → Bt 5 (S5 8 ((k : Int) + 1) q2) (fun x => Lv z o k q2 x && z.bs k (o k) q2 x) := fun q2 z => by
          by_cases c : q2 = q
          · rw [c, VQ]; exact b1
          · rw [eS5, su_s, rz_u_n (by omega)]; exact bA q2 (by omega)
        have hin := b1.in (by decide)
        refine rz_aload 5 d_Se_tryOption_66 rfl ?_
        refine rz_iload 0 d_Se_tryOption_68 rfl ?_
        refine rz_iaload (se_r8 hS5 (i := ((k : Int) + 1)) (by omega)) (show 58 ≠ 0 by decide) (by omega) d_Se_tryOption_70 ?_
        refine rz_Seq [vi r1] (by rw [VQ]) ?_
        refine rz_if_ne 76 d_Se_tryOption_71 (by decide) (by omega) (fun c71 => ?_) (fun c71 => ?_)
        · have NB : ∀ q2 : Nat, q2 < q + 1 → ex 5 (fun x => Lv z o k q2 x && z.bs k (o k) q2 x) = true := fun q2 z2 => by
            by_cases c : q2 = q
            · rw [c]; exact (ex5_z b1).1 c71
            · exact nA q2 (by omega)
          refine rz_iinc ((q : Int) + 1) 0 [(6, vi ((q : Int) + 1)), (0, .ref se), (1, vi (k : Int)), (2, vi (o k : Int)), (3, .ref (B 8 (k : Int))), (4, .ref (B 8 ((k : Int) + 1))), (5, .ref (B 2 ((k : Int) * 5 + (o k : Int))))] d_Se_tryOption_76 rfl (by first | rfl | omega) (by decide) rfl ?_
          refine rz_goto 44 d_Se_tryOption_79 (by decide) ?_
          refine rz_Lsub [(6, vi ((q : Int) + 1)), (0, .ref se), (1, vi (k : Int)), (2, vi (o k : Int)), (3, .ref (B 8 (k : Int))), (4, .ref (B 8 ((k : Int) + 1))), (5, .ref (B 2 ((k : Int) * 5 + (o k : Int))))] [0, 1, 2, 3, 4, 5, 6] rfl ?_
          refine ih44 (q + 1, h5, S5) ?_ ?_
          · try dsimp only
            exact ⟨by omega, hS5, hF5, KB, BB, NB⟩
          · exact (by first | omega | (dsimp only; omega))
        · have KE := KB
          have TF : tri z o k = false := by
            cases t : tri z o k
            · rfl
            · simp only [tri, Bool.and_eq_true] at t
              have := al_t.1 t.1.2 q (by omega)
              exact absurd c71 ((ex5_z b1).2 this)
          refine rz_iconst d_Se_tryOption_74 ?_
          exact rz_zreturn (st := []) (ty := .boolean) rfl rfl d_Se_tryOption_75 ⟨by decide, by decide⟩ ⟨_, rfl, S5, hS5, KE, bi0 TF, (fun q => absurd (q.symm.trans TF) (by decide)), hF5⟩
    · refine rz_Lsub [(6, vi 0), (0, .ref se), (1, vi (k : Int)), (2, vi (o k : Int)), (3, .ref (B 8 (k : Int))), (4, .ref (B 8 ((k : Int) + 1))), (5, .ref (B 2 ((k : Int) * 5 + (o k : Int))))] [0, 4, 5, 6, 3, 2, 1] rfl ?_
      refine LP (0, h, S) ?_
      try dsimp only
      exact ⟨by omega, hS, rz_fr.rf, (fun _ _ _ => rfl), (fun q2 z => absurd z (by omega)), (fun q2 z => absurd z (by omega))⟩
  · have TF : tri z o k = false := by rw [tri, c24]; rfl
    refine rz_iconst d_Se_tryOption_27 ?_
    exact rz_zreturn (st := []) (ty := .boolean) rfl rfl d_Se_tryOption_28 ⟨by decide, by decide⟩ ⟨_, rfl, S, hS, (fun _ _ _ => rfl), bi0 TF, (fun q => absurd (q.symm.trans TF) (by decide)), rz_fr.rf⟩
def rmS (d : Nat) : Room := { frames := 30 + d, cells := 0, slots := 0, locals := 1000 + 100 * d }
def stP (Γ : rz_G) (se : Nat) (B : Nat → Int → Nat) (S : Nat → Int → Int → Int) (M : Nat → Int → Int) (k : Nat) (n : Int) (h : rz_H) (r : Int) (h' : rz_H) : Prop := ∃ S', SeAt Γ h' se B S' ∧ (∀ c i, ¬ (c = 8 ∧ (k : Int) < i) → S' c i = S c i) ∧ r = bi (decide (srF M (5 ^ (6 - k)) n < n + ((5 ^ (6 - k) : Nat) : Int))) ∧ (srF M (5 ^ (6 - k)) n < n + ((5 ^ (6 - k) : Nat) : Int) → ∀ q : Nat, q < 6 → Bt 5 (S' 8 6 q) (Lv (zM M) (oM M (srF M (5 ^ (6 - k)) n)) 6 q)) ∧ rz_fr SR h h'
set_option maxRecDepth 100000 in
set_option maxHeartbeats 4000000 in
theorem c_Se_settle6 {l : Launch} {Γ : rz_G} {h : rz_H} {se : Nat} {B : Nat → Int → Nat} {S : Nat → Int → Int → Int} (hS : SeAt Γ h se B S) {M : Nat → Int → Int} (hw : mWF M) (hr : rkOK M) (hg : gtOK M) {n : Int} (H : stH S M 6 n) : Ct l Γ x_Se_settle y_Se_settle (rmS 0) [.ref se, vi 6] h (pI (stP Γ se B S M 6 n h)) := by
  refine rz_met (by decide) rfl rfl (Nat.le_of_ble_eq_true rfl) (fun K _ => ?_)
  refine rz_Leq [(0, .ref se), (1, vi 6)] rfl ?_
  have TY := tri_yes hw hr hg H.2.2.2.2.2.1
  refine rz_iload_n 1 d_Se_settle_0 rfl rfl ?_
  refine rz_bipush (v := 6) d_Se_settle_1 (by decide) ?_
  refine rz_icmp_lt 8 d_Se_settle_3 (by decide) ⟨by decide, by decide⟩ ⟨by decide, by decide⟩ (fun c3 => absurd c3 (by decide)) (fun c3 => ?_)
  refine rz_iconst d_Se_settle_6 ?_
  exact rz_zreturn (st := []) (ty := .boolean) rfl rfl d_Se_settle_7 ⟨by decide, by decide⟩ ⟨_, rfl, S, hS, (fun _ _ _ => rfl), (by rw [show (6 - 6 : Nat) = 0 from rfl, show (5 : Nat) ^ 0 = 1 from rfl, TY]; exact bi1 (decide_eq_true (by omega))), (fun _ => by rw [show (6 - 6 : Nat) = 0 from rfl, show (5 : Nat) ^ 0 = 1 from rfl, TY]; exact H.2.2.2.2.1), rz_fr.rf⟩
set_option maxRecDepth 100000 in
set_option maxHeartbeats 4000000 in
theorem c_Se_settleS {l : Launch} {Γ : rz_G} {h : rz_H} {se : Nat} {B : Nat → Int → Nat} {S : Nat → Int → Int → Int} (hS : SeAt Γ h se B S) {M : Nat → Int → Int} (hw : mWF M) (hr : rkOK M) (hg : gtOK M) {k d : Nat} (hk : k < 6) (ih : ∀ (l : Launch) (h : rz_H) (S : Nat → Int → Int → Int) (m : Int), SeAt Γ h se B S → stH S M (k + 1) m → Ct l Γ x_Se_settle y_Se_settle (rmS d) [.ref se, vi ((k : Int) + 1)] h (pI (stP Γ se B S M (k + 1) m h))) {n : Int} (H : stH S M k n) : Ct l Γ x_Se_settle y_Se_settle (rmS (d + 1)) [.ref se, vi (k : Int)] h (pI (stP Γ se B S M k n h)) := by
  refine rz_met (by decide) rfl rfl (Nat.le_of_ble_eq_true rfl) (fun K _ => ?_)
  refine rz_Leq [(0, .ref se), (1, vi (k : Int))] rfl ?_
  refine rz_iload_n 1 d_Se_settle_0 rfl rfl ?_
  refine rz_bipush (v := 6) d_Se_settle_1 (by decide) ?_
  refine rz_icmp_lt 8 d_Se_settle_3 (by decide) (by omega) ⟨by decide, by decide⟩ (fun c3 => ?_) (fun c3 => absurd c3 (by omega))
  refine rz_iconst d_Se_settle_8 ?_
  refine rz_istore_n [(2, vi 0), (0, .ref se), (1, vi (k : Int))] d_Se_settle_9 rfl (by decide) rfl ?_
  refine rz_loop (α := Nat × rz_H × (Nat → Int → Int → Int)) 0 0 10 (fun (i, hA, SA) => 5 - i) (fun (i, hA, SA) => i ≤ 5 ∧ SeAt Γ hA se B SA ∧ rz_fr SR h hA ∧ (∀ c r, ¬ (c = 8 ∧ (k : Int) < r) → SA c r = S c r) ∧ srF M (i * 5 ^ (5 - k)) n = n + (i : Int) * 5 ^ (5 - k)) (fun (i, hA, SA) => [(2, vi (i : Int)), (0, .ref se), (1, vi (k : Int))]) (fun (i, hA, SA) => []) (fun (i, hA, SA) => hA) (fun y hy ih10 => ?_) (fun LP => ?_)
  · obtain ⟨i, hA, SA⟩ := y
    try dsimp only at hy ih10 ⊢
    obtain ⟨hi5, hSA, hFA, KA, hN⟩ := hy
    refine rz_iload_n 0 d_Se_settle_10 rfl rfl ?_
    refine rz_iconst d_Se_settle_11 ?_
    refine rz_icmp_ge 49 d_Se_settle_12 (by decide) (by omega) ⟨by decide, by decide⟩ (fun c12 => ?_) (fun c12 => ?_)
    · refine rz_iconst d_Se_settle_49 ?_
      exact rz_zreturn (st := []) (ty := .boolean) rfl rfl d_Se_settle_50 ⟨by simp [rmS, rm_Se_tryOption], by simp [rmS, rm_Se_tryOption]⟩ ⟨_, rfl, SA, hSA, KA, bi0 (decide_eq_false (st_end hk (by have z := hN; rw [show i = 5 by omega] at z; exact z))), (fun z => absurd z (st_end hk (by have z := hN; rw [show i = 5 by omega] at z; exact z))), hFA⟩
    · have HA := stH_at (S' := SA) H hk KA (i := (i : Int)) (by omega)
      refine rz_aload_n 1 d_Se_settle_15 rfl rfl ?_
      refine rz_iload_n 2 d_Se_settle_16 rfl rfl ?_
      refine rz_aload_n 1 d_Se_settle_17 rfl rfl ?_
      refine rz_getf f_Se_13 hSA.1 rfl d_Se_settle_18 ?_
      refine rz_iload_n 2 d_Se_settle_21 rfl rfl ?_
      obtain ⟨f1, fo1, fe1⟩ := hSA.2.1 (0, 6) (by decide)
      refine rz_aaloadA fo1 (show 60 + 0 ≠ 0 by decide) (by omega) d_Se_settle_22 ?_
      refine rz_Seq [.ref (B 0 (k : Int)), vi (k : Int), .ref se] (by rw [fe1 (k : Int) (by omega) (by omega)]; rfl) ?_
      refine rz_iload_n 0 d_Se_settle_23 rfl rfl ?_
      refine rz_iaload (se_r0 hSA (i := (k : Int)) (by omega)) (show 50 ≠ 0 by decide) (by omega) d_Se_settle_24 ?_
      refine rz_Seq [vi (oM M (n + (i : Int) * 5 ^ (5 - k)) k : Int), vi (k : Int), .ref se] (by rw [HA.2.2.2.1 k i hk (by omega), oM_at hk H.2.2.2.2.2.2 (by omega)]) ?_
      refine rz_callV (As := [vi (k : Int), vi (oM M (n + (i : Int) * 5 ^ (5 - k)) k : Int)]) (c_Se_tryOption hSA (z := zM M) (o := oM M (n + (i : Int) * 5 ^ (5 - k))) (k := k) hk (oM_5 hw _ hk) HA.1 HA.2.1 HA.2.2.1 HA.2.2.2.2.1) m_Se_142 hSA.1 rfl rfl rfl rfl (Nat.le_of_ble_eq_true rfl) ⟨by simp only [rmS, rm_Se_tryOption]; omega, Nat.le_trans (m := 1000) (by decide) (by simp only [rmS]; omega)⟩ ⟨by simp [rmS, rm_Se_tryOption], by simp [rmS, rm_Se_tryOption]⟩ d_Se_settle_25 (kI (h := hA) fun r2 h2 q2 => ?_)
      obtain ⟨S2, hS2, K2, e2, L2, G2⟩ := q2
      rw [e2]
      have hF2 : rz_fr SR h h2 := hFA.tr G2
      have KK2 : ∀ c r, ¬ (c = 8 ∧ (k : Int) < r) → S2 c r = S c r := fun c r hc => by rw [K2 c r (by omega)]; exact KA c r hc
      refine rz_if_eqB 43 d_Se_settle_28 (by decide) (fun c28 => ?_) (fun c28 => ?_)
      · have NN : srF M (5 ^ (5 - k)) (n + (i : Int) * 5 ^ (5 - k)) = n + (i : Int) * 5 ^ (5 - k) + ((5 ^ (5 - k) : Nat) : Int) := by
          first
          | exact tri_no hw hr hg (by omega) (by rw [show (5 - (k : Int)).toNat = 6 - (k + 1) by omega]; exact dv_next hk H.2.2.2.2.2.2) c28
          | (have z := of_decide_eq_false c38; have y := srF_in (M := M) (5 ^ (5 - k)) (n + (i : Int) * 5 ^ (5 - k)); omega)
        refine rz_iinc ((i : Int) + 1) 0 [(2, vi ((i : Int) + 1)), (0, .ref se), (1, vi (k : Int))] d_Se_settle_43 rfl (by first | rfl | omega) (by decide) rfl ?_
        refine rz_goto 10 d_Se_settle_46 (by decide) ?_
        refine rz_Lsub [(2, vi ((i : Int) + 1)), (0, .ref se), (1, vi (k : Int))] [0, 1, 2] rfl ?_
        refine ih10 (i + 1, h2, S2) ?_ ?_
        · try dsimp only
          exact ⟨by omega, hS2, hF2, KK2, st_no hN NN⟩
        · exact (by first | omega | (dsimp only; omega))
      · have HB : stH S2 M (k + 1) (n + (i : Int) * 5 ^ (5 - k)) := by
          have z := stH_at (S' := S2) H hk KK2 (i := (i : Int)) (by omega)
          exact ⟨z.1, z.2.1, z.2.2.1, z.2.2.2.1, L2 c28, fun j hj => by
            by_cases c : j = k
            · rw [c]; exact c28
            · exact z.2.2.2.2.2 j (by omega), dv_next hk H.2.2.2.2.2.2⟩
        refine rz_aload_n 1 d_Se_settle_31 rfl rfl ?_
        refine rz_iload_n 2 d_Se_settle_32 rfl rfl ?_
        refine rz_iconst d_Se_settle_33 ?_
        refine rz_iadd d_Se_settle_34 ?_
        refine rz_callV (As := [vi ((k : Int) + 1)]) (ih _ h2 S2 (n + (i : Int) * 5 ^ (5 - k)) hS2 HB) m_Se_74 hS2.1 rfl rfl rfl rfl (Nat.le_of_ble_eq_true rfl) ⟨by simp only [rmS]; omega, by have := (show x_Se_settle.2.2.1 ≤ 20 by decide); simp only [rmS]; omega⟩ ⟨by simp [rmS, rm_Se_tryOption], by simp [rmS, rm_Se_tryOption]⟩ d_Se_settle_35 (kI (h := h2) fun r3 h3 q3 => ?_)
        obtain ⟨S3, hS3, K3, e3, L3, G3⟩ := q3
        rw [e3, show 6 - (k + 1) = 5 - k by omega]
        rw [show 6 - (k + 1) = 5 - k by omega] at L3
        have hF3 : rz_fr SR h h3 := hF2.tr G3
        have KS3 : ∀ c r, ¬ (c = 8 ∧ (k : Int) < r) → S3 c r = S c r := fun c r hc => by rw [K3 c r (by omega)]; exact KK2 c r hc
        refine rz_if_eqB 43 d_Se_settle_38 (by decide) (fun c38 => ?_) (fun c38 => ?_)
        · have NN : srF M (5 ^ (5 - k)) (n + (i : Int) * 5 ^ (5 - k)) = n + (i : Int) * 5 ^ (5 - k) + ((5 ^ (5 - k) : Nat) : Int) := by
            first
            | exact tri_no hw hr hg (by omega) (by rw [show (5 - (k : Int)).toNat = 6 - (k + 1) by omega]; exact dv_next hk H.2.2.2.2.2.2) c28
            | (have z := of_decide_eq_false c38; have y := srF_in (M := M) (5 ^ (5 - k)) (n + (i : Int) * 5 ^ (5 - k)); omega)
          refine rz_iinc ((i : Int) + 1) 0 [(2, vi ((i : Int) + 1)), (0, .ref se), (1, vi (k : Int))] d_Se_settle_43 rfl (by first | rfl | omega) (by decide) rfl ?_
          refine rz_goto 10 d_Se_settle_46 (by decide) ?_
          refine rz_Lsub [(2, vi ((i : Int) + 1)), (0, .ref se), (1, vi (k : Int))] [0, 1, 2] rfl ?_
          refine ih10 (i + 1, h3, S3) ?_ ?_
          · try dsimp only
            exact ⟨by omega, hS3, hF3, KS3, st_no hN NN⟩
          · exact (by first | omega | (dsimp only; omega))
        · have YY := st_yes (by omega) hk hN (of_decide_eq_true c38)
          refine rz_iconst d_Se_settle_41 ?_
          exact rz_zreturn (st := []) (ty := .boolean) rfl rfl d_Se_settle_42 ⟨by simp [rmS, rm_Se_tryOption], by simp [rmS, rm_Se_tryOption]⟩ ⟨_, rfl, S3, hS3, KS3, bi1 (decide_eq_true YY.2), (fun _ => by rw [YY.1]; exact L3 (of_decide_eq_true c38)), hF3⟩
  · refine rz_Lsub [(2, vi 0), (0, .ref se), (1, vi (k : Int))] [0, 1, 2] rfl ?_
    refine LP (0, h, S) ?_
    try dsimp only
    exact ⟨by omega, hS, rz_fr.rf, (fun _ _ _ => rfl), (by rw [Nat.zero_mul]; simp [srF])⟩
theorem c_Se_settle {Γ : rz_G} {se : Nat} {B : Nat → Int → Nat} {M : Nat → Int → Int} (hw : mWF M) (hr : rkOK M) (hg : gtOK M) : ∀ (d k : Nat), k + d = 6 → ∀ (l : Launch) (h : rz_H) (S : Nat → Int → Int → Int) (n : Int), SeAt Γ h se B S → stH S M k n → Ct l Γ x_Se_settle y_Se_settle (rmS d) [.ref se, vi (k : Int)] h (pI (stP Γ se B S M k n h))
  | 0, k, hk, l, h, S, n, hS, H => by
    obtain rfl : k = 6 := by omega
    exact c_Se_settle6 hS hw hr hg H
  | d + 1, k, hk, l, h, S, n, hS, H => c_Se_settleS hS hw hr hg (by omega) (fun l h S m a b => c_Se_settle hw hr hg d (k + 1) (by omega) l h S m a b) H

/-! the class: Search, prepare and finds -/
theorem SeAt.fo {Γ : rz_G} {h : rz_H} {se : Nat} {B : Nat → Int → Nat} {S : Nat → Int → Int → Int} {h' : rz_H} (hS : SeAt Γ h se B S) {q : Nat × Nat × Nat} (hq : q ∈ se_L) {i : Int} (hi : 0 ≤ i ∧ i < (q.2.1 : Int)) {g : Int → Int} (hf : rz_fo (B q.1 i) h h') (hg : h' (B q.1 i) = some ((50 + q.1, i.toNat), aI Γ 0 q.2.2 g)) : SeAt Γ h' se B (su S q.1 i g) := by
  have hc := hS.2.2 q hq i hi.1 hi.2
  have hs := se_sc q hq
  have h9 := se_r q hq
  have mv : ∀ (a : Nat) (t : Nat × Nat) (e : va_E), h a = some (t, e) → t ≠ (50 + q.1, i.toNat) → h' a = some (t, e) := fun a t e ha ht => hf a (t, e) (fun z => by rw [z, hc] at ha; cases ha; exact ht rfl) ha
  refine ⟨?_, fun p hp => ?_, fun p hp j j0 j1 => ?_⟩
  · rw [mv _ _ _ hS.1 (by simp; omega)]
    simp only [se_F, su_n (show ¬ (6 = q.1 ∧ (0 : Int) = i) by omega), su_n (show ¬ (7 = q.1 ∧ (0 : Int) = i) by omega)]
  · obtain ⟨f, a, b⟩ := hS.2.1 p hp
    have := se_ro p hp
    exact ⟨f, mv _ _ _ a (by simp; omega), b⟩
  · by_cases e : p.1 = q.1 ∧ j = i
    · have := se_nd p hp q hq e.1
      rw [e.2, this, su_s]; exact hg
    · rw [mv _ _ _ (hS.2.2 p hp j j0 j1) (by simp; omega), su_n e]
/-- all is prepared -/
def prH (S : Nat → Int → Int → Int) (M : Nat → Int → Int) : Prop := (∀ p i : Nat, p < 6 → i < 5 → S 0 p i = (oD M p i : Int)) ∧ (∀ p : Nat, p < 6 → Bt 5 (S 1 0 p) (usM M p)) ∧ (∀ p x q : Nat, p < 6 → x < 5 → q < 6 → Bt 5 (S 2 (p * 5 + x) q) (bsM M p x q)) ∧ (∀ p x : Nat, p < 6 → x < 4 → Bt 6 (S 3 0 (p * 5 + x)) (ldM M p x)) ∧ S 6 0 0 = M 8 0 ∧ ∀ a : Nat, (a : Int) < M 8 0 → S 4 0 a = M 9 a ∧ Bt 5 (S 5 0 a) (fun x => decide (x < 4) && vIn M (M 9 a) x (2 + a))
theorem prH.c {S S' : Nat → Int → Int → Int} {M : Nat → Int → Int} (h : prH S M) (e : ∀ c r, c ≠ 7 → c ≠ 8 → S' c r = S c r) : prH S' M := by
  obtain ⟨a, b, c, d, f, g⟩ := h
  refine ⟨fun p i x y => by rw [e 0 _ (by decide) (by decide)]; exact a p i x y, fun p x => by rw [e 1 _ (by decide) (by decide)]; exact b p x, fun p x q u v w => by rw [e 2 _ (by decide) (by decide)]; exact c p x q u v w, fun p x u v => by rw [e 3 _ (by decide) (by decide)]; exact d p x u v, by rw [e 6 _ (by decide) (by decide)]; exact f, fun a x => ?_⟩
  rw [e 4 _ (by decide) (by decide), e 5 _ (by decide) (by decide)]; exact g a x
theorem prH.m {S : Nat → Int → Int → Int} {M : Nat → Int → Int} (h : prH S M) (g : Int → Int) : prH S (mu M 10 g) := by
  have e : ∀ p i, oD (mu M 10 g) p i = oD M p i := fun p i => by unfold oD flM; rw [rkd_K (fun k hk => mu_n (by omega))]; rfl
  exact ⟨fun p i x y => by rw [e]; exact h.1 p i x y, h.2⟩
abbrev rm_Se_prepare : Room := { frames := 5, cells := 0, slots := 0, locals := 114 }
set_option maxRecDepth 100000 in
set_option maxHeartbeats 4000000 in
theorem c_Se_prepare {l : Launch} {Γ : rz_G} {h : rz_H} {se : Nat} {B : Nat → Int → Nat} {S : Nat → Int → Int → Int} (hS : SeAt Γ h se B S) {pa : Nat} {A : Nat → Int → Nat} {M : Nat → Int → Int} {F : Int → Int → Int} (hPs : PsAt Γ h pa A M F) (hBg : Big M F) {hv : Nat} (hHv : VeAt Γ h hv (vRt M 1) (vPt M 1)) {al : Nat} (hAs : AsAt Γ h al A M) : Ct l Γ x_Se_prepare y_Se_prepare rm_Se_prepare [.ref se, .ref pa, .ref hv, .ref al] h (pV (fun h' => ∃ S', SeAt Γ h' se B S' ∧ prH S' M ∧ rz_fr SR h h')) := by
  refine rz_met (by decide) rfl rfl (Nat.le_of_ble_eq_true rfl) (fun K _ => ?_)
  refine rz_Leq [(0, .ref se), (1, .ref pa), (2, .ref hv), (3, .ref al)] rfl ?_
  obtain ⟨w2, w5, w6, w8, w9⟩ := M_big hBg.wf
  refine rz_aload_n 0 d_Se_prepare_0 rfl rfl ?_
  refine rz_getf f_Se_23 hS.1 rfl d_Se_prepare_1 ?_
  refine rz_iconst d_Se_prepare_4 ?_
  refine rz_callS (As := [.ref (B 3 0), vi 0]) (c_Ar_fill (se_r3 hS (i := 0) (by omega)) (show 53 ≠ 0 by decide) (by decide) (v := 0)) m_Se_42 rfl rfl (Nat.le_of_ble_eq_true rfl) ⟨by decide, by decide⟩ ⟨by decide, by decide⟩ d_Se_prepare_5 (kV (h := h) fun h1 q1 => ?_)
  obtain ⟨g1, fa1, ea1, G1⟩ := q1
  have hF1 : rz_fr SR h h1 := rz_fr.rf.tr ((rz_fo.fr1 (se_r3 hS (i := 0) (by omega)) G1).mono (by intro r hr; simp at hr; rw [hr]; decide))
  have hS1 : SeAt Γ h1 se B (su S 3 0 g1) := hS.fo (q := (3, 1, 30)) (by decide) (show 0 ≤ 0 ∧ 0 < 1 by omega) G1 fa1
  obtain ⟨S1, eS1⟩ : ∃ z, z = su S 3 0 g1 := ⟨_, rfl⟩
  rw [← eS1] at hS1
  refine rz_iconst d_Se_prepare_8 ?_
  refine rz_istore [(4, vi 0), (0, .ref se), (1, .ref pa), (2, .ref hv), (3, .ref al)] d_Se_prepare_9 (by decide) rfl ?_
  refine rz_loop (α := Nat × rz_H × (Nat → Int → Int → Int)) 0 0 11 (fun (r, hA, SA) => 30 - r) (fun (r, hA, SA) => r ≤ 30 ∧ SeAt Γ hA se B SA ∧ rz_fr SR h hA ∧ (∀ r2 : Int, 0 ≤ r2 ∧ r2 < 30 → Bt 6 (SA 3 0 r2) (fun _ => false)) ∧ (∀ r2 : Int, 0 ≤ r2 ∧ r2 < r → ∀ q : Nat, q < 6 → Bt 5 (SA 2 r2 q) (fun _ => true))) (fun (r, hA, SA) => [(4, vi (r : Int)), (0, .ref se), (1, .ref pa), (2, .ref hv), (3, .ref al)]) (fun (r, hA, SA) => []) (fun (r, hA, SA) => hA) (fun y hy ih11 => ?_) (fun LP => ?_)
  · obtain ⟨r, hA, SA⟩ := y
    try dsimp only at hy ih11 ⊢
    obtain ⟨hr, hSA, hFA, dR, tR⟩ := hy
    refine rz_iload 0 d_Se_prepare_11 rfl ?_
    refine rz_bipush (v := 30) d_Se_prepare_13 (by decide) ?_
    refine rz_icmp_ge 36 d_Se_prepare_15 (by decide) (by omega) ⟨by decide, by decide⟩ (fun c15 => ?_) (fun c15 => ?_)
    · refine rz_iconst d_Se_prepare_36 ?_
      refine rz_istore [(4, vi 0), (0, .ref se), (1, .ref pa), (2, .ref hv), (3, .ref al)] d_Se_prepare_37 (by decide) rfl ?_
      refine rz_loop (α := Nat × rz_H × (Nat → Int → Int → Int)) 0 0 39 (fun (p, hA, SA) => 6 - p) (fun (p, hA, SA) => p ≤ 6 ∧ SeAt Γ hA se B SA ∧ rz_fr SR h hA ∧ (∀ p2 i2 : Nat, p2 < p → i2 < 5 → SA 0 p2 i2 = (oD M p2 i2 : Int)) ∧ (∀ p2 x q : Nat, p2 < 6 → x < 5 → q < 6 → Bt 5 (SA 2 (p2 * 5 + x) q) (bsT M (nIx p 0 0) p2 x q)) ∧ (∀ p2 x : Nat, p2 < 6 → x < 5 → Bt 6 (SA 3 0 (p2 * 5 + x)) (ldT M (nIx p 0 0) p2 x))) (fun (p, hA, SA) => [(4, vi (p : Int)), (0, .ref se), (1, .ref pa), (2, .ref hv), (3, .ref al)]) (fun (p, hA, SA) => []) (fun (p, hA, SA) => hA) (fun y hy ih39 => ?_) (fun LP => ?_)
      · obtain ⟨p, hA, SA⟩ := y
        try dsimp only at hy ih39 ⊢
        obtain ⟨hp6, hSA, hFA, oA, tA, dA⟩ := hy
        refine rz_iload 0 d_Se_prepare_39 rfl ?_
        refine rz_bipush (v := 6) d_Se_prepare_41 (by decide) ?_
        refine rz_icmp_ge 92 d_Se_prepare_43 (by decide) (by omega) ⟨by decide, by decide⟩ (fun c43 => ?_) (fun c43 => ?_)
        · refine rz_iconst d_Se_prepare_92 ?_
          refine rz_istore [(4, vi 0), (0, .ref se), (1, .ref pa), (2, .ref hv), (3, .ref al)] d_Se_prepare_93 (by decide) rfl ?_
          refine rz_loop (α := Nat × rz_H × (Nat → Int → Int → Int)) 0 0 95 (fun (p, hC, SC) => 6 - p) (fun (p, hC, SC) => p ≤ 6 ∧ SeAt Γ hC se B SC ∧ rz_fr SR h hC ∧ (∀ p2 i2 : Nat, p2 < 6 → i2 < 5 → SC 0 p2 i2 = (oD M p2 i2 : Int)) ∧ (∀ p2 x q : Nat, p2 < 6 → x < 5 → q < 6 → Bt 5 (SC 2 (p2 * 5 + x) q) (bsM M p2 x q)) ∧ (∀ p2 x : Nat, p2 < 6 → x < 4 → Bt 6 (SC 3 0 (p2 * 5 + x)) (ldM M p2 x)) ∧ (∀ p2 : Nat, p2 < p → Bt 5 (SC 1 0 p2) (usM M p2))) (fun (p, hC, SC) => [(4, vi (p : Int)), (0, .ref se), (1, .ref pa), (2, .ref hv), (3, .ref al)]) (fun (p, hC, SC) => []) (fun (p, hC, SC) => hC) (fun y hy ih95 => ?_) (fun LP => ?_)
          · obtain ⟨p, hC, SC⟩ := y
            try dsimp only at hy ih95 ⊢
            obtain ⟨hp6, hSC, hFC, oC, tC, dC, uC⟩ := hy
            refine rz_iload 0 d_Se_prepare_95 rfl ?_
            refine rz_bipush (v := 6) d_Se_prepare_97 (by decide) ?_
            refine rz_icmp_ge 119 d_Se_prepare_99 (by decide) (by omega) ⟨by decide, by decide⟩ (fun c99 => ?_) (fun c99 => ?_)
            · refine rz_aload_n 1 d_Se_prepare_119 rfl rfl ?_
              refine rz_aload_n 2 d_Se_prepare_120 rfl rfl ?_
              refine rz_aload_n 4 d_Se_prepare_121 rfl rfl ?_
              refine rz_callV (As := [.ref pa, .ref al]) (c_Se_prepareAsks hSC (hPs.fr hFC SRok) hBg (hAs.fr hFC SRok)) m_Se_66 hSC.1 rfl rfl rfl rfl (Nat.le_of_ble_eq_true rfl) ⟨by decide, by decide⟩ ⟨by decide, by decide⟩ d_Se_prepare_122 (kV (h := hC) fun h2 q2 => ?_)
              obtain ⟨S2, hS2, K2, N2, V2, G2⟩ := q2
              have hF2 : rz_fr SR h h2 := hFC.tr G2
              exact rz_return (st := []) rfl d_Se_prepare_125 ⟨by decide, by decide⟩ ⟨rfl, S2, hS2, ⟨fun p i x y => by rw [K2 0 _ (by decide) (by decide) (by decide)]; exact oC p i x y, fun p x => by rw [K2 1 _ (by decide) (by decide) (by decide)]; exact uC p (by omega), fun p x q a b c => by rw [K2 2 _ (by decide) (by decide) (by decide)]; exact tC p x q a b c, fun p x a b => by rw [K2 3 _ (by decide) (by decide) (by decide)]; exact dC p x a b, N2, V2⟩, hF2⟩
            · have w2p := w2 p (by omega) (by omega)
              refine rz_aload_n 1 d_Se_prepare_102 rfl rfl ?_
              refine rz_iload 0 d_Se_prepare_103 rfl ?_
              refine rz_aload_n 2 d_Se_prepare_105 rfl rfl ?_
              refine rz_iload 0 d_Se_prepare_106 rfl ?_
              obtain ⟨f3, fo3, fe3⟩ := (hPs.fr hFC SRok).1
              refine rz_aaload fo3 rfl (show (33 : Nat) ≠ 0 by decide) (by omega) d_Se_prepare_108 ?_
              refine rz_Seq [.ref (A 0 (p : Int)), vi (p : Int), .ref se] (by rw [fe3 (p : Int) (by omega) (by omega)]; rfl) ?_
              refine rz_aload_n 3 d_Se_prepare_109 rfl rfl ?_
              refine rz_callV (As := [vi (p : Int), .ref (A 0 (p : Int)), .ref hv]) (c_Se_prepareUsable hSC (hPs.fr hFC SRok) hBg (hHv.s hFC) (p := p) (by omega) tC) m_Se_62 hSC.1 rfl rfl rfl rfl (Nat.le_of_ble_eq_true rfl) ⟨by decide, by decide⟩ ⟨by decide, by decide⟩ d_Se_prepare_110 (kV (h := hC) fun h4 q4 => ?_)
              obtain ⟨S4, hS4, K4, Q4, U4, G4⟩ := q4
              have hF4 : rz_fr SR h h4 := hFC.tr G4
              refine rz_iinc ((p : Int) + 1) 0 [(4, vi ((p : Int) + 1)), (0, .ref se), (1, .ref pa), (2, .ref hv), (3, .ref al)] d_Se_prepare_113 rfl (by first | rfl | omega) (by decide) rfl ?_
              refine rz_goto 95 d_Se_prepare_116 (by decide) ?_
              refine rz_Lsub [(4, vi ((p : Int) + 1)), (0, .ref se), (1, .ref pa), (2, .ref hv), (3, .ref al)] [0, 1, 2, 3, 4] rfl ?_
              refine ih95 (p + 1, h4, S4) ?_ ?_
              · try dsimp only
                exact ⟨by omega, hS4, hF4, (fun pp i2 a b => by rw [K4 0 _ (by decide)]; exact oC pp i2 a b), (fun pp x q a b c => by rw [K4 2 _ (by decide)]; exact tC pp x q a b c), (fun pp x a b => by rw [K4 3 0 (by decide)]; exact dC pp x a b), (fun pp a => by
                  by_cases c : pp = p
                  · rw [c]; exact U4
                  · rw [Q4 pp (by omega)]; exact uC pp (by omega))⟩
              · exact (by first | omega | (dsimp only; omega))
          · refine rz_Lsub [(4, vi 0), (0, .ref se), (1, .ref pa), (2, .ref hv), (3, .ref al)] [0, 1, 2, 3, 4] rfl ?_
            refine LP (0, hA, SA) ?_
            try dsimp only
            exact ⟨by omega, hSA, hFA, (fun pp i a b => oA pp i (by omega) b), (fun pp x q a b c => (tA pp x q a b c).c (fun y hy => by rw [show nIx p 0 0 = 72 by unfold nIx; omega]; exact bsT_all a b c hy)), (fun pp x a b => (dA pp x a (by omega)).c (fun q hq => by rw [show nIx p 0 0 = 72 by unfold nIx; omega]; exact ldT_all a b q)), (fun pp z => absurd z (by omega))⟩
        · have w2p := w2 p (by omega) (by omega)
          refine rz_aload_n 1 d_Se_prepare_46 rfl rfl ?_
          refine rz_iload 0 d_Se_prepare_47 rfl ?_
          refine rz_aload_n 2 d_Se_prepare_49 rfl rfl ?_
          refine rz_iload 0 d_Se_prepare_50 rfl ?_
          obtain ⟨f5, fo5, fe5⟩ := (hPs.fr hFA SRok).1
          refine rz_aaload fo5 rfl (show (33 : Nat) ≠ 0 by decide) (by omega) d_Se_prepare_52 ?_
          refine rz_Seq [.ref (A 0 (p : Int)), vi (p : Int), .ref se] (by rw [fe5 (p : Int) (by omega) (by omega)]; rfl) ?_
          refine rz_callV (As := [vi (p : Int), .ref (A 0 (p : Int))]) (c_Se_prepareOrder hSA (hPs.fr hFA SRok) hBg (p := p) (by omega)) m_Se_48 hSA.1 rfl rfl rfl rfl (Nat.le_of_ble_eq_true rfl) ⟨by decide, by decide⟩ ⟨by decide, by decide⟩ d_Se_prepare_53 (kV (h := hA) fun h6 q6 => ?_)
          obtain ⟨S6, hS6, K6, O6, G6⟩ := q6
          have hF6 : rz_fr SR h h6 := hFA.tr G6
          refine rz_iconst d_Se_prepare_56 ?_
          refine rz_istore [(5, vi 0), (4, vi (p : Int)), (0, .ref se), (1, .ref pa), (2, .ref hv), (3, .ref al)] d_Se_prepare_57 (by decide) rfl ?_
          refine rz_loop (α := Nat × rz_H × (Nat → Int → Int → Int)) 0 0 59 (fun (i, hB, SB) => 4 - i) (fun (i, hB, SB) => (i : Int) ≤ M 2 p ∧ SeAt Γ hB se B SB ∧ rz_fr SR h hB ∧ (∀ p2 i2 : Nat, p2 < p + 1 → i2 < 5 → SB 0 p2 i2 = (oD M p2 i2 : Int)) ∧ (∀ p2 x q : Nat, p2 < 6 → x < 5 → q < 6 → Bt 5 (SB 2 (p2 * 5 + x) q) (bsT M (nIx p i 0) p2 x q)) ∧ (∀ p2 x : Nat, p2 < 6 → x < 5 → Bt 6 (SB 3 0 (p2 * 5 + x)) (ldT M (nIx p i 0) p2 x))) (fun (i, hB, SB) => [(5, vi (i : Int)), (4, vi (p : Int)), (0, .ref se), (1, .ref pa), (2, .ref hv), (3, .ref al)]) (fun (i, hB, SB) => []) (fun (i, hB, SB) => hB) (fun y hy ih59 => ?_) (fun LP => ?_)
          · obtain ⟨i, hB, SB⟩ := y
            try dsimp only at hy ih59 ⊢
            obtain ⟨hi, hSB, hFB, oB, tB, dB⟩ := hy
            refine rz_iload 0 d_Se_prepare_59 rfl ?_
            refine rz_aload_n 3 d_Se_prepare_61 rfl rfl ?_
            refine rz_iload 1 d_Se_prepare_62 rfl ?_
            obtain ⟨f7, fo7, fe7⟩ := (hPs.fr hFB SRok).1
            refine rz_aaload fo7 rfl (show (33 : Nat) ≠ 0 by decide) (by omega) d_Se_prepare_64 ?_
            refine rz_Seq [.ref (A 0 (p : Int)), vi (i : Int)] (by rw [fe7 (p : Int) (by omega) (by omega)]; rfl) ?_
            refine rz_callV (As := []) (c_Pl_size ((hPs.fr hFB SRok).2 (p : Int) (by omega) (by omega)) hBg.wf (by omega)) m_Se_52 ((hPs.fr hFB SRok).2 (p : Int) (by omega) (by omega)).ob rfl rfl rfl rfl (Nat.le_of_ble_eq_true rfl) ⟨by decide, by decide⟩ ⟨by decide, by decide⟩ d_Se_prepare_65 (kE (h := hB) ?_)
            refine rz_icmp_ge 86 d_Se_prepare_68 (by decide) (by omega) (by omega) (fun c68 => ?_) (fun c68 => ?_)
            · refine rz_iinc ((p : Int) + 1) 1 [(4, vi ((p : Int) + 1)), (5, vi (i : Int)), (0, .ref se), (1, .ref pa), (2, .ref hv), (3, .ref al)] d_Se_prepare_86 rfl (by first | rfl | omega) (by decide) rfl ?_
              refine rz_goto 39 d_Se_prepare_89 (by decide) ?_
              refine rz_Lsub [(4, vi ((p : Int) + 1)), (0, .ref se), (1, .ref pa), (2, .ref hv), (3, .ref al)] [0, 2, 3, 4, 5] rfl ?_
              refine ih39 (p + 1, hB, SB) ?_ ?_
              · try dsimp only
                exact ⟨by omega, hSB, hFB, oB, (fun pp x q a b c => (tB pp x q a b c).c (fun y hy => by rw [← nIx_4]; exact ((bsT_far hBg.na (P := p) (by omega) (4 - i) i (by omega) (by omega) pp x q y b hy).1).symm)), (fun pp x a b => (dB pp x a b).c (fun q hq => by rw [← nIx_4]; exact ((bsT_far hBg.na (P := p) (by omega) (4 - i) i (by omega) (by omega) pp x q 0 b (by omega)).2).symm))⟩
              · exact (by first | omega | (dsimp only; omega))
            · refine rz_aload_n 2 d_Se_prepare_71 rfl rfl ?_
              refine rz_aload_n 3 d_Se_prepare_72 rfl rfl ?_
              refine rz_iload 1 d_Se_prepare_73 rfl ?_
              refine rz_iload 0 d_Se_prepare_75 rfl ?_
              refine rz_callV (As := [.ref pa, vi (p : Int), vi (i : Int)]) (c_Se_prepareNeeds hSB (hPs.fr hFB SRok) hBg (P' := p) (X' := i) (by omega) (by omega) tB dB) m_Se_58 hSB.1 rfl rfl rfl rfl (Nat.le_of_ble_eq_true rfl) ⟨by decide, by decide⟩ ⟨by decide, by decide⟩ d_Se_prepare_77 (kV (h := hB) fun h8 q8 => ?_)
              obtain ⟨S8, hS8, K8, T8, D8, G8⟩ := q8
              have hF8 : rz_fr SR h h8 := hFB.tr G8
              refine rz_iinc ((i : Int) + 1) 0 [(5, vi ((i : Int) + 1)), (4, vi (p : Int)), (0, .ref se), (1, .ref pa), (2, .ref hv), (3, .ref al)] d_Se_prepare_80 rfl (by first | rfl | omega) (by decide) rfl ?_
              refine rz_goto 59 d_Se_prepare_83 (by decide) ?_
              refine rz_Lsub [(5, vi ((i : Int) + 1)), (4, vi (p : Int)), (0, .ref se), (1, .ref pa), (2, .ref hv), (3, .ref al)] [0, 1, 2, 3, 4, 5] rfl ?_
              refine ih59 (i + 1, h8, S8) ?_ ?_
              · try dsimp only
                exact ⟨by omega, hS8, hF8, (fun pp i2 a b => by rw [K8 0 _ (by decide) (by decide)]; exact oB pp i2 a b), (by rw [← nIx_3]; exact T8), (by rw [← nIx_3]; exact D8)⟩
              · exact (by first | omega | (dsimp only; omega))
          · refine rz_Lsub [(5, vi 0), (4, vi (p : Int)), (0, .ref se), (1, .ref pa), (2, .ref hv), (3, .ref al)] [0, 1, 2, 3, 4, 5] rfl ?_
            refine LP (0, h6, S6) ?_
            try dsimp only
            exact ⟨by omega, hS6, hF6, (fun pp i a b => by
                by_cases c : pp = p
                · rw [c]; exact O6 i b
                · rw [K6 0 pp (by omega)]; exact oA pp i (by omega) b), (fun pp x q a b c => by rw [K6 2 _ (by omega)]; exact tA pp x q a b c), (fun pp x a b => by rw [K6 3 0 (by omega)]; exact dA pp x a b)⟩
      · refine rz_Lsub [(4, vi 0), (0, .ref se), (1, .ref pa), (2, .ref hv), (3, .ref al)] [0, 1, 2, 3, 4] rfl ?_
        refine LP (0, hA, SA) ?_
        try dsimp only
        exact ⟨by omega, hSA, hFA, (fun p i z => absurd z (by omega)), (fun p x q a b c => (tR (p * 5 + x) (by omega) q c).c (fun y hy => (bsT_0 M p x q y).symm)), (fun p x a b => (dR (p * 5 + x) (by omega)).c (fun q hq => (ldT_0 M p x q).symm))⟩
    · refine rz_aload_n 1 d_Se_prepare_18 rfl rfl ?_
      refine rz_getf f_Se_20 hSA.1 rfl d_Se_prepare_19 ?_
      refine rz_iload 0 d_Se_prepare_22 rfl ?_
      obtain ⟨f9, fo9, fe9⟩ := hSA.2.1 (2, 30) (by decide)
      refine rz_aaloadA fo9 (show 60 + 2 ≠ 0 by decide) (by omega) d_Se_prepare_24 ?_
      refine rz_Seq [.ref (B 2 (r : Int))] (by rw [fe9 (r : Int) (by omega) (by omega)]; rfl) ?_
      refine rz_bipush (v := 31) d_Se_prepare_25 (by decide) ?_
      refine rz_callS (As := [.ref (B 2 (r : Int)), vi 31]) (c_Ar_fill (se_r2 hSA (i := (r : Int)) (by omega)) (show 52 ≠ 0 by decide) (by decide) (v := 31)) m_Se_42 rfl rfl (Nat.le_of_ble_eq_true rfl) ⟨by decide, by decide⟩ ⟨by decide, by decide⟩ d_Se_prepare_27 (kV (h := hA) fun h10 q10 => ?_)
      obtain ⟨g10, fa10, ea10, G10⟩ := q10
      have hF10 : rz_fr SR h h10 := hFA.tr ((rz_fo.fr1 (se_r2 hSA (i := (r : Int)) (by omega)) G10).mono (by intro r hr; simp at hr; rw [hr]; decide))
      have hS10 : SeAt Γ h10 se B (su SA 2 (r : Int) g10) := hSA.fo (q := (2, 30, 6)) (by decide) (show 0 ≤ (r : Int) ∧ (r : Int) < 30 by omega) G10 fa10
      obtain ⟨S10, eS10⟩ : ∃ z, z = su SA 2 (r : Int) g10 := ⟨_, rfl⟩
      rw [← eS10] at hS10
      refine rz_iinc ((r : Int) + 1) 0 [(4, vi ((r : Int) + 1)), (0, .ref se), (1, .ref pa), (2, .ref hv), (3, .ref al)] d_Se_prepare_30 rfl (by first | rfl | omega) (by decide) rfl ?_
      refine rz_goto 11 d_Se_prepare_33 (by decide) ?_
      refine rz_Lsub [(4, vi ((r : Int) + 1)), (0, .ref se), (1, .ref pa), (2, .ref hv), (3, .ref al)] [0, 1, 2, 3, 4] rfl ?_
      refine ih11 (r + 1, h10, S10) ?_ ?_
      · try dsimp only
        exact ⟨by omega, hS10, hF10, (fun r2 z => by rw [eS10, su_n (by omega)]; exact dR r2 z), (fun r2 z q hq => by
          rw [eS10]
          by_cases c : r2 = r
          · rw [c, su_s, ea10 q (by omega) (by omega)]; exact Bt.full5
          · rw [su_n (by omega)]; exact tR r2 (by omega) q hq)⟩
      · exact (by first | omega | (dsimp only; omega))
  · refine rz_Lsub [(4, vi 0), (0, .ref se), (1, .ref pa), (2, .ref hv), (3, .ref al)] [0, 1, 2, 3, 4] rfl ?_
    refine LP (0, h1, S1) ?_
    try dsimp only
    exact ⟨by omega, hS1, hF1, (fun r2 z => by rw [eS1, su_s, ea1 r2 z.1 z.2]; exact Bt.zero 6), (fun r2 z => absurd z (by omega))⟩
abbrev rm_Se_finds : Room := { frames := 37, cells := 0, slots := 0, locals := 1622 }
set_option maxRecDepth 100000 in
set_option maxHeartbeats 4000000 in
theorem c_Se_finds {l : Launch} {Γ : rz_G} {h : rz_H} {se : Nat} {B : Nat → Int → Nat} {S : Nat → Int → Int → Int} (hS : SeAt Γ h se B S) {M : Nat → Int → Int} (hw : mWF M) (hr : rkOK M) (hg : gtOK M) (hpr : prH S M) {v : Int} {kf : Nat → Bool} (hv : Bt 4 v kf) (hk : ∀ a : Nat, (a : Int) < M 8 0 → kf a = decide (¬ M 10 a = 0)) : Ct l Γ x_Se_finds y_Se_finds rm_Se_finds [.ref se, vi v] h (pI (fun r h' => ∃ S', SeAt Γ h' se B S' ∧ (∀ c r, c ≠ 7 → c ≠ 8 → S' c r = S c r) ∧ r = bi (decide (srch M < 15625)) ∧ (srch M < 15625 → ∀ q : Nat, q < 6 → Bt 5 (S' 8 6 q) (fun x => decide (x = oM M (srch M) q))) ∧ rz_fr SR h h')) := by
  refine rz_met (by decide) rfl rfl (Nat.le_of_ble_eq_true rfl) (fun K _ => ?_)
  refine rz_Leq [(0, .ref se), (1, vi v)] rfl ?_
  obtain ⟨w2, w5, w6, w8, w9⟩ := M_big hw
  obtain ⟨p1, HU, p3, p4, p5, p6⟩ := hpr
  refine rz_aload_n 0 d_Se_finds_0 rfl rfl ?_
  refine rz_iconst d_Se_finds_1 ?_
  refine se_pf 7 (by decide) hS rz_fr.rf (fp_Se_36 _) d_Se_finds_2 (fun h1 hS1 hF1 => ?_)
  obtain ⟨S1, eS1⟩ : ∃ z, z = su S 7 0 (fun _ => 0) := ⟨_, rfl⟩
  rw [← eS1] at hS1
  refine rz_iconst d_Se_finds_5 ?_
  refine rz_istore_n [(2, vi 0), (0, .ref se), (1, vi v)] d_Se_finds_6 rfl (by decide) rfl ?_
  refine rz_loop (α := Nat × rz_H × (Nat → Int → Int → Int)) 0 0 7 (fun (p, hA, SA) => 6 - p) (fun (p, hA, SA) => p ≤ 6 ∧ SeAt Γ hA se B SA ∧ rz_fr SR h hA ∧ (∀ c r, c ≠ 7 → c ≠ 8 → SA c r = S c r) ∧ SA 7 0 0 = 0 ∧ (∀ p2 : Nat, p2 < p → SA 8 0 p2 = S 1 0 p2)) (fun (p, hA, SA) => [(2, vi (p : Int)), (0, .ref se), (1, vi v)]) (fun (p, hA, SA) => []) (fun (p, hA, SA) => hA) (fun y hy ih7 => ?_) (fun LP => ?_)
  · obtain ⟨p, hA, SA⟩ := y
    try dsimp only at hy ih7 ⊢
    obtain ⟨hp6, hSA, hFA, KA, q0, lA⟩ := hy
    refine rz_iload_n 0 d_Se_finds_7 rfl rfl ?_
    refine rz_bipush (v := 6) d_Se_finds_8 (by decide) ?_
    refine rz_icmp_ge 33 d_Se_finds_10 (by decide) (by omega) ⟨by decide, by decide⟩ (fun c10 => ?_) (fun c10 => ?_)
    · refine rz_iconst d_Se_finds_33 ?_
      refine rz_istore_n [(2, vi 0), (0, .ref se), (1, vi v)] d_Se_finds_34 rfl (by decide) rfl ?_
      refine rz_loop (α := Nat × rz_H × (Nat → Int → Int → Int)) 0 0 35 (fun (a, hB, SB) => 4 - a) (fun (a, hB, SB) => (a : Int) ≤ M 8 0 ∧ SeAt Γ hB se B SB ∧ rz_fr SR h hB ∧ (∀ c r, c ≠ 7 → c ≠ 8 → SB c r = S c r) ∧ Bt 6 (SB 7 0 0) (aqT M a) ∧ (∀ p : Nat, p < 6 → Bt 5 (SB 8 0 p) (fun x => usM M p x && akT M a p x))) (fun (a, hB, SB) => [(2, vi (a : Int)), (0, .ref se), (1, vi v)]) (fun (a, hB, SB) => []) (fun (a, hB, SB) => hB) (fun y hy ih35 => ?_) (fun LP => ?_)
      · obtain ⟨a, hB, SB⟩ := y
        try dsimp only at hy ih35 ⊢
        obtain ⟨ha, hSB, hFB, KB, hq, hL⟩ := hy
        refine rz_iload_n 0 d_Se_finds_35 rfl rfl ?_
        refine rz_aload_n 1 d_Se_finds_36 rfl rfl ?_
        refine rz_getf f_Se_32 hSB.1 rfl d_Se_finds_37 ?_
        refine rz_Seq [vi (M 8 0), vi (a : Int)] (by rw [KB 6 0 (by decide) (by decide), p5]) ?_
        refine rz_icmp_ge 96 d_Se_finds_40 (by decide) (by omega) (by omega) (fun c40 => ?_) (fun c40 => ?_)
        · have HH : stH SB M 0 0 := ⟨hq.c (fun q _ => aqT_4 (by omega) (by omega) q), fun p x a b => by rw [KB 3 0 (by decide) (by decide)]; exact p4 p x a b, fun p x q a b c => by rw [KB 2 _ (by decide) (by decide)]; exact p3 p x q a b c, fun p i a b => by rw [KB 0 _ (by decide) (by decide)]; exact p1 p i a b, fun q hq2 => (hL q hq2).c (fun x _ => by rw [akT_4 (by omega) (by omega)]; rfl), fun j hj => absurd hj (by omega), ⟨0, by simp⟩⟩
          refine rz_aload_n 1 d_Se_finds_96 rfl rfl ?_
          refine rz_iconst d_Se_finds_97 ?_
          refine rz_callV (As := [vi 0]) (c_Se_settle hw hr hg 6 0 rfl _ hB SB 0 hSB HH) m_Se_74 hSB.1 rfl rfl rfl rfl (Nat.le_of_ble_eq_true rfl) ⟨by decide, by decide⟩ ⟨by decide, by decide⟩ d_Se_finds_98 (kI (h := hB) fun r2 h2 q2 => ?_)
          obtain ⟨S2, hS2, K2, e2, L2, G2⟩ := q2
          rw [show (6 - 0 : Nat) = 6 from rfl, show (5 : Nat) ^ 6 = 15625 by decide] at e2 L2
          have es2 : (srF M 15625 0 < (0 : Int) + ((15625 : Nat) : Int)) = (srch M < 15625) := by show (srch M < (0 : Int) + ((15625 : Nat) : Int)) = _; congr 1
          have e2' : r2 = bi (decide (srch M < 15625)) := by rw [e2]; congr 1
          rw [e2']
          exact rz_zreturn (st := []) (ty := .boolean) rfl (nz_b _) d_Se_finds_101 ⟨by decide, by decide⟩ ⟨_, rfl, S2, hS2, (fun c r c7 c8 => (K2 c r (by omega)).trans (KB c r c7 c8)), rfl, (fun z q hq => (L2 (by rw [es2]; exact z) q hq).c (fun x _ => Lv6 ((okS_tri hw hr hg _).1 (srF_ok (M := M) 15625 0 (by show srch M < _; omega))) hq x)), (hFB.tr G2)⟩
        · refine rz_iload_n 2 d_Se_finds_43 rfl rfl ?_
          refine rz_iload_n 0 d_Se_finds_44 rfl rfl ?_
          refine rz_callS (As := [vi v, vi (a : Int)]) (c_Rs_hasBit hv (by decide) (by omega)) m_Se_70 rfl rfl (Nat.le_of_ble_eq_true rfl) ⟨by decide, by decide⟩ ⟨by decide, by decide⟩ d_Se_finds_45 (kE (h := hB) ?_)
          refine rz_Seq [vi (bi (kf a))] rfl ?_
          refine rz_if_eqB 90 d_Se_finds_48 (by decide) (fun c48 => ?_) (fun c48 => ?_)
          · refine rz_iinc ((a : Int) + 1) 0 [(2, vi ((a : Int) + 1)), (0, .ref se), (1, vi v)] d_Se_finds_90 rfl (by first | rfl | omega) (by decide) rfl ?_
            refine rz_goto 35 d_Se_finds_93 (by decide) ?_
            refine rz_Lsub [(2, vi ((a : Int) + 1)), (0, .ref se), (1, vi v)] [0, 1, 2] rfl ?_
            refine ih35 (a + 1, hB, SB) ?_ ?_
            · try dsimp only
              exact ⟨by omega, hSB, hFB, KB, (hq.c (fun q _ => by rw [aqT_n (by have z := c48; rw [hk a (by omega)] at z; exact Classical.not_not.1 (of_decide_eq_false z))])), (fun p hp => (hL p hp).c (fun x _ => by rw [akT_n (by have z := c48; rw [hk a (by omega)] at z; exact Classical.not_not.1 (of_decide_eq_false z))]))⟩
            · exact (by first | omega | (dsimp only; omega))
          · have hc10 : ¬ M 10 a = 0 := by have z := c48; rw [hk a (by omega)] at z; exact of_decide_eq_true z
            have w9a := w9 a (by omega) (by omega)
            have p6a := p6 a (by omega)
            obtain ⟨s1, es1, bs1⟩ := Bt.shl (n := 6) (i := M 9 a) (by decide) (by omega)
            obtain ⟨r2, er2, bq⟩ := hq.or bs1
            refine rz_aload_n 1 d_Se_finds_51 rfl rfl ?_
            refine rz_dup d_Se_finds_52 rfl ?_
            refine rz_getf f_Se_36 hSB.1 rfl d_Se_finds_53 ?_
            refine rz_iconst d_Se_finds_56 ?_
            refine rz_aload_n 1 d_Se_finds_57 rfl rfl ?_
            refine rz_getf f_Se_26 hSB.1 rfl d_Se_finds_58 ?_
            refine rz_iload_n 0 d_Se_finds_61 rfl rfl ?_
            refine rz_iaload (se_r4 hSB (i := 0) (by omega)) (show 54 ≠ 0 by decide) (by omega) d_Se_finds_62 ?_
            refine rz_Seq [vi (M 9 a), vi 1, vi (SB 7 0 0), .ref se] (by rw [KB 4 0 (by decide) (by decide), p6a.1]) ?_
            refine rz_ishl s1 es1 d_Se_finds_63 ?_
            refine rz_ior r2 er2 d_Se_finds_64 ?_
            refine se_pf 7 (by decide) hSB hFB (fp_Se_36 _) d_Se_finds_65 (fun h3 hS3 hF3 => ?_)
            obtain ⟨S3, eS3⟩ : ∃ z, z = su SB 7 0 (fun _ => r2) := ⟨_, rfl⟩
            rw [← eS3] at hS3
            have hb5 : Bt 5 (S3 5 0 a) (fun x => decide (x < 4) && vIn M (M 9 a) x (2 + a)) := by rw [eS3, su_n (by omega), KB 5 0 (by decide) (by decide)]; exact p6a.2
            have hl5 := hL (M 9 a).toNat (by omega)
            rw [Int.tn w9a.1] at hl5
            have hl6 : Bt 5 (S3 8 0 (M 9 a)) (fun x => usM M (M 9 a).toNat x && akT M a (M 9 a).toNat x) := by rw [eS3, su_n (by omega)]; exact hl5
            obtain ⟨r3, er3, bl⟩ := hl6.and hb5
            refine rz_aload_n 1 d_Se_finds_68 rfl rfl ?_
            refine rz_getf f_Se_39 hS3.1 rfl d_Se_finds_69 ?_
            refine rz_iconst d_Se_finds_72 ?_
            obtain ⟨f4, fo4, fe4⟩ := hS3.2.1 (8, 7) (by decide)
            refine rz_aaloadA fo4 (show 60 + 8 ≠ 0 by decide) (by omega) d_Se_finds_73 ?_
            refine rz_Seq [.ref (B 8 0)] (by rw [fe4 0 (by omega) (by omega)]; rfl) ?_
            refine rz_aload_n 1 d_Se_finds_74 rfl rfl ?_
            refine rz_getf f_Se_26 hS3.1 rfl d_Se_finds_75 ?_
            refine rz_iload_n 0 d_Se_finds_78 rfl rfl ?_
            refine rz_iaload (se_r4 hS3 (i := 0) (by omega)) (show 54 ≠ 0 by decide) (by omega) d_Se_finds_79 ?_
            refine rz_Seq [vi (M 9 a), .ref (B 8 0)] (by rw [eS3, su_n (by omega), KB 4 0 (by decide) (by decide), p6a.1]) ?_
            refine rz_dup2 d_Se_finds_80 rfl rfl ?_
            refine rz_iaload (se_r8 hS3 (i := 0) (by omega)) (show 58 ≠ 0 by decide) (by omega) d_Se_finds_81 ?_
            refine rz_aload_n 1 d_Se_finds_82 rfl rfl ?_
            refine rz_getf f_Se_29 hS3.1 rfl d_Se_finds_83 ?_
            refine rz_iload_n 0 d_Se_finds_86 rfl rfl ?_
            refine rz_iaload (se_r5 hS3 (i := 0) (by omega)) (show 55 ≠ 0 by decide) (by omega) d_Se_finds_87 ?_
            refine rz_iand r3 er3 d_Se_finds_88 ?_
            refine se_st8 hS3 hF3 (i := 0) (by omega) (by omega) d_Se_finds_89 (fun h5 hS5 hF5 => ?_)
            obtain ⟨S5, eS5⟩ : ∃ z, z = su S3 8 0 (rz_u (S3 8 0) (M 9 a) r3) := ⟨_, rfl⟩
            rw [← eS5] at hS5
            have LN : ∀ p : Nat, p < 6 → Bt 5 (S5 8 0 p) (fun x => usM M p x && akT M (a + 1) p x) := fun p hp => by
              rw [eS5, su_s]
              by_cases c : (p : Int) = M 9 a
              · rw [c, rz_u_s]
                exact bl.c (fun x _ => by
                  rw [akT_y (by omega) hc10 (by omega), decide_eq_false (show ¬ p ≠ (M 9 a).toNat by omega), Bool.false_or, show (M 9 a).toNat = p by omega, ← c, Bool.and_assoc])
              · rw [rz_u_n c, eS3, su_n (by omega)]
                exact (hL p hp).c (fun x _ => by rw [akT_y (by omega) hc10 (by omega), decide_eq_true (show p ≠ (M 9 a).toNat by omega), Bool.true_or, Bool.and_true])
            refine rz_iinc ((a : Int) + 1) 0 [(2, vi ((a : Int) + 1)), (0, .ref se), (1, vi v)] d_Se_finds_90 rfl (by first | rfl | omega) (by decide) rfl ?_
            refine rz_goto 35 d_Se_finds_93 (by decide) ?_
            refine rz_Lsub [(2, vi ((a : Int) + 1)), (0, .ref se), (1, vi v)] [0, 1, 2] rfl ?_
            refine ih35 (a + 1, h5, S5) ?_ ?_
            · try dsimp only
              exact ⟨by omega, hS5, hF5, (fun c r c7 c8 => by rw [eS5, su_n (by omega), eS3, su_n (by omega)]; exact KB c r c7 c8), (by rw [eS5, su_n (by omega), eS3, su_s]; exact bq.c (fun q _ => by rw [aqT_y (by omega) hc10 (by omega)])), LN⟩
            · exact (by first | omega | (dsimp only; omega))
      · refine rz_Lsub [(2, vi 0), (0, .ref se), (1, vi v)] [0, 1, 2] rfl ?_
        refine LP (0, hA, SA) ?_
        try dsimp only
        exact ⟨by omega, hSA, hFA, KA, (by rw [q0]; exact (Bt.zero 6).c (fun q _ => rfl)), (fun p2 z => by rw [lA p2 (by omega)]; exact (HU p2 z).c (fun x _ => by rw [akT, al_0, Bool.and_true]))⟩
    · refine rz_aload_n 1 d_Se_finds_13 rfl rfl ?_
      refine rz_getf f_Se_39 hSA.1 rfl d_Se_finds_14 ?_
      refine rz_iconst d_Se_finds_17 ?_
      obtain ⟨f6, fo6, fe6⟩ := hSA.2.1 (8, 7) (by decide)
      refine rz_aaloadA fo6 (show 60 + 8 ≠ 0 by decide) (by omega) d_Se_finds_18 ?_
      refine rz_Seq [.ref (B 8 0)] (by rw [fe6 0 (by omega) (by omega)]; rfl) ?_
      refine rz_iload_n 0 d_Se_finds_19 rfl rfl ?_
      refine rz_aload_n 1 d_Se_finds_20 rfl rfl ?_
      refine rz_getf f_Se_16 hSA.1 rfl d_Se_finds_21 ?_
      refine rz_iload_n 0 d_Se_finds_24 rfl rfl ?_
      refine rz_iaload (se_r1 hSA (i := 0) (by omega)) (show 51 ≠ 0 by decide) (by omega) d_Se_finds_25 ?_
      refine se_st8 hSA hFA (i := 0) (by omega) (by omega) d_Se_finds_26 (fun h7 hS7 hF7 => ?_)
      obtain ⟨S7, eS7⟩ : ∃ z, z = su SA 8 0 (rz_u (SA 8 0) (p : Int) (SA 1 0 (p : Int))) := ⟨_, rfl⟩
      rw [← eS7] at hS7
      refine rz_iinc ((p : Int) + 1) 0 [(2, vi ((p : Int) + 1)), (0, .ref se), (1, vi v)] d_Se_finds_27 rfl (by first | rfl | omega) (by decide) rfl ?_
      refine rz_goto 7 d_Se_finds_30 (by decide) ?_
      refine rz_Lsub [(2, vi ((p : Int) + 1)), (0, .ref se), (1, vi v)] [0, 1, 2] rfl ?_
      refine ih7 (p + 1, h7, S7) ?_ ?_
      · try dsimp only
        exact ⟨by omega, hS7, hF7, (fun c r c7 c8 => by rw [eS7, su_n (by omega)]; exact KA c r c7 c8), (by rw [eS7, su_n (by omega)]; exact q0), (fun p2 z => by
          rw [eS7, su_s]
          by_cases c : p2 = p
          · rw [c, rz_u_s]; exact congrFun (KA 1 0 (by decide) (by decide)) p
          · rw [rz_u_n (by omega)]; exact lA p2 (by omega))⟩
      · exact (by first | omega | (dsimp only; omega))
  · refine rz_Lsub [(2, vi 0), (0, .ref se), (1, vi v)] [0, 1, 2] rfl ?_
    refine LP (0, h1, S1) ?_
    try dsimp only
    exact ⟨by omega, hS1, hF1, (fun c r c7 c8 => by rw [eS1, su_n (by omega)]), (by rw [eS1, su_s]), (fun p2 z => absurd z (by omega))⟩

theorem ver_sub (f : Int → Int) {a e : Int} {m : Nat} (hm : (m : Int) = e - a) : ver (fun j => f (a + j)) 0 m = ver f a e := by
  have := ver_sh (shE_sub f a m)
  rw [← this, show (m : Int) + a = e by omega]
theorem vR_sub (f : Int → Int) {a e : Int} {m : Nat} (hm : (m : Int) = e - a) (k : Int) : vR f a e k = vR (fun j => f (a + j)) 0 m k ∧ vP f a e k = vP (fun j => f (a + j)) 0 m k := by
  have := vR_sh (shE_sub f a m) (by omega) k
  rwa [show (m : Int) + a = e by omega] at this
theorem vR_1 (g : Int → Int) {a b : Int} (hab : a ≤ b) (k : Int) : vR g (a + 1) (b + 1) k = vR (fun j => g (1 + j)) a b k ∧ vP g (a + 1) (b + 1) k = vP (fun j => g (1 + j)) a b k := by
  have h1 := vR_sub g (a := a + 1) (e := b + 1) (m := (b - a).toNat) (by omega) k
  have h2 := vR_sub (fun j => g (1 + j)) (a := a) (e := b) (m := (b - a).toNat) (by omega) k
  have e : (fun j => g (a + 1 + j)) = fun j => (fun j => g (1 + j)) (a + j) := by funext j; show g (a + 1 + j) = g (1 + (a + j)); congr 1; omega
  rw [h1.1, h1.2, h2.1, h2.2, e]; exact ⟨rfl, rfl⟩
theorem ver_1s (g : Int → Int) {a b : Int} (hab : a ≤ b) : ver (fun j => g (1 + j)) a b = ver g (a + 1) (b + 1) := by
  have h1 := ver_sub g (a := a + 1) (e := b + 1) (m := (b - a).toNat) (by omega)
  have h2 := ver_sub (fun j => g (1 + j)) (a := a) (e := b) (m := (b - a).toNat) (by omega)
  have e : (fun j => g (a + 1 + j)) = fun j => (fun j => g (1 + j)) (a + j) := by funext j; show g (a + 1 + j) = g (1 + (a + j)); congr 1; omega
  rw [← h1, ← h2, e]
theorem ver_00 (f : Int → Int) {a : Int} : ver f a a = false := by
  have : mIn (a - a) 1 12 = false := mIn_f.2 (by omega)
  rw [ver, this]; rfl
theorem rd_cm {g : Int → Int} {n : Nat} (hn : 2 ≤ n) (h0 : g 0 = 91 ∨ g 0 = 40) (h1 : g ((n : Int) - 1) = 93 ∨ g ((n : Int) - 1) = 41) : idF (fun j => g (1 + j)) 44 (n - 2) 0 = (if cma g n = -1 then -1 else cma g n - 1) ∧ (cma g n = -1 ∨ 0 < cma g n) := by
  refine ⟨cma_id hn (by omega) (by omega), ?_⟩
  have := cma_in g (n := (n : Int)) (by omega)
  by_cases c : cma g n = 0
  · have := cma_c g ((n : Int)).toNat 0
    have e : cmF g ((n : Int)).toNat 0 = 0 := c
    rw [e] at this; omega
  · omega
theorem rd_ex {g : Int → Int} {n : Nat} (hv : ver g 0 n = false) (hn : 2 ≤ n) (h0 : g 0 = 91 ∨ g 0 = 40) (h1 : g ((n : Int) - 1) = 93 ∨ g ((n : Int) - 1) = 41) (hc : idF (fun j => g (1 + j)) 44 (n - 2) 0 < 0) : rng g n = (decide (g 0 = 91) && decide (g ((n : Int) - 1) = 93) && ver (fun j => g (1 + j)) 0 (n - 2 : Nat)) ∧ rLo g n = some (1, (n : Int) - 1) ∧ rHi g n = some (1, (n : Int) - 1) ∧ rWl g n = decide (g 0 = 91) ∧ rWu g n = decide (g ((n : Int) - 1) = 93) := by
  have cm := rd_cm hn h0 h1
  have hneg : cma g n < 0 := by
    rw [cm.1] at hc
    split at hc <;> omega
  have hv' : ¬ ver g 0 n = true := by rw [hv]; decide
  refine ⟨?_, ?_, ?_, ?_, ?_⟩
  · by_cases c : (n : Int) < 3
    · rw [rng_2 hv c, show n - 2 = 0 by omega, show ((0 : Nat) : Int) = 0 from rfl, ver_00, Bool.and_false]
    · rw [rng_ex hv (by omega) h0 h1 hneg, ver_1s g (by omega), show (0 : Int) + 1 = 1 from rfl, show ((n - 2 : Nat) : Int) + 1 = (n : Int) - 1 by omega]
  · rw [rLo, if_neg hv', if_pos hneg]
  · rw [rHi, if_neg hv', if_pos hneg]
  · rw [rWl, if_neg hv']
  · rw [rWu, if_neg hv']
theorem rd_bd {g : Int → Int} {n : Nat} {k : Int} (hv : ver g 0 n = false) (hn : 2 ≤ n) (h0 : g 0 = 91 ∨ g 0 = 40) (h1 : g ((n : Int) - 1) = 93 ∨ g ((n : Int) - 1) = 41) (hk : idF (fun j => g (1 + j)) 44 (n - 2) 0 = k) (hc : 0 ≤ k) : rng g n = ((decide (k = 0) || ver (fun j => g (1 + j)) 0 k) && (decide (k + 1 = (n - 2 : Nat)) || ver (fun j => g (1 + j)) (k + 1) (n - 2 : Nat))) ∧ rLo g n = (if k = 0 then none else some (0 + 1, k + 1)) ∧ rHi g n = (if k + 1 = (n - 2 : Nat) then none else some (k + 1 + 1, ((n - 2 : Nat) : Int) + 1)) ∧ rWl g n = decide (g 0 = 91) ∧ rWu g n = decide (g ((n : Int) - 1) = 93) := by
  have cm := rd_cm hn h0 h1
  have ki := idF_in (fun j => g (1 + j)) 44 (n - 2) 0
  have ek : cma g n = k + 1 := by
    rw [hk] at cm
    have := cm.1
    split at this <;> omega
  rw [hk] at ki
  have hv' : ¬ ver g 0 n = true := by rw [hv]; decide
  refine ⟨?_, ?_, ?_, ?_, ?_⟩
  · rw [rng_bd hv (by omega) h0 h1 (by omega), ek, ver_1s g (by omega), ver_1s g (by omega)]
    rw [show (0 : Int) + 1 = 1 from rfl, show ((n - 2 : Nat) : Int) + 1 = (n : Int) - 1 by omega]
    congr 2
    · congr 1; simp; omega
    · congr 1; simp; omega
  · rw [rLo, if_neg hv', if_neg (by omega), ek]
    by_cases c : k = 0
    · rw [if_pos c, if_pos (by omega)]
    · rw [if_neg c, if_neg (by omega)]; rfl
  · rw [rHi, if_neg hv', if_neg (by omega), ek]
    by_cases c : k + 1 = (n - 2 : Nat)
    · rw [if_pos c, if_pos (by omega)]
    · rw [if_neg c, if_neg (by omega), show ((n - 2 : Nat) : Int) + 1 = (n : Int) - 1 by omega]
  · rw [rWl, if_neg hv']
  · rw [rWu, if_neg hv']

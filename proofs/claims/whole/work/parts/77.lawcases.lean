/-! the law's cases -/
set_option maxRecDepth 100000 in
set_option maxHeartbeats 4000000 in
theorem lw_c0 {Γ : rz_G} {K : rz_K} {nm : String} {b Lx x y : Nat} {xs : Nat → Int32} {h : rz_H} {A : Nat → Int → Nat} {B : Nat → Int → Nat} {S : Nat → Int → Int → Int} {M : Nat → Int → Int} {F : Int → Int → Int} {ad : Nat → Nat} {i : Int} {c s : Nat} (E : lwE Γ K b Lx xs) (hi : 0 ≤ i ∧ i + 5 ≤ (Lx : Int) ∧ Lx ≤ 2560) (hcs : c + 100 ≤ 600000 ∧ s + 2000 ≤ 7302250) (hR : RsAt Γ h x A B S M F) (hM : MdAt Γ h y ad M) (hB : Big M F) (nx : ∀ (h' : rz_H) (A' : Nat → Int → Nat) (S' : Nat → Int → Int → Int) (M' : Nat → Int → Int) (F' : Int → Int → Int), RsAt Γ h' x A' B S' M' F' → MdAt Γ h' y ad M' → Big M' F' → Wk Γ (x_law nm) room_1 lwP K (c + 100) (s + 2000) 629 [(3, vi i), (2, .ref y), (1, .ref x), (0, .ref b)] [] h') : Wk Γ (x_law nm) room_1 lwP K c s 116 [(3, vi i), (2, .ref y), (1, .ref x), (0, .ref b)] [] h := by
  refine rz_aload_n 2 d_law_116 rfl rfl ?_
  refine rz_aload_n 3 d_law_117 rfl rfl ?_
  refine rz_iload_n 0 d_law_118 rfl rfl ?_
  refine rz_iconst d_law_119 ?_
  refine rz_iadd d_law_120 ?_
  refine rz_sld E (by omega) d_law_121 ?_
  refine rz_aload_n 3 d_law_122 rfl rfl ?_
  refine rz_iload_n 0 d_law_123 rfl rfl ?_
  refine rz_iconst d_law_124 ?_
  refine rz_iadd d_law_125 ?_
  refine rz_sld E (by omega) d_law_126 ?_
  refine rz_aload_n 3 d_law_127 rfl rfl ?_
  refine rz_iload_n 0 d_law_128 rfl rfl ?_
  refine rz_iconst d_law_129 ?_
  refine rz_iadd d_law_130 ?_
  refine rz_sld E (by omega) d_law_131 ?_
  refine rz_aload_n 3 d_law_132 rfl rfl ?_
  refine rz_iload_n 0 d_law_133 rfl rfl ?_
  refine rz_iconst d_law_134 ?_
  refine rz_iadd d_law_135 ?_
  refine rz_sld E (by omega) d_law_136 ?_
  obtain ⟨⟨bl0, fx0, _⟩, _⟩ := id hR
  refine rz_callV (As := [vi (sx xs (i + 1)), vi (sx xs (i + 2)), vi (sx xs (i + 3)), vi (sx xs (i + 4))]) (c_Rs_write hR hB (sx_r _ _) (sx_r _ _) (sx_r _ _) (sx_r _ _)) m_Lw_13 fx0 rfl rfl rfl rfl (Nat.le_of_ble_eq_true rfl) ⟨by decide, by decide⟩ (lw_rm hcs (by decide) (by decide)) d_law_137 (kI (h := h) fun r1 h1 q1 => ?_)
  obtain ⟨er1, A1, S1, hR1, G1⟩ := q1
  subst er1
  have hM1 := hM.fq G1
  refine rz_aload_n 1 d_law_140 rfl rfl ?_
  refine rz_aload_n 3 d_law_141 rfl rfl ?_
  refine rz_iload_n 0 d_law_142 rfl rfl ?_
  refine rz_iconst d_law_143 ?_
  refine rz_iadd d_law_144 ?_
  refine rz_sld E (by omega) d_law_145 ?_
  refine rz_aload_n 3 d_law_146 rfl rfl ?_
  refine rz_iload_n 0 d_law_147 rfl rfl ?_
  refine rz_iconst d_law_148 ?_
  refine rz_iadd d_law_149 ?_
  refine rz_sld E (by omega) d_law_150 ?_
  refine rz_aload_n 3 d_law_151 rfl rfl ?_
  refine rz_iload_n 0 d_law_152 rfl rfl ?_
  refine rz_iconst d_law_153 ?_
  refine rz_iadd d_law_154 ?_
  refine rz_sld E (by omega) d_law_155 ?_
  refine rz_aload_n 3 d_law_156 rfl rfl ?_
  refine rz_iload_n 0 d_law_157 rfl rfl ?_
  refine rz_iconst d_law_158 ?_
  refine rz_iadd d_law_159 ?_
  refine rz_sld E (by omega) d_law_160 ?_
  refine rz_callV (As := [vi (sx xs (i + 1)), vi (sx xs (i + 2)), vi (sx xs (i + 3)), vi (sx xs (i + 4))]) (c_Md_write hM1 hB.wf (sx_r _ _) (sx_r _ _) (sx_r _ _) (sx_r _ _)) m_Lw_17 hM1.1 rfl rfl rfl rfl (Nat.le_of_ble_eq_true rfl) ⟨by decide, by decide⟩ (lw_rm (c := c) (s := s) (k := 4) (n := 136) hcs (by decide) (by decide)) d_law_161 (kI (h := h1) fun r2 h2 q2 => ?_)
  obtain ⟨er2, hM2, G2⟩ := q2
  subst er2
  refine rz_icmp_same 629 d_law_164 (by decide) ?_
  exact Wk.widen (k := c + 100) (n := s + 2000) (show c + 4 + 0 ≤ c + 100 by omega) (show s + 136 + 0 ≤ s + 2000 by omega) (nx h2 A1 S1 _ F (hR1.md G2) hM2 (hB.write (sx xs (i + 1)) (sx xs (i + 2)) (sx xs (i + 3)) (sx xs (i + 4))))
set_option maxRecDepth 100000 in
set_option maxHeartbeats 4000000 in
theorem lw_c1 {Γ : rz_G} {K : rz_K} {nm : String} {b Lx x y : Nat} {xs : Nat → Int32} {h : rz_H} {A : Nat → Int → Nat} {B : Nat → Int → Nat} {S : Nat → Int → Int → Int} {M : Nat → Int → Int} {F : Int → Int → Int} {ad : Nat → Nat} {i : Int} {c s : Nat} (E : lwE Γ K b Lx xs) (hi : 0 ≤ i ∧ i + 5 ≤ (Lx : Int) ∧ Lx ≤ 2560) (hcs : c + 100 ≤ 600000 ∧ s + 2000 ≤ 7302250) (hR : RsAt Γ h x A B S M F) (hM : MdAt Γ h y ad M) (hB : Big M F) (nx : ∀ (h' : rz_H) (A' : Nat → Int → Nat) (S' : Nat → Int → Int → Int) (M' : Nat → Int → Int) (F' : Int → Int → Int), RsAt Γ h' x A' B S' M' F' → MdAt Γ h' y ad M' → Big M' F' → Wk Γ (x_law nm) room_1 lwP K (c + 100) (s + 2000) 629 [(3, vi i), (2, .ref y), (1, .ref x), (0, .ref b)] [] h') : Wk Γ (x_law nm) room_1 lwP K c s 169 [(3, vi i), (2, .ref y), (1, .ref x), (0, .ref b)] [] h := by
  refine rz_aload_n 2 d_law_169 rfl rfl ?_
  obtain ⟨⟨bl0, fx0, _⟩, _⟩ := id hR
  refine rz_callV (As := []) (c_Rs_wipe hR hB ) m_Lw_18 fx0 rfl rfl rfl rfl (Nat.le_of_ble_eq_true rfl) ⟨by decide, by decide⟩ (lw_rm hcs (by decide) (by decide)) d_law_170 (kI (h := h) fun r1 h1 q1 => ?_)
  obtain ⟨er1, A1, S1, hR1, G1⟩ := q1
  subst er1
  have hM1 := hM.fq G1
  refine rz_aload_n 1 d_law_173 rfl rfl ?_
  refine rz_callV (As := []) (c_Md_wipe hM1 hB.wf ) m_Lw_22 hM1.1 rfl rfl rfl rfl (Nat.le_of_ble_eq_true rfl) ⟨by decide, by decide⟩ (lw_rm (c := c) (s := s) (k := 1) (n := 34) hcs (by decide) (by decide)) d_law_174 (kI (h := h1) fun r2 h2 q2 => ?_)
  obtain ⟨er2, hM2, G2⟩ := q2
  subst er2
  refine rz_icmp_same 629 d_law_177 (by decide) ?_
  exact Wk.widen (k := c + 100) (n := s + 2000) (show c + 1 + 0 ≤ c + 100 by omega) (show s + 34 + 0 ≤ s + 2000 by omega) (nx h2 A1 S1 _ F (hR1.md G2) hM2 hB.use)
set_option maxRecDepth 100000 in
set_option maxHeartbeats 4000000 in
theorem lw_c2 {Γ : rz_G} {K : rz_K} {nm : String} {b Lx x y : Nat} {xs : Nat → Int32} {h : rz_H} {A : Nat → Int → Nat} {B : Nat → Int → Nat} {S : Nat → Int → Int → Int} {M : Nat → Int → Int} {F : Int → Int → Int} {ad : Nat → Nat} {i : Int} {c s : Nat} (E : lwE Γ K b Lx xs) (hi : 0 ≤ i ∧ i + 5 ≤ (Lx : Int) ∧ Lx ≤ 2560) (hcs : c + 100 ≤ 600000 ∧ s + 2000 ≤ 7302250) (hR : RsAt Γ h x A B S M F) (hM : MdAt Γ h y ad M) (hB : Big M F) (nx : ∀ (h' : rz_H) (A' : Nat → Int → Nat) (S' : Nat → Int → Int → Int) (M' : Nat → Int → Int) (F' : Int → Int → Int), RsAt Γ h' x A' B S' M' F' → MdAt Γ h' y ad M' → Big M' F' → Wk Γ (x_law nm) room_1 lwP K (c + 100) (s + 2000) 629 [(3, vi i), (2, .ref y), (1, .ref x), (0, .ref b)] [] h') : Wk Γ (x_law nm) room_1 lwP K c s 182 [(3, vi i), (2, .ref y), (1, .ref x), (0, .ref b)] [] h := by
  refine rz_aload_n 2 d_law_182 rfl rfl ?_
  refine rz_aload_n 3 d_law_183 rfl rfl ?_
  refine rz_iload_n 0 d_law_184 rfl rfl ?_
  refine rz_iconst d_law_185 ?_
  refine rz_iadd d_law_186 ?_
  refine rz_sld E (by omega) d_law_187 ?_
  obtain ⟨⟨bl0, fx0, _⟩, _⟩ := id hR
  refine rz_callV (As := [vi (sx xs (i + 1))]) (c_Rs_release hR hB (sx_r _ _)) m_Lw_23 fx0 rfl rfl rfl rfl (Nat.le_of_ble_eq_true rfl) ⟨by decide, by decide⟩ (lw_rm hcs (by decide) (by decide)) d_law_188 (kI (h := h) fun r1 h1 q1 => ?_)
  obtain ⟨er1, A1, S1, hR1, G1⟩ := q1
  subst er1
  have hM1 := hM.fq G1
  refine rz_aload_n 1 d_law_191 rfl rfl ?_
  refine rz_aload_n 3 d_law_192 rfl rfl ?_
  refine rz_iload_n 0 d_law_193 rfl rfl ?_
  refine rz_iconst d_law_194 ?_
  refine rz_iadd d_law_195 ?_
  refine rz_sld E (by omega) d_law_196 ?_
  refine rz_callV (As := [vi (sx xs (i + 1))]) (c_Md_release hM1 hB.wf hB.val.1 (sx_r _ _)) m_Lw_27 hM1.1 rfl rfl rfl rfl (Nat.le_of_ble_eq_true rfl) ⟨by decide, by decide⟩ (lw_rm (c := c) (s := s) (k := 33) (n := 571) hcs (by decide) (by decide)) d_law_197 (kI (h := h1) fun r2 h2 q2 => ?_)
  obtain ⟨er2, M2, hM2, hs2, G2⟩ := q2
  subst er2
  refine rz_icmp_same 629 d_law_200 (by decide) ?_
  exact Wk.widen (k := c + 100) (n := s + 2000) (show c + 33 + 0 ≤ c + 100 by omega) (show s + 571 + 0 ≤ s + 2000 by omega) (nx h2 A1 S1 M2 _ ((hR1.md G2).s2 (hB.release (sx xs (i + 1))).wf hs2) hM2 ((hB.release (sx xs (i + 1))).s2 hs2))
set_option maxRecDepth 100000 in
set_option maxHeartbeats 4000000 in
theorem lw_c3 {Γ : rz_G} {K : rz_K} {nm : String} {b Lx x y : Nat} {xs : Nat → Int32} {h : rz_H} {A : Nat → Int → Nat} {B : Nat → Int → Nat} {S : Nat → Int → Int → Int} {M : Nat → Int → Int} {F : Int → Int → Int} {ad : Nat → Nat} {i : Int} {c s : Nat} (E : lwE Γ K b Lx xs) (hi : 0 ≤ i ∧ i + 5 ≤ (Lx : Int) ∧ Lx ≤ 2560) (hcs : c + 100 ≤ 600000 ∧ s + 2000 ≤ 7302250) (hR : RsAt Γ h x A B S M F) (hM : MdAt Γ h y ad M) (hB : Big M F) (nx : ∀ (h' : rz_H) (A' : Nat → Int → Nat) (S' : Nat → Int → Int → Int) (M' : Nat → Int → Int) (F' : Int → Int → Int), RsAt Γ h' x A' B S' M' F' → MdAt Γ h' y ad M' → Big M' F' → Wk Γ (x_law nm) room_1 lwP K (c + 100) (s + 2000) 629 [(3, vi i), (2, .ref y), (1, .ref x), (0, .ref b)] [] h') : Wk Γ (x_law nm) room_1 lwP K c s 205 [(3, vi i), (2, .ref y), (1, .ref x), (0, .ref b)] [] h := by
  by_cases cz : sx xs (i + 4) = 0
  · refine rz_aload_n 2 d_law_205 rfl rfl ?_
    refine rz_aload_n 3 d_law_206 rfl rfl ?_
    refine rz_iload_n 0 d_law_207 rfl rfl ?_
    refine rz_iconst d_law_208 ?_
    refine rz_iadd d_law_209 ?_
    refine rz_sld E (by omega) d_law_210 ?_
    refine rz_aload_n 3 d_law_211 rfl rfl ?_
    refine rz_iload_n 0 d_law_212 rfl rfl ?_
    refine rz_iconst d_law_213 ?_
    refine rz_iadd d_law_214 ?_
    refine rz_sld E (by omega) d_law_215 ?_
    refine rz_aload_n 3 d_law_216 rfl rfl ?_
    refine rz_iload_n 0 d_law_217 rfl rfl ?_
    refine rz_iconst d_law_218 ?_
    refine rz_iadd d_law_219 ?_
    refine rz_sld E (by omega) d_law_220 ?_
    refine rz_aload_n 3 d_law_221 rfl rfl ?_
    refine rz_iload_n 0 d_law_222 rfl rfl ?_
    refine rz_iconst d_law_223 ?_
    refine rz_iadd d_law_224 ?_
    refine rz_sld E (by omega) d_law_225 ?_
    refine rz_if_eq 233 d_law_226 (by decide) (sx_r _ _) (fun c226 => ?_) (fun c226 => absurd c226 (fun z => z cz))
    refine rz_iconst d_law_233 ?_
    obtain ⟨⟨bl0, fx0, _⟩, _⟩ := id hR
    refine rz_callV (As := [vi (sx xs (i + 1)), vi (sx xs (i + 2)), vi (sx xs (i + 3)), vi 0]) (c_Rs_need (opt := false) hR hB (sx_r _ _) (sx_r _ _) (sx_r _ _)) m_Lw_28 fx0 rfl rfl rfl rfl (Nat.le_of_ble_eq_true rfl) ⟨by decide, by decide⟩ (lw_rm hcs (by decide) (by decide)) d_law_234 (kI (h := h) fun r1 h1 q1 => ?_)
    obtain ⟨er1, A1, S1, hR1, G1⟩ := q1
    subst er1
    have hM1 := hM.fq G1
    refine rz_aload_n 1 d_law_237 rfl rfl ?_
    refine rz_aload_n 3 d_law_238 rfl rfl ?_
    refine rz_iload_n 0 d_law_239 rfl rfl ?_
    refine rz_iconst d_law_240 ?_
    refine rz_iadd d_law_241 ?_
    refine rz_sld E (by omega) d_law_242 ?_
    refine rz_aload_n 3 d_law_243 rfl rfl ?_
    refine rz_iload_n 0 d_law_244 rfl rfl ?_
    refine rz_iconst d_law_245 ?_
    refine rz_iadd d_law_246 ?_
    refine rz_sld E (by omega) d_law_247 ?_
    refine rz_aload_n 3 d_law_248 rfl rfl ?_
    refine rz_iload_n 0 d_law_249 rfl rfl ?_
    refine rz_iconst d_law_250 ?_
    refine rz_iadd d_law_251 ?_
    refine rz_sld E (by omega) d_law_252 ?_
    refine rz_aload_n 3 d_law_253 rfl rfl ?_
    refine rz_iload_n 0 d_law_254 rfl rfl ?_
    refine rz_iconst d_law_255 ?_
    refine rz_iadd d_law_256 ?_
    refine rz_sld E (by omega) d_law_257 ?_
    refine rz_if_eq 265 d_law_258 (by decide) (sx_r _ _) (fun c258 => ?_) (fun c258 => absurd c258 (fun z => z cz))
    refine rz_iconst d_law_265 ?_
    refine rz_callV (As := [vi (sx xs (i + 1)), vi (sx xs (i + 2)), vi (sx xs (i + 3)), vi 0]) (c_Md_need (opt := false) hM1 hB.wf (sx_r _ _) (sx_r _ _) (sx_r _ _)) m_Lw_32 hM1.1 rfl rfl rfl rfl (Nat.le_of_ble_eq_true rfl) ⟨by decide, by decide⟩ (lw_rm (c := c) (s := s) (k := 66) (n := 1167) hcs (by decide) (by decide)) d_law_266 (kI (h := h1) fun r2 h2 q2 => ?_)
    obtain ⟨er2, M2, hM2, hs2, G2⟩ := q2
    subst er2
    refine rz_icmp_same 629 d_law_269 (by decide) ?_
    exact Wk.widen (k := c + 100) (n := s + 2000) (show c + 66 + 0 ≤ c + 100 by omega) (show s + 1167 + 0 ≤ s + 2000 by omega) (nx h2 A1 S1 M2 _ ((hR1.md G2).s2 (hB.need (sx xs (i + 1)) (sx xs (i + 2)) (sx xs (i + 3)) false).wf hs2) hM2 ((hB.need (sx xs (i + 1)) (sx xs (i + 2)) (sx xs (i + 3)) false).s2 hs2))
  · refine rz_aload_n 2 d_law_205 rfl rfl ?_
    refine rz_aload_n 3 d_law_206 rfl rfl ?_
    refine rz_iload_n 0 d_law_207 rfl rfl ?_
    refine rz_iconst d_law_208 ?_
    refine rz_iadd d_law_209 ?_
    refine rz_sld E (by omega) d_law_210 ?_
    refine rz_aload_n 3 d_law_211 rfl rfl ?_
    refine rz_iload_n 0 d_law_212 rfl rfl ?_
    refine rz_iconst d_law_213 ?_
    refine rz_iadd d_law_214 ?_
    refine rz_sld E (by omega) d_law_215 ?_
    refine rz_aload_n 3 d_law_216 rfl rfl ?_
    refine rz_iload_n 0 d_law_217 rfl rfl ?_
    refine rz_iconst d_law_218 ?_
    refine rz_iadd d_law_219 ?_
    refine rz_sld E (by omega) d_law_220 ?_
    refine rz_aload_n 3 d_law_221 rfl rfl ?_
    refine rz_iload_n 0 d_law_222 rfl rfl ?_
    refine rz_iconst d_law_223 ?_
    refine rz_iadd d_law_224 ?_
    refine rz_sld E (by omega) d_law_225 ?_
    refine rz_if_eq 233 d_law_226 (by decide) (sx_r _ _) (fun c226 => absurd c226 cz) (fun c226 => ?_)
    refine rz_iconst d_law_229 ?_
    refine rz_goto 234 d_law_230 (by decide) ?_
    obtain ⟨⟨bl0, fx0, _⟩, _⟩ := id hR
    refine rz_callV (As := [vi (sx xs (i + 1)), vi (sx xs (i + 2)), vi (sx xs (i + 3)), vi 1]) (c_Rs_need (opt := true) hR hB (sx_r _ _) (sx_r _ _) (sx_r _ _)) m_Lw_28 fx0 rfl rfl rfl rfl (Nat.le_of_ble_eq_true rfl) ⟨by decide, by decide⟩ (lw_rm hcs (by decide) (by decide)) d_law_234 (kI (h := h) fun r1 h1 q1 => ?_)
    obtain ⟨er1, A1, S1, hR1, G1⟩ := q1
    subst er1
    have hM1 := hM.fq G1
    refine rz_aload_n 1 d_law_237 rfl rfl ?_
    refine rz_aload_n 3 d_law_238 rfl rfl ?_
    refine rz_iload_n 0 d_law_239 rfl rfl ?_
    refine rz_iconst d_law_240 ?_
    refine rz_iadd d_law_241 ?_
    refine rz_sld E (by omega) d_law_242 ?_
    refine rz_aload_n 3 d_law_243 rfl rfl ?_
    refine rz_iload_n 0 d_law_244 rfl rfl ?_
    refine rz_iconst d_law_245 ?_
    refine rz_iadd d_law_246 ?_
    refine rz_sld E (by omega) d_law_247 ?_
    refine rz_aload_n 3 d_law_248 rfl rfl ?_
    refine rz_iload_n 0 d_law_249 rfl rfl ?_
    refine rz_iconst d_law_250 ?_
    refine rz_iadd d_law_251 ?_
    refine rz_sld E (by omega) d_law_252 ?_
    refine rz_aload_n 3 d_law_253 rfl rfl ?_
    refine rz_iload_n 0 d_law_254 rfl rfl ?_
    refine rz_iconst d_law_255 ?_
    refine rz_iadd d_law_256 ?_
    refine rz_sld E (by omega) d_law_257 ?_
    refine rz_if_eq 265 d_law_258 (by decide) (sx_r _ _) (fun c258 => absurd c258 cz) (fun c258 => ?_)
    refine rz_iconst d_law_261 ?_
    refine rz_goto 266 d_law_262 (by decide) ?_
    refine rz_callV (As := [vi (sx xs (i + 1)), vi (sx xs (i + 2)), vi (sx xs (i + 3)), vi 1]) (c_Md_need (opt := true) hM1 hB.wf (sx_r _ _) (sx_r _ _) (sx_r _ _)) m_Lw_32 hM1.1 rfl rfl rfl rfl (Nat.le_of_ble_eq_true rfl) ⟨by decide, by decide⟩ (lw_rm (c := c) (s := s) (k := 66) (n := 1167) hcs (by decide) (by decide)) d_law_266 (kI (h := h1) fun r2 h2 q2 => ?_)
    obtain ⟨er2, M2, hM2, hs2, G2⟩ := q2
    subst er2
    refine rz_icmp_same 629 d_law_269 (by decide) ?_
    exact Wk.widen (k := c + 100) (n := s + 2000) (show c + 66 + 0 ≤ c + 100 by omega) (show s + 1167 + 0 ≤ s + 2000 by omega) (nx h2 A1 S1 M2 _ ((hR1.md G2).s2 (hB.need (sx xs (i + 1)) (sx xs (i + 2)) (sx xs (i + 3)) true).wf hs2) hM2 ((hB.need (sx xs (i + 1)) (sx xs (i + 2)) (sx xs (i + 3)) true).s2 hs2))
set_option maxRecDepth 100000 in
set_option maxHeartbeats 4000000 in
theorem lw_c4 {Γ : rz_G} {K : rz_K} {nm : String} {b Lx x y : Nat} {xs : Nat → Int32} {h : rz_H} {A : Nat → Int → Nat} {B : Nat → Int → Nat} {S : Nat → Int → Int → Int} {M : Nat → Int → Int} {F : Int → Int → Int} {ad : Nat → Nat} {i : Int} {c s : Nat} (E : lwE Γ K b Lx xs) (hi : 0 ≤ i ∧ i + 5 ≤ (Lx : Int) ∧ Lx ≤ 2560) (hcs : c + 100 ≤ 600000 ∧ s + 2000 ≤ 7302250) (hR : RsAt Γ h x A B S M F) (hM : MdAt Γ h y ad M) (hB : Big M F) (nx : ∀ (h' : rz_H) (A' : Nat → Int → Nat) (S' : Nat → Int → Int → Int) (M' : Nat → Int → Int) (F' : Int → Int → Int), RsAt Γ h' x A' B S' M' F' → MdAt Γ h' y ad M' → Big M' F' → Wk Γ (x_law nm) room_1 lwP K (c + 100) (s + 2000) 629 [(3, vi i), (2, .ref y), (1, .ref x), (0, .ref b)] [] h') : Wk Γ (x_law nm) room_1 lwP K c s 274 [(3, vi i), (2, .ref y), (1, .ref x), (0, .ref b)] [] h := by
  refine rz_aload_n 2 d_law_274 rfl rfl ?_
  refine rz_aload_n 3 d_law_275 rfl rfl ?_
  refine rz_iload_n 0 d_law_276 rfl rfl ?_
  refine rz_iconst d_law_277 ?_
  refine rz_iadd d_law_278 ?_
  refine rz_sld E (by omega) d_law_279 ?_
  refine rz_aload_n 3 d_law_280 rfl rfl ?_
  refine rz_iload_n 0 d_law_281 rfl rfl ?_
  refine rz_iconst d_law_282 ?_
  refine rz_iadd d_law_283 ?_
  refine rz_sld E (by omega) d_law_284 ?_
  obtain ⟨⟨bl0, fx0, _⟩, _⟩ := id hR
  refine rz_callV (As := [vi (sx xs (i + 1)), vi (sx xs (i + 2))]) (c_Rs_needHost hR hB (sx_r _ _) (sx_r _ _)) m_Lw_33 fx0 rfl rfl rfl rfl (Nat.le_of_ble_eq_true rfl) ⟨by decide, by decide⟩ (lw_rm hcs (by decide) (by decide)) d_law_285 (kI (h := h) fun r1 h1 q1 => ?_)
  obtain ⟨er1, A1, S1, hR1, G1⟩ := q1
  subst er1
  have hM1 := hM.fq G1
  refine rz_aload_n 1 d_law_288 rfl rfl ?_
  refine rz_aload_n 3 d_law_289 rfl rfl ?_
  refine rz_iload_n 0 d_law_290 rfl rfl ?_
  refine rz_iconst d_law_291 ?_
  refine rz_iadd d_law_292 ?_
  refine rz_sld E (by omega) d_law_293 ?_
  refine rz_aload_n 3 d_law_294 rfl rfl ?_
  refine rz_iload_n 0 d_law_295 rfl rfl ?_
  refine rz_iconst d_law_296 ?_
  refine rz_iadd d_law_297 ?_
  refine rz_sld E (by omega) d_law_298 ?_
  refine rz_callV (As := [vi (sx xs (i + 1)), vi (sx xs (i + 2))]) (c_Md_needHost hM1 hB.wf (sx_r _ _) (sx_r _ _)) m_Lw_37 hM1.1 rfl rfl rfl rfl (Nat.le_of_ble_eq_true rfl) ⟨by decide, by decide⟩ (lw_rm (c := c) (s := s) (k := 64) (n := 1154) hcs (by decide) (by decide)) d_law_299 (kI (h := h1) fun r2 h2 q2 => ?_)
  obtain ⟨er2, M2, hM2, hs2, G2⟩ := q2
  subst er2
  refine rz_icmp_same 629 d_law_302 (by decide) ?_
  exact Wk.widen (k := c + 100) (n := s + 2000) (show c + 64 + 0 ≤ c + 100 by omega) (show s + 1154 + 0 ≤ s + 2000 by omega) (nx h2 A1 S1 M2 _ ((hR1.md G2).s2 (hB.needHost (sx xs (i + 1)) (sx xs (i + 2))).wf hs2) hM2 ((hB.needHost (sx xs (i + 1)) (sx xs (i + 2))).s2 hs2))
set_option maxRecDepth 100000 in
set_option maxHeartbeats 4000000 in
theorem lw_c5 {Γ : rz_G} {K : rz_K} {nm : String} {b Lx x y : Nat} {xs : Nat → Int32} {h : rz_H} {A : Nat → Int → Nat} {B : Nat → Int → Nat} {S : Nat → Int → Int → Int} {M : Nat → Int → Int} {F : Int → Int → Int} {ad : Nat → Nat} {i : Int} {c s : Nat} (E : lwE Γ K b Lx xs) (hi : 0 ≤ i ∧ i + 5 ≤ (Lx : Int) ∧ Lx ≤ 2560) (hcs : c + 100 ≤ 600000 ∧ s + 2000 ≤ 7302250) (hR : RsAt Γ h x A B S M F) (hM : MdAt Γ h y ad M) (hB : Big M F) (nx : ∀ (h' : rz_H) (A' : Nat → Int → Nat) (S' : Nat → Int → Int → Int) (M' : Nat → Int → Int) (F' : Int → Int → Int), RsAt Γ h' x A' B S' M' F' → MdAt Γ h' y ad M' → Big M' F' → Wk Γ (x_law nm) room_1 lwP K (c + 100) (s + 2000) 629 [(3, vi i), (2, .ref y), (1, .ref x), (0, .ref b)] [] h') : Wk Γ (x_law nm) room_1 lwP K c s 307 [(3, vi i), (2, .ref y), (1, .ref x), (0, .ref b)] [] h := by
  by_cases cz : sx xs (i + 3) = 0
  · refine rz_aload_n 2 d_law_307 rfl rfl ?_
    refine rz_aload_n 3 d_law_308 rfl rfl ?_
    refine rz_iload_n 0 d_law_309 rfl rfl ?_
    refine rz_iconst d_law_310 ?_
    refine rz_iadd d_law_311 ?_
    refine rz_sld E (by omega) d_law_312 ?_
    refine rz_aload_n 3 d_law_313 rfl rfl ?_
    refine rz_iload_n 0 d_law_314 rfl rfl ?_
    refine rz_iconst d_law_315 ?_
    refine rz_iadd d_law_316 ?_
    refine rz_sld E (by omega) d_law_317 ?_
    refine rz_aload_n 3 d_law_318 rfl rfl ?_
    refine rz_iload_n 0 d_law_319 rfl rfl ?_
    refine rz_iconst d_law_320 ?_
    refine rz_iadd d_law_321 ?_
    refine rz_sld E (by omega) d_law_322 ?_
    refine rz_if_eq 330 d_law_323 (by decide) (sx_r _ _) (fun c323 => ?_) (fun c323 => absurd c323 (fun z => z cz))
    refine rz_iconst d_law_330 ?_
    obtain ⟨⟨bl0, fx0, _⟩, _⟩ := id hR
    refine rz_callV (As := [vi (sx xs (i + 1)), vi (sx xs (i + 2)), vi 0]) (c_Rs_withdraw (on := false) hR hB (sx_r _ _) (sx_r _ _)) m_Lw_38 fx0 rfl rfl rfl rfl (Nat.le_of_ble_eq_true rfl) ⟨by decide, by decide⟩ (lw_rm hcs (by decide) (by decide)) d_law_331 (kI (h := h) fun r1 h1 q1 => ?_)
    obtain ⟨er1, A1, S1, hR1, G1⟩ := q1
    subst er1
    have hM1 := hM.fq G1
    refine rz_aload_n 1 d_law_334 rfl rfl ?_
    refine rz_aload_n 3 d_law_335 rfl rfl ?_
    refine rz_iload_n 0 d_law_336 rfl rfl ?_
    refine rz_iconst d_law_337 ?_
    refine rz_iadd d_law_338 ?_
    refine rz_sld E (by omega) d_law_339 ?_
    refine rz_aload_n 3 d_law_340 rfl rfl ?_
    refine rz_iload_n 0 d_law_341 rfl rfl ?_
    refine rz_iconst d_law_342 ?_
    refine rz_iadd d_law_343 ?_
    refine rz_sld E (by omega) d_law_344 ?_
    refine rz_aload_n 3 d_law_345 rfl rfl ?_
    refine rz_iload_n 0 d_law_346 rfl rfl ?_
    refine rz_iconst d_law_347 ?_
    refine rz_iadd d_law_348 ?_
    refine rz_sld E (by omega) d_law_349 ?_
    refine rz_if_eq 357 d_law_350 (by decide) (sx_r _ _) (fun c350 => ?_) (fun c350 => absurd c350 (fun z => z cz))
    refine rz_iconst d_law_357 ?_
    refine rz_callV (As := [vi (sx xs (i + 1)), vi (sx xs (i + 2)), vi 0]) (c_Md_withdraw (on := false) hM1 hB.wf (sx_r _ _) (sx_r _ _)) m_Lw_42 hM1.1 rfl rfl rfl rfl (Nat.le_of_ble_eq_true rfl) ⟨by decide, by decide⟩ (lw_rm (c := c) (s := s) (k := 0) (n := 0) hcs (by decide) (by decide)) d_law_358 (kI (h := h1) fun r2 h2 q2 => ?_)
    obtain ⟨er2, M2, hM2, hs2, G2⟩ := q2
    subst er2
    refine rz_icmp_same 629 d_law_361 (by decide) ?_
    exact Wk.widen (k := c + 100) (n := s + 2000) (show c + 0 + 0 ≤ c + 100 by omega) (show s + 0 + 0 ≤ s + 2000 by omega) (nx h2 A1 S1 M2 _ ((hR1.md G2).s2 (hB.withdraw (sx xs (i + 1)) (sx xs (i + 2)) false).wf hs2) hM2 ((hB.withdraw (sx xs (i + 1)) (sx xs (i + 2)) false).s2 hs2))
  · refine rz_aload_n 2 d_law_307 rfl rfl ?_
    refine rz_aload_n 3 d_law_308 rfl rfl ?_
    refine rz_iload_n 0 d_law_309 rfl rfl ?_
    refine rz_iconst d_law_310 ?_
    refine rz_iadd d_law_311 ?_
    refine rz_sld E (by omega) d_law_312 ?_
    refine rz_aload_n 3 d_law_313 rfl rfl ?_
    refine rz_iload_n 0 d_law_314 rfl rfl ?_
    refine rz_iconst d_law_315 ?_
    refine rz_iadd d_law_316 ?_
    refine rz_sld E (by omega) d_law_317 ?_
    refine rz_aload_n 3 d_law_318 rfl rfl ?_
    refine rz_iload_n 0 d_law_319 rfl rfl ?_
    refine rz_iconst d_law_320 ?_
    refine rz_iadd d_law_321 ?_
    refine rz_sld E (by omega) d_law_322 ?_
    refine rz_if_eq 330 d_law_323 (by decide) (sx_r _ _) (fun c323 => absurd c323 cz) (fun c323 => ?_)
    refine rz_iconst d_law_326 ?_
    refine rz_goto 331 d_law_327 (by decide) ?_
    obtain ⟨⟨bl0, fx0, _⟩, _⟩ := id hR
    refine rz_callV (As := [vi (sx xs (i + 1)), vi (sx xs (i + 2)), vi 1]) (c_Rs_withdraw (on := true) hR hB (sx_r _ _) (sx_r _ _)) m_Lw_38 fx0 rfl rfl rfl rfl (Nat.le_of_ble_eq_true rfl) ⟨by decide, by decide⟩ (lw_rm hcs (by decide) (by decide)) d_law_331 (kI (h := h) fun r1 h1 q1 => ?_)
    obtain ⟨er1, A1, S1, hR1, G1⟩ := q1
    subst er1
    have hM1 := hM.fq G1
    refine rz_aload_n 1 d_law_334 rfl rfl ?_
    refine rz_aload_n 3 d_law_335 rfl rfl ?_
    refine rz_iload_n 0 d_law_336 rfl rfl ?_
    refine rz_iconst d_law_337 ?_
    refine rz_iadd d_law_338 ?_
    refine rz_sld E (by omega) d_law_339 ?_
    refine rz_aload_n 3 d_law_340 rfl rfl ?_
    refine rz_iload_n 0 d_law_341 rfl rfl ?_
    refine rz_iconst d_law_342 ?_
    refine rz_iadd d_law_343 ?_
    refine rz_sld E (by omega) d_law_344 ?_
    refine rz_aload_n 3 d_law_345 rfl rfl ?_
    refine rz_iload_n 0 d_law_346 rfl rfl ?_
    refine rz_iconst d_law_347 ?_
    refine rz_iadd d_law_348 ?_
    refine rz_sld E (by omega) d_law_349 ?_
    refine rz_if_eq 357 d_law_350 (by decide) (sx_r _ _) (fun c350 => absurd c350 cz) (fun c350 => ?_)
    refine rz_iconst d_law_353 ?_
    refine rz_goto 358 d_law_354 (by decide) ?_
    refine rz_callV (As := [vi (sx xs (i + 1)), vi (sx xs (i + 2)), vi 1]) (c_Md_withdraw (on := true) hM1 hB.wf (sx_r _ _) (sx_r _ _)) m_Lw_42 hM1.1 rfl rfl rfl rfl (Nat.le_of_ble_eq_true rfl) ⟨by decide, by decide⟩ (lw_rm (c := c) (s := s) (k := 0) (n := 0) hcs (by decide) (by decide)) d_law_358 (kI (h := h1) fun r2 h2 q2 => ?_)
    obtain ⟨er2, M2, hM2, hs2, G2⟩ := q2
    subst er2
    refine rz_icmp_same 629 d_law_361 (by decide) ?_
    exact Wk.widen (k := c + 100) (n := s + 2000) (show c + 0 + 0 ≤ c + 100 by omega) (show s + 0 + 0 ≤ s + 2000 by omega) (nx h2 A1 S1 M2 _ ((hR1.md G2).s2 (hB.withdraw (sx xs (i + 1)) (sx xs (i + 2)) true).wf hs2) hM2 ((hB.withdraw (sx xs (i + 1)) (sx xs (i + 2)) true).s2 hs2))
set_option maxRecDepth 100000 in
set_option maxHeartbeats 4000000 in
theorem lw_c6 {Γ : rz_G} {K : rz_K} {nm : String} {b Lx x y : Nat} {xs : Nat → Int32} {h : rz_H} {A : Nat → Int → Nat} {B : Nat → Int → Nat} {S : Nat → Int → Int → Int} {M : Nat → Int → Int} {F : Int → Int → Int} {ad : Nat → Nat} {i : Int} {c s : Nat} (E : lwE Γ K b Lx xs) (hi : 0 ≤ i ∧ i + 5 ≤ (Lx : Int) ∧ Lx ≤ 2560) (hcs : c + 100 ≤ 600000 ∧ s + 2000 ≤ 7302250) (hR : RsAt Γ h x A B S M F) (hM : MdAt Γ h y ad M) (hB : Big M F) (nx : ∀ (h' : rz_H) (A' : Nat → Int → Nat) (S' : Nat → Int → Int → Int) (M' : Nat → Int → Int) (F' : Int → Int → Int), RsAt Γ h' x A' B S' M' F' → MdAt Γ h' y ad M' → Big M' F' → Wk Γ (x_law nm) room_1 lwP K (c + 100) (s + 2000) 629 [(3, vi i), (2, .ref y), (1, .ref x), (0, .ref b)] [] h') : Wk Γ (x_law nm) room_1 lwP K c s 366 [(3, vi i), (2, .ref y), (1, .ref x), (0, .ref b)] [] h := by
  refine rz_aload_n 2 d_law_366 rfl rfl ?_
  obtain ⟨⟨bl0, fx0, _⟩, _⟩ := id hR
  refine rz_callV (As := []) (c_Rs_host hR hB ) m_Lw_43 fx0 rfl rfl rfl rfl (Nat.le_of_ble_eq_true rfl) ⟨by decide, by decide⟩ (lw_rm hcs (by decide) (by decide)) d_law_367 (kI (h := h) fun r1 h1 q1 => ?_)
  obtain ⟨er1, A1, S1, hR1, G1⟩ := q1
  subst er1
  have hM1 := hM.fq G1
  refine rz_aload_n 1 d_law_370 rfl rfl ?_
  refine rz_callV (As := []) (c_Md_host hM1 hB.wf ) m_Lw_46 hM1.1 rfl rfl rfl rfl (Nat.le_of_ble_eq_true rfl) ⟨by decide, by decide⟩ (lw_rm (c := c) (s := s) (k := 30) (n := 554) hcs (by decide) (by decide)) d_law_371 (kI (h := h1) fun r2 h2 q2 => ?_)
  obtain ⟨er2, M2, hM2, hs2, G2⟩ := q2
  subst er2
  refine rz_icmp_same 629 d_law_374 (by decide) ?_
  exact Wk.widen (k := c + 100) (n := s + 2000) (show c + 30 + 0 ≤ c + 100 by omega) (show s + 554 + 0 ≤ s + 2000 by omega) (nx h2 A1 S1 M2 _ ((hR1.md G2).s2 hB.host.wf hs2) hM2 (hB.host.s2 hs2))
set_option maxRecDepth 100000 in
set_option maxHeartbeats 4000000 in
theorem lw_c7 {Γ : rz_G} {K : rz_K} {nm : String} {b Lx x y : Nat} {xs : Nat → Int32} {h : rz_H} {A : Nat → Int → Nat} {B : Nat → Int → Nat} {S : Nat → Int → Int → Int} {M : Nat → Int → Int} {F : Int → Int → Int} {ad : Nat → Nat} {i : Int} {c s : Nat} (E : lwE Γ K b Lx xs) (hi : 0 ≤ i ∧ i + 5 ≤ (Lx : Int) ∧ Lx ≤ 2560) (hcs : c + 100 ≤ 600000 ∧ s + 2000 ≤ 7302250) (hR : RsAt Γ h x A B S M F) (hM : MdAt Γ h y ad M) (hB : Big M F) (nx : ∀ (h' : rz_H) (A' : Nat → Int → Nat) (S' : Nat → Int → Int → Int) (M' : Nat → Int → Int) (F' : Int → Int → Int), RsAt Γ h' x A' B S' M' F' → MdAt Γ h' y ad M' → Big M' F' → Wk Γ (x_law nm) room_1 lwP K (c + 100) (s + 2000) 629 [(3, vi i), (2, .ref y), (1, .ref x), (0, .ref b)] [] h') : Wk Γ (x_law nm) room_1 lwP K c s 379 [(3, vi i), (2, .ref y), (1, .ref x), (0, .ref b)] [] h := by
  refine rz_aload_n 2 d_law_379 rfl rfl ?_
  refine rz_aload_n 3 d_law_380 rfl rfl ?_
  refine rz_iload_n 0 d_law_381 rfl rfl ?_
  refine rz_iconst d_law_382 ?_
  refine rz_iadd d_law_383 ?_
  refine rz_sld E (by omega) d_law_384 ?_
  obtain ⟨⟨bl0, fx0, _⟩, _⟩ := id hR
  refine rz_callV (As := [vi (sx xs (i + 1))]) (c_Rs_ask hR hB (sx_r _ _)) m_Lw_47 fx0 rfl rfl rfl rfl (Nat.le_of_ble_eq_true rfl) ⟨by decide, by decide⟩ (lw_rm hcs (by decide) (by decide)) d_law_385 (kI (h := h) fun r1 h1 q1 => ?_)
  obtain ⟨er1, A1, S1, hR1, G1⟩ := q1
  subst er1
  have hM1 := hM.fq G1
  refine rz_aload_n 1 d_law_388 rfl rfl ?_
  refine rz_aload_n 3 d_law_389 rfl rfl ?_
  refine rz_iload_n 0 d_law_390 rfl rfl ?_
  refine rz_iconst d_law_391 ?_
  refine rz_iadd d_law_392 ?_
  refine rz_sld E (by omega) d_law_393 ?_
  refine rz_callV (As := [vi (sx xs (i + 1))]) (c_Md_ask hM1 hB.wf (sx_r _ _)) m_Lw_50 hM1.1 rfl rfl rfl rfl (Nat.le_of_ble_eq_true rfl) ⟨by decide, by decide⟩ (lw_rm (c := c) (s := s) (k := 66) (n := 1166) hcs (by decide) (by decide)) d_law_394 (kI (h := h1) fun r2 h2 q2 => ?_)
  obtain ⟨er2, M2, hM2, hs2, G2⟩ := q2
  subst er2
  refine rz_icmp_same 629 d_law_397 (by decide) ?_
  exact Wk.widen (k := c + 100) (n := s + 2000) (show c + 66 + 0 ≤ c + 100 by omega) (show s + 1166 + 0 ≤ s + 2000 by omega) (nx h2 A1 S1 M2 _ ((hR1.md G2).s2 (hB.ask (sx xs (i + 1))).wf hs2) hM2 ((hB.ask (sx xs (i + 1))).s2 hs2))
set_option maxRecDepth 100000 in
set_option maxHeartbeats 4000000 in
theorem lw_c8 {Γ : rz_G} {K : rz_K} {nm : String} {b Lx x y : Nat} {xs : Nat → Int32} {h : rz_H} {A : Nat → Int → Nat} {B : Nat → Int → Nat} {S : Nat → Int → Int → Int} {M : Nat → Int → Int} {F : Int → Int → Int} {ad : Nat → Nat} {i : Int} {c s : Nat} (E : lwE Γ K b Lx xs) (hi : 0 ≤ i ∧ i + 5 ≤ (Lx : Int) ∧ Lx ≤ 2560) (hcs : c + 100 ≤ 600000 ∧ s + 2000 ≤ 7302250) (hR : RsAt Γ h x A B S M F) (hM : MdAt Γ h y ad M) (hB : Big M F) (nx : ∀ (h' : rz_H) (A' : Nat → Int → Nat) (S' : Nat → Int → Int → Int) (M' : Nat → Int → Int) (F' : Int → Int → Int), RsAt Γ h' x A' B S' M' F' → MdAt Γ h' y ad M' → Big M' F' → Wk Γ (x_law nm) room_1 lwP K (c + 100) (s + 2000) 629 [(3, vi i), (2, .ref y), (1, .ref x), (0, .ref b)] [] h') : Wk Γ (x_law nm) room_1 lwP K c s 402 [(3, vi i), (2, .ref y), (1, .ref x), (0, .ref b)] [] h := by
  refine rz_aload_n 2 d_law_402 rfl rfl ?_
  refine rz_aload_n 3 d_law_403 rfl rfl ?_
  refine rz_iload_n 0 d_law_404 rfl rfl ?_
  refine rz_iconst d_law_405 ?_
  refine rz_iadd d_law_406 ?_
  refine rz_sld E (by omega) d_law_407 ?_
  obtain ⟨⟨bl0, fx0, _⟩, _⟩ := id hR
  refine rz_callV (As := [vi (sx xs (i + 1))]) (c_Rs_unask hR hB (sx_r _ _)) m_Lw_51 fx0 rfl rfl rfl rfl (Nat.le_of_ble_eq_true rfl) ⟨by decide, by decide⟩ (lw_rm hcs (by decide) (by decide)) d_law_408 (kI (h := h) fun r1 h1 q1 => ?_)
  obtain ⟨er1, A1, S1, hR1, G1⟩ := q1
  subst er1
  have hM1 := hM.fq G1
  refine rz_aload_n 1 d_law_411 rfl rfl ?_
  refine rz_aload_n 3 d_law_412 rfl rfl ?_
  refine rz_iload_n 0 d_law_413 rfl rfl ?_
  refine rz_iconst d_law_414 ?_
  refine rz_iadd d_law_415 ?_
  refine rz_sld E (by omega) d_law_416 ?_
  refine rz_callV (As := [vi (sx xs (i + 1))]) (c_Md_unask hM1 hB.wf (sx_r _ _)) m_Lw_54 hM1.1 rfl rfl rfl rfl (Nat.le_of_ble_eq_true rfl) ⟨by decide, by decide⟩ (lw_rm (c := c) (s := s) (k := 0) (n := 0) hcs (by decide) (by decide)) d_law_417 (kI (h := h1) fun r2 h2 q2 => ?_)
  obtain ⟨er2, M2, hM2, hs2, G2⟩ := q2
  subst er2
  refine rz_icmp_same 629 d_law_420 (by decide) ?_
  exact Wk.widen (k := c + 100) (n := s + 2000) (show c + 0 + 0 ≤ c + 100 by omega) (show s + 0 + 0 ≤ s + 2000 by omega) (nx h2 A1 S1 M2 _ ((hR1.md G2).s2 (hB.unask (sx xs (i + 1))).wf hs2) hM2 ((hB.unask (sx xs (i + 1))).s2 hs2))
set_option maxRecDepth 100000 in
set_option maxHeartbeats 4000000 in
theorem lw_c9 {Γ : rz_G} {K : rz_K} {nm : String} {b Lx x y : Nat} {xs : Nat → Int32} {h : rz_H} {A : Nat → Int → Nat} {B : Nat → Int → Nat} {S : Nat → Int → Int → Int} {M : Nat → Int → Int} {F : Int → Int → Int} {ad : Nat → Nat} {i : Int} {c s : Nat} (E : lwE Γ K b Lx xs) (hi : 0 ≤ i ∧ i + 5 ≤ (Lx : Int) ∧ Lx ≤ 2560) (hcs : c + 100 ≤ 600000 ∧ s + 2000 ≤ 7302250) (hR : RsAt Γ h x A B S M F) (hM : MdAt Γ h y ad M) (hB : Big M F) (nx : ∀ (h' : rz_H) (A' : Nat → Int → Nat) (S' : Nat → Int → Int → Int) (M' : Nat → Int → Int) (F' : Int → Int → Int), RsAt Γ h' x A' B S' M' F' → MdAt Γ h' y ad M' → Big M' F' → Wk Γ (x_law nm) room_1 lwP K (c + 100) (s + 2000) 629 [(3, vi i), (2, .ref y), (1, .ref x), (0, .ref b)] [] h') : Wk Γ (x_law nm) room_1 lwP K c s 425 [(3, vi i), (2, .ref y), (1, .ref x), (0, .ref b)] [] h := by
  refine rz_aload_n 2 d_law_425 rfl rfl ?_
  refine rz_aload_n 3 d_law_426 rfl rfl ?_
  refine rz_iload_n 0 d_law_427 rfl rfl ?_
  refine rz_iconst d_law_428 ?_
  refine rz_iadd d_law_429 ?_
  refine rz_sld E (by omega) d_law_430 ?_
  refine rz_aload_n 3 d_law_431 rfl rfl ?_
  refine rz_iload_n 0 d_law_432 rfl rfl ?_
  refine rz_iconst d_law_433 ?_
  refine rz_iadd d_law_434 ?_
  refine rz_sld E (by omega) d_law_435 ?_
  refine rz_aload_n 3 d_law_436 rfl rfl ?_
  refine rz_iload_n 0 d_law_437 rfl rfl ?_
  refine rz_iconst d_law_438 ?_
  refine rz_iadd d_law_439 ?_
  refine rz_sld E (by omega) d_law_440 ?_
  refine rz_aload_n 3 d_law_441 rfl rfl ?_
  refine rz_iload_n 0 d_law_442 rfl rfl ?_
  refine rz_iconst d_law_443 ?_
  refine rz_iadd d_law_444 ?_
  refine rz_sld E (by omega) d_law_445 ?_
  obtain ⟨⟨bl0, fx0, _⟩, _⟩ := id hR
  refine rz_callV (As := [vi (sx xs (i + 1)), vi (sx xs (i + 2)), vi (sx xs (i + 3)), vi (sx xs (i + 4))]) (c_Rs_compare hR hB (sx_r _ _) (sx_r _ _) (sx_r _ _) (sx_r _ _)) m_Lw_55 fx0 rfl rfl rfl rfl (Nat.le_of_ble_eq_true rfl) ⟨by decide, by decide⟩ (lw_rm hcs (by decide) (by decide)) d_law_446 (kI (h := h) fun r1 h1 q1 => ?_)
  obtain ⟨er1, A1, S1, hR1, G1⟩ := q1
  subst er1
  have hM1 := hM.fq G1
  refine rz_aload_n 1 d_law_449 rfl rfl ?_
  refine rz_aload_n 3 d_law_450 rfl rfl ?_
  refine rz_iload_n 0 d_law_451 rfl rfl ?_
  refine rz_iconst d_law_452 ?_
  refine rz_iadd d_law_453 ?_
  refine rz_sld E (by omega) d_law_454 ?_
  refine rz_aload_n 3 d_law_455 rfl rfl ?_
  refine rz_iload_n 0 d_law_456 rfl rfl ?_
  refine rz_iconst d_law_457 ?_
  refine rz_iadd d_law_458 ?_
  refine rz_sld E (by omega) d_law_459 ?_
  refine rz_aload_n 3 d_law_460 rfl rfl ?_
  refine rz_iload_n 0 d_law_461 rfl rfl ?_
  refine rz_iconst d_law_462 ?_
  refine rz_iadd d_law_463 ?_
  refine rz_sld E (by omega) d_law_464 ?_
  refine rz_aload_n 3 d_law_465 rfl rfl ?_
  refine rz_iload_n 0 d_law_466 rfl rfl ?_
  refine rz_iconst d_law_467 ?_
  refine rz_iadd d_law_468 ?_
  refine rz_sld E (by omega) d_law_469 ?_
  refine rz_callV (As := [vi (sx xs (i + 1)), vi (sx xs (i + 2)), vi (sx xs (i + 3)), vi (sx xs (i + 4))]) (c_Md_compare hM1 hB.wf hB.val.1 (sx_r _ _) (sx_r _ _) (sx_r _ _) (sx_r _ _)) m_Lw_58 hM1.1 rfl rfl rfl rfl (Nat.le_of_ble_eq_true rfl) ⟨by decide, by decide⟩ (lw_rm (c := c) (s := s) (k := 0) (n := 0) hcs (by decide) (by decide)) d_law_470 (kI (h := h1) fun r2 h2 q2 => ?_)
  obtain ⟨er2, M2, hM2, hs2, G2⟩ := q2
  subst er2
  refine rz_icmp_same 629 d_law_473 (by decide) ?_
  exact Wk.widen (k := c + 100) (n := s + 2000) (show c + 0 + 0 ≤ c + 100 by omega) (show s + 0 + 0 ≤ s + 2000 by omega) (nx h2 A1 S1 M2 F ((hR1.md G2).s2 hB.wf hs2) hM2 (hB.s2 hs2))
set_option maxRecDepth 100000 in
set_option maxHeartbeats 4000000 in
theorem lw_c10 {Γ : rz_G} {K : rz_K} {nm : String} {b Lx x y : Nat} {xs : Nat → Int32} {h : rz_H} {A : Nat → Int → Nat} {B : Nat → Int → Nat} {S : Nat → Int → Int → Int} {M : Nat → Int → Int} {F : Int → Int → Int} {ad : Nat → Nat} {i : Int} {c s : Nat} (E : lwE Γ K b Lx xs) (hi : 0 ≤ i ∧ i + 5 ≤ (Lx : Int) ∧ Lx ≤ 2560) (hcs : c + 100 ≤ 600000 ∧ s + 2000 ≤ 7302250) (hR : RsAt Γ h x A B S M F) (hM : MdAt Γ h y ad M) (hB : Big M F) (nx : ∀ (h' : rz_H) (A' : Nat → Int → Nat) (S' : Nat → Int → Int → Int) (M' : Nat → Int → Int) (F' : Int → Int → Int), RsAt Γ h' x A' B S' M' F' → MdAt Γ h' y ad M' → Big M' F' → Wk Γ (x_law nm) room_1 lwP K (c + 100) (s + 2000) 629 [(3, vi i), (2, .ref y), (1, .ref x), (0, .ref b)] [] h') : Wk Γ (x_law nm) room_1 lwP K c s 478 [(3, vi i), (2, .ref y), (1, .ref x), (0, .ref b)] [] h := by
  refine rz_aload_n 2 d_law_478 rfl rfl ?_
  refine rz_aload_n 3 d_law_479 rfl rfl ?_
  refine rz_iload_n 0 d_law_480 rfl rfl ?_
  refine rz_iconst d_law_481 ?_
  refine rz_iadd d_law_482 ?_
  refine rz_sld E (by omega) d_law_483 ?_
  obtain ⟨⟨bl0, fx0, _⟩, _⟩ := id hR
  refine rz_callV (As := [vi (sx xs (i + 1))]) (c_Rs_rank hR hB (sx_r _ _)) m_Lw_59 fx0 rfl rfl rfl rfl (Nat.le_of_ble_eq_true rfl) ⟨by decide, by decide⟩ (lw_rm hcs (by decide) (by decide)) d_law_484 (kI (h := h) fun r1 h1 q1 => ?_)
  obtain ⟨er1, A1, S1, hR1, G1⟩ := q1
  subst er1
  have hM1 := hM.fq G1
  refine rz_aload_n 1 d_law_487 rfl rfl ?_
  refine rz_aload_n 3 d_law_488 rfl rfl ?_
  refine rz_iload_n 0 d_law_489 rfl rfl ?_
  refine rz_iconst d_law_490 ?_
  refine rz_iadd d_law_491 ?_
  refine rz_sld E (by omega) d_law_492 ?_
  refine rz_callV (As := [vi (sx xs (i + 1))]) (c_Md_rank hM1 hB.wf (sx_r _ _)) m_Lw_62 hM1.1 rfl rfl rfl rfl (Nat.le_of_ble_eq_true rfl) ⟨by decide, by decide⟩ (lw_rm (c := c) (s := s) (k := 30) (n := 554) hcs (by decide) (by decide)) d_law_493 (kI (h := h1) fun r2 h2 q2 => ?_)
  obtain ⟨er2, M2, hM2, hs2, G2⟩ := q2
  subst er2
  refine rz_icmp_same 629 d_law_496 (by decide) ?_
  exact Wk.widen (k := c + 100) (n := s + 2000) (show c + 30 + 0 ≤ c + 100 by omega) (show s + 554 + 0 ≤ s + 2000 by omega) (nx h2 A1 S1 M2 _ ((hR1.md G2).s2 (hB.rank (sx xs (i + 1))).wf hs2) hM2 ((hB.rank (sx xs (i + 1))).s2 hs2))
set_option maxRecDepth 100000 in
set_option maxHeartbeats 4000000 in
theorem lw_c11 {Γ : rz_G} {K : rz_K} {nm : String} {b Lx x y : Nat} {xs : Nat → Int32} {h : rz_H} {A : Nat → Int → Nat} {B : Nat → Int → Nat} {S : Nat → Int → Int → Int} {M : Nat → Int → Int} {F : Int → Int → Int} {ad : Nat → Nat} {i : Int} {c s : Nat} (E : lwE Γ K b Lx xs) (hi : 0 ≤ i ∧ i + 5 ≤ (Lx : Int) ∧ Lx ≤ 2560) (hcs : c + 100 ≤ 600000 ∧ s + 2000 ≤ 7302250) (hR : RsAt Γ h x A B S M F) (hM : MdAt Γ h y ad M) (hB : Big M F) (nx : ∀ (h' : rz_H) (A' : Nat → Int → Nat) (S' : Nat → Int → Int → Int) (M' : Nat → Int → Int) (F' : Int → Int → Int), RsAt Γ h' x A' B S' M' F' → MdAt Γ h' y ad M' → Big M' F' → Wk Γ (x_law nm) room_1 lwP K (c + 100) (s + 2000) 629 [(3, vi i), (2, .ref y), (1, .ref x), (0, .ref b)] [] h') : Wk Γ (x_law nm) room_1 lwP K c s 501 [(3, vi i), (2, .ref y), (1, .ref x), (0, .ref b)] [] h := by
  refine rz_aload_n 2 d_law_501 rfl rfl ?_
  refine rz_aload_n 3 d_law_502 rfl rfl ?_
  refine rz_iload_n 0 d_law_503 rfl rfl ?_
  refine rz_iconst d_law_504 ?_
  refine rz_iadd d_law_505 ?_
  refine rz_sld E (by omega) d_law_506 ?_
  refine rz_aload_n 3 d_law_507 rfl rfl ?_
  refine rz_iload_n 0 d_law_508 rfl rfl ?_
  refine rz_iconst d_law_509 ?_
  refine rz_iadd d_law_510 ?_
  refine rz_sld E (by omega) d_law_511 ?_
  obtain ⟨⟨bl0, fx0, _⟩, _⟩ := id hR
  refine rz_callV (As := [vi (sx xs (i + 1)), vi (sx xs (i + 2))]) (c_Rs_within hR hB (sx_r _ _) (sx_r _ _)) m_Lw_63 fx0 rfl rfl rfl rfl (Nat.le_of_ble_eq_true rfl) ⟨by decide, by decide⟩ (lw_rm hcs (by decide) (by decide)) d_law_512 (kI (h := h) fun r1 h1 q1 => ?_)
  obtain ⟨er1, A1, S1, hR1, G1⟩ := q1
  subst er1
  have hM1 := hM.fq G1
  refine rz_aload_n 1 d_law_515 rfl rfl ?_
  refine rz_aload_n 3 d_law_516 rfl rfl ?_
  refine rz_iload_n 0 d_law_517 rfl rfl ?_
  refine rz_iconst d_law_518 ?_
  refine rz_iadd d_law_519 ?_
  refine rz_sld E (by omega) d_law_520 ?_
  refine rz_aload_n 3 d_law_521 rfl rfl ?_
  refine rz_iload_n 0 d_law_522 rfl rfl ?_
  refine rz_iconst d_law_523 ?_
  refine rz_iadd d_law_524 ?_
  refine rz_sld E (by omega) d_law_525 ?_
  refine rz_callV (As := [vi (sx xs (i + 1)), vi (sx xs (i + 2))]) (c_Md_within hM1 hB.wf hB.val.1 (sx_r _ _) (sx_r _ _)) m_Lw_66 hM1.1 rfl rfl rfl rfl (Nat.le_of_ble_eq_true rfl) ⟨by decide, by decide⟩ (lw_rm (c := c) (s := s) (k := 64) (n := 1154) hcs (by decide) (by decide)) d_law_526 (kI (h := h1) fun r2 h2 q2 => ?_)
  obtain ⟨er2, M2, hM2, hs2, G2⟩ := q2
  subst er2
  refine rz_icmp_same 629 d_law_529 (by decide) ?_
  exact Wk.widen (k := c + 100) (n := s + 2000) (show c + 64 + 0 ≤ c + 100 by omega) (show s + 1154 + 0 ≤ s + 2000 by omega) (nx h2 A1 S1 M2 _ ((hR1.md G2).s2 (hB.within (sx xs (i + 1)) (sx xs (i + 2))).wf hs2) hM2 ((hB.within (sx xs (i + 1)) (sx xs (i + 2))).s2 hs2))
set_option maxRecDepth 100000 in
set_option maxHeartbeats 4000000 in
theorem lw_c12 {Γ : rz_G} {K : rz_K} {nm : String} {b Lx x y : Nat} {xs : Nat → Int32} {h : rz_H} {A : Nat → Int → Nat} {B : Nat → Int → Nat} {S : Nat → Int → Int → Int} {M : Nat → Int → Int} {F : Int → Int → Int} {ad : Nat → Nat} {i : Int} {c s : Nat} (E : lwE Γ K b Lx xs) (hi : 0 ≤ i ∧ i + 5 ≤ (Lx : Int) ∧ Lx ≤ 2560) (hcs : c + 100 ≤ 600000 ∧ s + 2000 ≤ 7302250) (hR : RsAt Γ h x A B S M F) (hM : MdAt Γ h y ad M) (hB : Big M F) (nx : ∀ (h' : rz_H) (A' : Nat → Int → Nat) (S' : Nat → Int → Int → Int) (M' : Nat → Int → Int) (F' : Int → Int → Int), RsAt Γ h' x A' B S' M' F' → MdAt Γ h' y ad M' → Big M' F' → Wk Γ (x_law nm) room_1 lwP K (c + 100) (s + 2000) 629 [(3, vi i), (2, .ref y), (1, .ref x), (0, .ref b)] [] h') : Wk Γ (x_law nm) room_1 lwP K c s 534 [(3, vi i), (2, .ref y), (1, .ref x), (0, .ref b)] [] h := by
  refine rz_aload_n 2 d_law_534 rfl rfl ?_
  obtain ⟨⟨bl0, fx0, _⟩, _⟩ := id hR
  refine rz_callV (As := []) (c_Rs_solve hR hB ) m_Lw_67 fx0 rfl rfl rfl rfl (Nat.le_of_ble_eq_true rfl) ⟨by decide, by decide⟩ (lw_rm hcs (by decide) (by decide)) d_law_535 (kI (h := h) fun r1 h1 q1 => ?_)
  obtain ⟨er1, A1, S1, hR1, G1⟩ := q1
  subst er1
  have hM1 := hM.fq G1
  refine rz_aload_n 1 d_law_538 rfl rfl ?_
  refine rz_callV (As := []) (c_Md_solve hM1 hB.wf hB.val ) m_Lw_70 hM1.1 rfl rfl rfl rfl (Nat.le_of_ble_eq_true rfl) ⟨by decide, by decide⟩ (lw_rm (c := c) (s := s) (k := 0) (n := 0) hcs (by decide) (by decide)) d_law_539 (kI (h := h1) fun r2 h2 q2 => ?_)
  obtain ⟨er2, M2, hM2, hs2, G2⟩ := q2
  subst er2
  refine rz_icmp_same 629 d_law_542 (by decide) ?_
  exact Wk.widen (k := c + 100) (n := s + 2000) (show c + 0 + 0 ≤ c + 100 by omega) (show s + 0 + 0 ≤ s + 2000 by omega) (nx h2 A1 S1 M2 F ((hR1 M2 hs2).md G2) hM2 (hB.solve hs2))
set_option maxRecDepth 100000 in
set_option maxHeartbeats 4000000 in
theorem lw_c13 {Γ : rz_G} {K : rz_K} {nm : String} {b Lx x y : Nat} {xs : Nat → Int32} {h : rz_H} {A : Nat → Int → Nat} {B : Nat → Int → Nat} {S : Nat → Int → Int → Int} {M : Nat → Int → Int} {F : Int → Int → Int} {ad : Nat → Nat} {i : Int} {c s : Nat} (E : lwE Γ K b Lx xs) (hi : 0 ≤ i ∧ i + 5 ≤ (Lx : Int) ∧ Lx ≤ 2560) (hcs : c + 100 ≤ 600000 ∧ s + 2000 ≤ 7302250) (hR : RsAt Γ h x A B S M F) (hM : MdAt Γ h y ad M) (hB : Big M F) (nx : ∀ (h' : rz_H) (A' : Nat → Int → Nat) (S' : Nat → Int → Int → Int) (M' : Nat → Int → Int) (F' : Int → Int → Int), RsAt Γ h' x A' B S' M' F' → MdAt Γ h' y ad M' → Big M' F' → Wk Γ (x_law nm) room_1 lwP K (c + 100) (s + 2000) 629 [(3, vi i), (2, .ref y), (1, .ref x), (0, .ref b)] [] h') : Wk Γ (x_law nm) room_1 lwP K c s 547 [(3, vi i), (2, .ref y), (1, .ref x), (0, .ref b)] [] h := by
  refine rz_aload_n 2 d_law_547 rfl rfl ?_
  refine rz_aload_n 3 d_law_548 rfl rfl ?_
  refine rz_iload_n 0 d_law_549 rfl rfl ?_
  refine rz_iconst d_law_550 ?_
  refine rz_iadd d_law_551 ?_
  refine rz_sld E (by omega) d_law_552 ?_
  obtain ⟨⟨bl0, fx0, _⟩, _⟩ := id hR
  refine rz_callV (As := [vi (sx xs (i + 1))]) (c_Rs_chosen hR hB (sx_r _ _)) m_Lw_71 fx0 rfl rfl rfl rfl (Nat.le_of_ble_eq_true rfl) ⟨by decide, by decide⟩ (lw_rm hcs (by decide) (by decide)) d_law_553 (kI (h := h) fun r1 h1 q1 => ?_)
  obtain ⟨er1, A1, S1, hR1, G1⟩ := q1
  subst er1
  have hM1 := hM.fq G1
  refine rz_aload_n 1 d_law_556 rfl rfl ?_
  refine rz_aload_n 3 d_law_557 rfl rfl ?_
  refine rz_iload_n 0 d_law_558 rfl rfl ?_
  refine rz_iconst d_law_559 ?_
  refine rz_iadd d_law_560 ?_
  refine rz_sld E (by omega) d_law_561 ?_
  refine rz_callV (As := [vi (sx xs (i + 1))]) (c_Md_chosen hM1 hB.wf (sx_r _ _)) m_Lw_74 hM1.1 rfl rfl rfl rfl (Nat.le_of_ble_eq_true rfl) ⟨by decide, by decide⟩ (lw_rm (c := c) (s := s) (k := 0) (n := 0) hcs (by decide) (by decide)) d_law_562 (kE (h := h1) ?_)
  refine rz_icmp_same 629 d_law_565 (by decide) ?_
  exact Wk.widen (k := c + 100) (n := s + 2000) (show c + 0 + 0 ≤ c + 100 by omega) (show s + 0 + 0 ≤ s + 2000 by omega) (nx h1 A1 S1 M F hR1 hM1 hB)
set_option maxRecDepth 100000 in
set_option maxHeartbeats 4000000 in
theorem lw_c14 {Γ : rz_G} {K : rz_K} {nm : String} {b Lx x y : Nat} {xs : Nat → Int32} {h : rz_H} {A : Nat → Int → Nat} {B : Nat → Int → Nat} {S : Nat → Int → Int → Int} {M : Nat → Int → Int} {F : Int → Int → Int} {ad : Nat → Nat} {i : Int} {c s : Nat} (E : lwE Γ K b Lx xs) (hi : 0 ≤ i ∧ i + 5 ≤ (Lx : Int) ∧ Lx ≤ 2560) (hcs : c + 100 ≤ 600000 ∧ s + 2000 ≤ 7302250) (hR : RsAt Γ h x A B S M F) (hM : MdAt Γ h y ad M) (hB : Big M F) (nx : ∀ (h' : rz_H) (A' : Nat → Int → Nat) (S' : Nat → Int → Int → Int) (M' : Nat → Int → Int) (F' : Int → Int → Int), RsAt Γ h' x A' B S' M' F' → MdAt Γ h' y ad M' → Big M' F' → Wk Γ (x_law nm) room_1 lwP K (c + 100) (s + 2000) 629 [(3, vi i), (2, .ref y), (1, .ref x), (0, .ref b)] [] h') : Wk Γ (x_law nm) room_1 lwP K c s 570 [(3, vi i), (2, .ref y), (1, .ref x), (0, .ref b)] [] h := by
  refine rz_aload_n 2 d_law_570 rfl rfl ?_
  refine rz_aload_n 3 d_law_571 rfl rfl ?_
  refine rz_iload_n 0 d_law_572 rfl rfl ?_
  refine rz_iconst d_law_573 ?_
  refine rz_iadd d_law_574 ?_
  refine rz_sld E (by omega) d_law_575 ?_
  obtain ⟨⟨bl0, fx0, _⟩, _⟩ := id hR
  refine rz_callV (As := [vi (sx xs (i + 1))]) (c_Rs_blamed hR hB (sx_r _ _)) m_Lw_75 fx0 rfl rfl rfl rfl (Nat.le_of_ble_eq_true rfl) ⟨by decide, by decide⟩ (lw_rm hcs (by decide) (by decide)) d_law_576 (kI (h := h) fun r1 h1 q1 => ?_)
  obtain ⟨er1, A1, S1, hR1, G1⟩ := q1
  subst er1
  have hM1 := hM.fq G1
  refine rz_aload_n 1 d_law_579 rfl rfl ?_
  refine rz_aload_n 3 d_law_580 rfl rfl ?_
  refine rz_iload_n 0 d_law_581 rfl rfl ?_
  refine rz_iconst d_law_582 ?_
  refine rz_iadd d_law_583 ?_
  refine rz_sld E (by omega) d_law_584 ?_
  refine rz_callV (As := [vi (sx xs (i + 1))]) (c_Md_blamed hM1 hB.wf (sx_r _ _)) m_Lw_79 hM1.1 rfl rfl rfl rfl (Nat.le_of_ble_eq_true rfl) ⟨by decide, by decide⟩ (lw_rm (c := c) (s := s) (k := 0) (n := 0) hcs (by decide) (by decide)) d_law_585 (kE (h := h1) ?_)
  refine rz_icmp_same 629 d_law_588 (by decide) ?_
  exact Wk.widen (k := c + 100) (n := s + 2000) (show c + 0 + 0 ≤ c + 100 by omega) (show s + 0 + 0 ≤ s + 2000 by omega) (nx h1 A1 S1 M F hR1 hM1 hB)
set_option maxRecDepth 100000 in
set_option maxHeartbeats 4000000 in
theorem lw_c15 {Γ : rz_G} {K : rz_K} {nm : String} {b Lx x y : Nat} {xs : Nat → Int32} {h : rz_H} {A : Nat → Int → Nat} {B : Nat → Int → Nat} {S : Nat → Int → Int → Int} {M : Nat → Int → Int} {F : Int → Int → Int} {ad : Nat → Nat} {i : Int} {c s : Nat} (E : lwE Γ K b Lx xs) (hi : 0 ≤ i ∧ i + 5 ≤ (Lx : Int) ∧ Lx ≤ 2560) (hcs : c + 100 ≤ 600000 ∧ s + 2000 ≤ 7302250) (hR : RsAt Γ h x A B S M F) (hM : MdAt Γ h y ad M) (hB : Big M F) (nx : ∀ (h' : rz_H) (A' : Nat → Int → Nat) (S' : Nat → Int → Int → Int) (M' : Nat → Int → Int) (F' : Int → Int → Int), RsAt Γ h' x A' B S' M' F' → MdAt Γ h' y ad M' → Big M' F' → Wk Γ (x_law nm) room_1 lwP K (c + 100) (s + 2000) 629 [(3, vi i), (2, .ref y), (1, .ref x), (0, .ref b)] [] h') : Wk Γ (x_law nm) room_1 lwP K c s 593 [(3, vi i), (2, .ref y), (1, .ref x), (0, .ref b)] [] h := by
  refine rz_aload_n 2 d_law_593 rfl rfl ?_
  obtain ⟨⟨bl0, fx0, _⟩, _⟩ := id hR
  refine rz_callV (As := []) (c_Rs_unmet hR hB ) m_Lw_80 fx0 rfl rfl rfl rfl (Nat.le_of_ble_eq_true rfl) ⟨by decide, by decide⟩ (lw_rm hcs (by decide) (by decide)) d_law_594 (kI (h := h) fun r1 h1 q1 => ?_)
  obtain ⟨er1, A1, S1, hR1, G1⟩ := q1
  subst er1
  have hM1 := hM.fq G1
  refine rz_aload_n 1 d_law_597 rfl rfl ?_
  refine rz_callV (As := []) (c_Md_unmet hM1 hB.wf hB.val hB.ch ) m_Lw_83 hM1.1 rfl rfl rfl rfl (Nat.le_of_ble_eq_true rfl) ⟨by decide, by decide⟩ (lw_rm (c := c) (s := s) (k := 0) (n := 0) hcs (by decide) (by decide)) d_law_598 (kI (h := h1) fun r2 h2 q2 => ?_)
  obtain ⟨er2, M2, hM2, hs2, G2⟩ := q2
  subst er2
  refine rz_icmp_same 629 d_law_601 (by decide) ?_
  exact Wk.widen (k := c + 100) (n := s + 2000) (show c + 0 + 0 ≤ c + 100 by omega) (show s + 0 + 0 ≤ s + 2000 by omega) (nx h2 A1 S1 M2 F (((hR1.md G2).um hB.wf).s2 hB.unmet.wf hs2) hM2 (hB.unmet.s2 hs2))
set_option maxRecDepth 100000 in
set_option maxHeartbeats 4000000 in
theorem lw_c16 {Γ : rz_G} {K : rz_K} {nm : String} {b Lx x y : Nat} {xs : Nat → Int32} {h : rz_H} {A : Nat → Int → Nat} {B : Nat → Int → Nat} {S : Nat → Int → Int → Int} {M : Nat → Int → Int} {F : Int → Int → Int} {ad : Nat → Nat} {i : Int} {c s : Nat} (E : lwE Γ K b Lx xs) (hi : 0 ≤ i ∧ i + 5 ≤ (Lx : Int) ∧ Lx ≤ 2560) (hcs : c + 100 ≤ 600000 ∧ s + 2000 ≤ 7302250) (hR : RsAt Γ h x A B S M F) (hM : MdAt Γ h y ad M) (hB : Big M F) (nx : ∀ (h' : rz_H) (A' : Nat → Int → Nat) (S' : Nat → Int → Int → Int) (M' : Nat → Int → Int) (F' : Int → Int → Int), RsAt Γ h' x A' B S' M' F' → MdAt Γ h' y ad M' → Big M' F' → Wk Γ (x_law nm) room_1 lwP K (c + 100) (s + 2000) 629 [(3, vi i), (2, .ref y), (1, .ref x), (0, .ref b)] [] h') : Wk Γ (x_law nm) room_1 lwP K c s 606 [(3, vi i), (2, .ref y), (1, .ref x), (0, .ref b)] [] h := by
  refine rz_aload_n 2 d_law_606 rfl rfl ?_
  refine rz_aload_n 3 d_law_607 rfl rfl ?_
  refine rz_iload_n 0 d_law_608 rfl rfl ?_
  refine rz_iconst d_law_609 ?_
  refine rz_iadd d_law_610 ?_
  refine rz_sld E (by omega) d_law_611 ?_
  obtain ⟨⟨bl0, fx0, _⟩, _⟩ := id hR
  refine rz_callV (As := [vi (sx xs (i + 1))]) (c_Rs_count hR hB (sx_r _ _)) m_Lw_84 fx0 rfl rfl rfl rfl (Nat.le_of_ble_eq_true rfl) ⟨by decide, by decide⟩ (lw_rm hcs (by decide) (by decide)) d_law_612 (kI (h := h) fun r1 h1 q1 => ?_)
  obtain ⟨er1, A1, S1, hR1, G1⟩ := q1
  subst er1
  have hM1 := hM.fq G1
  refine rz_aload_n 1 d_law_615 rfl rfl ?_
  refine rz_aload_n 3 d_law_616 rfl rfl ?_
  refine rz_iload_n 0 d_law_617 rfl rfl ?_
  refine rz_iconst d_law_618 ?_
  refine rz_iadd d_law_619 ?_
  refine rz_sld E (by omega) d_law_620 ?_
  refine rz_callV (As := [vi (sx xs (i + 1))]) (c_Md_count hM1 hB.wf (sx_r _ _)) m_Lw_87 hM1.1 rfl rfl rfl rfl (Nat.le_of_ble_eq_true rfl) ⟨by decide, by decide⟩ (lw_rm (c := c) (s := s) (k := 0) (n := 0) hcs (by decide) (by decide)) d_law_621 (kE (h := h1) ?_)
  refine rz_icmp_same 629 d_law_624 (by decide) ?_
  exact Wk.widen (k := c + 100) (n := s + 2000) (show c + 0 + 0 ≤ c + 100 by omega) (show s + 0 + 0 ≤ s + 2000 by omega) (nx h1 A1 S1 M F hR1 hM1 hB)

/-! THE LAW'S CASES -/
set_option maxHeartbeats 4000000 in
set_option maxRecDepth 100000 in
theorem k_account {p : Program} {l : Launch} {e : Env} {s : State} {m : MethodId} {below : List Frame} {meth : Method} {c : Code} {H : Heap} {locs : List Loc} {Q : State → Prop} {ls : Array Slot} {D : va_G} {cI cJ cO : ClassId} {e0 mi0 b L i x y o n cells slots : Nat} {xs : Nat → Int32} {M : hb_M} (C : lb_C p l s m c D cI cJ cO e0 mi0 b L xs) (hi : i + 6 ≤ L) (hn : n < 520) (hcs : cells + 2 ≤ 601024 ∧ slots + 120 ≤ 7293000) (hT : lb_S cI cJ cO e0 x y o n M) (hP : hb_P D hb_cl M H) (hD : hb_D (fun q => s.heap.size ≤ q) M) (hS : va_S (fun q => s.heap.size ≤ q) s.heap H locs) (hl : lv_has ls 8 (lb_L b x y o i))
    (kk : ∀ (ls : Array Slot) (M : hb_M) (H : Heap) (locs : List Loc), lv_has ls 8 (lb_L b x y o i) → lb_S cI cJ cO e0 x y o (n + 1) M → hb_P D hb_cl M H → hb_D (fun q => s.heap.size ≤ q) M → va_S (fun q => s.heap.size ≤ q) s.heap H locs → W p l e room_1 s m #[Value.ref b] below meth c H locs (cells + 2) (slots + 120) Q (F0 m 1182 ls [])) : W p l e room_1 s m #[Value.ref b] below meth c H locs cells slots Q (F0 m 132 ls []) := by
  obtain ⟨hX2, hE, hXs, hbl, hL⟩ := C
  obtain ⟨hx, hb, hml, hown, hG⟩ := id hX2
  have hts := hE.ts hG #[Value.ref b]
  have hK := hE.kn hG
  have hz : hb_Z s (fun q => s.heap.size ≤ q) := fun q h => h
  have hA : ∀ q, s.heap.size ≤ q → (fun q => s.heap.size ≤ q) q := fun q h => h
  have hbA : ¬ (fun q => s.heap.size ≤ q) b := fun h => absurd hbl (Nat.not_lt.mpr h)
  obtain ⟨Mx, My, g, ho, pa, tm, cd, A, P, na, np, bal, mi, f, eM, hoM, hdj, hX, hV, hI⟩ := hT
  subst eM
  obtain ⟨hc1, hc2⟩ := hcs
  have hl : lv_has ls 8 [(4, .int (nI i)), (3, .ref o), (2, .ref y), (1, .ref x), (0, .ref b)] := hl
  obtain ⟨a1, e1⟩ : ∃ a, xs (nI i + 1).toNatClampNeg = a := ⟨_, rfl⟩
  obtain ⟨a2, e2⟩ : ∃ a, xs (nI i + 2).toNatClampNeg = a := ⟨_, rfl⟩
  obtain ⟨a3, e3⟩ : ∃ a, xs (nI i + 3).toNatClampNeg = a := ⟨_, rfl⟩
  obtain ⟨a4, e4⟩ : ∃ a, xs (nI i + 4).toNatClampNeg = a := ⟨_, rfl⟩
  refine lv_aload_n hx hb d_Law_law_132 rfl (lv_at hl 3 rfl) ?_
  refine lv_aload_n hx hb d_Law_law_133 rfl (lv_at hl 4 rfl) ?_
  refine lv_iload hx hb d_Law_law_134 (lv_at hl 0 rfl) ?_
  refine lv_iconst (v := 1) hx hb d_Law_law_136 (by decide) ?_
  refine lv_iadd hx hb d_Law_law_137 ?_
  refine lb_sld hx hb hXs hbl hbA hS (lb_v1 hi hL) e1 d_Law_law_138 ?_
  refine lv_i2l (v := a1.toInt64) hx hb d_Law_law_139 rfl ?_
  refine lv_bipush (v := 32) hx hb d_Law_law_140 (by decide) ?_
  refine lv_lshl (v := a1.toInt64 <<< ((32 : Int32).toInt64 &&& 63)) hx hb d_Law_law_142 rfl ?_
  refine lv_aload_n hx hb d_Law_law_143 rfl (lv_at hl 4 rfl) ?_
  refine lv_iload hx hb d_Law_law_144 (lv_at hl 0 rfl) ?_
  refine lv_iconst (v := 2) hx hb d_Law_law_146 (by decide) ?_
  refine lv_iadd hx hb d_Law_law_147 ?_
  refine lb_sld hx hb hXs hbl hbA hS (lb_v2 hi hL) e2 d_Law_law_148 ?_
  refine lv_i2l (v := a2.toInt64) hx hb d_Law_law_149 rfl ?_
  refine lv_ldc2 (v := 4294967295) hx hb hown (hts _ kc_Law_65) d_Law_law_150 ?_
  refine lv_land hx hb d_Law_law_153 ?_
  refine lv_lor hx hb d_Law_law_154 ?_
  refine lv_aload_n hx hb d_Law_law_155 rfl (lv_at hl 4 rfl) ?_
  refine lv_iload hx hb d_Law_law_156 (lv_at hl 0 rfl) ?_
  refine lv_iconst (v := 3) hx hb d_Law_law_158 (by decide) ?_
  refine lv_iadd hx hb d_Law_law_159 ?_
  refine lb_sld hx hb hXs hbl hbA hS (lb_v3 hi hL) e3 d_Law_law_160 ?_
  refine lv_i2l (v := a3.toInt64) hx hb d_Law_law_161 rfl ?_
  refine lv_bipush (v := 32) hx hb d_Law_law_162 (by decide) ?_
  refine lv_lshl (v := a3.toInt64 <<< ((32 : Int32).toInt64 &&& 63)) hx hb d_Law_law_164 rfl ?_
  refine lv_aload_n hx hb d_Law_law_165 rfl (lv_at hl 4 rfl) ?_
  refine lv_iload hx hb d_Law_law_166 (lv_at hl 0 rfl) ?_
  refine lv_iconst (v := 4) hx hb d_Law_law_168 (by decide) ?_
  refine lv_iadd hx hb d_Law_law_169 ?_
  refine lb_sld hx hb hXs hbl hbA hS (lb_v4 hi hL) e4 d_Law_law_170 ?_
  refine lv_i2l (v := a4.toInt64) hx hb d_Law_law_171 rfl ?_
  refine lv_ldc2 (v := 4294967295) hx hb hown (hts _ kc_Law_65) d_Law_law_172 ?_
  refine lv_land hx hb d_Law_law_175 ?_
  refine lv_lor hx hb d_Law_law_176 ?_
  refine lv_aload_n hx hb d_Law_law_177 rfl (lv_at hl 1 rfl) ?_
  obtain ⟨k, z, w, tm1, A1, P1, na1, np1, bal1, mi1, f1, hI1, hkz, hXm, hYm⟩ := s_account hE g hX hV hI hn hoM ((a1.toInt64 <<< ((32 : Int32).toInt64 &&& 63)) ||| (a2.toInt64 &&& 4294967295)) ((a3.toInt64 <<< ((32 : Int32).toInt64 &&& 63)) ||| (a4.toInt64 &&& 4294967295))
  refine hb_lcSW (rest := []) hX2 hts hb_gd YW_account (hXm.frame hdj) ml_Law_67 st_Law_account hz hP hD hS hA rfl hl.1 rfl (Nat.le_of_ble_eq_true rfl) ⟨Nat.le_of_ble_eq_true rfl, Nat.le_of_ble_eq_true rfl⟩ ⟨hc1, hc2⟩ d_Law_law_178 (fun v M1 H locs hq hP hD hS _ _ => ?_)
  refine W.widen (k := cells + 2) (n := slots + 120) (Nat.le_refl _) (Nat.le_refl _) ?_
  obtain ⟨M2, ⟨ev, Mx1, g1, e8, hoM1, hX1, hg1⟩, e9, hdj1⟩ := hq
  subst ev
  subst e8
  subst e9
  refine W.eq (g2 := F0 m 181 ls [.int k]) rfl ?_
  refine lv_istore (lv' := [(5, .int k), (4, .int (nI i)), (3, .ref o), (2, .ref y), (1, .ref x), (0, .ref b)]) hx hb d_Law_law_181 hl (by decide) rfl (fun ls hl => ?_)
  refine lv_aload_n hx hb d_Law_law_183 rfl (lv_at hl 3 rfl) ?_
  refine lv_aload_n hx hb d_Law_law_184 rfl (lv_at hl 5 rfl) ?_
  refine lv_iload hx hb d_Law_law_185 (lv_at hl 1 rfl) ?_
  refine lv_iconst (v := 1) hx hb d_Law_law_187 (by decide) ?_
  refine lv_iadd hx hb d_Law_law_188 ?_
  refine lb_sld hx hb hXs hbl hbA hS (lb_v1 hi hL) e1 d_Law_law_189 ?_
  refine lv_i2l (v := a1.toInt64) hx hb d_Law_law_190 rfl ?_
  refine lv_bipush (v := 32) hx hb d_Law_law_191 (by decide) ?_
  refine lv_lshl (v := a1.toInt64 <<< ((32 : Int32).toInt64 &&& 63)) hx hb d_Law_law_193 rfl ?_
  refine lv_aload_n hx hb d_Law_law_194 rfl (lv_at hl 5 rfl) ?_
  refine lv_iload hx hb d_Law_law_195 (lv_at hl 1 rfl) ?_
  refine lv_iconst (v := 2) hx hb d_Law_law_197 (by decide) ?_
  refine lv_iadd hx hb d_Law_law_198 ?_
  refine lb_sld hx hb hXs hbl hbA hS (lb_v2 hi hL) e2 d_Law_law_199 ?_
  refine lv_i2l (v := a2.toInt64) hx hb d_Law_law_200 rfl ?_
  refine lv_ldc2 (v := 4294967295) hx hb hown (hts _ kc_Law_65) d_Law_law_201 ?_
  refine lv_land hx hb d_Law_law_204 ?_
  refine lv_lor hx hb d_Law_law_205 ?_
  refine lv_aload_n hx hb d_Law_law_206 rfl (lv_at hl 5 rfl) ?_
  refine lv_iload hx hb d_Law_law_207 (lv_at hl 1 rfl) ?_
  refine lv_iconst (v := 3) hx hb d_Law_law_209 (by decide) ?_
  refine lv_iadd hx hb d_Law_law_210 ?_
  refine lb_sld hx hb hXs hbl hbA hS (lb_v3 hi hL) e3 d_Law_law_211 ?_
  refine lv_i2l (v := a3.toInt64) hx hb d_Law_law_212 rfl ?_
  refine lv_bipush (v := 32) hx hb d_Law_law_213 (by decide) ?_
  refine lv_lshl (v := a3.toInt64 <<< ((32 : Int32).toInt64 &&& 63)) hx hb d_Law_law_215 rfl ?_
  refine lv_aload_n hx hb d_Law_law_216 rfl (lv_at hl 5 rfl) ?_
  refine lv_iload hx hb d_Law_law_217 (lv_at hl 1 rfl) ?_
  refine lv_iconst (v := 4) hx hb d_Law_law_219 (by decide) ?_
  refine lv_iadd hx hb d_Law_law_220 ?_
  refine lb_sld hx hb hXs hbl hbA hS (lb_v4 hi hL) e4 d_Law_law_221 ?_
  refine lv_i2l (v := a4.toInt64) hx hb d_Law_law_222 rfl ?_
  refine lv_ldc2 (v := 4294967295) hx hb hown (hts _ kc_Law_65) d_Law_law_223 ?_
  refine lv_land hx hb d_Law_law_226 ?_
  refine lv_lor hx hb d_Law_law_227 ?_
  rw [hb_jn_comm hdj1] at hP hD
  obtain ⟨fs, hy⟩ := hV.y
  refine hb_lcV (rest := []) hX2 hts hb_gd Y_Md_account (hYm.frame hdj1.symm) ml_Law_70 im_Md_account se_Md_account hK (hb_jn_l hy) hC_Md.1 hz hP hD hS hA rfl hl.1 rfl (Nat.le_of_ble_eq_true rfl) ⟨Nat.le_of_ble_eq_true rfl, Nat.le_of_ble_eq_true rfl⟩ ⟨hc1, hc2⟩ d_Law_law_228 (fun v M1 H locs hq hP hD hS _ _ => ?_)
  refine W.widen (k := cells + 2) (n := slots + 120) (Nat.le_refl _) (Nat.le_refl _) ?_
  obtain ⟨My1, ⟨ev, hV1⟩, e9, hdj2⟩ := hq
  subst ev
  subst e9
  refine W.eq (g2 := F0 m 231 ls [.int w]) rfl ?_
  refine lv_istore (lv' := [(6, .int w), (5, .int k), (4, .int (nI i)), (3, .ref o), (2, .ref y), (1, .ref x), (0, .ref b)]) hx hb d_Law_law_231 hl (by decide) rfl (fun ls hl => ?_)
  refine lv_aload_n hx hb d_Law_law_233 rfl (lv_at hl 4 rfl) ?_
  have hth := s_thrown hE hV1 hI1
  obtain ⟨fs1, hy1⟩ := hV1.y
  refine hb_lcV (rest := []) hX2 hts hb_gd Y_Md_thrown (hth.frame hdj2) ml_Law_71 im_Md_thrown se_Md_thrown hK (hb_jn_l hy1) hC_Md.1 hz hP hD hS hA rfl hl.1 rfl (Nat.le_of_ble_eq_true rfl) ⟨Nat.le_of_ble_eq_true rfl, Nat.le_of_ble_eq_true rfl⟩ ⟨hc1, hc2⟩ d_Law_law_234 (fun v M1 H locs hq hP hD hS _ _ => ?_)
  refine W.widen (k := cells + 2) (n := slots + 120) (Nat.le_refl _) (Nat.le_refl _) ?_
  obtain ⟨My2, ⟨ev, e8⟩, e9, hdj3⟩ := hq
  subst ev
  rw [e8] at e9
  subst e9
  refine W.eq (g2 := F0 m 237 ls [.int k]) rfl ?_
  refine lv_iload hx hb d_Law_law_237 (lv_at hl 1 rfl) ?_
  refine lv_icmp_eq (tgt := 244) hx hb d_Law_law_239 (by decide) (fun c1 => ?_) (fun c1 => ?_)
  · skip
    refine lv_iload hx hb d_Law_law_244 (lv_at hl 1 rfl) ?_
    refine lv_if_ne (tgt := 261) hx hb d_Law_law_246 (by decide) (fun c2 => ?_) (fun c2 => ?_)
    · skip
      refine lv_goto (tgt := 1182) hx hb d_Law_law_261 (by decide) ?_
      exact kk ls _ _ _ (lv_sub hl [2, 3, 4, 5, 6] rfl) ⟨Mx1, My1, g1, ho, pa, tm1, k, A1, P1, na1, np1, bal1, mi1, f1, hb_jn_comm hdj2, hoM1, hdj2.symm, hX1, hV1, hI1⟩ hP hD hS
    · skip
      refine lv_aload_n hx hb d_Law_law_249 rfl (lv_at hl 3 rfl) ?_
      refine lv_iconst (v := 0) hx hb d_Law_law_250 (by decide) ?_
      have hoM3 : (hb_jn My1 (hb_jn Mx1 (hb_one o (jE cJ g1)))) o = some (jE cJ g1) := by rw [hb_jn_comm hdj2, hb_jn_l (by rw [hb_jn_r hoM1]; exact hb_one_at)]
      refine va_lald hx hb hK (hP.one hoM3) 0 1 rfl rfl (show vp_in (nI 0) 1 from vp_in_nI (by omega) (by omega)) d_Law_law_251 ?_
      refine W.eq (g2 := F0 m 252 ls [.long (g1 0)]) rfl ?_
      refine lv_iload hx hb d_Law_law_252 (lv_at hl 0 rfl) ?_
      refine lv_i2l (v := w.toInt64) hx hb d_Law_law_254 rfl ?_
      refine hb_lc_eq (tgt := 261) hx hb d_Law_law_255 d_Law_law_256 (by decide) (fun c3 => ?_) (fun c3 => ?_)
      · skip
        refine lv_goto (tgt := 1182) hx hb d_Law_law_261 (by decide) ?_
        exact kk ls _ _ _ (lv_sub hl [2, 3, 4, 5, 6] rfl) ⟨Mx1, My1, g1, ho, pa, tm1, k, A1, P1, na1, np1, bal1, mi1, f1, hb_jn_comm hdj2, hoM1, hdj2.symm, hX1, hV1, hI1⟩ hP hD hS
      · skip
        exact absurd ((hg1 c2).trans (hkz c2)) c3
  · skip
    exact absurd rfl c1
set_option maxHeartbeats 4000000 in
set_option maxRecDepth 100000 in
theorem k_ask {p : Program} {l : Launch} {e : Env} {s : State} {m : MethodId} {below : List Frame} {meth : Method} {c : Code} {H : Heap} {locs : List Loc} {Q : State → Prop} {ls : Array Slot} {D : va_G} {cI cJ cO : ClassId} {e0 mi0 b L i x y o n cells slots : Nat} {xs : Nat → Int32} {M : hb_M} (C : lb_C p l s m c D cI cJ cO e0 mi0 b L xs) (hi : i + 6 ≤ L) (hn : n < 520) (hcs : cells + 2 ≤ 601024 ∧ slots + 120 ≤ 7293000) (hT : lb_S cI cJ cO e0 x y o n M) (hP : hb_P D hb_cl M H) (hD : hb_D (fun q => s.heap.size ≤ q) M) (hS : va_S (fun q => s.heap.size ≤ q) s.heap H locs) (hl : lv_has ls 8 (lb_L b x y o i))
    (kk : ∀ (ls : Array Slot) (M : hb_M) (H : Heap) (locs : List Loc), lv_has ls 8 (lb_L b x y o i) → lb_S cI cJ cO e0 x y o (n + 1) M → hb_P D hb_cl M H → hb_D (fun q => s.heap.size ≤ q) M → va_S (fun q => s.heap.size ≤ q) s.heap H locs → W p l e room_1 s m #[Value.ref b] below meth c H locs (cells + 2) (slots + 120) Q (F0 m 1182 ls [])) : W p l e room_1 s m #[Value.ref b] below meth c H locs cells slots Q (F0 m 264 ls []) := by
  obtain ⟨hX2, hE, hXs, hbl, hL⟩ := C
  obtain ⟨hx, hb, hml, hown, hG⟩ := id hX2
  have hts := hE.ts hG #[Value.ref b]
  have hK := hE.kn hG
  have hz : hb_Z s (fun q => s.heap.size ≤ q) := fun q h => h
  have hA : ∀ q, s.heap.size ≤ q → (fun q => s.heap.size ≤ q) q := fun q h => h
  have hbA : ¬ (fun q => s.heap.size ≤ q) b := fun h => absurd hbl (Nat.not_lt.mpr h)
  obtain ⟨Mx, My, g, ho, pa, tm, cd, A, P, na, np, bal, mi, f, eM, hoM, hdj, hX, hV, hI⟩ := hT
  subst eM
  obtain ⟨hc1, hc2⟩ := hcs
  have hl : lv_has ls 8 [(4, .int (nI i)), (3, .ref o), (2, .ref y), (1, .ref x), (0, .ref b)] := hl
  obtain ⟨a1, e1⟩ : ∃ a, xs (nI i + 1).toNatClampNeg = a := ⟨_, rfl⟩
  obtain ⟨a2, e2⟩ : ∃ a, xs (nI i + 2).toNatClampNeg = a := ⟨_, rfl⟩
  obtain ⟨a3, e3⟩ : ∃ a, xs (nI i + 3).toNatClampNeg = a := ⟨_, rfl⟩
  obtain ⟨a4, e4⟩ : ∃ a, xs (nI i + 4).toNatClampNeg = a := ⟨_, rfl⟩
  obtain ⟨a5, e5⟩ : ∃ a, xs (nI i + 5).toNatClampNeg = a := ⟨_, rfl⟩
  refine lv_aload_n hx hb d_Law_law_264 rfl (lv_at hl 3 rfl) ?_
  refine lv_aload_n hx hb d_Law_law_265 rfl (lv_at hl 4 rfl) ?_
  refine lv_iload hx hb d_Law_law_266 (lv_at hl 0 rfl) ?_
  refine lv_iconst (v := 1) hx hb d_Law_law_268 (by decide) ?_
  refine lv_iadd hx hb d_Law_law_269 ?_
  refine lb_sld hx hb hXs hbl hbA hS (lb_v1 hi hL) e1 d_Law_law_270 ?_
  refine lv_aload_n hx hb d_Law_law_271 rfl (lv_at hl 4 rfl) ?_
  refine lv_iload hx hb d_Law_law_272 (lv_at hl 0 rfl) ?_
  refine lv_iconst (v := 2) hx hb d_Law_law_274 (by decide) ?_
  refine lv_iadd hx hb d_Law_law_275 ?_
  refine lb_sld hx hb hXs hbl hbA hS (lb_v2 hi hL) e2 d_Law_law_276 ?_
  refine lv_aload_n hx hb d_Law_law_277 rfl (lv_at hl 4 rfl) ?_
  refine lv_iload hx hb d_Law_law_278 (lv_at hl 0 rfl) ?_
  refine lv_iconst (v := 3) hx hb d_Law_law_280 (by decide) ?_
  refine lv_iadd hx hb d_Law_law_281 ?_
  refine lb_sld hx hb hXs hbl hbA hS (lb_v3 hi hL) e3 d_Law_law_282 ?_
  refine lv_i2l (v := a3.toInt64) hx hb d_Law_law_283 rfl ?_
  refine lv_bipush (v := 32) hx hb d_Law_law_284 (by decide) ?_
  refine lv_lshl (v := a3.toInt64 <<< ((32 : Int32).toInt64 &&& 63)) hx hb d_Law_law_286 rfl ?_
  refine lv_aload_n hx hb d_Law_law_287 rfl (lv_at hl 4 rfl) ?_
  refine lv_iload hx hb d_Law_law_288 (lv_at hl 0 rfl) ?_
  refine lv_iconst (v := 4) hx hb d_Law_law_290 (by decide) ?_
  refine lv_iadd hx hb d_Law_law_291 ?_
  refine lb_sld hx hb hXs hbl hbA hS (lb_v4 hi hL) e4 d_Law_law_292 ?_
  refine lv_i2l (v := a4.toInt64) hx hb d_Law_law_293 rfl ?_
  refine lv_ldc2 (v := 4294967295) hx hb hown (hts _ kc_Law_65) d_Law_law_294 ?_
  refine lv_land hx hb d_Law_law_297 ?_
  refine lv_lor hx hb d_Law_law_298 ?_
  refine lv_aload_n hx hb d_Law_law_299 rfl (lv_at hl 4 rfl) ?_
  refine lv_iload hx hb d_Law_law_300 (lv_at hl 0 rfl) ?_
  refine lv_iconst (v := 5) hx hb d_Law_law_302 (by decide) ?_
  refine lv_iadd hx hb d_Law_law_303 ?_
  refine lb_sld hx hb hXs hbl hbA hS (lb_v5 hi hL) e5 d_Law_law_304 ?_
  refine lv_if_eq (tgt := 312) hx hb d_Law_law_305 (by decide) (fun c1 => ?_) (fun c1 => ?_)
  · skip
    refine lv_iconst (v := 0) hx hb d_Law_law_312 (by decide) ?_
    refine lv_aload_n hx hb d_Law_law_313 rfl (lv_at hl 1 rfl) ?_
    obtain ⟨k, z, w, tm1, A1, P1, na1, np1, bal1, mi1, f1, hI1, hkz, hXm, hYm⟩ := s_ask hE g hX hV hI hn hoM a1 a2 ((a3.toInt64 <<< ((32 : Int32).toInt64 &&& 63)) ||| (a4.toInt64 &&& 4294967295)) 0
    refine hb_lcSW (rest := []) hX2 hts hb_gd YW_ask (hXm.frame hdj) ml_Law_75 st_Law_ask hz hP hD hS hA rfl hl.1 rfl (Nat.le_of_ble_eq_true rfl) ⟨Nat.le_of_ble_eq_true rfl, Nat.le_of_ble_eq_true rfl⟩ ⟨hc1, hc2⟩ d_Law_law_314 (fun v M1 H locs hq hP hD hS _ _ => ?_)
    refine W.widen (k := cells + 2) (n := slots + 120) (Nat.le_refl _) (Nat.le_refl _) ?_
    obtain ⟨M2, ⟨ev, Mx1, g1, e8, hoM1, hX1, hg1⟩, e9, hdj1⟩ := hq
    subst ev
    subst e8
    subst e9
    refine W.eq (g2 := F0 m 317 ls [.int k]) rfl ?_
    refine lv_istore (lv' := [(5, .int k), (4, .int (nI i)), (3, .ref o), (2, .ref y), (1, .ref x), (0, .ref b)]) hx hb d_Law_law_317 hl (by decide) rfl (fun ls hl => ?_)
    refine lv_aload_n hx hb d_Law_law_319 rfl (lv_at hl 3 rfl) ?_
    refine lv_aload_n hx hb d_Law_law_320 rfl (lv_at hl 5 rfl) ?_
    refine lv_iload hx hb d_Law_law_321 (lv_at hl 1 rfl) ?_
    refine lv_iconst (v := 1) hx hb d_Law_law_323 (by decide) ?_
    refine lv_iadd hx hb d_Law_law_324 ?_
    refine lb_sld hx hb hXs hbl hbA hS (lb_v1 hi hL) e1 d_Law_law_325 ?_
    refine lv_aload_n hx hb d_Law_law_326 rfl (lv_at hl 5 rfl) ?_
    refine lv_iload hx hb d_Law_law_327 (lv_at hl 1 rfl) ?_
    refine lv_iconst (v := 2) hx hb d_Law_law_329 (by decide) ?_
    refine lv_iadd hx hb d_Law_law_330 ?_
    refine lb_sld hx hb hXs hbl hbA hS (lb_v2 hi hL) e2 d_Law_law_331 ?_
    refine lv_aload_n hx hb d_Law_law_332 rfl (lv_at hl 5 rfl) ?_
    refine lv_iload hx hb d_Law_law_333 (lv_at hl 1 rfl) ?_
    refine lv_iconst (v := 3) hx hb d_Law_law_335 (by decide) ?_
    refine lv_iadd hx hb d_Law_law_336 ?_
    refine lb_sld hx hb hXs hbl hbA hS (lb_v3 hi hL) e3 d_Law_law_337 ?_
    refine lv_i2l (v := a3.toInt64) hx hb d_Law_law_338 rfl ?_
    refine lv_bipush (v := 32) hx hb d_Law_law_339 (by decide) ?_
    refine lv_lshl (v := a3.toInt64 <<< ((32 : Int32).toInt64 &&& 63)) hx hb d_Law_law_341 rfl ?_
    refine lv_aload_n hx hb d_Law_law_342 rfl (lv_at hl 5 rfl) ?_
    refine lv_iload hx hb d_Law_law_343 (lv_at hl 1 rfl) ?_
    refine lv_iconst (v := 4) hx hb d_Law_law_345 (by decide) ?_
    refine lv_iadd hx hb d_Law_law_346 ?_
    refine lb_sld hx hb hXs hbl hbA hS (lb_v4 hi hL) e4 d_Law_law_347 ?_
    refine lv_i2l (v := a4.toInt64) hx hb d_Law_law_348 rfl ?_
    refine lv_ldc2 (v := 4294967295) hx hb hown (hts _ kc_Law_65) d_Law_law_349 ?_
    refine lv_land hx hb d_Law_law_352 ?_
    refine lv_lor hx hb d_Law_law_353 ?_
    refine lv_aload_n hx hb d_Law_law_354 rfl (lv_at hl 5 rfl) ?_
    refine lv_iload hx hb d_Law_law_355 (lv_at hl 1 rfl) ?_
    refine lv_iconst (v := 5) hx hb d_Law_law_357 (by decide) ?_
    refine lv_iadd hx hb d_Law_law_358 ?_
    refine lb_sld hx hb hXs hbl hbA hS (lb_v5 hi hL) e5 d_Law_law_359 ?_
    refine lv_if_eq (tgt := 367) hx hb d_Law_law_360 (by decide) (fun c2 => ?_) (fun c2 => ?_)
    · skip
      refine lv_iconst (v := 0) hx hb d_Law_law_367 (by decide) ?_
      rw [hb_jn_comm hdj1] at hP hD
      obtain ⟨fs, hy⟩ := hV.y
      refine hb_lcV (rest := []) hX2 hts hb_gd Y_Md_ask (hYm.frame hdj1.symm) ml_Law_78 im_Md_ask se_Md_ask hK (hb_jn_l hy) hC_Md.1 hz hP hD hS hA rfl hl.1 rfl (Nat.le_of_ble_eq_true rfl) ⟨Nat.le_of_ble_eq_true rfl, Nat.le_of_ble_eq_true rfl⟩ ⟨hc1, hc2⟩ d_Law_law_368 (fun v M1 H locs hq hP hD hS _ _ => ?_)
      refine W.widen (k := cells + 2) (n := slots + 120) (Nat.le_refl _) (Nat.le_refl _) ?_
      obtain ⟨My1, ⟨ev, hV1⟩, e9, hdj2⟩ := hq
      subst ev
      subst e9
      refine W.eq (g2 := F0 m 371 ls [.long w]) rfl ?_
      refine lv_lstore (lv' := [(6, .long w), (5, .int k), (4, .int (nI i)), (3, .ref o), (2, .ref y), (1, .ref x), (0, .ref b)]) hx hb d_Law_law_371 hl (by decide) rfl (fun ls hl => ?_)
      refine lv_aload_n hx hb d_Law_law_373 rfl (lv_at hl 4 rfl) ?_
      have hth := s_thrown hE hV1 hI1
      obtain ⟨fs1, hy1⟩ := hV1.y
      refine hb_lcV (rest := []) hX2 hts hb_gd Y_Md_thrown (hth.frame hdj2) ml_Law_71 im_Md_thrown se_Md_thrown hK (hb_jn_l hy1) hC_Md.1 hz hP hD hS hA rfl hl.1 rfl (Nat.le_of_ble_eq_true rfl) ⟨Nat.le_of_ble_eq_true rfl, Nat.le_of_ble_eq_true rfl⟩ ⟨hc1, hc2⟩ d_Law_law_374 (fun v M1 H locs hq hP hD hS _ _ => ?_)
      refine W.widen (k := cells + 2) (n := slots + 120) (Nat.le_refl _) (Nat.le_refl _) ?_
      obtain ⟨My2, ⟨ev, e8⟩, e9, hdj3⟩ := hq
      subst ev
      rw [e8] at e9
      subst e9
      refine W.eq (g2 := F0 m 377 ls [.int k]) rfl ?_
      refine lv_iload hx hb d_Law_law_377 (lv_at hl 1 rfl) ?_
      refine lv_icmp_eq (tgt := 384) hx hb d_Law_law_379 (by decide) (fun c3 => ?_) (fun c3 => ?_)
      · skip
        refine lv_iload hx hb d_Law_law_384 (lv_at hl 1 rfl) ?_
        refine lv_if_ne (tgt := 400) hx hb d_Law_law_386 (by decide) (fun c4 => ?_) (fun c4 => ?_)
        · skip
          refine lv_goto (tgt := 1182) hx hb d_Law_law_400 (by decide) ?_
          exact kk ls _ _ _ (lv_sub hl [2, 3, 4, 5, 6] rfl) ⟨Mx1, My1, g1, ho, pa, tm1, k, A1, P1, na1, np1, bal1, mi1, f1, hb_jn_comm hdj2, hoM1, hdj2.symm, hX1, hV1, hI1⟩ hP hD hS
        · skip
          refine lv_aload_n hx hb d_Law_law_389 rfl (lv_at hl 3 rfl) ?_
          refine lv_iconst (v := 0) hx hb d_Law_law_390 (by decide) ?_
          have hoM3 : (hb_jn My1 (hb_jn Mx1 (hb_one o (jE cJ g1)))) o = some (jE cJ g1) := by rw [hb_jn_comm hdj2, hb_jn_l (by rw [hb_jn_r hoM1]; exact hb_one_at)]
          refine va_lald hx hb hK (hP.one hoM3) 0 1 rfl rfl (show vp_in (nI 0) 1 from vp_in_nI (by omega) (by omega)) d_Law_law_391 ?_
          refine W.eq (g2 := F0 m 392 ls [.long (g1 0)]) rfl ?_
          refine lv_lload hx hb d_Law_law_392 (lv_at hl 0 rfl) ?_
          refine hb_lc_eq (tgt := 400) hx hb d_Law_law_394 d_Law_law_395 (by decide) (fun c5 => ?_) (fun c5 => ?_)
          · skip
            refine lv_goto (tgt := 1182) hx hb d_Law_law_400 (by decide) ?_
            exact kk ls _ _ _ (lv_sub hl [2, 3, 4, 5, 6] rfl) ⟨Mx1, My1, g1, ho, pa, tm1, k, A1, P1, na1, np1, bal1, mi1, f1, hb_jn_comm hdj2, hoM1, hdj2.symm, hX1, hV1, hI1⟩ hP hD hS
          · skip
            exact absurd ((hg1 c4).trans (hkz c4)) c5
      · skip
        exact absurd rfl c3
    · skip
      exact absurd c1 c2
  · skip
    refine lv_iconst (v := 1) hx hb d_Law_law_308 (by decide) ?_
    refine lv_goto (tgt := 313) hx hb d_Law_law_309 (by decide) ?_
    refine lv_aload_n hx hb d_Law_law_313 rfl (lv_at hl 1 rfl) ?_
    obtain ⟨k, z, w, tm1, A1, P1, na1, np1, bal1, mi1, f1, hI1, hkz, hXm, hYm⟩ := s_ask hE g hX hV hI hn hoM a1 a2 ((a3.toInt64 <<< ((32 : Int32).toInt64 &&& 63)) ||| (a4.toInt64 &&& 4294967295)) 1
    refine hb_lcSW (rest := []) hX2 hts hb_gd YW_ask (hXm.frame hdj) ml_Law_75 st_Law_ask hz hP hD hS hA rfl hl.1 rfl (Nat.le_of_ble_eq_true rfl) ⟨Nat.le_of_ble_eq_true rfl, Nat.le_of_ble_eq_true rfl⟩ ⟨hc1, hc2⟩ d_Law_law_314 (fun v M1 H locs hq hP hD hS _ _ => ?_)
    refine W.widen (k := cells + 2) (n := slots + 120) (Nat.le_refl _) (Nat.le_refl _) ?_
    obtain ⟨M2, ⟨ev, Mx1, g1, e8, hoM1, hX1, hg1⟩, e9, hdj1⟩ := hq
    subst ev
    subst e8
    subst e9
    refine W.eq (g2 := F0 m 317 ls [.int k]) rfl ?_
    refine lv_istore (lv' := [(5, .int k), (4, .int (nI i)), (3, .ref o), (2, .ref y), (1, .ref x), (0, .ref b)]) hx hb d_Law_law_317 hl (by decide) rfl (fun ls hl => ?_)
    refine lv_aload_n hx hb d_Law_law_319 rfl (lv_at hl 3 rfl) ?_
    refine lv_aload_n hx hb d_Law_law_320 rfl (lv_at hl 5 rfl) ?_
    refine lv_iload hx hb d_Law_law_321 (lv_at hl 1 rfl) ?_
    refine lv_iconst (v := 1) hx hb d_Law_law_323 (by decide) ?_
    refine lv_iadd hx hb d_Law_law_324 ?_
    refine lb_sld hx hb hXs hbl hbA hS (lb_v1 hi hL) e1 d_Law_law_325 ?_
    refine lv_aload_n hx hb d_Law_law_326 rfl (lv_at hl 5 rfl) ?_
    refine lv_iload hx hb d_Law_law_327 (lv_at hl 1 rfl) ?_
    refine lv_iconst (v := 2) hx hb d_Law_law_329 (by decide) ?_
    refine lv_iadd hx hb d_Law_law_330 ?_
    refine lb_sld hx hb hXs hbl hbA hS (lb_v2 hi hL) e2 d_Law_law_331 ?_
    refine lv_aload_n hx hb d_Law_law_332 rfl (lv_at hl 5 rfl) ?_
    refine lv_iload hx hb d_Law_law_333 (lv_at hl 1 rfl) ?_
    refine lv_iconst (v := 3) hx hb d_Law_law_335 (by decide) ?_
    refine lv_iadd hx hb d_Law_law_336 ?_
    refine lb_sld hx hb hXs hbl hbA hS (lb_v3 hi hL) e3 d_Law_law_337 ?_
    refine lv_i2l (v := a3.toInt64) hx hb d_Law_law_338 rfl ?_
    refine lv_bipush (v := 32) hx hb d_Law_law_339 (by decide) ?_
    refine lv_lshl (v := a3.toInt64 <<< ((32 : Int32).toInt64 &&& 63)) hx hb d_Law_law_341 rfl ?_
    refine lv_aload_n hx hb d_Law_law_342 rfl (lv_at hl 5 rfl) ?_
    refine lv_iload hx hb d_Law_law_343 (lv_at hl 1 rfl) ?_
    refine lv_iconst (v := 4) hx hb d_Law_law_345 (by decide) ?_
    refine lv_iadd hx hb d_Law_law_346 ?_
    refine lb_sld hx hb hXs hbl hbA hS (lb_v4 hi hL) e4 d_Law_law_347 ?_
    refine lv_i2l (v := a4.toInt64) hx hb d_Law_law_348 rfl ?_
    refine lv_ldc2 (v := 4294967295) hx hb hown (hts _ kc_Law_65) d_Law_law_349 ?_
    refine lv_land hx hb d_Law_law_352 ?_
    refine lv_lor hx hb d_Law_law_353 ?_
    refine lv_aload_n hx hb d_Law_law_354 rfl (lv_at hl 5 rfl) ?_
    refine lv_iload hx hb d_Law_law_355 (lv_at hl 1 rfl) ?_
    refine lv_iconst (v := 5) hx hb d_Law_law_357 (by decide) ?_
    refine lv_iadd hx hb d_Law_law_358 ?_
    refine lb_sld hx hb hXs hbl hbA hS (lb_v5 hi hL) e5 d_Law_law_359 ?_
    refine lv_if_eq (tgt := 367) hx hb d_Law_law_360 (by decide) (fun c6 => ?_) (fun c6 => ?_)
    · skip
      exact absurd c6 c1
    · skip
      refine lv_iconst (v := 1) hx hb d_Law_law_363 (by decide) ?_
      refine lv_goto (tgt := 368) hx hb d_Law_law_364 (by decide) ?_
      rw [hb_jn_comm hdj1] at hP hD
      obtain ⟨fs, hy⟩ := hV.y
      refine hb_lcV (rest := []) hX2 hts hb_gd Y_Md_ask (hYm.frame hdj1.symm) ml_Law_78 im_Md_ask se_Md_ask hK (hb_jn_l hy) hC_Md.1 hz hP hD hS hA rfl hl.1 rfl (Nat.le_of_ble_eq_true rfl) ⟨Nat.le_of_ble_eq_true rfl, Nat.le_of_ble_eq_true rfl⟩ ⟨hc1, hc2⟩ d_Law_law_368 (fun v M1 H locs hq hP hD hS _ _ => ?_)
      refine W.widen (k := cells + 2) (n := slots + 120) (Nat.le_refl _) (Nat.le_refl _) ?_
      obtain ⟨My1, ⟨ev, hV1⟩, e9, hdj2⟩ := hq
      subst ev
      subst e9
      refine W.eq (g2 := F0 m 371 ls [.long w]) rfl ?_
      refine lv_lstore (lv' := [(6, .long w), (5, .int k), (4, .int (nI i)), (3, .ref o), (2, .ref y), (1, .ref x), (0, .ref b)]) hx hb d_Law_law_371 hl (by decide) rfl (fun ls hl => ?_)
      refine lv_aload_n hx hb d_Law_law_373 rfl (lv_at hl 4 rfl) ?_
      have hth := s_thrown hE hV1 hI1
      obtain ⟨fs1, hy1⟩ := hV1.y
      refine hb_lcV (rest := []) hX2 hts hb_gd Y_Md_thrown (hth.frame hdj2) ml_Law_71 im_Md_thrown se_Md_thrown hK (hb_jn_l hy1) hC_Md.1 hz hP hD hS hA rfl hl.1 rfl (Nat.le_of_ble_eq_true rfl) ⟨Nat.le_of_ble_eq_true rfl, Nat.le_of_ble_eq_true rfl⟩ ⟨hc1, hc2⟩ d_Law_law_374 (fun v M1 H locs hq hP hD hS _ _ => ?_)
      refine W.widen (k := cells + 2) (n := slots + 120) (Nat.le_refl _) (Nat.le_refl _) ?_
      obtain ⟨My2, ⟨ev, e8⟩, e9, hdj3⟩ := hq
      subst ev
      rw [e8] at e9
      subst e9
      refine W.eq (g2 := F0 m 377 ls [.int k]) rfl ?_
      refine lv_iload hx hb d_Law_law_377 (lv_at hl 1 rfl) ?_
      refine lv_icmp_eq (tgt := 384) hx hb d_Law_law_379 (by decide) (fun c7 => ?_) (fun c7 => ?_)
      · skip
        refine lv_iload hx hb d_Law_law_384 (lv_at hl 1 rfl) ?_
        refine lv_if_ne (tgt := 400) hx hb d_Law_law_386 (by decide) (fun c8 => ?_) (fun c8 => ?_)
        · skip
          refine lv_goto (tgt := 1182) hx hb d_Law_law_400 (by decide) ?_
          exact kk ls _ _ _ (lv_sub hl [2, 3, 4, 5, 6] rfl) ⟨Mx1, My1, g1, ho, pa, tm1, k, A1, P1, na1, np1, bal1, mi1, f1, hb_jn_comm hdj2, hoM1, hdj2.symm, hX1, hV1, hI1⟩ hP hD hS
        · skip
          refine lv_aload_n hx hb d_Law_law_389 rfl (lv_at hl 3 rfl) ?_
          refine lv_iconst (v := 0) hx hb d_Law_law_390 (by decide) ?_
          have hoM3 : (hb_jn My1 (hb_jn Mx1 (hb_one o (jE cJ g1)))) o = some (jE cJ g1) := by rw [hb_jn_comm hdj2, hb_jn_l (by rw [hb_jn_r hoM1]; exact hb_one_at)]
          refine va_lald hx hb hK (hP.one hoM3) 0 1 rfl rfl (show vp_in (nI 0) 1 from vp_in_nI (by omega) (by omega)) d_Law_law_391 ?_
          refine W.eq (g2 := F0 m 392 ls [.long (g1 0)]) rfl ?_
          refine lv_lload hx hb d_Law_law_392 (lv_at hl 0 rfl) ?_
          refine hb_lc_eq (tgt := 400) hx hb d_Law_law_394 d_Law_law_395 (by decide) (fun c9 => ?_) (fun c9 => ?_)
          · skip
            refine lv_goto (tgt := 1182) hx hb d_Law_law_400 (by decide) ?_
            exact kk ls _ _ _ (lv_sub hl [2, 3, 4, 5, 6] rfl) ⟨Mx1, My1, g1, ho, pa, tm1, k, A1, P1, na1, np1, bal1, mi1, f1, hb_jn_comm hdj2, hoM1, hdj2.symm, hX1, hV1, hI1⟩ hP hD hS
          · skip
            exact absurd ((hg1 c8).trans (hkz c8)) c9
      · skip
        exact absurd rfl c7

/-! the law's sixteen cases: written by wip/whole/gen_lawloop.py -/
set_option maxHeartbeats 4000000 in
theorem lw_c0 {p : Program} {l : Launch} {e : Env} {s : State} {m : MethodId} {below : List Frame} {meth : Method} {c : Code} {Q : State → Prop} {b L : Nat} {xs : Nat → Int32} {D : va_G} {ar : Nat → ClassId} {ad2 : Nat → Nat → Nat} {r X i cells slots : Nat} (E : lw_E p l s m c b L xs D ar) (hi : i + 5 ≤ L) (hc : cells + 1 ≤ room_1.cells) (hs : slots + 6 ≤ room_1.slots) (kk : lw_K0 p l e s m below meth c Q b D ar ad2 r X i (cells + 1) (slots + 6) 855) : lw_K0 p l e s m below meth c Q b D ar ad2 r X i cells slots 116 := by
  intro H locs cs ss ls ad nf N M g I hRM hX hl hcs hss
  subst hX
  have E1 := E.1.1
  have E2 := E.1.2.1
  have hml := E.2.1
  have hL := E.2.2.2.2.2.2
  have F1 : bn_F p s m #[Value.ref b] c code "BridgeNetLaw" (bn_y D ar ad nf) := E.1
  have F2 : bn_F p s m #[Value.ref b] c code "BridgeNetLaw" (mo_y D ar ad2) := E.1
  refine lv_aload_n E1 E2 d_law_116 rfl (lv_at hl 3 rfl) ?_
  refine lv_aload_n E1 E2 d_law_117 rfl (lv_at hl 4 rfl) ?_
  refine lv_iload E1 E2 d_law_118 (lv_at hl 0 rfl) ?_
  refine lv_iconst (v := 1) E1 E2 d_law_120 (by decide) ?_
  refine lv_iadd E1 E2 d_law_121 ?_
  refine bn_ti (y := nI (i + 1)) (nI_add i 1) ?_
  refine lw_ld E I (j := i + 1) (by omega) d_law_122 ?_
  refine lv_aload_n E1 E2 d_law_123 rfl (lv_at hl 4 rfl) ?_
  refine lv_iload E1 E2 d_law_124 (lv_at hl 0 rfl) ?_
  refine lv_iconst (v := 2) E1 E2 d_law_126 (by decide) ?_
  refine lv_iadd E1 E2 d_law_127 ?_
  refine bn_ti (y := nI (i + 2)) (nI_add i 2) ?_
  refine lw_ld E I (j := i + 2) (by omega) d_law_128 ?_
  refine lw_i1 I (bn_runV (n := 2) (As := [.int (xs (i + 1)), .int (xs (i + 2))]) (rest := []) F1 hml hl.1 (lw_H1 I) mm_0 rfl rfl (c_Ne_priority l D ar ad nf N (xs (i + 1)) (xs (i + 2)) _) (bn_goodV k_229 k_230 k_231 k_1 k_232) rfl rfl (by decide) ⟨by decide, by decide⟩ rfl rfl (Nat.le_of_ble_eq_true rfl) d_law_129 ⟨by omega, by omega⟩) (fun H locs I => ?_)
  refine lv_aload_n E1 E2 d_law_132 rfl (lv_at hl 2 rfl) ?_
  refine lv_aload_n E1 E2 d_law_133 rfl (lv_at hl 4 rfl) ?_
  refine lv_iload E1 E2 d_law_134 (lv_at hl 0 rfl) ?_
  refine lv_iconst (v := 1) E1 E2 d_law_136 (by decide) ?_
  refine lv_iadd E1 E2 d_law_137 ?_
  refine bn_ti (y := nI (i + 1)) (nI_add i 1) ?_
  refine lw_ld E I (j := i + 1) (by omega) d_law_138 ?_
  refine lv_aload_n E1 E2 d_law_139 rfl (lv_at hl 4 rfl) ?_
  refine lv_iload E1 E2 d_law_140 (lv_at hl 0 rfl) ?_
  refine lv_iconst (v := 2) E1 E2 d_law_142 (by decide) ?_
  refine lv_iadd E1 E2 d_law_143 ?_
  refine bn_ti (y := nI (i + 2)) (nI_add i 2) ?_
  refine lw_ld E I (j := i + 2) (by omega) d_law_144 ?_
  refine lw_i2 I (bn_runV (n := 2) (As := [.int (xs (i + 1)), .int (xs (i + 2))]) (rest := [.int (o_Ne_priority N (xs (i + 1)) (xs (i + 2))).1]) F2 hml hl.1 (lw_H2 I) mi_0 rfl rfl (c_Mo_priority l D ar ad2 M (xs (i + 1)) (xs (i + 2)) _) (bn_goodV k_913 k_914 k_915 k_7 k_916) rfl rfl (by decide) ⟨by decide, by decide⟩ rfl rfl (Nat.le_of_ble_eq_true rfl) d_law_145 ⟨by omega, by omega⟩) (fun H locs I => ?_)
  refine lv_icmp_eq E1 E2 d_law_148 rfl (fun _ => ?_) (fun hz => absurd (rm_priority hRM (xs (i + 1)) (xs (i + 2))).1 hz)
  exact kk H locs _ _ ls ad _ _ _ g I (rm_priority hRM (xs (i + 1)) (xs (i + 2))).2 rfl hl (by omega) (by omega)
set_option maxHeartbeats 4000000 in
theorem lw_c1 {p : Program} {l : Launch} {e : Env} {s : State} {m : MethodId} {below : List Frame} {meth : Method} {c : Code} {Q : State → Prop} {b L : Nat} {xs : Nat → Int32} {D : va_G} {ar : Nat → ClassId} {ad2 : Nat → Nat → Nat} {r X i cells slots : Nat} (E : lw_E p l s m c b L xs D ar) (hi : i + 5 ≤ L) (hc : cells + 1 ≤ room_1.cells) (hs : slots + 6 ≤ room_1.slots) (kk : lw_K0 p l e s m below meth c Q b D ar ad2 r X i (cells + 1) (slots + 6) 855) : lw_K0 p l e s m below meth c Q b D ar ad2 r X i cells slots 153 := by
  intro H locs cs ss ls ad nf N M g I hRM hX hl hcs hss
  subst hX
  have E1 := E.1.1
  have E2 := E.1.2.1
  have hml := E.2.1
  have hL := E.2.2.2.2.2.2
  have F1 : bn_F p s m #[Value.ref b] c code "BridgeNetLaw" (bn_y D ar ad nf) := E.1
  have F2 : bn_F p s m #[Value.ref b] c code "BridgeNetLaw" (mo_y D ar ad2) := E.1
  refine lv_aload_n E1 E2 d_law_153 rfl (lv_at hl 3 rfl) ?_
  refine lv_aload_n E1 E2 d_law_154 rfl (lv_at hl 4 rfl) ?_
  refine lv_iload E1 E2 d_law_155 (lv_at hl 0 rfl) ?_
  refine lv_iconst (v := 1) E1 E2 d_law_157 (by decide) ?_
  refine lv_iadd E1 E2 d_law_158 ?_
  refine bn_ti (y := nI (i + 1)) (nI_add i 1) ?_
  refine lw_ld E I (j := i + 1) (by omega) d_law_159 ?_
  refine lv_aload_n E1 E2 d_law_160 rfl (lv_at hl 4 rfl) ?_
  refine lv_iload E1 E2 d_law_161 (lv_at hl 0 rfl) ?_
  refine lv_iconst (v := 2) E1 E2 d_law_163 (by decide) ?_
  refine lv_iadd E1 E2 d_law_164 ?_
  refine bn_ti (y := nI (i + 2)) (nI_add i 2) ?_
  refine lw_ld E I (j := i + 2) (by omega) d_law_165 ?_
  refine lv_aload_n E1 E2 d_law_166 rfl (lv_at hl 4 rfl) ?_
  refine lv_iload E1 E2 d_law_167 (lv_at hl 0 rfl) ?_
  refine lv_iconst (v := 3) E1 E2 d_law_169 (by decide) ?_
  refine lv_iadd E1 E2 d_law_170 ?_
  refine bn_ti (y := nI (i + 3)) (nI_add i 3) ?_
  refine lw_ld E I (j := i + 3) (by omega) d_law_171 ?_
  refine lv_aload_n E1 E2 d_law_172 rfl (lv_at hl 4 rfl) ?_
  refine lv_iload E1 E2 d_law_173 (lv_at hl 0 rfl) ?_
  refine lv_iconst (v := 4) E1 E2 d_law_175 (by decide) ?_
  refine lv_iadd E1 E2 d_law_176 ?_
  refine bn_ti (y := nI (i + 4)) (nI_add i 4) ?_
  refine lw_ld E I (j := i + 4) (by omega) d_law_177 ?_
  refine lw_i1 I (bn_runV (n := 4) (As := [.int (xs (i + 1)), .int (xs (i + 2)), .int (xs (i + 3)), .int (xs (i + 4))]) (rest := []) F1 hml hl.1 (lw_H1 I) mm_0 rfl rfl (c_Ne_set l D ar ad nf N (xs (i + 1)) (xs (i + 2)) (xs (i + 3)) (xs (i + 4)) _) (bn_goodV k_317 k_318 k_319 k_1 k_320) rfl rfl (by decide) ⟨by decide, by decide⟩ rfl rfl (Nat.le_of_ble_eq_true rfl) d_law_178 ⟨by omega, by omega⟩) (fun H locs I => ?_)
  refine lv_aload_n E1 E2 d_law_181 rfl (lv_at hl 2 rfl) ?_
  refine lv_aload_n E1 E2 d_law_182 rfl (lv_at hl 4 rfl) ?_
  refine lv_iload E1 E2 d_law_183 (lv_at hl 0 rfl) ?_
  refine lv_iconst (v := 1) E1 E2 d_law_185 (by decide) ?_
  refine lv_iadd E1 E2 d_law_186 ?_
  refine bn_ti (y := nI (i + 1)) (nI_add i 1) ?_
  refine lw_ld E I (j := i + 1) (by omega) d_law_187 ?_
  refine lv_aload_n E1 E2 d_law_188 rfl (lv_at hl 4 rfl) ?_
  refine lv_iload E1 E2 d_law_189 (lv_at hl 0 rfl) ?_
  refine lv_iconst (v := 2) E1 E2 d_law_191 (by decide) ?_
  refine lv_iadd E1 E2 d_law_192 ?_
  refine bn_ti (y := nI (i + 2)) (nI_add i 2) ?_
  refine lw_ld E I (j := i + 2) (by omega) d_law_193 ?_
  refine lv_aload_n E1 E2 d_law_194 rfl (lv_at hl 4 rfl) ?_
  refine lv_iload E1 E2 d_law_195 (lv_at hl 0 rfl) ?_
  refine lv_iconst (v := 3) E1 E2 d_law_197 (by decide) ?_
  refine lv_iadd E1 E2 d_law_198 ?_
  refine bn_ti (y := nI (i + 3)) (nI_add i 3) ?_
  refine lw_ld E I (j := i + 3) (by omega) d_law_199 ?_
  refine lv_aload_n E1 E2 d_law_200 rfl (lv_at hl 4 rfl) ?_
  refine lv_iload E1 E2 d_law_201 (lv_at hl 0 rfl) ?_
  refine lv_iconst (v := 4) E1 E2 d_law_203 (by decide) ?_
  refine lv_iadd E1 E2 d_law_204 ?_
  refine bn_ti (y := nI (i + 4)) (nI_add i 4) ?_
  refine lw_ld E I (j := i + 4) (by omega) d_law_205 ?_
  refine lw_i2 I (bn_runV (n := 4) (As := [.int (xs (i + 1)), .int (xs (i + 2)), .int (xs (i + 3)), .int (xs (i + 4))]) (rest := [.int (o_Ne_set N (xs (i + 1)) (xs (i + 2)) (xs (i + 3)) (xs (i + 4))).1]) F2 hml hl.1 (lw_H2 I) mi_0 rfl rfl (c_Mo_set l D ar ad2 M (xs (i + 1)) (xs (i + 2)) (xs (i + 3)) (xs (i + 4)) _) (bn_goodV k_917 k_918 k_919 k_7 k_920) rfl rfl (by decide) ⟨by decide, by decide⟩ rfl rfl (Nat.le_of_ble_eq_true rfl) d_law_206 ⟨by omega, by omega⟩) (fun H locs I => ?_)
  refine lv_icmp_eq E1 E2 d_law_209 rfl (fun _ => ?_) (fun hz => absurd (rm_set hRM (xs (i + 1)) (xs (i + 2)) (xs (i + 3)) (xs (i + 4))).1 hz)
  exact kk H locs _ _ ls ad _ _ _ g I (rm_set hRM (xs (i + 1)) (xs (i + 2)) (xs (i + 3)) (xs (i + 4))).2 rfl hl (by omega) (by omega)
set_option maxHeartbeats 4000000 in
theorem lw_c2 {p : Program} {l : Launch} {e : Env} {s : State} {m : MethodId} {below : List Frame} {meth : Method} {c : Code} {Q : State → Prop} {b L : Nat} {xs : Nat → Int32} {D : va_G} {ar : Nat → ClassId} {ad2 : Nat → Nat → Nat} {r X i cells slots : Nat} (E : lw_E p l s m c b L xs D ar) (hi : i + 5 ≤ L) (hc : cells + 1 ≤ room_1.cells) (hs : slots + 6 ≤ room_1.slots) (kk : lw_K0 p l e s m below meth c Q b D ar ad2 r X i (cells + 1) (slots + 6) 855) : lw_K0 p l e s m below meth c Q b D ar ad2 r X i cells slots 214 := by
  intro H locs cs ss ls ad nf N M g I hRM hX hl hcs hss
  subst hX
  have E1 := E.1.1
  have E2 := E.1.2.1
  have hml := E.2.1
  have hL := E.2.2.2.2.2.2
  have F1 : bn_F p s m #[Value.ref b] c code "BridgeNetLaw" (bn_y D ar ad nf) := E.1
  have F2 : bn_F p s m #[Value.ref b] c code "BridgeNetLaw" (mo_y D ar ad2) := E.1
  refine lv_aload_n E1 E2 d_law_214 rfl (lv_at hl 3 rfl) ?_
  refine lv_aload_n E1 E2 d_law_215 rfl (lv_at hl 4 rfl) ?_
  refine lv_iload E1 E2 d_law_216 (lv_at hl 0 rfl) ?_
  refine lv_iconst (v := 1) E1 E2 d_law_218 (by decide) ?_
  refine lv_iadd E1 E2 d_law_219 ?_
  refine bn_ti (y := nI (i + 1)) (nI_add i 1) ?_
  refine lw_ld E I (j := i + 1) (by omega) d_law_220 ?_
  refine lv_aload_n E1 E2 d_law_221 rfl (lv_at hl 4 rfl) ?_
  refine lv_iload E1 E2 d_law_222 (lv_at hl 0 rfl) ?_
  refine lv_iconst (v := 2) E1 E2 d_law_224 (by decide) ?_
  refine lv_iadd E1 E2 d_law_225 ?_
  refine bn_ti (y := nI (i + 2)) (nI_add i 2) ?_
  refine lw_ld E I (j := i + 2) (by omega) d_law_226 ?_
  refine lv_aload_n E1 E2 d_law_227 rfl (lv_at hl 4 rfl) ?_
  refine lv_iload E1 E2 d_law_228 (lv_at hl 0 rfl) ?_
  refine lv_iconst (v := 3) E1 E2 d_law_230 (by decide) ?_
  refine lv_iadd E1 E2 d_law_231 ?_
  refine bn_ti (y := nI (i + 3)) (nI_add i 3) ?_
  refine lw_ld E I (j := i + 3) (by omega) d_law_232 ?_
  refine lv_aload_n E1 E2 d_law_233 rfl (lv_at hl 4 rfl) ?_
  refine lv_iload E1 E2 d_law_234 (lv_at hl 0 rfl) ?_
  refine lv_iconst (v := 4) E1 E2 d_law_236 (by decide) ?_
  refine lv_iadd E1 E2 d_law_237 ?_
  refine bn_ti (y := nI (i + 4)) (nI_add i 4) ?_
  refine lw_ld E I (j := i + 4) (by omega) d_law_238 ?_
  refine lw_i1 I (bn_runV (n := 4) (As := [.int (xs (i + 1)), .int (xs (i + 2)), .int (xs (i + 3)), .int (xs (i + 4))]) (rest := []) F1 hml hl.1 (lw_H1 I) mm_0 rfl rfl (c_Ne_link l D ar ad nf N (xs (i + 1)) (xs (i + 2)) (xs (i + 3)) (xs (i + 4)) _) (bn_goodV k_325 k_326 k_327 k_1 k_328) rfl rfl (by decide) ⟨by decide, by decide⟩ rfl rfl (Nat.le_of_ble_eq_true rfl) d_law_239 ⟨by omega, by omega⟩) (fun H locs I => ?_)
  refine lv_aload_n E1 E2 d_law_242 rfl (lv_at hl 2 rfl) ?_
  refine lv_aload_n E1 E2 d_law_243 rfl (lv_at hl 4 rfl) ?_
  refine lv_iload E1 E2 d_law_244 (lv_at hl 0 rfl) ?_
  refine lv_iconst (v := 1) E1 E2 d_law_246 (by decide) ?_
  refine lv_iadd E1 E2 d_law_247 ?_
  refine bn_ti (y := nI (i + 1)) (nI_add i 1) ?_
  refine lw_ld E I (j := i + 1) (by omega) d_law_248 ?_
  refine lv_aload_n E1 E2 d_law_249 rfl (lv_at hl 4 rfl) ?_
  refine lv_iload E1 E2 d_law_250 (lv_at hl 0 rfl) ?_
  refine lv_iconst (v := 2) E1 E2 d_law_252 (by decide) ?_
  refine lv_iadd E1 E2 d_law_253 ?_
  refine bn_ti (y := nI (i + 2)) (nI_add i 2) ?_
  refine lw_ld E I (j := i + 2) (by omega) d_law_254 ?_
  refine lv_aload_n E1 E2 d_law_255 rfl (lv_at hl 4 rfl) ?_
  refine lv_iload E1 E2 d_law_256 (lv_at hl 0 rfl) ?_
  refine lv_iconst (v := 3) E1 E2 d_law_258 (by decide) ?_
  refine lv_iadd E1 E2 d_law_259 ?_
  refine bn_ti (y := nI (i + 3)) (nI_add i 3) ?_
  refine lw_ld E I (j := i + 3) (by omega) d_law_260 ?_
  refine lv_aload_n E1 E2 d_law_261 rfl (lv_at hl 4 rfl) ?_
  refine lv_iload E1 E2 d_law_262 (lv_at hl 0 rfl) ?_
  refine lv_iconst (v := 4) E1 E2 d_law_264 (by decide) ?_
  refine lv_iadd E1 E2 d_law_265 ?_
  refine bn_ti (y := nI (i + 4)) (nI_add i 4) ?_
  refine lw_ld E I (j := i + 4) (by omega) d_law_266 ?_
  refine lw_i2 I (bn_runV (n := 4) (As := [.int (xs (i + 1)), .int (xs (i + 2)), .int (xs (i + 3)), .int (xs (i + 4))]) (rest := [.int (o_Ne_link N (xs (i + 1)) (xs (i + 2)) (xs (i + 3)) (xs (i + 4))).1]) F2 hml hl.1 (lw_H2 I) mi_0 rfl rfl (c_Mo_link l D ar ad2 M (xs (i + 1)) (xs (i + 2)) (xs (i + 3)) (xs (i + 4)) _) (bn_goodV k_921 k_922 k_923 k_7 k_924) rfl rfl (by decide) ⟨by decide, by decide⟩ rfl rfl (Nat.le_of_ble_eq_true rfl) d_law_267 ⟨by omega, by omega⟩) (fun H locs I => ?_)
  refine lv_icmp_eq E1 E2 d_law_270 rfl (fun _ => ?_) (fun hz => absurd (rm_link hRM (xs (i + 1)) (xs (i + 2)) (xs (i + 3)) (xs (i + 4))).1 hz)
  exact kk H locs _ _ ls ad _ _ _ g I (rm_link hRM (xs (i + 1)) (xs (i + 2)) (xs (i + 3)) (xs (i + 4))).2 rfl hl (by omega) (by omega)
set_option maxHeartbeats 4000000 in
theorem lw_c3 {p : Program} {l : Launch} {e : Env} {s : State} {m : MethodId} {below : List Frame} {meth : Method} {c : Code} {Q : State → Prop} {b L : Nat} {xs : Nat → Int32} {D : va_G} {ar : Nat → ClassId} {ad2 : Nat → Nat → Nat} {r X i cells slots : Nat} (E : lw_E p l s m c b L xs D ar) (hi : i + 5 ≤ L) (hc : cells + 1 ≤ room_1.cells) (hs : slots + 6 ≤ room_1.slots) (kk : lw_K0 p l e s m below meth c Q b D ar ad2 r X i (cells + 1) (slots + 6) 855) : lw_K0 p l e s m below meth c Q b D ar ad2 r X i cells slots 275 := by
  intro H locs cs ss ls ad nf N M g I hRM hX hl hcs hss
  subst hX
  have E1 := E.1.1
  have E2 := E.1.2.1
  have hml := E.2.1
  have hL := E.2.2.2.2.2.2
  have F1 : bn_F p s m #[Value.ref b] c code "BridgeNetLaw" (bn_y D ar ad nf) := E.1
  have F2 : bn_F p s m #[Value.ref b] c code "BridgeNetLaw" (mo_y D ar ad2) := E.1
  refine lv_aload_n E1 E2 d_law_275 rfl (lv_at hl 3 rfl) ?_
  refine lv_aload_n E1 E2 d_law_276 rfl (lv_at hl 4 rfl) ?_
  refine lv_iload E1 E2 d_law_277 (lv_at hl 0 rfl) ?_
  refine lv_iconst (v := 1) E1 E2 d_law_279 (by decide) ?_
  refine lv_iadd E1 E2 d_law_280 ?_
  refine bn_ti (y := nI (i + 1)) (nI_add i 1) ?_
  refine lw_ld E I (j := i + 1) (by omega) d_law_281 ?_
  refine lv_aload_n E1 E2 d_law_282 rfl (lv_at hl 4 rfl) ?_
  refine lv_iload E1 E2 d_law_283 (lv_at hl 0 rfl) ?_
  refine lv_iconst (v := 2) E1 E2 d_law_285 (by decide) ?_
  refine lv_iadd E1 E2 d_law_286 ?_
  refine bn_ti (y := nI (i + 2)) (nI_add i 2) ?_
  refine lw_ld E I (j := i + 2) (by omega) d_law_287 ?_
  refine lw_i1 I (bn_runV (n := 2) (As := [.int (xs (i + 1)), .int (xs (i + 2))]) (rest := []) F1 hml hl.1 (lw_H1 I) mm_0 rfl rfl (c_Ne_cut l D ar ad nf N (xs (i + 1)) (xs (i + 2)) _) (bn_goodV k_343 k_344 k_345 k_1 k_346) rfl rfl (by decide) ⟨by decide, by decide⟩ rfl rfl (Nat.le_of_ble_eq_true rfl) d_law_288 ⟨by omega, by omega⟩) (fun H locs I => ?_)
  refine lv_aload_n E1 E2 d_law_291 rfl (lv_at hl 2 rfl) ?_
  refine lv_aload_n E1 E2 d_law_292 rfl (lv_at hl 4 rfl) ?_
  refine lv_iload E1 E2 d_law_293 (lv_at hl 0 rfl) ?_
  refine lv_iconst (v := 1) E1 E2 d_law_295 (by decide) ?_
  refine lv_iadd E1 E2 d_law_296 ?_
  refine bn_ti (y := nI (i + 1)) (nI_add i 1) ?_
  refine lw_ld E I (j := i + 1) (by omega) d_law_297 ?_
  refine lv_aload_n E1 E2 d_law_298 rfl (lv_at hl 4 rfl) ?_
  refine lv_iload E1 E2 d_law_299 (lv_at hl 0 rfl) ?_
  refine lv_iconst (v := 2) E1 E2 d_law_301 (by decide) ?_
  refine lv_iadd E1 E2 d_law_302 ?_
  refine bn_ti (y := nI (i + 2)) (nI_add i 2) ?_
  refine lw_ld E I (j := i + 2) (by omega) d_law_303 ?_
  refine lw_i2 I (bn_runV (n := 2) (As := [.int (xs (i + 1)), .int (xs (i + 2))]) (rest := [.int (o_Ne_cut N (xs (i + 1)) (xs (i + 2))).1]) F2 hml hl.1 (lw_H2 I) mi_0 rfl rfl (c_Mo_cut l D ar ad2 M (xs (i + 1)) (xs (i + 2)) _) (bn_goodV k_929 k_930 k_931 k_7 k_932) rfl rfl (by decide) ⟨by decide, by decide⟩ rfl rfl (Nat.le_of_ble_eq_true rfl) d_law_304 ⟨by omega, by omega⟩) (fun H locs I => ?_)
  refine lv_icmp_eq E1 E2 d_law_307 rfl (fun _ => ?_) (fun hz => absurd (rm_cut hRM (xs (i + 1)) (xs (i + 2))).1 hz)
  exact kk H locs _ _ ls ad _ _ _ g I (rm_cut hRM (xs (i + 1)) (xs (i + 2))).2 rfl hl (by omega) (by omega)
set_option maxHeartbeats 4000000 in
theorem lw_c4 {p : Program} {l : Launch} {e : Env} {s : State} {m : MethodId} {below : List Frame} {meth : Method} {c : Code} {Q : State → Prop} {b L : Nat} {xs : Nat → Int32} {D : va_G} {ar : Nat → ClassId} {ad2 : Nat → Nat → Nat} {r X i cells slots : Nat} (E : lw_E p l s m c b L xs D ar) (hi : i + 5 ≤ L) (hc : cells + 1 ≤ room_1.cells) (hs : slots + 6 ≤ room_1.slots) (kk : lw_K0 p l e s m below meth c Q b D ar ad2 r X i (cells + 1) (slots + 6) 855) : lw_K0 p l e s m below meth c Q b D ar ad2 r X i cells slots 312 := by
  intro H locs cs ss ls ad nf N M g I hRM hX hl hcs hss
  subst hX
  have E1 := E.1.1
  have E2 := E.1.2.1
  have hml := E.2.1
  have hL := E.2.2.2.2.2.2
  have F1 : bn_F p s m #[Value.ref b] c code "BridgeNetLaw" (bn_y D ar ad nf) := E.1
  have F2 : bn_F p s m #[Value.ref b] c code "BridgeNetLaw" (mo_y D ar ad2) := E.1
  refine lv_aload_n E1 E2 d_law_312 rfl (lv_at hl 3 rfl) ?_
  refine lv_aload_n E1 E2 d_law_313 rfl (lv_at hl 4 rfl) ?_
  refine lv_iload E1 E2 d_law_314 (lv_at hl 0 rfl) ?_
  refine lv_iconst (v := 1) E1 E2 d_law_316 (by decide) ?_
  refine lv_iadd E1 E2 d_law_317 ?_
  refine bn_ti (y := nI (i + 1)) (nI_add i 1) ?_
  refine lw_ld E I (j := i + 1) (by omega) d_law_318 ?_
  refine lv_aload_n E1 E2 d_law_319 rfl (lv_at hl 4 rfl) ?_
  refine lv_iload E1 E2 d_law_320 (lv_at hl 0 rfl) ?_
  refine lv_iconst (v := 2) E1 E2 d_law_322 (by decide) ?_
  refine lv_iadd E1 E2 d_law_323 ?_
  refine bn_ti (y := nI (i + 2)) (nI_add i 2) ?_
  refine lw_ld E I (j := i + 2) (by omega) d_law_324 ?_
  refine lv_aload_n E1 E2 d_law_325 rfl (lv_at hl 4 rfl) ?_
  refine lv_iload E1 E2 d_law_326 (lv_at hl 0 rfl) ?_
  refine lv_iconst (v := 3) E1 E2 d_law_328 (by decide) ?_
  refine lv_iadd E1 E2 d_law_329 ?_
  refine bn_ti (y := nI (i + 3)) (nI_add i 3) ?_
  refine lw_ld E I (j := i + 3) (by omega) d_law_330 ?_
  refine lv_aload_n E1 E2 d_law_331 rfl (lv_at hl 4 rfl) ?_
  refine lv_iload E1 E2 d_law_332 (lv_at hl 0 rfl) ?_
  refine lv_iconst (v := 4) E1 E2 d_law_334 (by decide) ?_
  refine lv_iadd E1 E2 d_law_335 ?_
  refine bn_ti (y := nI (i + 4)) (nI_add i 4) ?_
  refine lw_ld E I (j := i + 4) (by omega) d_law_336 ?_
  refine lw_s1 (G := fun _ => True) I (fun q hq => Or.inl hq) (fun H1 hle hk _ => ⟨g, by rw [hk r (lw_rlt I) (lw_nr1 I)]; exact I.2.2.1.1, trivial⟩) (lw_runSW (n := 5) (As := [.ref (ad 0 0), .int (xs (i + 1)), .int (xs (i + 2)), .int (xs (i + 3)), .int (xs (i + 4))]) (rest := []) F1 hml (c_La_attach l E.2.2.2.2.2.1 D ar ad nf N (xs (i + 1)) (xs (i + 2)) (xs (i + 3)) (xs (i + 4)) _) k_459 k_457 k_458 k_0 ⟨rfl, rfl⟩ ⟨by decide, by decide⟩ (by decide) (lw_preS (E := fun _ => True) F1 E.2.2.2.2.1 I trivial) rfl rfl hl.1 rfl (lv_room (Nat.le_of_ble_eq_true rfl)) d_law_337 ⟨by omega, by omega⟩) (fun H locs ad1 g1 had hG I => ?_)
  refine lv_istore E1 E2 d_law_340 hl (by decide) rfl (fun ls hl => ?_)
  have hl : lv_has ls 7 [(5, .int (nI (o_Ne_attach N (xs (i + 1)) (xs (i + 2)) (xs (i + 3)) (xs (i + 4))).1)), (4, .int (nI i)), (3, .ref r), (2, .ref (ad2 0 0)), (1, .ref (ad 0 0)), (0, .ref b)] := hl
  refine lv_aload_n E1 E2 d_law_342 rfl (lv_at hl 3 rfl) ?_
  refine lv_aload_n E1 E2 d_law_343 rfl (lv_at hl 5 rfl) ?_
  refine lv_iload E1 E2 d_law_344 (lv_at hl 1 rfl) ?_
  refine lv_iconst (v := 1) E1 E2 d_law_346 (by decide) ?_
  refine lv_iadd E1 E2 d_law_347 ?_
  refine bn_ti (y := nI (i + 1)) (nI_add i 1) ?_
  refine lw_ld E I (j := i + 1) (by omega) d_law_348 ?_
  refine lv_aload_n E1 E2 d_law_349 rfl (lv_at hl 5 rfl) ?_
  refine lv_iload E1 E2 d_law_350 (lv_at hl 1 rfl) ?_
  refine lv_iconst (v := 2) E1 E2 d_law_352 (by decide) ?_
  refine lv_iadd E1 E2 d_law_353 ?_
  refine bn_ti (y := nI (i + 2)) (nI_add i 2) ?_
  refine lw_ld E I (j := i + 2) (by omega) d_law_354 ?_
  refine lv_aload_n E1 E2 d_law_355 rfl (lv_at hl 5 rfl) ?_
  refine lv_iload E1 E2 d_law_356 (lv_at hl 1 rfl) ?_
  refine lv_iconst (v := 3) E1 E2 d_law_358 (by decide) ?_
  refine lv_iadd E1 E2 d_law_359 ?_
  refine bn_ti (y := nI (i + 3)) (nI_add i 3) ?_
  refine lw_ld E I (j := i + 3) (by omega) d_law_360 ?_
  refine lv_aload_n E1 E2 d_law_361 rfl (lv_at hl 5 rfl) ?_
  refine lv_iload E1 E2 d_law_362 (lv_at hl 1 rfl) ?_
  refine lv_iconst (v := 4) E1 E2 d_law_364 (by decide) ?_
  refine lv_iadd E1 E2 d_law_365 ?_
  refine bn_ti (y := nI (i + 4)) (nI_add i 4) ?_
  refine lw_ld E I (j := i + 4) (by omega) d_law_366 ?_
  refine lw_v2 I (bn_runV (n := 4) (As := [.int (xs (i + 1)), .int (xs (i + 2)), .int (xs (i + 3)), .int (xs (i + 4))]) (rest := []) F2 hml hl.1 (lw_H2 I) mi_0 rfl rfl (c_Mo_attach l D ar ad2 M (xs (i + 1)) (xs (i + 2)) (xs (i + 3)) (xs (i + 4)) _) (bn_goodV k_933 k_934 k_935 k_7 k_936) rfl rfl (by decide) ⟨by decide, by decide⟩ rfl rfl (Nat.le_of_ble_eq_true rfl) d_law_367 ⟨by omega, by omega⟩) (fun H locs I => ?_)
  refine lv_aload_n E1 E2 d_law_370 rfl (lv_at hl 3 rfl) ?_
  refine lw_i2 I (bn_runV (n := 0) (As := []) (rest := []) F2 hml hl.1 (lw_H2 I) mi_0 rfl rfl (c_Mo_thrown l D ar ad2 _ _) (bn_goodV k_799 k_800 k_801 k_7 k_802) rfl rfl (by decide) ⟨by decide, by decide⟩ rfl rfl (Nat.le_of_ble_eq_true rfl) d_law_371 ⟨by omega, by omega⟩) (fun H locs I => ?_)
  refine lv_iload E1 E2 d_law_374 (lv_at hl 0 rfl) ?_
  refine lv_icmp_eq E1 E2 d_law_376 rfl (fun _ => ?_) (fun hz => absurd (rm_attach hRM (xs (i + 1)) (xs (i + 2)) (xs (i + 3)) (xs (i + 4))).1.symm hz)
  refine lv_goto E1 E2 d_law_381 rfl ?_
  exact kk H locs _ _ ls ad1 _ _ _ g1 I (rm_attach hRM (xs (i + 1)) (xs (i + 2)) (xs (i + 3)) (xs (i + 4))).2 had (lv_sub hl [1, 2, 3, 4, 5] rfl) (by omega) (by omega)
set_option maxHeartbeats 4000000 in
theorem lw_c5 {p : Program} {l : Launch} {e : Env} {s : State} {m : MethodId} {below : List Frame} {meth : Method} {c : Code} {Q : State → Prop} {b L : Nat} {xs : Nat → Int32} {D : va_G} {ar : Nat → ClassId} {ad2 : Nat → Nat → Nat} {r X i cells slots : Nat} (E : lw_E p l s m c b L xs D ar) (hi : i + 5 ≤ L) (hc : cells + 1 ≤ room_1.cells) (hs : slots + 6 ≤ room_1.slots) (kk : lw_K0 p l e s m below meth c Q b D ar ad2 r X i (cells + 1) (slots + 6) 855) : lw_K0 p l e s m below meth c Q b D ar ad2 r X i cells slots 384 := by
  intro H locs cs ss ls ad nf N M g I hRM hX hl hcs hss
  subst hX
  have E1 := E.1.1
  have E2 := E.1.2.1
  have hml := E.2.1
  have hL := E.2.2.2.2.2.2
  have F1 : bn_F p s m #[Value.ref b] c code "BridgeNetLaw" (bn_y D ar ad nf) := E.1
  have F2 : bn_F p s m #[Value.ref b] c code "BridgeNetLaw" (mo_y D ar ad2) := E.1
  refine lv_aload_n E1 E2 d_law_384 rfl (lv_at hl 3 rfl) ?_
  refine lv_aload_n E1 E2 d_law_385 rfl (lv_at hl 4 rfl) ?_
  refine lv_iload E1 E2 d_law_386 (lv_at hl 0 rfl) ?_
  refine lv_iconst (v := 1) E1 E2 d_law_388 (by decide) ?_
  refine lv_iadd E1 E2 d_law_389 ?_
  refine bn_ti (y := nI (i + 1)) (nI_add i 1) ?_
  refine lw_ld E I (j := i + 1) (by omega) d_law_390 ?_
  refine lv_aload_n E1 E2 d_law_391 rfl (lv_at hl 4 rfl) ?_
  refine lv_iload E1 E2 d_law_392 (lv_at hl 0 rfl) ?_
  refine lv_iconst (v := 2) E1 E2 d_law_394 (by decide) ?_
  refine lv_iadd E1 E2 d_law_395 ?_
  refine bn_ti (y := nI (i + 2)) (nI_add i 2) ?_
  refine lw_ld E I (j := i + 2) (by omega) d_law_396 ?_
  refine lv_aload_n E1 E2 d_law_397 rfl (lv_at hl 4 rfl) ?_
  refine lv_iload E1 E2 d_law_398 (lv_at hl 0 rfl) ?_
  refine lv_iconst (v := 3) E1 E2 d_law_400 (by decide) ?_
  refine lv_iadd E1 E2 d_law_401 ?_
  refine bn_ti (y := nI (i + 3)) (nI_add i 3) ?_
  refine lw_ld E I (j := i + 3) (by omega) d_law_402 ?_
  refine lv_aload_n E1 E2 d_law_403 rfl (lv_at hl 1 rfl) ?_
  refine lw_s1 (G := fun g1 => (o_Ne_send N nf (xs (i + 1)) (xs (i + 2)) (xs (i + 3))).1 = 0 → g1 0 = Int32.toInt64 (o_Ne_send N nf (xs (i + 1)) (xs (i + 2)) (xs (i + 3))).2.1) I (fun q hq => hq) (fun H1 hle hk hz => hz) (lw_runSW (n := 5) (As := [.ref (ad 0 0), .int (xs (i + 1)), .int (xs (i + 2)), .int (xs (i + 3)), .ref r]) (rest := []) F1 hml (c_La_send l E.2.2.2.2.2.1 D ar ad nf N (xs (i + 1)) (xs (i + 2)) (xs (i + 3)) r g I.2.2.2.1.2.1 _) k_579 k_577 k_578 k_0 ⟨rfl, rfl⟩ ⟨by decide, by decide⟩ (by decide) (lw_preS (E := fun H => H[r]? = some (vp_cell (ar 1) (1, .inr (.inl g)))) F1 E.2.2.2.2.1 I I.2.2.1.1) rfl rfl hl.1 rfl (lv_room (Nat.le_of_ble_eq_true rfl)) d_law_404 ⟨by omega, by omega⟩) (fun H locs ad1 g1 had hG I => ?_)
  refine lv_istore E1 E2 d_law_407 hl (by decide) rfl (fun ls hl => ?_)
  have hl : lv_has ls 7 [(5, .int (send_c (o_Ne_send N nf (xs (i + 1)) (xs (i + 2)) (xs (i + 3))).1)), (4, .int (nI i)), (3, .ref r), (2, .ref (ad2 0 0)), (1, .ref (ad 0 0)), (0, .ref b)] := hl
  refine lv_aload_n E1 E2 d_law_409 rfl (lv_at hl 3 rfl) ?_
  refine lv_aload_n E1 E2 d_law_410 rfl (lv_at hl 5 rfl) ?_
  refine lv_iload E1 E2 d_law_411 (lv_at hl 1 rfl) ?_
  refine lv_iconst (v := 1) E1 E2 d_law_413 (by decide) ?_
  refine lv_iadd E1 E2 d_law_414 ?_
  refine bn_ti (y := nI (i + 1)) (nI_add i 1) ?_
  refine lw_ld E I (j := i + 1) (by omega) d_law_415 ?_
  refine lv_aload_n E1 E2 d_law_416 rfl (lv_at hl 5 rfl) ?_
  refine lv_iload E1 E2 d_law_417 (lv_at hl 1 rfl) ?_
  refine lv_iconst (v := 2) E1 E2 d_law_419 (by decide) ?_
  refine lv_iadd E1 E2 d_law_420 ?_
  refine bn_ti (y := nI (i + 2)) (nI_add i 2) ?_
  refine lw_ld E I (j := i + 2) (by omega) d_law_421 ?_
  refine lv_aload_n E1 E2 d_law_422 rfl (lv_at hl 5 rfl) ?_
  refine lv_iload E1 E2 d_law_423 (lv_at hl 1 rfl) ?_
  refine lv_iconst (v := 3) E1 E2 d_law_425 (by decide) ?_
  refine lv_iadd E1 E2 d_law_426 ?_
  refine bn_ti (y := nI (i + 3)) (nI_add i 3) ?_
  refine lw_ld E I (j := i + 3) (by omega) d_law_427 ?_
  refine lw_i2 I (bn_runV (n := 3) (As := [.int (xs (i + 1)), .int (xs (i + 2)), .int (xs (i + 3))]) (rest := []) F2 hml hl.1 (lw_H2 I) mi_0 rfl rfl (c_Mo_send l D ar ad2 M (xs (i + 1)) (xs (i + 2)) (xs (i + 3)) (rm_P hRM) (rm_in hRM (xs (i + 1))) _) (bn_goodV k_937 k_938 k_939 k_7 k_940) rfl rfl (by decide) ⟨by decide, by decide⟩ rfl rfl (Nat.le_of_ble_eq_true rfl) d_law_428 ⟨by omega, by omega⟩) (fun H locs I => ?_)
  refine lv_istore E1 E2 d_law_431 hl (by decide) rfl (fun ls hl => ?_)
  have hl : lv_has ls 7 [(6, .int (o_Mo_send M (xs (i + 1)) (xs (i + 2)) (xs (i + 3))).1), (5, .int (send_c (o_Ne_send N nf (xs (i + 1)) (xs (i + 2)) (xs (i + 3))).1)), (4, .int (nI i)), (3, .ref r), (2, .ref (ad2 0 0)), (1, .ref (ad 0 0)), (0, .ref b)] := hl
  refine lv_aload_n E1 E2 d_law_433 rfl (lv_at hl 4 rfl) ?_
  refine lw_i2 I (bn_runV (n := 0) (As := []) (rest := []) F2 hml hl.1 (lw_H2 I) mi_0 rfl rfl (c_Mo_thrown l D ar ad2 _ _) (bn_goodV k_799 k_800 k_801 k_7 k_802) rfl rfl (by decide) ⟨by decide, by decide⟩ rfl rfl (Nat.le_of_ble_eq_true rfl) d_law_434 ⟨by omega, by omega⟩) (fun H locs I => ?_)
  refine lv_iload E1 E2 d_law_437 (lv_at hl 1 rfl) ?_
  refine lv_icmp_eq E1 E2 d_law_439 rfl (fun _ => ?_) (fun hz => absurd ((rm_send hRM (xs (i + 1)) (xs (i + 2)) (xs (i + 3))).1.symm.trans (lw_sc _)) hz)
  refine lv_iload E1 E2 d_law_444 (lv_at hl 1 rfl) ?_
  refine lv_if_ne E1 E2 d_law_446 rfl (fun _ => ?_) (fun hz => ?_)
  · refine lv_goto E1 E2 d_law_461 rfl ?_
    exact kk H locs _ _ ls ad1 _ _ _ g1 I (rm_send hRM (xs (i + 1)) (xs (i + 2)) (xs (i + 3))).2.2 had (lv_sub hl [2, 3, 4, 5, 6] rfl) (by omega) (by omega)
  have hk0 := lw_sc0 hz
  refine lv_aload_n E1 E2 d_law_449 rfl (lv_at hl 3 rfl) ?_
  refine lv_iconst (v := 0) E1 E2 d_law_450 (by decide) ?_
  refine lw_out E I d_law_451 ?_
  refine lv_iload E1 E2 d_law_452 (lv_at hl 0 rfl) ?_
  refine lv_i2l (v := Int32.toInt64 (o_Mo_send M (xs (i + 1)) (xs (i + 2)) (xs (i + 3))).1) E1 E2 d_law_454 rfl ?_
  refine W.lcmp E1 E2 d_law_455 ?_
  refine lv_if_eq E1 E2 d_law_456 rfl (fun _ => ?_) (fun hz => absurd ((lg_cmp_eq _ _).mpr (by rw [hG hk0, (rm_send hRM (xs (i + 1)) (xs (i + 2)) (xs (i + 3))).2.1])) hz)
  refine lv_goto E1 E2 d_law_461 rfl ?_
  exact kk H locs _ _ ls ad1 _ _ _ g1 I (rm_send hRM (xs (i + 1)) (xs (i + 2)) (xs (i + 3))).2.2 had (lv_sub hl [2, 3, 4, 5, 6] rfl) (by omega) (by omega)
set_option maxHeartbeats 4000000 in
theorem lw_c6 {p : Program} {l : Launch} {e : Env} {s : State} {m : MethodId} {below : List Frame} {meth : Method} {c : Code} {Q : State → Prop} {b L : Nat} {xs : Nat → Int32} {D : va_G} {ar : Nat → ClassId} {ad2 : Nat → Nat → Nat} {r X i cells slots : Nat} (E : lw_E p l s m c b L xs D ar) (hi : i + 5 ≤ L) (hc : cells + 1 ≤ room_1.cells) (hs : slots + 6 ≤ room_1.slots) (kk : lw_K0 p l e s m below meth c Q b D ar ad2 r X i (cells + 1) (slots + 6) 855) : lw_K0 p l e s m below meth c Q b D ar ad2 r X i cells slots 464 := by
  intro H locs cs ss ls ad nf N M g I hRM hX hl hcs hss
  subst hX
  have E1 := E.1.1
  have E2 := E.1.2.1
  have hml := E.2.1
  have hL := E.2.2.2.2.2.2
  have F1 : bn_F p s m #[Value.ref b] c code "BridgeNetLaw" (bn_y D ar ad nf) := E.1
  have F2 : bn_F p s m #[Value.ref b] c code "BridgeNetLaw" (mo_y D ar ad2) := E.1
  refine lv_aload_n E1 E2 d_law_464 rfl (lv_at hl 3 rfl) ?_
  refine lv_aload_n E1 E2 d_law_465 rfl (lv_at hl 4 rfl) ?_
  refine lv_iload E1 E2 d_law_466 (lv_at hl 0 rfl) ?_
  refine lv_iconst (v := 1) E1 E2 d_law_468 (by decide) ?_
  refine lv_iadd E1 E2 d_law_469 ?_
  refine bn_ti (y := nI (i + 1)) (nI_add i 1) ?_
  refine lw_ld E I (j := i + 1) (by omega) d_law_470 ?_
  refine lv_aload_n E1 E2 d_law_471 rfl (lv_at hl 4 rfl) ?_
  refine lv_iload E1 E2 d_law_472 (lv_at hl 0 rfl) ?_
  refine lv_iconst (v := 2) E1 E2 d_law_474 (by decide) ?_
  refine lv_iadd E1 E2 d_law_475 ?_
  refine bn_ti (y := nI (i + 2)) (nI_add i 2) ?_
  refine lw_ld E I (j := i + 2) (by omega) d_law_476 ?_
  refine lv_aload_n E1 E2 d_law_477 rfl (lv_at hl 1 rfl) ?_
  refine lw_s1 (G := fun g1 => (o_Ne_deliver N (xs (i + 1)) (xs (i + 2))).1 = 0 → g1 0 = Int32.toInt64 (o_Ne_deliver N (xs (i + 1)) (xs (i + 2))).2.1) I (fun q hq => hq) (fun H1 hle hk hz => hz) (lw_runSW (n := 4) (As := [.ref (ad 0 0), .int (xs (i + 1)), .int (xs (i + 2)), .ref r]) (rest := []) F1 hml (c_La_deliver l E.2.2.2.2.2.1 D ar ad nf N (xs (i + 1)) (xs (i + 2)) r g I.2.2.2.1.2.1 _) k_653 k_651 k_652 k_0 ⟨rfl, rfl⟩ ⟨by decide, by decide⟩ (by decide) (lw_preS (E := fun H => H[r]? = some (vp_cell (ar 1) (1, .inr (.inl g)))) F1 E.2.2.2.2.1 I I.2.2.1.1) rfl rfl hl.1 rfl (lv_room (Nat.le_of_ble_eq_true rfl)) d_law_478 ⟨by omega, by omega⟩) (fun H locs ad1 g1 had hG I => ?_)
  refine lv_istore E1 E2 d_law_481 hl (by decide) rfl (fun ls hl => ?_)
  have hl : lv_has ls 7 [(5, .int (deliver_c (o_Ne_deliver N (xs (i + 1)) (xs (i + 2))).1)), (4, .int (nI i)), (3, .ref r), (2, .ref (ad2 0 0)), (1, .ref (ad 0 0)), (0, .ref b)] := hl
  refine lv_aload_n E1 E2 d_law_483 rfl (lv_at hl 3 rfl) ?_
  refine lv_aload_n E1 E2 d_law_484 rfl (lv_at hl 5 rfl) ?_
  refine lv_iload E1 E2 d_law_485 (lv_at hl 1 rfl) ?_
  refine lv_iconst (v := 1) E1 E2 d_law_487 (by decide) ?_
  refine lv_iadd E1 E2 d_law_488 ?_
  refine bn_ti (y := nI (i + 1)) (nI_add i 1) ?_
  refine lw_ld E I (j := i + 1) (by omega) d_law_489 ?_
  refine lv_aload_n E1 E2 d_law_490 rfl (lv_at hl 5 rfl) ?_
  refine lv_iload E1 E2 d_law_491 (lv_at hl 1 rfl) ?_
  refine lv_iconst (v := 2) E1 E2 d_law_493 (by decide) ?_
  refine lv_iadd E1 E2 d_law_494 ?_
  refine bn_ti (y := nI (i + 2)) (nI_add i 2) ?_
  refine lw_ld E I (j := i + 2) (by omega) d_law_495 ?_
  refine lw_i2 I (bn_runV (n := 2) (As := [.int (xs (i + 1)), .int (xs (i + 2))]) (rest := []) F2 hml hl.1 (lw_H2 I) mi_0 rfl rfl (c_Mo_deliver l D ar ad2 M (xs (i + 1)) (xs (i + 2)) (rm_P2 hRM _) (rm_V hRM (xs (i + 1)) (xs (i + 2))) _) (bn_goodV k_803 k_804 k_805 k_7 k_806) rfl rfl (by decide) ⟨by decide, by decide⟩ rfl rfl (Nat.le_of_ble_eq_true rfl) d_law_496 ⟨by omega, by omega⟩) (fun H locs I => ?_)
  refine lv_istore E1 E2 d_law_499 hl (by decide) rfl (fun ls hl => ?_)
  have hl : lv_has ls 7 [(6, .int (o_Mo_deliver M (xs (i + 1)) (xs (i + 2))).1), (5, .int (deliver_c (o_Ne_deliver N (xs (i + 1)) (xs (i + 2))).1)), (4, .int (nI i)), (3, .ref r), (2, .ref (ad2 0 0)), (1, .ref (ad 0 0)), (0, .ref b)] := hl
  refine lv_aload_n E1 E2 d_law_501 rfl (lv_at hl 4 rfl) ?_
  refine lw_i2 I (bn_runV (n := 0) (As := []) (rest := []) F2 hml hl.1 (lw_H2 I) mi_0 rfl rfl (c_Mo_thrown l D ar ad2 _ _) (bn_goodV k_799 k_800 k_801 k_7 k_802) rfl rfl (by decide) ⟨by decide, by decide⟩ rfl rfl (Nat.le_of_ble_eq_true rfl) d_law_502 ⟨by omega, by omega⟩) (fun H locs I => ?_)
  refine lv_iload E1 E2 d_law_505 (lv_at hl 1 rfl) ?_
  refine lv_icmp_eq E1 E2 d_law_507 rfl (fun _ => ?_) (fun hz => absurd ((rm_deliver hRM (xs (i + 1)) (xs (i + 2))).1.symm.trans (lw_dc _)) hz)
  refine lv_iload E1 E2 d_law_512 (lv_at hl 1 rfl) ?_
  refine lv_if_ne E1 E2 d_law_514 rfl (fun _ => ?_) (fun hz => ?_)
  · refine lv_goto E1 E2 d_law_529 rfl ?_
    exact kk H locs _ _ ls ad1 _ _ _ g1 I (rm_deliver hRM (xs (i + 1)) (xs (i + 2))).2.2 had (lv_sub hl [2, 3, 4, 5, 6] rfl) (by omega) (by omega)
  have hk0 := lw_dc0 hz
  refine lv_aload_n E1 E2 d_law_517 rfl (lv_at hl 3 rfl) ?_
  refine lv_iconst (v := 0) E1 E2 d_law_518 (by decide) ?_
  refine lw_out E I d_law_519 ?_
  refine lv_iload E1 E2 d_law_520 (lv_at hl 0 rfl) ?_
  refine lv_i2l (v := Int32.toInt64 (o_Mo_deliver M (xs (i + 1)) (xs (i + 2))).1) E1 E2 d_law_522 rfl ?_
  refine W.lcmp E1 E2 d_law_523 ?_
  refine lv_if_eq E1 E2 d_law_524 rfl (fun _ => ?_) (fun hz => absurd ((lg_cmp_eq _ _).mpr (by rw [hG hk0, (rm_deliver hRM (xs (i + 1)) (xs (i + 2))).2.1])) hz)
  refine lv_goto E1 E2 d_law_529 rfl ?_
  exact kk H locs _ _ ls ad1 _ _ _ g1 I (rm_deliver hRM (xs (i + 1)) (xs (i + 2))).2.2 had (lv_sub hl [2, 3, 4, 5, 6] rfl) (by omega) (by omega)
set_option maxHeartbeats 4000000 in
theorem lw_c7 {p : Program} {l : Launch} {e : Env} {s : State} {m : MethodId} {below : List Frame} {meth : Method} {c : Code} {Q : State → Prop} {b L : Nat} {xs : Nat → Int32} {D : va_G} {ar : Nat → ClassId} {ad2 : Nat → Nat → Nat} {r X i cells slots : Nat} (E : lw_E p l s m c b L xs D ar) (hi : i + 5 ≤ L) (hc : cells + 1 ≤ room_1.cells) (hs : slots + 6 ≤ room_1.slots) (kk : lw_K0 p l e s m below meth c Q b D ar ad2 r X i (cells + 1) (slots + 6) 855) : lw_K0 p l e s m below meth c Q b D ar ad2 r X i cells slots 532 := by
  intro H locs cs ss ls ad nf N M g I hRM hX hl hcs hss
  subst hX
  have E1 := E.1.1
  have E2 := E.1.2.1
  have hml := E.2.1
  have hL := E.2.2.2.2.2.2
  have F1 : bn_F p s m #[Value.ref b] c code "BridgeNetLaw" (bn_y D ar ad nf) := E.1
  have F2 : bn_F p s m #[Value.ref b] c code "BridgeNetLaw" (mo_y D ar ad2) := E.1
  refine lv_aload_n E1 E2 d_law_532 rfl (lv_at hl 3 rfl) ?_
  refine lv_aload_n E1 E2 d_law_533 rfl (lv_at hl 4 rfl) ?_
  refine lv_iload E1 E2 d_law_534 (lv_at hl 0 rfl) ?_
  refine lv_iconst (v := 1) E1 E2 d_law_536 (by decide) ?_
  refine lv_iadd E1 E2 d_law_537 ?_
  refine bn_ti (y := nI (i + 1)) (nI_add i 1) ?_
  refine lw_ld E I (j := i + 1) (by omega) d_law_538 ?_
  refine lv_aload_n E1 E2 d_law_539 rfl (lv_at hl 4 rfl) ?_
  refine lv_iload E1 E2 d_law_540 (lv_at hl 0 rfl) ?_
  refine lv_iconst (v := 2) E1 E2 d_law_542 (by decide) ?_
  refine lv_iadd E1 E2 d_law_543 ?_
  refine bn_ti (y := nI (i + 2)) (nI_add i 2) ?_
  refine lw_ld E I (j := i + 2) (by omega) d_law_544 ?_
  refine lw_i1 I (bn_runV (n := 2) (As := [.int (xs (i + 1)), .int (xs (i + 2))]) (rest := []) F1 hml hl.1 (lw_H1 I) mm_0 rfl rfl (c_Ne_lose l D ar ad nf N (xs (i + 1)) (xs (i + 2)) _) (bn_goodV k_347 k_348 k_349 k_1 k_350) rfl rfl (by decide) ⟨by decide, by decide⟩ rfl rfl (Nat.le_of_ble_eq_true rfl) d_law_545 ⟨by omega, by omega⟩) (fun H locs I => ?_)
  refine lv_aload_n E1 E2 d_law_548 rfl (lv_at hl 2 rfl) ?_
  refine lv_aload_n E1 E2 d_law_549 rfl (lv_at hl 4 rfl) ?_
  refine lv_iload E1 E2 d_law_550 (lv_at hl 0 rfl) ?_
  refine lv_iconst (v := 1) E1 E2 d_law_552 (by decide) ?_
  refine lv_iadd E1 E2 d_law_553 ?_
  refine bn_ti (y := nI (i + 1)) (nI_add i 1) ?_
  refine lw_ld E I (j := i + 1) (by omega) d_law_554 ?_
  refine lv_aload_n E1 E2 d_law_555 rfl (lv_at hl 4 rfl) ?_
  refine lv_iload E1 E2 d_law_556 (lv_at hl 0 rfl) ?_
  refine lv_iconst (v := 2) E1 E2 d_law_558 (by decide) ?_
  refine lv_iadd E1 E2 d_law_559 ?_
  refine bn_ti (y := nI (i + 2)) (nI_add i 2) ?_
  refine lw_ld E I (j := i + 2) (by omega) d_law_560 ?_
  refine lw_i2 I (bn_runV (n := 2) (As := [.int (xs (i + 1)), .int (xs (i + 2))]) (rest := [.int (o_Ne_lose N (xs (i + 1)) (xs (i + 2))).1]) F2 hml hl.1 (lw_H2 I) mi_0 rfl rfl (c_Mo_lose l D ar ad2 M (xs (i + 1)) (xs (i + 2)) _) (bn_goodV k_901 k_902 k_903 k_7 k_904) rfl rfl (by decide) ⟨by decide, by decide⟩ rfl rfl (Nat.le_of_ble_eq_true rfl) d_law_561 ⟨by omega, by omega⟩) (fun H locs I => ?_)
  refine lv_icmp_eq E1 E2 d_law_564 rfl (fun _ => ?_) (fun hz => absurd (rm_lose hRM (xs (i + 1)) (xs (i + 2))).1 hz)
  exact kk H locs _ _ ls ad _ _ _ g I (rm_lose hRM (xs (i + 1)) (xs (i + 2))).2 rfl hl (by omega) (by omega)
set_option maxHeartbeats 4000000 in
theorem lw_c8 {p : Program} {l : Launch} {e : Env} {s : State} {m : MethodId} {below : List Frame} {meth : Method} {c : Code} {Q : State → Prop} {b L : Nat} {xs : Nat → Int32} {D : va_G} {ar : Nat → ClassId} {ad2 : Nat → Nat → Nat} {r X i cells slots : Nat} (E : lw_E p l s m c b L xs D ar) (hi : i + 5 ≤ L) (hc : cells + 1 ≤ room_1.cells) (hs : slots + 6 ≤ room_1.slots) (kk : lw_K0 p l e s m below meth c Q b D ar ad2 r X i (cells + 1) (slots + 6) 855) : lw_K0 p l e s m below meth c Q b D ar ad2 r X i cells slots 569 := by
  intro H locs cs ss ls ad nf N M g I hRM hX hl hcs hss
  subst hX
  have E1 := E.1.1
  have E2 := E.1.2.1
  have hml := E.2.1
  have hL := E.2.2.2.2.2.2
  have F1 : bn_F p s m #[Value.ref b] c code "BridgeNetLaw" (bn_y D ar ad nf) := E.1
  have F2 : bn_F p s m #[Value.ref b] c code "BridgeNetLaw" (mo_y D ar ad2) := E.1
  refine lv_aload_n E1 E2 d_law_569 rfl (lv_at hl 3 rfl) ?_
  refine lw_v1 I (bn_runV (n := 0) (As := []) (rest := []) F1 hml hl.1 (lw_H1 I) mm_0 rfl rfl (c_Ne_tick l D ar ad nf N  _) (bn_goodV k_355 k_356 k_357 k_1 k_358) rfl rfl (by decide) ⟨by decide, by decide⟩ rfl rfl (Nat.le_of_ble_eq_true rfl) d_law_570 ⟨by omega, by omega⟩) (fun H locs I => ?_)
  refine lv_aload_n E1 E2 d_law_573 rfl (lv_at hl 2 rfl) ?_
  refine lw_v2 I (bn_runV (n := 0) (As := []) (rest := []) F2 hml hl.1 (lw_H2 I) mi_0 rfl rfl (c_Mo_tick l D ar ad2 M  _) (bn_goodV k_905 k_906 k_907 k_7 k_908) rfl rfl (by decide) ⟨by decide, by decide⟩ rfl rfl (Nat.le_of_ble_eq_true rfl) d_law_574 ⟨by omega, by omega⟩) (fun H locs I => ?_)
  refine lv_goto E1 E2 d_law_577 rfl ?_
  exact kk H locs _ _ ls ad _ _ _ g I (rm_tick hRM) rfl hl (by omega) (by omega)
set_option maxHeartbeats 4000000 in
theorem lw_c9 {p : Program} {l : Launch} {e : Env} {s : State} {m : MethodId} {below : List Frame} {meth : Method} {c : Code} {Q : State → Prop} {b L : Nat} {xs : Nat → Int32} {D : va_G} {ar : Nat → ClassId} {ad2 : Nat → Nat → Nat} {r X i cells slots : Nat} (E : lw_E p l s m c b L xs D ar) (hi : i + 5 ≤ L) (hc : cells + 1 ≤ room_1.cells) (hs : slots + 6 ≤ room_1.slots) (kk : lw_K0 p l e s m below meth c Q b D ar ad2 r X i (cells + 1) (slots + 6) 855) : lw_K0 p l e s m below meth c Q b D ar ad2 r X i cells slots 580 := by
  intro H locs cs ss ls ad nf N M g I hRM hX hl hcs hss
  subst hX
  have E1 := E.1.1
  have E2 := E.1.2.1
  have hml := E.2.1
  have hL := E.2.2.2.2.2.2
  have F1 : bn_F p s m #[Value.ref b] c code "BridgeNetLaw" (bn_y D ar ad nf) := E.1
  have F2 : bn_F p s m #[Value.ref b] c code "BridgeNetLaw" (mo_y D ar ad2) := E.1
  refine lv_aload_n E1 E2 d_law_580 rfl (lv_at hl 3 rfl) ?_
  refine lv_aload_n E1 E2 d_law_581 rfl (lv_at hl 4 rfl) ?_
  refine lv_iload E1 E2 d_law_582 (lv_at hl 0 rfl) ?_
  refine lv_iconst (v := 1) E1 E2 d_law_584 (by decide) ?_
  refine lv_iadd E1 E2 d_law_585 ?_
  refine bn_ti (y := nI (i + 1)) (nI_add i 1) ?_
  refine lw_ld E I (j := i + 1) (by omega) d_law_586 ?_
  refine lv_aload_n E1 E2 d_law_587 rfl (lv_at hl 4 rfl) ?_
  refine lv_iload E1 E2 d_law_588 (lv_at hl 0 rfl) ?_
  refine lv_iconst (v := 2) E1 E2 d_law_590 (by decide) ?_
  refine lv_iadd E1 E2 d_law_591 ?_
  refine bn_ti (y := nI (i + 2)) (nI_add i 2) ?_
  refine lw_ld E I (j := i + 2) (by omega) d_law_592 ?_
  refine lw_i1 I (bn_runV (n := 2) (As := [.int (xs (i + 1)), .int (xs (i + 2))]) (rest := []) F1 hml hl.1 (lw_H1 I) mm_0 rfl rfl (c_Ne_port l D ar ad nf N (xs (i + 1)) (xs (i + 2)) _) (bn_goodV k_381 k_382 k_383 k_1 k_384) rfl rfl (by decide) ⟨by decide, by decide⟩ rfl rfl (Nat.le_of_ble_eq_true rfl) d_law_593 ⟨by omega, by omega⟩) (fun H locs I => ?_)
  refine lv_aload_n E1 E2 d_law_596 rfl (lv_at hl 2 rfl) ?_
  refine lv_aload_n E1 E2 d_law_597 rfl (lv_at hl 4 rfl) ?_
  refine lv_iload E1 E2 d_law_598 (lv_at hl 0 rfl) ?_
  refine lv_iconst (v := 1) E1 E2 d_law_600 (by decide) ?_
  refine lv_iadd E1 E2 d_law_601 ?_
  refine bn_ti (y := nI (i + 1)) (nI_add i 1) ?_
  refine lw_ld E I (j := i + 1) (by omega) d_law_602 ?_
  refine lv_aload_n E1 E2 d_law_603 rfl (lv_at hl 4 rfl) ?_
  refine lv_iload E1 E2 d_law_604 (lv_at hl 0 rfl) ?_
  refine lv_iconst (v := 2) E1 E2 d_law_606 (by decide) ?_
  refine lv_iadd E1 E2 d_law_607 ?_
  refine bn_ti (y := nI (i + 2)) (nI_add i 2) ?_
  refine lw_ld E I (j := i + 2) (by omega) d_law_608 ?_
  refine lw_i2 I (bn_runV (n := 2) (As := [.int (xs (i + 1)), .int (xs (i + 2))]) (rest := [.int (r_Ne_port N (xs (i + 1)) (xs (i + 2)))]) F2 hml hl.1 (lw_H2 I) mi_0 rfl rfl (c_Mo_port l D ar ad2 M (xs (i + 1)) (xs (i + 2)) _) (bn_goodV k_941 k_942 k_943 k_7 k_944) rfl rfl (by decide) ⟨by decide, by decide⟩ rfl rfl (Nat.le_of_ble_eq_true rfl) d_law_609 ⟨by omega, by omega⟩) (fun H locs I => ?_)
  refine lv_icmp_eq E1 E2 d_law_612 rfl (fun _ => ?_) (fun hz => absurd (rm_port hRM (xs (i + 1)) (xs (i + 2))).1 hz)
  exact kk H locs _ _ ls ad _ _ _ g I (rm_port hRM (xs (i + 1)) (xs (i + 2))).2 rfl hl (by omega) (by omega)
set_option maxHeartbeats 4000000 in
theorem lw_c10 {p : Program} {l : Launch} {e : Env} {s : State} {m : MethodId} {below : List Frame} {meth : Method} {c : Code} {Q : State → Prop} {b L : Nat} {xs : Nat → Int32} {D : va_G} {ar : Nat → ClassId} {ad2 : Nat → Nat → Nat} {r X i cells slots : Nat} (E : lw_E p l s m c b L xs D ar) (hi : i + 5 ≤ L) (hc : cells + 1 ≤ room_1.cells) (hs : slots + 6 ≤ room_1.slots) (kk : lw_K0 p l e s m below meth c Q b D ar ad2 r X i (cells + 1) (slots + 6) 855) : lw_K0 p l e s m below meth c Q b D ar ad2 r X i cells slots 617 := by
  intro H locs cs ss ls ad nf N M g I hRM hX hl hcs hss
  subst hX
  have E1 := E.1.1
  have E2 := E.1.2.1
  have hml := E.2.1
  have hL := E.2.2.2.2.2.2
  have F1 : bn_F p s m #[Value.ref b] c code "BridgeNetLaw" (bn_y D ar ad nf) := E.1
  have F2 : bn_F p s m #[Value.ref b] c code "BridgeNetLaw" (mo_y D ar ad2) := E.1
  refine lv_aload_n E1 E2 d_law_617 rfl (lv_at hl 3 rfl) ?_
  refine lv_aload_n E1 E2 d_law_618 rfl (lv_at hl 4 rfl) ?_
  refine lv_iload E1 E2 d_law_619 (lv_at hl 0 rfl) ?_
  refine lv_iconst (v := 1) E1 E2 d_law_621 (by decide) ?_
  refine lv_iadd E1 E2 d_law_622 ?_
  refine bn_ti (y := nI (i + 1)) (nI_add i 1) ?_
  refine lw_ld E I (j := i + 1) (by omega) d_law_623 ?_
  refine lw_l1 I (bn_runV (n := 1) (As := [.int (xs (i + 1))]) (rest := []) F1 hml hl.1 (lw_H1 I) mm_0 rfl rfl (c_Ne_root l D ar ad nf N (xs (i + 1)) _) (bn_goodV k_389 k_390 k_391 k_1 k_392) rfl rfl (by decide) ⟨by decide, by decide⟩ rfl rfl (Nat.le_of_ble_eq_true rfl) d_law_624 ⟨by omega, by omega⟩) (fun H locs I => ?_)
  refine lv_aload_n E1 E2 d_law_627 rfl (lv_at hl 2 rfl) ?_
  refine lv_aload_n E1 E2 d_law_628 rfl (lv_at hl 4 rfl) ?_
  refine lv_iload E1 E2 d_law_629 (lv_at hl 0 rfl) ?_
  refine lv_iconst (v := 1) E1 E2 d_law_631 (by decide) ?_
  refine lv_iadd E1 E2 d_law_632 ?_
  refine bn_ti (y := nI (i + 1)) (nI_add i 1) ?_
  refine lw_ld E I (j := i + 1) (by omega) d_law_633 ?_
  refine lw_l2 I (bn_runV (n := 1) (As := [.int (xs (i + 1))]) (rest := [.long (r_Ne_root N (xs (i + 1)))]) F2 hml hl.1 (lw_H2 I) mi_0 rfl rfl (c_Mo_root l D ar ad2 M (xs (i + 1)) _) (bn_goodV k_945 k_946 k_947 k_7 k_948) rfl rfl (by decide) ⟨by decide, by decide⟩ rfl rfl (Nat.le_of_ble_eq_true rfl) d_law_634 ⟨by omega, by omega⟩) (fun H locs I => ?_)
  refine W.lcmp E1 E2 d_law_637 ?_
  refine lv_if_eq E1 E2 d_law_638 rfl (fun _ => ?_) (fun hz => absurd ((lg_cmp_eq _ _).mpr (rm_root hRM (xs (i + 1))).1) hz)
  exact kk H locs _ _ ls ad _ _ _ g I (rm_root hRM (xs (i + 1))).2 rfl hl (by omega) (by omega)
set_option maxHeartbeats 4000000 in
theorem lw_c11 {p : Program} {l : Launch} {e : Env} {s : State} {m : MethodId} {below : List Frame} {meth : Method} {c : Code} {Q : State → Prop} {b L : Nat} {xs : Nat → Int32} {D : va_G} {ar : Nat → ClassId} {ad2 : Nat → Nat → Nat} {r X i cells slots : Nat} (E : lw_E p l s m c b L xs D ar) (hi : i + 5 ≤ L) (hc : cells + 1 ≤ room_1.cells) (hs : slots + 6 ≤ room_1.slots) (kk : lw_K0 p l e s m below meth c Q b D ar ad2 r X i (cells + 1) (slots + 6) 855) : lw_K0 p l e s m below meth c Q b D ar ad2 r X i cells slots 643 := by
  intro H locs cs ss ls ad nf N M g I hRM hX hl hcs hss
  subst hX
  have E1 := E.1.1
  have E2 := E.1.2.1
  have hml := E.2.1
  have hL := E.2.2.2.2.2.2
  have F1 : bn_F p s m #[Value.ref b] c code "BridgeNetLaw" (bn_y D ar ad nf) := E.1
  have F2 : bn_F p s m #[Value.ref b] c code "BridgeNetLaw" (mo_y D ar ad2) := E.1
  refine lv_aload_n E1 E2 d_law_643 rfl (lv_at hl 3 rfl) ?_
  refine lv_aload_n E1 E2 d_law_644 rfl (lv_at hl 4 rfl) ?_
  refine lv_iload E1 E2 d_law_645 (lv_at hl 0 rfl) ?_
  refine lv_iconst (v := 1) E1 E2 d_law_647 (by decide) ?_
  refine lv_iadd E1 E2 d_law_648 ?_
  refine bn_ti (y := nI (i + 1)) (nI_add i 1) ?_
  refine lw_ld E I (j := i + 1) (by omega) d_law_649 ?_
  refine lv_aload_n E1 E2 d_law_650 rfl (lv_at hl 4 rfl) ?_
  refine lv_iload E1 E2 d_law_651 (lv_at hl 0 rfl) ?_
  refine lv_iconst (v := 2) E1 E2 d_law_653 (by decide) ?_
  refine lv_iadd E1 E2 d_law_654 ?_
  refine bn_ti (y := nI (i + 2)) (nI_add i 2) ?_
  refine lw_ld E I (j := i + 2) (by omega) d_law_655 ?_
  refine lw_l1 I (bn_runV (n := 2) (As := [.int (xs (i + 1)), .int (xs (i + 2))]) (rest := []) F1 hml hl.1 (lw_H1 I) mm_0 rfl rfl (c_Ne_info l D ar ad nf N (xs (i + 1)) (xs (i + 2)) _) (bn_goodV k_398 k_399 k_400 k_1 k_401) rfl rfl (by decide) ⟨by decide, by decide⟩ rfl rfl (Nat.le_of_ble_eq_true rfl) d_law_656 ⟨by omega, by omega⟩) (fun H locs I => ?_)
  refine lv_aload_n E1 E2 d_law_659 rfl (lv_at hl 2 rfl) ?_
  refine lv_aload_n E1 E2 d_law_660 rfl (lv_at hl 4 rfl) ?_
  refine lv_iload E1 E2 d_law_661 (lv_at hl 0 rfl) ?_
  refine lv_iconst (v := 1) E1 E2 d_law_663 (by decide) ?_
  refine lv_iadd E1 E2 d_law_664 ?_
  refine bn_ti (y := nI (i + 1)) (nI_add i 1) ?_
  refine lw_ld E I (j := i + 1) (by omega) d_law_665 ?_
  refine lv_aload_n E1 E2 d_law_666 rfl (lv_at hl 4 rfl) ?_
  refine lv_iload E1 E2 d_law_667 (lv_at hl 0 rfl) ?_
  refine lv_iconst (v := 2) E1 E2 d_law_669 (by decide) ?_
  refine lv_iadd E1 E2 d_law_670 ?_
  refine bn_ti (y := nI (i + 2)) (nI_add i 2) ?_
  refine lw_ld E I (j := i + 2) (by omega) d_law_671 ?_
  refine lw_l2 I (bn_runV (n := 2) (As := [.int (xs (i + 1)), .int (xs (i + 2))]) (rest := [.long (r_Ne_info N (xs (i + 1)) (xs (i + 2)))]) F2 hml hl.1 (lw_H2 I) mi_0 rfl rfl (c_Mo_info l D ar ad2 M (xs (i + 1)) (xs (i + 2)) _) (bn_goodV k_952 k_953 k_954 k_7 k_955) rfl rfl (by decide) ⟨by decide, by decide⟩ rfl rfl (Nat.le_of_ble_eq_true rfl) d_law_672 ⟨by omega, by omega⟩) (fun H locs I => ?_)
  refine W.lcmp E1 E2 d_law_675 ?_
  refine lv_if_eq E1 E2 d_law_676 rfl (fun _ => ?_) (fun hz => absurd ((lg_cmp_eq _ _).mpr (rm_info hRM (xs (i + 1)) (xs (i + 2))).1) hz)
  exact kk H locs _ _ ls ad _ _ _ g I (rm_info hRM (xs (i + 1)) (xs (i + 2))).2 rfl hl (by omega) (by omega)
set_option maxHeartbeats 4000000 in
theorem lw_c12 {p : Program} {l : Launch} {e : Env} {s : State} {m : MethodId} {below : List Frame} {meth : Method} {c : Code} {Q : State → Prop} {b L : Nat} {xs : Nat → Int32} {D : va_G} {ar : Nat → ClassId} {ad2 : Nat → Nat → Nat} {r X i cells slots : Nat} (E : lw_E p l s m c b L xs D ar) (hi : i + 5 ≤ L) (hc : cells + 1 ≤ room_1.cells) (hs : slots + 6 ≤ room_1.slots) (kk : lw_K0 p l e s m below meth c Q b D ar ad2 r X i (cells + 1) (slots + 6) 855) : lw_K0 p l e s m below meth c Q b D ar ad2 r X i cells slots 681 := by
  intro H locs cs ss ls ad nf N M g I hRM hX hl hcs hss
  subst hX
  have E1 := E.1.1
  have E2 := E.1.2.1
  have hml := E.2.1
  have hL := E.2.2.2.2.2.2
  have F1 : bn_F p s m #[Value.ref b] c code "BridgeNetLaw" (bn_y D ar ad nf) := E.1
  have F2 : bn_F p s m #[Value.ref b] c code "BridgeNetLaw" (mo_y D ar ad2) := E.1
  refine lv_aload_n E1 E2 d_law_681 rfl (lv_at hl 3 rfl) ?_
  refine lv_aload_n E1 E2 d_law_682 rfl (lv_at hl 4 rfl) ?_
  refine lv_iload E1 E2 d_law_683 (lv_at hl 0 rfl) ?_
  refine lv_iconst (v := 1) E1 E2 d_law_685 (by decide) ?_
  refine lv_iadd E1 E2 d_law_686 ?_
  refine bn_ti (y := nI (i + 1)) (nI_add i 1) ?_
  refine lw_ld E I (j := i + 1) (by omega) d_law_687 ?_
  refine lv_aload_n E1 E2 d_law_688 rfl (lv_at hl 4 rfl) ?_
  refine lv_iload E1 E2 d_law_689 (lv_at hl 0 rfl) ?_
  refine lv_iconst (v := 2) E1 E2 d_law_691 (by decide) ?_
  refine lv_iadd E1 E2 d_law_692 ?_
  refine bn_ti (y := nI (i + 2)) (nI_add i 2) ?_
  refine lw_ld E I (j := i + 2) (by omega) d_law_693 ?_
  refine lv_aload_n E1 E2 d_law_694 rfl (lv_at hl 4 rfl) ?_
  refine lv_iload E1 E2 d_law_695 (lv_at hl 0 rfl) ?_
  refine lv_iconst (v := 3) E1 E2 d_law_697 (by decide) ?_
  refine lv_iadd E1 E2 d_law_698 ?_
  refine bn_ti (y := nI (i + 3)) (nI_add i 3) ?_
  refine lw_ld E I (j := i + 3) (by omega) d_law_699 ?_
  refine lw_i1 I (bn_runV (n := 3) (As := [.int (xs (i + 1)), .int (xs (i + 2)), .int (xs (i + 3))]) (rest := []) F1 hml hl.1 (lw_H1 I) mm_0 rfl rfl (c_Ne_learned l D ar ad nf N (xs (i + 1)) (xs (i + 2)) (xs (i + 3)) _) (bn_goodV k_412 k_413 k_414 k_1 k_415) rfl rfl (by decide) ⟨by decide, by decide⟩ rfl rfl (Nat.le_of_ble_eq_true rfl) d_law_700 ⟨by omega, by omega⟩) (fun H locs I => ?_)
  refine lv_aload_n E1 E2 d_law_703 rfl (lv_at hl 2 rfl) ?_
  refine lv_aload_n E1 E2 d_law_704 rfl (lv_at hl 4 rfl) ?_
  refine lv_iload E1 E2 d_law_705 (lv_at hl 0 rfl) ?_
  refine lv_iconst (v := 1) E1 E2 d_law_707 (by decide) ?_
  refine lv_iadd E1 E2 d_law_708 ?_
  refine bn_ti (y := nI (i + 1)) (nI_add i 1) ?_
  refine lw_ld E I (j := i + 1) (by omega) d_law_709 ?_
  refine lv_aload_n E1 E2 d_law_710 rfl (lv_at hl 4 rfl) ?_
  refine lv_iload E1 E2 d_law_711 (lv_at hl 0 rfl) ?_
  refine lv_iconst (v := 2) E1 E2 d_law_713 (by decide) ?_
  refine lv_iadd E1 E2 d_law_714 ?_
  refine bn_ti (y := nI (i + 2)) (nI_add i 2) ?_
  refine lw_ld E I (j := i + 2) (by omega) d_law_715 ?_
  refine lv_aload_n E1 E2 d_law_716 rfl (lv_at hl 4 rfl) ?_
  refine lv_iload E1 E2 d_law_717 (lv_at hl 0 rfl) ?_
  refine lv_iconst (v := 3) E1 E2 d_law_719 (by decide) ?_
  refine lv_iadd E1 E2 d_law_720 ?_
  refine bn_ti (y := nI (i + 3)) (nI_add i 3) ?_
  refine lw_ld E I (j := i + 3) (by omega) d_law_721 ?_
  refine lw_i2 I (bn_runV (n := 3) (As := [.int (xs (i + 1)), .int (xs (i + 2)), .int (xs (i + 3))]) (rest := [.int (r_Ne_learned N (xs (i + 1)) (xs (i + 2)) (xs (i + 3)))]) F2 hml hl.1 (lw_H2 I) mi_0 rfl rfl (c_Mo_learned l D ar ad2 M (xs (i + 1)) (xs (i + 2)) (xs (i + 3)) _) (bn_goodV k_957 k_958 k_959 k_7 k_960) rfl rfl (by decide) ⟨by decide, by decide⟩ rfl rfl (Nat.le_of_ble_eq_true rfl) d_law_722 ⟨by omega, by omega⟩) (fun H locs I => ?_)
  refine lv_icmp_eq E1 E2 d_law_725 rfl (fun _ => ?_) (fun hz => absurd (rm_learned hRM (xs (i + 1)) (xs (i + 2)) (xs (i + 3))).1 hz)
  exact kk H locs _ _ ls ad _ _ _ g I (rm_learned hRM (xs (i + 1)) (xs (i + 2)) (xs (i + 3))).2 rfl hl (by omega) (by omega)
set_option maxHeartbeats 4000000 in
theorem lw_c13 {p : Program} {l : Launch} {e : Env} {s : State} {m : MethodId} {below : List Frame} {meth : Method} {c : Code} {Q : State → Prop} {b L : Nat} {xs : Nat → Int32} {D : va_G} {ar : Nat → ClassId} {ad2 : Nat → Nat → Nat} {r X i cells slots : Nat} (E : lw_E p l s m c b L xs D ar) (hi : i + 5 ≤ L) (hc : cells + 1 ≤ room_1.cells) (hs : slots + 6 ≤ room_1.slots) (kk : lw_K0 p l e s m below meth c Q b D ar ad2 r X i (cells + 1) (slots + 6) 855) : lw_K0 p l e s m below meth c Q b D ar ad2 r X i cells slots 730 := by
  intro H locs cs ss ls ad nf N M g I hRM hX hl hcs hss
  subst hX
  have E1 := E.1.1
  have E2 := E.1.2.1
  have hml := E.2.1
  have hL := E.2.2.2.2.2.2
  have F1 : bn_F p s m #[Value.ref b] c code "BridgeNetLaw" (bn_y D ar ad nf) := E.1
  have F2 : bn_F p s m #[Value.ref b] c code "BridgeNetLaw" (mo_y D ar ad2) := E.1
  refine lv_aload_n E1 E2 d_law_730 rfl (lv_at hl 3 rfl) ?_
  refine lv_aload_n E1 E2 d_law_731 rfl (lv_at hl 4 rfl) ?_
  refine lv_iload E1 E2 d_law_732 (lv_at hl 0 rfl) ?_
  refine lv_iconst (v := 1) E1 E2 d_law_734 (by decide) ?_
  refine lv_iadd E1 E2 d_law_735 ?_
  refine bn_ti (y := nI (i + 1)) (nI_add i 1) ?_
  refine lw_ld E I (j := i + 1) (by omega) d_law_736 ?_
  refine lv_aload_n E1 E2 d_law_737 rfl (lv_at hl 4 rfl) ?_
  refine lv_iload E1 E2 d_law_738 (lv_at hl 0 rfl) ?_
  refine lv_iconst (v := 2) E1 E2 d_law_740 (by decide) ?_
  refine lv_iadd E1 E2 d_law_741 ?_
  refine bn_ti (y := nI (i + 2)) (nI_add i 2) ?_
  refine lw_ld E I (j := i + 2) (by omega) d_law_742 ?_
  refine lw_l1 I (bn_runV (n := 2) (As := [.int (xs (i + 1)), .int (xs (i + 2))]) (rest := []) F1 hml hl.1 (lw_H1 I) mm_0 rfl rfl (c_Ne_inbox l D ar ad nf N (xs (i + 1)) (xs (i + 2)) _) (bn_goodV k_430 k_431 k_432 k_1 k_433) rfl rfl (by decide) ⟨by decide, by decide⟩ rfl rfl (Nat.le_of_ble_eq_true rfl) d_law_743 ⟨by omega, by omega⟩) (fun H locs I => ?_)
  refine lv_aload_n E1 E2 d_law_746 rfl (lv_at hl 2 rfl) ?_
  refine lv_aload_n E1 E2 d_law_747 rfl (lv_at hl 4 rfl) ?_
  refine lv_iload E1 E2 d_law_748 (lv_at hl 0 rfl) ?_
  refine lv_iconst (v := 1) E1 E2 d_law_750 (by decide) ?_
  refine lv_iadd E1 E2 d_law_751 ?_
  refine bn_ti (y := nI (i + 1)) (nI_add i 1) ?_
  refine lw_ld E I (j := i + 1) (by omega) d_law_752 ?_
  refine lv_aload_n E1 E2 d_law_753 rfl (lv_at hl 4 rfl) ?_
  refine lv_iload E1 E2 d_law_754 (lv_at hl 0 rfl) ?_
  refine lv_iconst (v := 2) E1 E2 d_law_756 (by decide) ?_
  refine lv_iadd E1 E2 d_law_757 ?_
  refine bn_ti (y := nI (i + 2)) (nI_add i 2) ?_
  refine lw_ld E I (j := i + 2) (by omega) d_law_758 ?_
  refine lw_l2 I (bn_runV (n := 2) (As := [.int (xs (i + 1)), .int (xs (i + 2))]) (rest := [.long (r_Ne_inbox N (xs (i + 1)) (xs (i + 2)))]) F2 hml hl.1 (lw_H2 I) mi_0 rfl rfl (c_Mo_inbox l D ar ad2 M (xs (i + 1)) (xs (i + 2)) _) (bn_goodV k_961 k_962 k_963 k_7 k_964) rfl rfl (by decide) ⟨by decide, by decide⟩ rfl rfl (Nat.le_of_ble_eq_true rfl) d_law_759 ⟨by omega, by omega⟩) (fun H locs I => ?_)
  refine W.lcmp E1 E2 d_law_762 ?_
  refine lv_if_eq E1 E2 d_law_763 rfl (fun _ => ?_) (fun hz => absurd ((lg_cmp_eq _ _).mpr (rm_inbox hRM (xs (i + 1)) (xs (i + 2))).1) hz)
  exact kk H locs _ _ ls ad _ _ _ g I (rm_inbox hRM (xs (i + 1)) (xs (i + 2))).2 rfl hl (by omega) (by omega)
set_option maxHeartbeats 4000000 in
theorem lw_c14 {p : Program} {l : Launch} {e : Env} {s : State} {m : MethodId} {below : List Frame} {meth : Method} {c : Code} {Q : State → Prop} {b L : Nat} {xs : Nat → Int32} {D : va_G} {ar : Nat → ClassId} {ad2 : Nat → Nat → Nat} {r X i cells slots : Nat} (E : lw_E p l s m c b L xs D ar) (hi : i + 5 ≤ L) (hc : cells + 1 ≤ room_1.cells) (hs : slots + 6 ≤ room_1.slots) (kk : lw_K0 p l e s m below meth c Q b D ar ad2 r X i (cells + 1) (slots + 6) 855) : lw_K0 p l e s m below meth c Q b D ar ad2 r X i cells slots 768 := by
  intro H locs cs ss ls ad nf N M g I hRM hX hl hcs hss
  subst hX
  have E1 := E.1.1
  have E2 := E.1.2.1
  have hml := E.2.1
  have hL := E.2.2.2.2.2.2
  have F1 : bn_F p s m #[Value.ref b] c code "BridgeNetLaw" (bn_y D ar ad nf) := E.1
  have F2 : bn_F p s m #[Value.ref b] c code "BridgeNetLaw" (mo_y D ar ad2) := E.1
  refine lv_aload_n E1 E2 d_law_768 rfl (lv_at hl 3 rfl) ?_
  refine lv_aload_n E1 E2 d_law_769 rfl (lv_at hl 4 rfl) ?_
  refine lv_iload E1 E2 d_law_770 (lv_at hl 0 rfl) ?_
  refine lv_iconst (v := 1) E1 E2 d_law_772 (by decide) ?_
  refine lv_iadd E1 E2 d_law_773 ?_
  refine bn_ti (y := nI (i + 1)) (nI_add i 1) ?_
  refine lw_ld E I (j := i + 1) (by omega) d_law_774 ?_
  refine lv_aload_n E1 E2 d_law_775 rfl (lv_at hl 4 rfl) ?_
  refine lv_iload E1 E2 d_law_776 (lv_at hl 0 rfl) ?_
  refine lv_iconst (v := 2) E1 E2 d_law_778 (by decide) ?_
  refine lv_iadd E1 E2 d_law_779 ?_
  refine bn_ti (y := nI (i + 2)) (nI_add i 2) ?_
  refine lw_ld E I (j := i + 2) (by omega) d_law_780 ?_
  refine lw_i1 I (bn_runV (n := 2) (As := [.int (xs (i + 1)), .int (xs (i + 2))]) (rest := []) F1 hml hl.1 (lw_H1 I) mm_0 rfl rfl (c_Ne_line l D ar ad nf N (xs (i + 1)) (xs (i + 2)) _) (bn_goodV k_439 k_440 k_441 k_1 k_442) rfl rfl (by decide) ⟨by decide, by decide⟩ rfl rfl (Nat.le_of_ble_eq_true rfl) d_law_781 ⟨by omega, by omega⟩) (fun H locs I => ?_)
  refine lv_aload_n E1 E2 d_law_784 rfl (lv_at hl 2 rfl) ?_
  refine lv_aload_n E1 E2 d_law_785 rfl (lv_at hl 4 rfl) ?_
  refine lv_iload E1 E2 d_law_786 (lv_at hl 0 rfl) ?_
  refine lv_iconst (v := 1) E1 E2 d_law_788 (by decide) ?_
  refine lv_iadd E1 E2 d_law_789 ?_
  refine bn_ti (y := nI (i + 1)) (nI_add i 1) ?_
  refine lw_ld E I (j := i + 1) (by omega) d_law_790 ?_
  refine lv_aload_n E1 E2 d_law_791 rfl (lv_at hl 4 rfl) ?_
  refine lv_iload E1 E2 d_law_792 (lv_at hl 0 rfl) ?_
  refine lv_iconst (v := 2) E1 E2 d_law_794 (by decide) ?_
  refine lv_iadd E1 E2 d_law_795 ?_
  refine bn_ti (y := nI (i + 2)) (nI_add i 2) ?_
  refine lw_ld E I (j := i + 2) (by omega) d_law_796 ?_
  refine lw_i2 I (bn_runV (n := 2) (As := [.int (xs (i + 1)), .int (xs (i + 2))]) (rest := [.int (r_Ne_line N (xs (i + 1)) (xs (i + 2)))]) F2 hml hl.1 (lw_H2 I) mi_0 rfl rfl (c_Mo_line l D ar ad2 M (xs (i + 1)) (xs (i + 2)) _) (bn_goodV k_965 k_966 k_967 k_7 k_968) rfl rfl (by decide) ⟨by decide, by decide⟩ rfl rfl (Nat.le_of_ble_eq_true rfl) d_law_797 ⟨by omega, by omega⟩) (fun H locs I => ?_)
  refine lv_icmp_eq E1 E2 d_law_800 rfl (fun _ => ?_) (fun hz => absurd (rm_line hRM (xs (i + 1)) (xs (i + 2))).1 hz)
  exact kk H locs _ _ ls ad _ _ _ g I (rm_line hRM (xs (i + 1)) (xs (i + 2))).2 rfl hl (by omega) (by omega)
set_option maxHeartbeats 4000000 in
theorem lw_c15 {p : Program} {l : Launch} {e : Env} {s : State} {m : MethodId} {below : List Frame} {meth : Method} {c : Code} {Q : State → Prop} {b L : Nat} {xs : Nat → Int32} {D : va_G} {ar : Nat → ClassId} {ad2 : Nat → Nat → Nat} {r X i cells slots : Nat} (E : lw_E p l s m c b L xs D ar) (hi : i + 5 ≤ L) (hc : cells + 1 ≤ room_1.cells) (hs : slots + 6 ≤ room_1.slots) (kk : lw_K0 p l e s m below meth c Q b D ar ad2 r X i (cells + 1) (slots + 6) 855) : lw_K0 p l e s m below meth c Q b D ar ad2 r X i cells slots 805 := by
  intro H locs cs ss ls ad nf N M g I hRM hX hl hcs hss
  subst hX
  have E1 := E.1.1
  have E2 := E.1.2.1
  have hml := E.2.1
  have hL := E.2.2.2.2.2.2
  have F1 : bn_F p s m #[Value.ref b] c code "BridgeNetLaw" (bn_y D ar ad nf) := E.1
  have F2 : bn_F p s m #[Value.ref b] c code "BridgeNetLaw" (mo_y D ar ad2) := E.1
  refine lv_aload_n E1 E2 d_law_805 rfl (lv_at hl 3 rfl) ?_
  refine lv_aload_n E1 E2 d_law_806 rfl (lv_at hl 4 rfl) ?_
  refine lv_iload E1 E2 d_law_807 (lv_at hl 0 rfl) ?_
  refine lv_iconst (v := 1) E1 E2 d_law_809 (by decide) ?_
  refine lv_iadd E1 E2 d_law_810 ?_
  refine bn_ti (y := nI (i + 1)) (nI_add i 1) ?_
  refine lw_ld E I (j := i + 1) (by omega) d_law_811 ?_
  refine lv_aload_n E1 E2 d_law_812 rfl (lv_at hl 4 rfl) ?_
  refine lv_iload E1 E2 d_law_813 (lv_at hl 0 rfl) ?_
  refine lv_iconst (v := 2) E1 E2 d_law_815 (by decide) ?_
  refine lv_iadd E1 E2 d_law_816 ?_
  refine bn_ti (y := nI (i + 2)) (nI_add i 2) ?_
  refine lw_ld E I (j := i + 2) (by omega) d_law_817 ?_
  refine lv_aload_n E1 E2 d_law_818 rfl (lv_at hl 4 rfl) ?_
  refine lv_iload E1 E2 d_law_819 (lv_at hl 0 rfl) ?_
  refine lv_iconst (v := 3) E1 E2 d_law_821 (by decide) ?_
  refine lv_iadd E1 E2 d_law_822 ?_
  refine bn_ti (y := nI (i + 3)) (nI_add i 3) ?_
  refine lw_ld E I (j := i + 3) (by omega) d_law_823 ?_
  refine lw_l1 I (bn_runV (n := 3) (As := [.int (xs (i + 1)), .int (xs (i + 2)), .int (xs (i + 3))]) (rest := []) F1 hml hl.1 (lw_H1 I) mm_0 rfl rfl (c_Ne_message l D ar ad nf N (xs (i + 1)) (xs (i + 2)) (xs (i + 3)) _) (bn_goodV k_443 k_444 k_445 k_1 k_446) rfl rfl (by decide) ⟨by decide, by decide⟩ rfl rfl (Nat.le_of_ble_eq_true rfl) d_law_824 ⟨by omega, by omega⟩) (fun H locs I => ?_)
  refine lv_aload_n E1 E2 d_law_827 rfl (lv_at hl 2 rfl) ?_
  refine lv_aload_n E1 E2 d_law_828 rfl (lv_at hl 4 rfl) ?_
  refine lv_iload E1 E2 d_law_829 (lv_at hl 0 rfl) ?_
  refine lv_iconst (v := 1) E1 E2 d_law_831 (by decide) ?_
  refine lv_iadd E1 E2 d_law_832 ?_
  refine bn_ti (y := nI (i + 1)) (nI_add i 1) ?_
  refine lw_ld E I (j := i + 1) (by omega) d_law_833 ?_
  refine lv_aload_n E1 E2 d_law_834 rfl (lv_at hl 4 rfl) ?_
  refine lv_iload E1 E2 d_law_835 (lv_at hl 0 rfl) ?_
  refine lv_iconst (v := 2) E1 E2 d_law_837 (by decide) ?_
  refine lv_iadd E1 E2 d_law_838 ?_
  refine bn_ti (y := nI (i + 2)) (nI_add i 2) ?_
  refine lw_ld E I (j := i + 2) (by omega) d_law_839 ?_
  refine lv_aload_n E1 E2 d_law_840 rfl (lv_at hl 4 rfl) ?_
  refine lv_iload E1 E2 d_law_841 (lv_at hl 0 rfl) ?_
  refine lv_iconst (v := 3) E1 E2 d_law_843 (by decide) ?_
  refine lv_iadd E1 E2 d_law_844 ?_
  refine bn_ti (y := nI (i + 3)) (nI_add i 3) ?_
  refine lw_ld E I (j := i + 3) (by omega) d_law_845 ?_
  refine lw_l2 I (bn_runV (n := 3) (As := [.int (xs (i + 1)), .int (xs (i + 2)), .int (xs (i + 3))]) (rest := [.long (r_Ne_message N (xs (i + 1)) (xs (i + 2)) (xs (i + 3)))]) F2 hml hl.1 (lw_H2 I) mi_0 rfl rfl (c_Mo_message l D ar ad2 M (xs (i + 1)) (xs (i + 2)) (xs (i + 3)) _) (bn_goodV k_969 k_970 k_971 k_7 k_972) rfl rfl (by decide) ⟨by decide, by decide⟩ rfl rfl (Nat.le_of_ble_eq_true rfl) d_law_846 ⟨by omega, by omega⟩) (fun H locs I => ?_)
  refine W.lcmp E1 E2 d_law_849 ?_
  refine lv_if_eq E1 E2 d_law_850 rfl (fun _ => ?_) (fun hz => absurd ((lg_cmp_eq _ _).mpr (rm_message hRM (xs (i + 1)) (xs (i + 2)) (xs (i + 3))).1) hz)
  exact kk H locs _ _ ls ad _ _ _ g I (rm_message hRM (xs (i + 1)) (xs (i + 2)) (xs (i + 3))).2 rfl hl (by omega) (by omega)

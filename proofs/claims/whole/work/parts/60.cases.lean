/-! ===== the law, case by case ===== -/
set_option maxHeartbeats 4000000 in
theorem law_c0 {p : Program} {l : Launch} {e : Env} {s : State} {m : MethodId} {args : Array Value} {below : List Frame} {meth : Method} {c : Code} {Q : State → Prop} {G : GT} {kc ks b L0 B2 i : Nat} {xs : Nat → Int32} {A : AS} {I1 : II} {L1 : LL} {I2 : II} {L2 : LL} (C : Cx p s m args meth c cL_law 4 RL G) (hX : va_X b L0 xs s s.heap) (hbl : b < s.heap.size) (hL0 : L0 ≤ 3072) (h6 : i + 6 ≤ L0) (hb1 : s.heap.size ≤ gB G) (hb2 : gB G + 226 ≤ B2) (hkc : kc ≤ room_1.cells ∧ ks ≤ room_1.slots) (hi : inv A) (hp : aP A < 2 ^ 20) (hRC : RC A I1 L1) (hRM : RM A I2 L2) (K : ∀ (A1 : AS) (I3 : II) (L3 : LL) (I4 : II) (L4 : LL), inv A1 → aP A1 ≤ aP A + 1 → RC A1 I3 L3 → RM A1 I4 L4 → JL p l e room_1 s m args below meth c Q 4 G (226, SHC) kc ks I3 L3 (B2, (27, SHM), I4, L4) 763 [some (.ref b), some (.ref (gB G + 0)), some (.ref (B2 + 0)), some (.int (nI i))] []) : JL p l e room_1 s m args below meth c Q 4 G (226, SHC) kc ks I1 L1 (B2, (27, SHM), I2, L2) 116 [some (.ref b), some (.ref (gB G + 0)), some (.ref (B2 + 0)), some (.int (nI i))] [] := by
  have hD1 : ∀ q, rg_A G (226, SHC) q → ¬ rg_A (gY G (B2, (27, SHM), I2, L2)) (27, SHM) q := fun q a z => by have h1 : q < gB G + 226 := a.2; have h2 : B2 ≤ q := z.1; omega
  refine jl_aload_n C dL_law_116 rfl rfl ?_
  refine jl_aload_n C dL_law_117 rfl rfl ?_
  refine jl_iload_n C dL_law_118 rfl rfl ?_
  refine jl_iconst (v := nI 1) C dL_law_119 (by decide) ?_
  refine jl_add C dL_law_120 ?_
  refine jl_sld C hX hbl (by omega) (by omega) dL_law_121 ?_
  refine jl_cvI1 C vc_L_13 (c_X6_variables l G _ _ _ A _ SHC_ok hRC hi.1) ⟨Nat.le_of_ble_eq_true rfl, Nat.le_of_ble_eq_true rfl⟩ (by decide) rfl rfl hD1 hb1 rfl rfl (Nat.le_of_ble_eq_true rfl) hkc dL_law_122 (fun r1 I3 L3 p1 => ?_)
  obtain ⟨rfl, hRC1⟩ := p1
  have hD2 : ∀ q, rg_A (gY G (B2, (27, SHM), I2, L2)) (27, SHM) q → ¬ rg_A G (226, SHC) q := fun q a z => hD1 q z a
  refine jl_aload_n C dL_law_125 rfl rfl ?_
  refine jl_aload_n C dL_law_126 rfl rfl ?_
  refine jl_iload_n C dL_law_127 rfl rfl ?_
  refine jl_iconst (v := nI 1) C dL_law_128 (by decide) ?_
  refine jl_add C dL_law_129 ?_
  refine jl_sld C hX hbl (by omega) (by omega) dL_law_130 ?_
  refine jl_cvI2 C vc_L_17 (c_X7_variables l (gY G (B2, (27, SHM), I2, L2)) _ _ _ A _ SHM_ok hRM hi.1) ⟨Nat.le_of_ble_eq_true rfl, Nat.le_of_ble_eq_true rfl⟩ (show 0 < 27 by decide) rfl rfl hD2 (by show s.heap.size ≤ B2; omega) rfl rfl (Nat.le_of_ble_eq_true rfl) hkc dL_law_131 (fun r2 I4 L4 p2 => ?_)
  obtain ⟨rfl, hRM1⟩ := p2
  refine jl_icmp_eq (tgt := 763) C dL_law_134 (by decide) (fun _ => ?_) (fun h => absurd rfl h)
  exact K _ _ _ _ _ (inv_vars hi _) (aP_vars _) hRC1 hRM1
set_option maxHeartbeats 4000000 in
theorem law_c1 {p : Program} {l : Launch} {e : Env} {s : State} {m : MethodId} {args : Array Value} {below : List Frame} {meth : Method} {c : Code} {Q : State → Prop} {G : GT} {kc ks b L0 B2 i : Nat} {xs : Nat → Int32} {A : AS} {I1 : II} {L1 : LL} {I2 : II} {L2 : LL} (C : Cx p s m args meth c cL_law 4 RL G) (hX : va_X b L0 xs s s.heap) (hbl : b < s.heap.size) (hL0 : L0 ≤ 3072) (h6 : i + 6 ≤ L0) (hb1 : s.heap.size ≤ gB G) (hb2 : gB G + 226 ≤ B2) (hkc : kc ≤ room_1.cells ∧ ks ≤ room_1.slots) (hi : inv A) (hp : aP A < 2 ^ 20) (hRC : RC A I1 L1) (hRM : RM A I2 L2) (K : ∀ (A1 : AS) (I3 : II) (L3 : LL) (I4 : II) (L4 : LL), inv A1 → aP A1 ≤ aP A + 1 → RC A1 I3 L3 → RM A1 I4 L4 → JL p l e room_1 s m args below meth c Q 4 G (226, SHC) kc ks I3 L3 (B2, (27, SHM), I4, L4) 763 [some (.ref b), some (.ref (gB G + 0)), some (.ref (B2 + 0)), some (.int (nI i))] []) : JL p l e room_1 s m args below meth c Q 4 G (226, SHC) kc ks I1 L1 (B2, (27, SHM), I2, L2) 139 [some (.ref b), some (.ref (gB G + 0)), some (.ref (B2 + 0)), some (.int (nI i))] [] := by
  have hD1 : ∀ q, rg_A G (226, SHC) q → ¬ rg_A (gY G (B2, (27, SHM), I2, L2)) (27, SHM) q := fun q a z => by have h1 : q < gB G + 226 := a.2; have h2 : B2 ≤ q := z.1; omega
  refine jl_aload_n C dL_law_139 rfl rfl ?_
  refine jl_cvI1 C vc_L_18 (c_X6_form l G _ _ _ A SHC_ok hRC hi.1) ⟨Nat.le_of_ble_eq_true rfl, Nat.le_of_ble_eq_true rfl⟩ (by decide) rfl rfl hD1 hb1 rfl rfl (Nat.le_of_ble_eq_true rfl) hkc dL_law_140 (fun r1 I3 L3 p1 => ?_)
  obtain ⟨rfl, hRC1⟩ := p1
  have hD2 : ∀ q, rg_A (gY G (B2, (27, SHM), I2, L2)) (27, SHM) q → ¬ rg_A G (226, SHC) q := fun q a z => hD1 q z a
  refine jl_aload_n C dL_law_143 rfl rfl ?_
  refine jl_cvI2 C vc_L_22 (c_X7_form l (gY G (B2, (27, SHM), I2, L2)) _ _ _ A SHM_ok hRM hi.1) ⟨Nat.le_of_ble_eq_true rfl, Nat.le_of_ble_eq_true rfl⟩ (show 0 < 27 by decide) rfl rfl hD2 (by show s.heap.size ≤ B2; omega) rfl rfl (Nat.le_of_ble_eq_true rfl) hkc dL_law_144 (fun r2 I4 L4 p2 => ?_)
  obtain ⟨rfl, hRM1⟩ := p2
  refine jl_icmp_eq (tgt := 763) C dL_law_147 (by decide) (fun _ => ?_) (fun h => absurd rfl h)
  exact K _ _ _ _ _ (inv_form hi) (aP_form) hRC1 hRM1
set_option maxHeartbeats 4000000 in
theorem law_c2 {p : Program} {l : Launch} {e : Env} {s : State} {m : MethodId} {args : Array Value} {below : List Frame} {meth : Method} {c : Code} {Q : State → Prop} {G : GT} {kc ks b L0 B2 i : Nat} {xs : Nat → Int32} {A : AS} {I1 : II} {L1 : LL} {I2 : II} {L2 : LL} (C : Cx p s m args meth c cL_law 4 RL G) (hX : va_X b L0 xs s s.heap) (hbl : b < s.heap.size) (hL0 : L0 ≤ 3072) (h6 : i + 6 ≤ L0) (hb1 : s.heap.size ≤ gB G) (hb2 : gB G + 226 ≤ B2) (hkc : kc ≤ room_1.cells ∧ ks ≤ room_1.slots) (hi : inv A) (hp : aP A < 2 ^ 20) (hRC : RC A I1 L1) (hRM : RM A I2 L2) (K : ∀ (A1 : AS) (I3 : II) (L3 : LL) (I4 : II) (L4 : LL), inv A1 → aP A1 ≤ aP A + 1 → RC A1 I3 L3 → RM A1 I4 L4 → JL p l e room_1 s m args below meth c Q 4 G (226, SHC) kc ks I3 L3 (B2, (27, SHM), I4, L4) 763 [some (.ref b), some (.ref (gB G + 0)), some (.ref (B2 + 0)), some (.int (nI i))] []) : JL p l e room_1 s m args below meth c Q 4 G (226, SHC) kc ks I1 L1 (B2, (27, SHM), I2, L2) 152 [some (.ref b), some (.ref (gB G + 0)), some (.ref (B2 + 0)), some (.int (nI i))] [] := by
  have hD1 : ∀ q, rg_A G (226, SHC) q → ¬ rg_A (gY G (B2, (27, SHM), I2, L2)) (27, SHM) q := fun q a z => by have h1 : q < gB G + 226 := a.2; have h2 : B2 ≤ q := z.1; omega
  refine jl_aload_n C dL_law_152 rfl rfl ?_
  refine jl_aload_n C dL_law_153 rfl rfl ?_
  refine jl_iload_n C dL_law_154 rfl rfl ?_
  refine jl_iconst (v := nI 1) C dL_law_155 (by decide) ?_
  refine jl_add C dL_law_156 ?_
  refine jl_sld C hX hbl (by omega) (by omega) dL_law_157 ?_
  refine jl_aload_n C dL_law_158 rfl rfl ?_
  refine jl_iload_n C dL_law_159 rfl rfl ?_
  refine jl_iconst (v := nI 2) C dL_law_160 (by decide) ?_
  refine jl_add C dL_law_161 ?_
  refine jl_sld C hX hbl (by omega) (by omega) dL_law_162 ?_
  refine jl_aload_n C dL_law_163 rfl rfl ?_
  refine jl_iload_n C dL_law_164 rfl rfl ?_
  refine jl_iconst (v := nI 3) C dL_law_165 (by decide) ?_
  refine jl_add C dL_law_166 ?_
  refine jl_sld C hX hbl (by omega) (by omega) dL_law_167 ?_
  refine jl_aload_n C dL_law_168 rfl rfl ?_
  refine jl_iload_n C dL_law_169 rfl rfl ?_
  refine jl_iconst (v := nI 4) C dL_law_170 (by decide) ?_
  refine jl_add C dL_law_171 ?_
  refine jl_sld C hX hbl (by omega) (by omega) dL_law_172 ?_
  refine jl_cvI1 C vc_L_23 (c_X6_term l G _ _ _ A _ _ _ _ SHC_ok hRC hi.1) ⟨Nat.le_of_ble_eq_true rfl, Nat.le_of_ble_eq_true rfl⟩ (by decide) rfl rfl hD1 hb1 rfl rfl (Nat.le_of_ble_eq_true rfl) hkc dL_law_173 (fun r1 I3 L3 p1 => ?_)
  obtain ⟨rfl, hRC1⟩ := p1
  have hD2 : ∀ q, rg_A (gY G (B2, (27, SHM), I2, L2)) (27, SHM) q → ¬ rg_A G (226, SHC) q := fun q a z => hD1 q z a
  refine jl_aload_n C dL_law_176 rfl rfl ?_
  refine jl_aload_n C dL_law_177 rfl rfl ?_
  refine jl_iload_n C dL_law_178 rfl rfl ?_
  refine jl_iconst (v := nI 1) C dL_law_179 (by decide) ?_
  refine jl_add C dL_law_180 ?_
  refine jl_sld C hX hbl (by omega) (by omega) dL_law_181 ?_
  refine jl_aload_n C dL_law_182 rfl rfl ?_
  refine jl_iload_n C dL_law_183 rfl rfl ?_
  refine jl_iconst (v := nI 2) C dL_law_184 (by decide) ?_
  refine jl_add C dL_law_185 ?_
  refine jl_sld C hX hbl (by omega) (by omega) dL_law_186 ?_
  refine jl_aload_n C dL_law_187 rfl rfl ?_
  refine jl_iload_n C dL_law_188 rfl rfl ?_
  refine jl_iconst (v := nI 3) C dL_law_189 (by decide) ?_
  refine jl_add C dL_law_190 ?_
  refine jl_sld C hX hbl (by omega) (by omega) dL_law_191 ?_
  refine jl_aload_n C dL_law_192 rfl rfl ?_
  refine jl_iload_n C dL_law_193 rfl rfl ?_
  refine jl_iconst (v := nI 4) C dL_law_194 (by decide) ?_
  refine jl_add C dL_law_195 ?_
  refine jl_sld C hX hbl (by omega) (by omega) dL_law_196 ?_
  refine jl_cvI2 C vc_L_27 (c_X7_term l (gY G (B2, (27, SHM), I2, L2)) _ _ _ A _ _ _ _ SHM_ok hRM hi.1) ⟨Nat.le_of_ble_eq_true rfl, Nat.le_of_ble_eq_true rfl⟩ (show 0 < 27 by decide) rfl rfl hD2 (by show s.heap.size ≤ B2; omega) rfl rfl (Nat.le_of_ble_eq_true rfl) hkc dL_law_197 (fun r2 I4 L4 p2 => ?_)
  obtain ⟨rfl, hRM1⟩ := p2
  refine jl_icmp_eq (tgt := 763) C dL_law_200 (by decide) (fun _ => ?_) (fun h => absurd rfl h)
  exact K _ _ _ _ _ (inv_term hi _ _ _ _) (aP_term _ _ _ _) hRC1 hRM1
set_option maxHeartbeats 4000000 in
theorem law_c3 {p : Program} {l : Launch} {e : Env} {s : State} {m : MethodId} {args : Array Value} {below : List Frame} {meth : Method} {c : Code} {Q : State → Prop} {G : GT} {kc ks b L0 B2 i : Nat} {xs : Nat → Int32} {A : AS} {I1 : II} {L1 : LL} {I2 : II} {L2 : LL} (C : Cx p s m args meth c cL_law 4 RL G) (hX : va_X b L0 xs s s.heap) (hbl : b < s.heap.size) (hL0 : L0 ≤ 3072) (h6 : i + 6 ≤ L0) (hb1 : s.heap.size ≤ gB G) (hb2 : gB G + 226 ≤ B2) (hkc : kc ≤ room_1.cells ∧ ks ≤ room_1.slots) (hi : inv A) (hp : aP A < 2 ^ 20) (hRC : RC A I1 L1) (hRM : RM A I2 L2) (K : ∀ (A1 : AS) (I3 : II) (L3 : LL) (I4 : II) (L4 : LL), inv A1 → aP A1 ≤ aP A + 1 → RC A1 I3 L3 → RM A1 I4 L4 → JL p l e room_1 s m args below meth c Q 4 G (226, SHC) kc ks I3 L3 (B2, (27, SHM), I4, L4) 763 [some (.ref b), some (.ref (gB G + 0)), some (.ref (B2 + 0)), some (.int (nI i))] []) : JL p l e room_1 s m args below meth c Q 4 G (226, SHC) kc ks I1 L1 (B2, (27, SHM), I2, L2) 205 [some (.ref b), some (.ref (gB G + 0)), some (.ref (B2 + 0)), some (.int (nI i))] [] := by
  have hD1 : ∀ q, rg_A G (226, SHC) q → ¬ rg_A (gY G (B2, (27, SHM), I2, L2)) (27, SHM) q := fun q a z => by have h1 : q < gB G + 226 := a.2; have h2 : B2 ≤ q := z.1; omega
  refine jl_aload_n C dL_law_205 rfl rfl ?_
  refine jl_aload_n C dL_law_206 rfl rfl ?_
  refine jl_iload_n C dL_law_207 rfl rfl ?_
  refine jl_iconst (v := nI 1) C dL_law_208 (by decide) ?_
  refine jl_add C dL_law_209 ?_
  refine jl_sld C hX hbl (by omega) (by omega) dL_law_210 ?_
  refine jl_aload_n C dL_law_211 rfl rfl ?_
  refine jl_iload_n C dL_law_212 rfl rfl ?_
  refine jl_iconst (v := nI 2) C dL_law_213 (by decide) ?_
  refine jl_add C dL_law_214 ?_
  refine jl_sld C hX hbl (by omega) (by omega) dL_law_215 ?_
  refine jl_aload_n C dL_law_216 rfl rfl ?_
  refine jl_iload_n C dL_law_217 rfl rfl ?_
  refine jl_iconst (v := nI 3) C dL_law_218 (by decide) ?_
  refine jl_add C dL_law_219 ?_
  refine jl_sld C hX hbl (by omega) (by omega) dL_law_220 ?_
  refine jl_aload_n C dL_law_221 rfl rfl ?_
  refine jl_iload_n C dL_law_222 rfl rfl ?_
  refine jl_iconst (v := nI 4) C dL_law_223 (by decide) ?_
  refine jl_add C dL_law_224 ?_
  refine jl_sld C hX hbl (by omega) (by omega) dL_law_225 ?_
  refine jl_aload_n C dL_law_226 rfl rfl ?_
  refine jl_iload_n C dL_law_227 rfl rfl ?_
  refine jl_iconst (v := nI 5) C dL_law_228 (by decide) ?_
  refine jl_add C dL_law_229 ?_
  refine jl_sld C hX hbl (by omega) (by omega) dL_law_230 ?_
  refine jl_cvL1 C vc_L_28 (c_X6_value l G _ _ _ A _ _ _ _ _ SHC_ok hRC hi.1) ⟨Nat.le_of_ble_eq_true rfl, Nat.le_of_ble_eq_true rfl⟩ (by decide) rfl rfl hD1 hb1 rfl rfl (Nat.le_of_ble_eq_true rfl) hkc dL_law_231 (fun r1 I3 L3 p1 => ?_)
  obtain ⟨rfl, hRC1⟩ := p1
  have hD2 : ∀ q, rg_A (gY G (B2, (27, SHM), I2, L2)) (27, SHM) q → ¬ rg_A G (226, SHC) q := fun q a z => hD1 q z a
  refine jl_aload_n C dL_law_234 rfl rfl ?_
  refine jl_aload_n C dL_law_235 rfl rfl ?_
  refine jl_iload_n C dL_law_236 rfl rfl ?_
  refine jl_iconst (v := nI 1) C dL_law_237 (by decide) ?_
  refine jl_add C dL_law_238 ?_
  refine jl_sld C hX hbl (by omega) (by omega) dL_law_239 ?_
  refine jl_aload_n C dL_law_240 rfl rfl ?_
  refine jl_iload_n C dL_law_241 rfl rfl ?_
  refine jl_iconst (v := nI 2) C dL_law_242 (by decide) ?_
  refine jl_add C dL_law_243 ?_
  refine jl_sld C hX hbl (by omega) (by omega) dL_law_244 ?_
  refine jl_aload_n C dL_law_245 rfl rfl ?_
  refine jl_iload_n C dL_law_246 rfl rfl ?_
  refine jl_iconst (v := nI 3) C dL_law_247 (by decide) ?_
  refine jl_add C dL_law_248 ?_
  refine jl_sld C hX hbl (by omega) (by omega) dL_law_249 ?_
  refine jl_aload_n C dL_law_250 rfl rfl ?_
  refine jl_iload_n C dL_law_251 rfl rfl ?_
  refine jl_iconst (v := nI 4) C dL_law_252 (by decide) ?_
  refine jl_add C dL_law_253 ?_
  refine jl_sld C hX hbl (by omega) (by omega) dL_law_254 ?_
  refine jl_aload_n C dL_law_255 rfl rfl ?_
  refine jl_iload_n C dL_law_256 rfl rfl ?_
  refine jl_iconst (v := nI 5) C dL_law_257 (by decide) ?_
  refine jl_add C dL_law_258 ?_
  refine jl_sld C hX hbl (by omega) (by omega) dL_law_259 ?_
  refine jl_cvL2 C vc_L_32 (c_X7_value l (gY G (B2, (27, SHM), I2, L2)) _ _ _ A _ _ _ _ _ SHM_ok hRM hi.1) ⟨Nat.le_of_ble_eq_true rfl, Nat.le_of_ble_eq_true rfl⟩ (show 0 < 27 by decide) rfl rfl hD2 (by show s.heap.size ≤ B2; omega) rfl rfl (Nat.le_of_ble_eq_true rfl) hkc dL_law_260 (fun r2 I4 L4 p2 => ?_)
  obtain ⟨rfl, hRM1⟩ := p2
  refine jl_lc_eq (tgt := 763) C dL_law_263 dL_law_264 (by decide) (fun _ => ?_) (fun h => absurd rfl h)
  exact K _ _ _ _ _ hi (Nat.le_succ _) hRC1 hRM1
set_option maxHeartbeats 4000000 in
theorem law_c4 {p : Program} {l : Launch} {e : Env} {s : State} {m : MethodId} {args : Array Value} {below : List Frame} {meth : Method} {c : Code} {Q : State → Prop} {G : GT} {kc ks b L0 B2 i : Nat} {xs : Nat → Int32} {A : AS} {I1 : II} {L1 : LL} {I2 : II} {L2 : LL} (C : Cx p s m args meth c cL_law 4 RL G) (hX : va_X b L0 xs s s.heap) (hbl : b < s.heap.size) (hL0 : L0 ≤ 3072) (h6 : i + 6 ≤ L0) (hb1 : s.heap.size ≤ gB G) (hb2 : gB G + 226 ≤ B2) (hkc : kc ≤ room_1.cells ∧ ks ≤ room_1.slots) (hi : inv A) (hp : aP A < 2 ^ 20) (hRC : RC A I1 L1) (hRM : RM A I2 L2) (K : ∀ (A1 : AS) (I3 : II) (L3 : LL) (I4 : II) (L4 : LL), inv A1 → aP A1 ≤ aP A + 1 → RC A1 I3 L3 → RM A1 I4 L4 → JL p l e room_1 s m args below meth c Q 4 G (226, SHC) kc ks I3 L3 (B2, (27, SHM), I4, L4) 763 [some (.ref b), some (.ref (gB G + 0)), some (.ref (B2 + 0)), some (.int (nI i))] []) : JL p l e room_1 s m args below meth c Q 4 G (226, SHC) kc ks I1 L1 (B2, (27, SHM), I2, L2) 269 [some (.ref b), some (.ref (gB G + 0)), some (.ref (B2 + 0)), some (.int (nI i))] [] := by
  have hD1 : ∀ q, rg_A G (226, SHC) q → ¬ rg_A (gY G (B2, (27, SHM), I2, L2)) (27, SHM) q := fun q a z => by have h1 : q < gB G + 226 := a.2; have h2 : B2 ≤ q := z.1; omega
  refine jl_aload_n C dL_law_269 rfl rfl ?_
  refine jl_aload_n C dL_law_270 rfl rfl ?_
  refine jl_iload_n C dL_law_271 rfl rfl ?_
  refine jl_iconst (v := nI 1) C dL_law_272 (by decide) ?_
  refine jl_add C dL_law_273 ?_
  refine jl_sld C hX hbl (by omega) (by omega) dL_law_274 ?_
  refine jl_cvI1 C vc_L_33 (c_X6_plain l G _ _ _ A _ SHC_ok hRC hi.1) ⟨Nat.le_of_ble_eq_true rfl, Nat.le_of_ble_eq_true rfl⟩ (by decide) rfl rfl hD1 hb1 rfl rfl (Nat.le_of_ble_eq_true rfl) hkc dL_law_275 (fun r1 I3 L3 p1 => ?_)
  obtain ⟨rfl, hRC1⟩ := p1
  have hD2 : ∀ q, rg_A (gY G (B2, (27, SHM), I2, L2)) (27, SHM) q → ¬ rg_A G (226, SHC) q := fun q a z => hD1 q z a
  refine jl_aload_n C dL_law_278 rfl rfl ?_
  refine jl_aload_n C dL_law_279 rfl rfl ?_
  refine jl_iload_n C dL_law_280 rfl rfl ?_
  refine jl_iconst (v := nI 1) C dL_law_281 (by decide) ?_
  refine jl_add C dL_law_282 ?_
  refine jl_sld C hX hbl (by omega) (by omega) dL_law_283 ?_
  refine jl_cvI2 C vc_L_36 (c_X7_plain l (gY G (B2, (27, SHM), I2, L2)) _ _ _ A _ SHM_ok hRM hi.1) ⟨Nat.le_of_ble_eq_true rfl, Nat.le_of_ble_eq_true rfl⟩ (show 0 < 27 by decide) rfl rfl hD2 (by show s.heap.size ≤ B2; omega) rfl rfl (Nat.le_of_ble_eq_true rfl) hkc dL_law_284 (fun r2 I4 L4 p2 => ?_)
  obtain ⟨rfl, hRM1⟩ := p2
  refine jl_icmp_eq (tgt := 763) C dL_law_287 (by decide) (fun _ => ?_) (fun h => absurd rfl h)
  exact K _ _ _ _ _ hi (Nat.le_succ _) hRC1 hRM1
set_option maxHeartbeats 4000000 in
theorem law_c5 {p : Program} {l : Launch} {e : Env} {s : State} {m : MethodId} {args : Array Value} {below : List Frame} {meth : Method} {c : Code} {Q : State → Prop} {G : GT} {kc ks b L0 B2 i : Nat} {xs : Nat → Int32} {A : AS} {I1 : II} {L1 : LL} {I2 : II} {L2 : LL} (C : Cx p s m args meth c cL_law 4 RL G) (hX : va_X b L0 xs s s.heap) (hbl : b < s.heap.size) (hL0 : L0 ≤ 3072) (h6 : i + 6 ≤ L0) (hb1 : s.heap.size ≤ gB G) (hb2 : gB G + 226 ≤ B2) (hkc : kc ≤ room_1.cells ∧ ks ≤ room_1.slots) (hi : inv A) (hp : aP A < 2 ^ 20) (hRC : RC A I1 L1) (hRM : RM A I2 L2) (K : ∀ (A1 : AS) (I3 : II) (L3 : LL) (I4 : II) (L4 : LL), inv A1 → aP A1 ≤ aP A + 1 → RC A1 I3 L3 → RM A1 I4 L4 → JL p l e room_1 s m args below meth c Q 4 G (226, SHC) kc ks I3 L3 (B2, (27, SHM), I4, L4) 763 [some (.ref b), some (.ref (gB G + 0)), some (.ref (B2 + 0)), some (.int (nI i))] []) : JL p l e room_1 s m args below meth c Q 4 G (226, SHC) kc ks I1 L1 (B2, (27, SHM), I2, L2) 292 [some (.ref b), some (.ref (gB G + 0)), some (.ref (B2 + 0)), some (.int (nI i))] [] := by
  have hD1 : ∀ q, rg_A G (226, SHC) q → ¬ rg_A (gY G (B2, (27, SHM), I2, L2)) (27, SHM) q := fun q a z => by have h1 : q < gB G + 226 := a.2; have h2 : B2 ≤ q := z.1; omega
  refine jl_aload_n C dL_law_292 rfl rfl ?_
  refine jl_aload_n C dL_law_293 rfl rfl ?_
  refine jl_iload_n C dL_law_294 rfl rfl ?_
  refine jl_iconst (v := nI 1) C dL_law_295 (by decide) ?_
  refine jl_add C dL_law_296 ?_
  refine jl_sld C hX hbl (by omega) (by omega) dL_law_297 ?_
  refine jl_cvI1 C vc_L_37 (c_X6_prove l G _ _ _ A _ SHC_ok hRC hi.1) ⟨Nat.le_of_ble_eq_true rfl, Nat.le_of_ble_eq_true rfl⟩ (by decide) rfl rfl hD1 hb1 rfl rfl (Nat.le_of_ble_eq_true rfl) hkc dL_law_298 (fun r1 I3 L3 p1 => ?_)
  obtain ⟨rfl, hRC1⟩ := p1
  have hD2 : ∀ q, rg_A (gY G (B2, (27, SHM), I2, L2)) (27, SHM) q → ¬ rg_A G (226, SHC) q := fun q a z => hD1 q z a
  refine jl_aload_n C dL_law_301 rfl rfl ?_
  refine jl_aload_n C dL_law_302 rfl rfl ?_
  refine jl_iload_n C dL_law_303 rfl rfl ?_
  refine jl_iconst (v := nI 1) C dL_law_304 (by decide) ?_
  refine jl_add C dL_law_305 ?_
  refine jl_sld C hX hbl (by omega) (by omega) dL_law_306 ?_
  refine jl_cvI2 C vc_L_40 (c_X7_prove l (gY G (B2, (27, SHM), I2, L2)) _ _ _ A _ SHM_ok hRM hi.1) ⟨Nat.le_of_ble_eq_true rfl, Nat.le_of_ble_eq_true rfl⟩ (show 0 < 27 by decide) rfl rfl hD2 (by show s.heap.size ≤ B2; omega) rfl rfl (Nat.le_of_ble_eq_true rfl) hkc dL_law_307 (fun r2 I4 L4 p2 => ?_)
  obtain ⟨rfl, hRM1⟩ := p2
  refine jl_icmp_eq (tgt := 763) C dL_law_310 (by decide) (fun _ => ?_) (fun h => absurd rfl h)
  exact K _ _ _ _ _ (inv_prove hi _) (aP_prove _) hRC1 hRM1
set_option maxHeartbeats 4000000 in
theorem law_c6 {p : Program} {l : Launch} {e : Env} {s : State} {m : MethodId} {args : Array Value} {below : List Frame} {meth : Method} {c : Code} {Q : State → Prop} {G : GT} {kc ks b L0 B2 i : Nat} {xs : Nat → Int32} {A : AS} {I1 : II} {L1 : LL} {I2 : II} {L2 : LL} (C : Cx p s m args meth c cL_law 4 RL G) (hX : va_X b L0 xs s s.heap) (hbl : b < s.heap.size) (hL0 : L0 ≤ 3072) (h6 : i + 6 ≤ L0) (hb1 : s.heap.size ≤ gB G) (hb2 : gB G + 226 ≤ B2) (hkc : kc ≤ room_1.cells ∧ ks ≤ room_1.slots) (hi : inv A) (hp : aP A < 2 ^ 20) (hRC : RC A I1 L1) (hRM : RM A I2 L2) (K : ∀ (A1 : AS) (I3 : II) (L3 : LL) (I4 : II) (L4 : LL), inv A1 → aP A1 ≤ aP A + 1 → RC A1 I3 L3 → RM A1 I4 L4 → JL p l e room_1 s m args below meth c Q 4 G (226, SHC) kc ks I3 L3 (B2, (27, SHM), I4, L4) 763 [some (.ref b), some (.ref (gB G + 0)), some (.ref (B2 + 0)), some (.int (nI i))] []) : JL p l e room_1 s m args below meth c Q 4 G (226, SHC) kc ks I1 L1 (B2, (27, SHM), I2, L2) 315 [some (.ref b), some (.ref (gB G + 0)), some (.ref (B2 + 0)), some (.int (nI i))] [] := by
  have hD1 : ∀ q, rg_A G (226, SHC) q → ¬ rg_A (gY G (B2, (27, SHM), I2, L2)) (27, SHM) q := fun q a z => by have h1 : q < gB G + 226 := a.2; have h2 : B2 ≤ q := z.1; omega
  refine jl_aload_n C dL_law_315 rfl rfl ?_
  refine jl_aload_n C dL_law_316 rfl rfl ?_
  refine jl_iload_n C dL_law_317 rfl rfl ?_
  refine jl_iconst (v := nI 1) C dL_law_318 (by decide) ?_
  refine jl_add C dL_law_319 ?_
  refine jl_sld C hX hbl (by omega) (by omega) dL_law_320 ?_
  refine jl_aload_n C dL_law_321 rfl rfl ?_
  refine jl_iload_n C dL_law_322 rfl rfl ?_
  refine jl_iconst (v := nI 2) C dL_law_323 (by decide) ?_
  refine jl_add C dL_law_324 ?_
  refine jl_sld C hX hbl (by omega) (by omega) dL_law_325 ?_
  refine jl_aload_n C dL_law_326 rfl rfl ?_
  refine jl_iload_n C dL_law_327 rfl rfl ?_
  refine jl_iconst (v := nI 3) C dL_law_328 (by decide) ?_
  refine jl_add C dL_law_329 ?_
  refine jl_sld C hX hbl (by omega) (by omega) dL_law_330 ?_
  refine jl_cvI1 C vc_L_41 (c_X6_under l G _ _ _ A _ _ _ SHC_ok hRC hi.1) ⟨Nat.le_of_ble_eq_true rfl, Nat.le_of_ble_eq_true rfl⟩ (by decide) rfl rfl hD1 hb1 rfl rfl (Nat.le_of_ble_eq_true rfl) hkc dL_law_331 (fun r1 I3 L3 p1 => ?_)
  obtain ⟨rfl, hRC1⟩ := p1
  have hD2 : ∀ q, rg_A (gY G (B2, (27, SHM), I2, L2)) (27, SHM) q → ¬ rg_A G (226, SHC) q := fun q a z => hD1 q z a
  refine jl_aload_n C dL_law_334 rfl rfl ?_
  refine jl_aload_n C dL_law_335 rfl rfl ?_
  refine jl_iload_n C dL_law_336 rfl rfl ?_
  refine jl_iconst (v := nI 1) C dL_law_337 (by decide) ?_
  refine jl_add C dL_law_338 ?_
  refine jl_sld C hX hbl (by omega) (by omega) dL_law_339 ?_
  refine jl_aload_n C dL_law_340 rfl rfl ?_
  refine jl_iload_n C dL_law_341 rfl rfl ?_
  refine jl_iconst (v := nI 2) C dL_law_342 (by decide) ?_
  refine jl_add C dL_law_343 ?_
  refine jl_sld C hX hbl (by omega) (by omega) dL_law_344 ?_
  refine jl_aload_n C dL_law_345 rfl rfl ?_
  refine jl_iload_n C dL_law_346 rfl rfl ?_
  refine jl_iconst (v := nI 3) C dL_law_347 (by decide) ?_
  refine jl_add C dL_law_348 ?_
  refine jl_sld C hX hbl (by omega) (by omega) dL_law_349 ?_
  refine jl_cvI2 C vc_L_45 (c_X7_under l (gY G (B2, (27, SHM), I2, L2)) _ _ _ A _ _ _ SHM_ok hRM hi.1) ⟨Nat.le_of_ble_eq_true rfl, Nat.le_of_ble_eq_true rfl⟩ (show 0 < 27 by decide) rfl rfl hD2 (by show s.heap.size ≤ B2; omega) rfl rfl (Nat.le_of_ble_eq_true rfl) hkc dL_law_350 (fun r2 I4 L4 p2 => ?_)
  obtain ⟨rfl, hRM1⟩ := p2
  refine jl_icmp_eq (tgt := 763) C dL_law_353 (by decide) (fun _ => ?_) (fun h => absurd rfl h)
  exact K _ _ _ _ _ (inv_under hi _ _ _) (aP_under _ _ _) hRC1 hRM1
set_option maxHeartbeats 4000000 in
theorem law_c7 {p : Program} {l : Launch} {e : Env} {s : State} {m : MethodId} {args : Array Value} {below : List Frame} {meth : Method} {c : Code} {Q : State → Prop} {G : GT} {kc ks b L0 B2 i : Nat} {xs : Nat → Int32} {A : AS} {I1 : II} {L1 : LL} {I2 : II} {L2 : LL} (C : Cx p s m args meth c cL_law 4 RL G) (hX : va_X b L0 xs s s.heap) (hbl : b < s.heap.size) (hL0 : L0 ≤ 3072) (h6 : i + 6 ≤ L0) (hb1 : s.heap.size ≤ gB G) (hb2 : gB G + 226 ≤ B2) (hkc : kc ≤ room_1.cells ∧ ks ≤ room_1.slots) (hi : inv A) (hp : aP A < 2 ^ 20) (hRC : RC A I1 L1) (hRM : RM A I2 L2) (K : ∀ (A1 : AS) (I3 : II) (L3 : LL) (I4 : II) (L4 : LL), inv A1 → aP A1 ≤ aP A + 1 → RC A1 I3 L3 → RM A1 I4 L4 → JL p l e room_1 s m args below meth c Q 4 G (226, SHC) kc ks I3 L3 (B2, (27, SHM), I4, L4) 763 [some (.ref b), some (.ref (gB G + 0)), some (.ref (B2 + 0)), some (.int (nI i))] []) : JL p l e room_1 s m args below meth c Q 4 G (226, SHC) kc ks I1 L1 (B2, (27, SHM), I2, L2) 358 [some (.ref b), some (.ref (gB G + 0)), some (.ref (B2 + 0)), some (.int (nI i))] [] := by
  have hD1 : ∀ q, rg_A G (226, SHC) q → ¬ rg_A (gY G (B2, (27, SHM), I2, L2)) (27, SHM) q := fun q a z => by have h1 : q < gB G + 226 := a.2; have h2 : B2 ≤ q := z.1; omega
  refine jl_aload_n C dL_law_358 rfl rfl ?_
  refine jl_aload_n C dL_law_359 rfl rfl ?_
  refine jl_iload_n C dL_law_360 rfl rfl ?_
  refine jl_iconst (v := nI 1) C dL_law_361 (by decide) ?_
  refine jl_add C dL_law_362 ?_
  refine jl_sld C hX hbl (by omega) (by omega) dL_law_363 ?_
  refine jl_cvI1 C vc_L_46 (c_X6_told l G _ _ _ A _ SHC_ok hRC hi.1 (by omega)) ⟨Nat.le_of_ble_eq_true rfl, Nat.le_of_ble_eq_true rfl⟩ (by decide) rfl rfl hD1 hb1 rfl rfl (Nat.le_of_ble_eq_true rfl) hkc dL_law_364 (fun r1 I3 L3 p1 => ?_)
  obtain ⟨rfl, rfl, rfl⟩ := p1
  have hRC1 := hRC
  have hD2 : ∀ q, rg_A (gY G (B2, (27, SHM), I2, L2)) (27, SHM) q → ¬ rg_A G (226, SHC) q := fun q a z => hD1 q z a
  refine jl_aload_n C dL_law_367 rfl rfl ?_
  refine jl_aload_n C dL_law_368 rfl rfl ?_
  refine jl_iload_n C dL_law_369 rfl rfl ?_
  refine jl_iconst (v := nI 1) C dL_law_370 (by decide) ?_
  refine jl_add C dL_law_371 ?_
  refine jl_sld C hX hbl (by omega) (by omega) dL_law_372 ?_
  refine jl_cvI2 C vc_L_49 (c_X7_told l (gY G (B2, (27, SHM), I2, L2)) _ _ _ A _ SHM_ok hRM hi.1 hi.2.1) ⟨Nat.le_of_ble_eq_true rfl, Nat.le_of_ble_eq_true rfl⟩ (show 0 < 27 by decide) rfl rfl hD2 (by show s.heap.size ≤ B2; omega) rfl rfl (Nat.le_of_ble_eq_true rfl) hkc dL_law_373 (fun r2 I4 L4 p2 => ?_)
  obtain ⟨rfl, rfl, rfl⟩ := p2
  have hRM1 := hRM
  refine jl_icmp_eq (tgt := 763) C dL_law_376 (by decide) (fun _ => ?_) (fun h => absurd rfl h)
  exact K _ _ _ _ _ hi (Nat.le_succ _) hRC1 hRM1
set_option maxHeartbeats 4000000 in
theorem law_c8 {p : Program} {l : Launch} {e : Env} {s : State} {m : MethodId} {args : Array Value} {below : List Frame} {meth : Method} {c : Code} {Q : State → Prop} {G : GT} {kc ks b L0 B2 i : Nat} {xs : Nat → Int32} {A : AS} {I1 : II} {L1 : LL} {I2 : II} {L2 : LL} (C : Cx p s m args meth c cL_law 4 RL G) (hX : va_X b L0 xs s s.heap) (hbl : b < s.heap.size) (hL0 : L0 ≤ 3072) (h6 : i + 6 ≤ L0) (hb1 : s.heap.size ≤ gB G) (hb2 : gB G + 226 ≤ B2) (hkc : kc ≤ room_1.cells ∧ ks ≤ room_1.slots) (hi : inv A) (hp : aP A < 2 ^ 20) (hRC : RC A I1 L1) (hRM : RM A I2 L2) (K : ∀ (A1 : AS) (I3 : II) (L3 : LL) (I4 : II) (L4 : LL), inv A1 → aP A1 ≤ aP A + 1 → RC A1 I3 L3 → RM A1 I4 L4 → JL p l e room_1 s m args below meth c Q 4 G (226, SHC) kc ks I3 L3 (B2, (27, SHM), I4, L4) 763 [some (.ref b), some (.ref (gB G + 0)), some (.ref (B2 + 0)), some (.int (nI i))] []) : JL p l e room_1 s m args below meth c Q 4 G (226, SHC) kc ks I1 L1 (B2, (27, SHM), I2, L2) 381 [some (.ref b), some (.ref (gB G + 0)), some (.ref (B2 + 0)), some (.int (nI i))] [] := by
  have hD1 : ∀ q, rg_A G (226, SHC) q → ¬ rg_A (gY G (B2, (27, SHM), I2, L2)) (27, SHM) q := fun q a z => by have h1 : q < gB G + 226 := a.2; have h2 : B2 ≤ q := z.1; omega
  refine jl_aload_n C dL_law_381 rfl rfl ?_
  refine jl_aload_n C dL_law_382 rfl rfl ?_
  refine jl_iload_n C dL_law_383 rfl rfl ?_
  refine jl_iconst (v := nI 1) C dL_law_384 (by decide) ?_
  refine jl_add C dL_law_385 ?_
  refine jl_sld C hX hbl (by omega) (by omega) dL_law_386 ?_
  refine jl_aload_n C dL_law_387 rfl rfl ?_
  refine jl_iload_n C dL_law_388 rfl rfl ?_
  refine jl_iconst (v := nI 2) C dL_law_389 (by decide) ?_
  refine jl_add C dL_law_390 ?_
  refine jl_sld C hX hbl (by omega) (by omega) dL_law_391 ?_
  refine jl_cvL1 C vc_L_50 (c_X6_weight l G _ _ _ A _ _ SHC_ok hRC hi.1) ⟨Nat.le_of_ble_eq_true rfl, Nat.le_of_ble_eq_true rfl⟩ (by decide) rfl rfl hD1 hb1 rfl rfl (Nat.le_of_ble_eq_true rfl) hkc dL_law_392 (fun r1 I3 L3 p1 => ?_)
  obtain ⟨rfl, rfl, rfl⟩ := p1
  have hRC1 := hRC
  have hD2 : ∀ q, rg_A (gY G (B2, (27, SHM), I2, L2)) (27, SHM) q → ¬ rg_A G (226, SHC) q := fun q a z => hD1 q z a
  refine jl_aload_n C dL_law_395 rfl rfl ?_
  refine jl_aload_n C dL_law_396 rfl rfl ?_
  refine jl_iload_n C dL_law_397 rfl rfl ?_
  refine jl_iconst (v := nI 1) C dL_law_398 (by decide) ?_
  refine jl_add C dL_law_399 ?_
  refine jl_sld C hX hbl (by omega) (by omega) dL_law_400 ?_
  refine jl_aload_n C dL_law_401 rfl rfl ?_
  refine jl_iload_n C dL_law_402 rfl rfl ?_
  refine jl_iconst (v := nI 2) C dL_law_403 (by decide) ?_
  refine jl_add C dL_law_404 ?_
  refine jl_sld C hX hbl (by omega) (by omega) dL_law_405 ?_
  refine jl_cvL2 C vc_L_54 (c_X7_weight l (gY G (B2, (27, SHM), I2, L2)) _ _ _ A _ _ SHM_ok hRM hi.1) ⟨Nat.le_of_ble_eq_true rfl, Nat.le_of_ble_eq_true rfl⟩ (show 0 < 27 by decide) rfl rfl hD2 (by show s.heap.size ≤ B2; omega) rfl rfl (Nat.le_of_ble_eq_true rfl) hkc dL_law_406 (fun r2 I4 L4 p2 => ?_)
  obtain ⟨rfl, rfl, rfl⟩ := p2
  have hRM1 := hRM
  refine jl_lc_eq (tgt := 763) C dL_law_409 dL_law_410 (by decide) (fun _ => ?_) (fun h => absurd rfl h)
  exact K _ _ _ _ _ hi (Nat.le_succ _) hRC1 hRM1
set_option maxHeartbeats 4000000 in
theorem law_c9 {p : Program} {l : Launch} {e : Env} {s : State} {m : MethodId} {args : Array Value} {below : List Frame} {meth : Method} {c : Code} {Q : State → Prop} {G : GT} {kc ks b L0 B2 i : Nat} {xs : Nat → Int32} {A : AS} {I1 : II} {L1 : LL} {I2 : II} {L2 : LL} (C : Cx p s m args meth c cL_law 4 RL G) (hX : va_X b L0 xs s s.heap) (hbl : b < s.heap.size) (hL0 : L0 ≤ 3072) (h6 : i + 6 ≤ L0) (hb1 : s.heap.size ≤ gB G) (hb2 : gB G + 226 ≤ B2) (hkc : kc ≤ room_1.cells ∧ ks ≤ room_1.slots) (hi : inv A) (hp : aP A < 2 ^ 20) (hRC : RC A I1 L1) (hRM : RM A I2 L2) (K : ∀ (A1 : AS) (I3 : II) (L3 : LL) (I4 : II) (L4 : LL), inv A1 → aP A1 ≤ aP A + 1 → RC A1 I3 L3 → RM A1 I4 L4 → JL p l e room_1 s m args below meth c Q 4 G (226, SHC) kc ks I3 L3 (B2, (27, SHM), I4, L4) 763 [some (.ref b), some (.ref (gB G + 0)), some (.ref (B2 + 0)), some (.int (nI i))] []) : JL p l e room_1 s m args below meth c Q 4 G (226, SHC) kc ks I1 L1 (B2, (27, SHM), I2, L2) 415 [some (.ref b), some (.ref (gB G + 0)), some (.ref (B2 + 0)), some (.int (nI i))] [] := by
  have hD1 : ∀ q, rg_A G (226, SHC) q → ¬ rg_A (gY G (B2, (27, SHM), I2, L2)) (27, SHM) q := fun q a z => by have h1 : q < gB G + 226 := a.2; have h2 : B2 ≤ q := z.1; omega
  refine jl_aload_n C dL_law_415 rfl rfl ?_
  refine jl_aload_n C dL_law_416 rfl rfl ?_
  refine jl_iload_n C dL_law_417 rfl rfl ?_
  refine jl_iconst (v := nI 1) C dL_law_418 (by decide) ?_
  refine jl_add C dL_law_419 ?_
  refine jl_sld C hX hbl (by omega) (by omega) dL_law_420 ?_
  refine jl_aload_n C dL_law_421 rfl rfl ?_
  refine jl_iload_n C dL_law_422 rfl rfl ?_
  refine jl_iconst (v := nI 2) C dL_law_423 (by decide) ?_
  refine jl_add C dL_law_424 ?_
  refine jl_sld C hX hbl (by omega) (by omega) dL_law_425 ?_
  refine jl_aload_n C dL_law_426 rfl rfl ?_
  refine jl_iload_n C dL_law_427 rfl rfl ?_
  refine jl_iconst (v := nI 3) C dL_law_428 (by decide) ?_
  refine jl_add C dL_law_429 ?_
  refine jl_sld C hX hbl (by omega) (by omega) dL_law_430 ?_
  refine jl_cvL1 C vc_L_55 (c_X6_line l G _ _ _ A _ _ _ SHC_ok hRC hi.1) ⟨Nat.le_of_ble_eq_true rfl, Nat.le_of_ble_eq_true rfl⟩ (by decide) rfl rfl hD1 hb1 rfl rfl (Nat.le_of_ble_eq_true rfl) hkc dL_law_431 (fun r1 I3 L3 p1 => ?_)
  obtain ⟨rfl, rfl, rfl⟩ := p1
  have hRC1 := hRC
  have hD2 : ∀ q, rg_A (gY G (B2, (27, SHM), I2, L2)) (27, SHM) q → ¬ rg_A G (226, SHC) q := fun q a z => hD1 q z a
  refine jl_aload_n C dL_law_434 rfl rfl ?_
  refine jl_aload_n C dL_law_435 rfl rfl ?_
  refine jl_iload_n C dL_law_436 rfl rfl ?_
  refine jl_iconst (v := nI 1) C dL_law_437 (by decide) ?_
  refine jl_add C dL_law_438 ?_
  refine jl_sld C hX hbl (by omega) (by omega) dL_law_439 ?_
  refine jl_aload_n C dL_law_440 rfl rfl ?_
  refine jl_iload_n C dL_law_441 rfl rfl ?_
  refine jl_iconst (v := nI 2) C dL_law_442 (by decide) ?_
  refine jl_add C dL_law_443 ?_
  refine jl_sld C hX hbl (by omega) (by omega) dL_law_444 ?_
  refine jl_aload_n C dL_law_445 rfl rfl ?_
  refine jl_iload_n C dL_law_446 rfl rfl ?_
  refine jl_iconst (v := nI 3) C dL_law_447 (by decide) ?_
  refine jl_add C dL_law_448 ?_
  refine jl_sld C hX hbl (by omega) (by omega) dL_law_449 ?_
  refine jl_cvL2 C vc_L_59 (c_X7_line l (gY G (B2, (27, SHM), I2, L2)) _ _ _ A _ _ _ SHM_ok hRM hi.1) ⟨Nat.le_of_ble_eq_true rfl, Nat.le_of_ble_eq_true rfl⟩ (show 0 < 27 by decide) rfl rfl hD2 (by show s.heap.size ≤ B2; omega) rfl rfl (Nat.le_of_ble_eq_true rfl) hkc dL_law_450 (fun r2 I4 L4 p2 => ?_)
  obtain ⟨rfl, rfl, rfl⟩ := p2
  have hRM1 := hRM
  refine jl_lc_eq (tgt := 763) C dL_law_453 dL_law_454 (by decide) (fun _ => ?_) (fun h => absurd rfl h)
  exact K _ _ _ _ _ hi (Nat.le_succ _) hRC1 hRM1
set_option maxHeartbeats 4000000 in
theorem law_c10 {p : Program} {l : Launch} {e : Env} {s : State} {m : MethodId} {args : Array Value} {below : List Frame} {meth : Method} {c : Code} {Q : State → Prop} {G : GT} {kc ks b L0 B2 i : Nat} {xs : Nat → Int32} {A : AS} {I1 : II} {L1 : LL} {I2 : II} {L2 : LL} (C : Cx p s m args meth c cL_law 4 RL G) (hX : va_X b L0 xs s s.heap) (hbl : b < s.heap.size) (hL0 : L0 ≤ 3072) (h6 : i + 6 ≤ L0) (hb1 : s.heap.size ≤ gB G) (hb2 : gB G + 226 ≤ B2) (hkc : kc ≤ room_1.cells ∧ ks ≤ room_1.slots) (hi : inv A) (hp : aP A < 2 ^ 20) (hRC : RC A I1 L1) (hRM : RM A I2 L2) (K : ∀ (A1 : AS) (I3 : II) (L3 : LL) (I4 : II) (L4 : LL), inv A1 → aP A1 ≤ aP A + 1 → RC A1 I3 L3 → RM A1 I4 L4 → JL p l e room_1 s m args below meth c Q 4 G (226, SHC) kc ks I3 L3 (B2, (27, SHM), I4, L4) 763 [some (.ref b), some (.ref (gB G + 0)), some (.ref (B2 + 0)), some (.int (nI i))] []) : JL p l e room_1 s m args below meth c Q 4 G (226, SHC) kc ks I1 L1 (B2, (27, SHM), I2, L2) 459 [some (.ref b), some (.ref (gB G + 0)), some (.ref (B2 + 0)), some (.int (nI i))] [] := by
  have hD1 : ∀ q, rg_A G (226, SHC) q → ¬ rg_A (gY G (B2, (27, SHM), I2, L2)) (27, SHM) q := fun q a z => by have h1 : q < gB G + 226 := a.2; have h2 : B2 ≤ q := z.1; omega
  refine jl_aload_n C dL_law_459 rfl rfl ?_
  refine jl_aload_n C dL_law_460 rfl rfl ?_
  refine jl_iload_n C dL_law_461 rfl rfl ?_
  refine jl_iconst (v := nI 1) C dL_law_462 (by decide) ?_
  refine jl_add C dL_law_463 ?_
  refine jl_sld C hX hbl (by omega) (by omega) dL_law_464 ?_
  refine jl_aload_n C dL_law_465 rfl rfl ?_
  refine jl_iload_n C dL_law_466 rfl rfl ?_
  refine jl_iconst (v := nI 2) C dL_law_467 (by decide) ?_
  refine jl_add C dL_law_468 ?_
  refine jl_sld C hX hbl (by omega) (by omega) dL_law_469 ?_
  refine jl_cvL1 C vc_L_60 (c_X6_point l G _ _ _ A _ _ SHC_ok hRC hi.1) ⟨Nat.le_of_ble_eq_true rfl, Nat.le_of_ble_eq_true rfl⟩ (by decide) rfl rfl hD1 hb1 rfl rfl (Nat.le_of_ble_eq_true rfl) hkc dL_law_470 (fun r1 I3 L3 p1 => ?_)
  obtain ⟨rfl, rfl, rfl⟩ := p1
  have hRC1 := hRC
  have hD2 : ∀ q, rg_A (gY G (B2, (27, SHM), I2, L2)) (27, SHM) q → ¬ rg_A G (226, SHC) q := fun q a z => hD1 q z a
  refine jl_aload_n C dL_law_473 rfl rfl ?_
  refine jl_aload_n C dL_law_474 rfl rfl ?_
  refine jl_iload_n C dL_law_475 rfl rfl ?_
  refine jl_iconst (v := nI 1) C dL_law_476 (by decide) ?_
  refine jl_add C dL_law_477 ?_
  refine jl_sld C hX hbl (by omega) (by omega) dL_law_478 ?_
  refine jl_aload_n C dL_law_479 rfl rfl ?_
  refine jl_iload_n C dL_law_480 rfl rfl ?_
  refine jl_iconst (v := nI 2) C dL_law_481 (by decide) ?_
  refine jl_add C dL_law_482 ?_
  refine jl_sld C hX hbl (by omega) (by omega) dL_law_483 ?_
  refine jl_cvL2 C vc_L_63 (c_X7_point l (gY G (B2, (27, SHM), I2, L2)) _ _ _ A _ _ SHM_ok hRM hi.1) ⟨Nat.le_of_ble_eq_true rfl, Nat.le_of_ble_eq_true rfl⟩ (show 0 < 27 by decide) rfl rfl hD2 (by show s.heap.size ≤ B2; omega) rfl rfl (Nat.le_of_ble_eq_true rfl) hkc dL_law_484 (fun r2 I4 L4 p2 => ?_)
  obtain ⟨rfl, rfl, rfl⟩ := p2
  have hRM1 := hRM
  refine jl_lc_eq (tgt := 763) C dL_law_487 dL_law_488 (by decide) (fun _ => ?_) (fun h => absurd rfl h)
  exact K _ _ _ _ _ hi (Nat.le_succ _) hRC1 hRM1
set_option maxHeartbeats 4000000 in
theorem law_c11 {p : Program} {l : Launch} {e : Env} {s : State} {m : MethodId} {args : Array Value} {below : List Frame} {meth : Method} {c : Code} {Q : State → Prop} {G : GT} {kc ks b L0 B2 i : Nat} {xs : Nat → Int32} {A : AS} {I1 : II} {L1 : LL} {I2 : II} {L2 : LL} (C : Cx p s m args meth c cL_law 4 RL G) (hX : va_X b L0 xs s s.heap) (hbl : b < s.heap.size) (hL0 : L0 ≤ 3072) (h6 : i + 6 ≤ L0) (hb1 : s.heap.size ≤ gB G) (hb2 : gB G + 226 ≤ B2) (hkc : kc ≤ room_1.cells ∧ ks ≤ room_1.slots) (hi : inv A) (hp : aP A < 2 ^ 20) (hRC : RC A I1 L1) (hRM : RM A I2 L2) (K : ∀ (A1 : AS) (I3 : II) (L3 : LL) (I4 : II) (L4 : LL), inv A1 → aP A1 ≤ aP A + 1 → RC A1 I3 L3 → RM A1 I4 L4 → JL p l e room_1 s m args below meth c Q 4 G (226, SHC) kc ks I3 L3 (B2, (27, SHM), I4, L4) 763 [some (.ref b), some (.ref (gB G + 0)), some (.ref (B2 + 0)), some (.int (nI i))] []) : JL p l e room_1 s m args below meth c Q 4 G (226, SHC) kc ks I1 L1 (B2, (27, SHM), I2, L2) 493 [some (.ref b), some (.ref (gB G + 0)), some (.ref (B2 + 0)), some (.int (nI i))] [] := by
  have hD1 : ∀ q, rg_A G (226, SHC) q → ¬ rg_A (gY G (B2, (27, SHM), I2, L2)) (27, SHM) q := fun q a z => by have h1 : q < gB G + 226 := a.2; have h2 : B2 ≤ q := z.1; omega
  refine jl_aload_n C dL_law_493 rfl rfl ?_
  refine jl_aload_n C dL_law_494 rfl rfl ?_
  refine jl_iload_n C dL_law_495 rfl rfl ?_
  refine jl_iconst (v := nI 1) C dL_law_496 (by decide) ?_
  refine jl_add C dL_law_497 ?_
  refine jl_sld C hX hbl (by omega) (by omega) dL_law_498 ?_
  refine jl_cvL1 C vc_L_64 (c_X6_near l G _ _ _ A _ SHC_ok hRC hi.1) ⟨Nat.le_of_ble_eq_true rfl, Nat.le_of_ble_eq_true rfl⟩ (by decide) rfl rfl hD1 hb1 rfl rfl (Nat.le_of_ble_eq_true rfl) hkc dL_law_499 (fun r1 I3 L3 p1 => ?_)
  obtain ⟨rfl, rfl, rfl⟩ := p1
  have hRC1 := hRC
  have hD2 : ∀ q, rg_A (gY G (B2, (27, SHM), I2, L2)) (27, SHM) q → ¬ rg_A G (226, SHC) q := fun q a z => hD1 q z a
  refine jl_aload_n C dL_law_502 rfl rfl ?_
  refine jl_aload_n C dL_law_503 rfl rfl ?_
  refine jl_iload_n C dL_law_504 rfl rfl ?_
  refine jl_iconst (v := nI 1) C dL_law_505 (by decide) ?_
  refine jl_add C dL_law_506 ?_
  refine jl_sld C hX hbl (by omega) (by omega) dL_law_507 ?_
  refine jl_cvL2 C vc_L_68 (c_X7_near l (gY G (B2, (27, SHM), I2, L2)) _ _ _ A _ SHM_ok hRM hi.1) ⟨Nat.le_of_ble_eq_true rfl, Nat.le_of_ble_eq_true rfl⟩ (show 0 < 27 by decide) rfl rfl hD2 (by show s.heap.size ≤ B2; omega) rfl rfl (Nat.le_of_ble_eq_true rfl) hkc dL_law_508 (fun r2 I4 L4 p2 => ?_)
  obtain ⟨rfl, rfl, rfl⟩ := p2
  have hRM1 := hRM
  refine jl_lc_eq (tgt := 763) C dL_law_511 dL_law_512 (by decide) (fun _ => ?_) (fun h => absurd rfl h)
  exact K _ _ _ _ _ hi (Nat.le_succ _) hRC1 hRM1
set_option maxHeartbeats 4000000 in
theorem law_c12 {p : Program} {l : Launch} {e : Env} {s : State} {m : MethodId} {args : Array Value} {below : List Frame} {meth : Method} {c : Code} {Q : State → Prop} {G : GT} {kc ks b L0 B2 i : Nat} {xs : Nat → Int32} {A : AS} {I1 : II} {L1 : LL} {I2 : II} {L2 : LL} (C : Cx p s m args meth c cL_law 4 RL G) (hX : va_X b L0 xs s s.heap) (hbl : b < s.heap.size) (hL0 : L0 ≤ 3072) (h6 : i + 6 ≤ L0) (hb1 : s.heap.size ≤ gB G) (hb2 : gB G + 226 ≤ B2) (hkc : kc ≤ room_1.cells ∧ ks ≤ room_1.slots) (hi : inv A) (hp : aP A < 2 ^ 20) (hRC : RC A I1 L1) (hRM : RM A I2 L2) (K : ∀ (A1 : AS) (I3 : II) (L3 : LL) (I4 : II) (L4 : LL), inv A1 → aP A1 ≤ aP A + 1 → RC A1 I3 L3 → RM A1 I4 L4 → JL p l e room_1 s m args below meth c Q 4 G (226, SHC) kc ks I3 L3 (B2, (27, SHM), I4, L4) 763 [some (.ref b), some (.ref (gB G + 0)), some (.ref (B2 + 0)), some (.int (nI i))] []) : JL p l e room_1 s m args below meth c Q 4 G (226, SHC) kc ks I1 L1 (B2, (27, SHM), I2, L2) 517 [some (.ref b), some (.ref (gB G + 0)), some (.ref (B2 + 0)), some (.int (nI i))] [] := by
  have hD1 : ∀ q, rg_A G (226, SHC) q → ¬ rg_A (gY G (B2, (27, SHM), I2, L2)) (27, SHM) q := fun q a z => by have h1 : q < gB G + 226 := a.2; have h2 : B2 ≤ q := z.1; omega
  refine jl_aload_n C dL_law_517 rfl rfl ?_
  refine jl_aload_n C dL_law_518 rfl rfl ?_
  refine jl_iload_n C dL_law_519 rfl rfl ?_
  refine jl_iconst (v := nI 1) C dL_law_520 (by decide) ?_
  refine jl_add C dL_law_521 ?_
  refine jl_sld C hX hbl (by omega) (by omega) dL_law_522 ?_
  refine jl_aload_n C dL_law_523 rfl rfl ?_
  refine jl_iload_n C dL_law_524 rfl rfl ?_
  refine jl_iconst (v := nI 2) C dL_law_525 (by decide) ?_
  refine jl_add C dL_law_526 ?_
  refine jl_sld C hX hbl (by omega) (by omega) dL_law_527 ?_
  refine jl_i2l C dL_law_528 ?_
  refine jl_bipush (v := nI 32) C dL_law_529 (by decide) ?_
  refine jl_lshl C dL_law_531 ?_
  refine jl_aload_n C dL_law_532 rfl rfl ?_
  refine jl_iload_n C dL_law_533 rfl rfl ?_
  refine jl_iconst (v := nI 3) C dL_law_534 (by decide) ?_
  refine jl_add C dL_law_535 ?_
  refine jl_sld C hX hbl (by omega) (by omega) dL_law_536 ?_
  refine jl_i2l C dL_law_537 ?_
  refine jl_ldc2 C kc_L_69 dL_law_538 ?_
  refine jl_land C dL_law_541 ?_
  refine jl_lor C dL_law_542 ?_
  refine jl_aload_n C dL_law_543 rfl rfl ?_
  refine jl_iload_n C dL_law_544 rfl rfl ?_
  refine jl_iconst (v := nI 4) C dL_law_545 (by decide) ?_
  refine jl_add C dL_law_546 ?_
  refine jl_sld C hX hbl (by omega) (by omega) dL_law_547 ?_
  refine jl_i2l C dL_law_548 ?_
  refine jl_bipush (v := nI 32) C dL_law_549 (by decide) ?_
  refine jl_lshl C dL_law_551 ?_
  refine jl_aload_n C dL_law_552 rfl rfl ?_
  refine jl_iload_n C dL_law_553 rfl rfl ?_
  refine jl_iconst (v := nI 5) C dL_law_554 (by decide) ?_
  refine jl_add C dL_law_555 ?_
  refine jl_sld C hX hbl (by omega) (by omega) dL_law_556 ?_
  refine jl_i2l C dL_law_557 ?_
  refine jl_ldc2 C kc_L_69 dL_law_558 ?_
  refine jl_land C dL_law_561 ?_
  refine jl_lor C dL_law_562 ?_
  refine jl_cvI1 C vc_L_71 (c_X6_plant l G _ _ _ A _ _ _ SHC_ok hRC hi.1) ⟨Nat.le_of_ble_eq_true rfl, Nat.le_of_ble_eq_true rfl⟩ (by decide) rfl rfl hD1 hb1 rfl rfl (Nat.le_of_ble_eq_true rfl) hkc dL_law_563 (fun r1 I3 L3 p1 => ?_)
  obtain ⟨rfl, hRC1⟩ := p1
  have hD2 : ∀ q, rg_A (gY G (B2, (27, SHM), I2, L2)) (27, SHM) q → ¬ rg_A G (226, SHC) q := fun q a z => hD1 q z a
  refine jl_aload_n C dL_law_566 rfl rfl ?_
  refine jl_aload_n C dL_law_567 rfl rfl ?_
  refine jl_iload_n C dL_law_568 rfl rfl ?_
  refine jl_iconst (v := nI 1) C dL_law_569 (by decide) ?_
  refine jl_add C dL_law_570 ?_
  refine jl_sld C hX hbl (by omega) (by omega) dL_law_571 ?_
  refine jl_aload_n C dL_law_572 rfl rfl ?_
  refine jl_iload_n C dL_law_573 rfl rfl ?_
  refine jl_iconst (v := nI 2) C dL_law_574 (by decide) ?_
  refine jl_add C dL_law_575 ?_
  refine jl_sld C hX hbl (by omega) (by omega) dL_law_576 ?_
  refine jl_i2l C dL_law_577 ?_
  refine jl_bipush (v := nI 32) C dL_law_578 (by decide) ?_
  refine jl_lshl C dL_law_580 ?_
  refine jl_aload_n C dL_law_581 rfl rfl ?_
  refine jl_iload_n C dL_law_582 rfl rfl ?_
  refine jl_iconst (v := nI 3) C dL_law_583 (by decide) ?_
  refine jl_add C dL_law_584 ?_
  refine jl_sld C hX hbl (by omega) (by omega) dL_law_585 ?_
  refine jl_i2l C dL_law_586 ?_
  refine jl_ldc2 C kc_L_69 dL_law_587 ?_
  refine jl_land C dL_law_590 ?_
  refine jl_lor C dL_law_591 ?_
  refine jl_aload_n C dL_law_592 rfl rfl ?_
  refine jl_iload_n C dL_law_593 rfl rfl ?_
  refine jl_iconst (v := nI 4) C dL_law_594 (by decide) ?_
  refine jl_add C dL_law_595 ?_
  refine jl_sld C hX hbl (by omega) (by omega) dL_law_596 ?_
  refine jl_i2l C dL_law_597 ?_
  refine jl_bipush (v := nI 32) C dL_law_598 (by decide) ?_
  refine jl_lshl C dL_law_600 ?_
  refine jl_aload_n C dL_law_601 rfl rfl ?_
  refine jl_iload_n C dL_law_602 rfl rfl ?_
  refine jl_iconst (v := nI 5) C dL_law_603 (by decide) ?_
  refine jl_add C dL_law_604 ?_
  refine jl_sld C hX hbl (by omega) (by omega) dL_law_605 ?_
  refine jl_i2l C dL_law_606 ?_
  refine jl_ldc2 C kc_L_69 dL_law_607 ?_
  refine jl_land C dL_law_610 ?_
  refine jl_lor C dL_law_611 ?_
  refine jl_cvI2 C vc_L_75 (c_X7_plant l (gY G (B2, (27, SHM), I2, L2)) _ _ _ A _ _ _ SHM_ok hRM hi.1) ⟨Nat.le_of_ble_eq_true rfl, Nat.le_of_ble_eq_true rfl⟩ (show 0 < 27 by decide) rfl rfl hD2 (by show s.heap.size ≤ B2; omega) rfl rfl (Nat.le_of_ble_eq_true rfl) hkc dL_law_612 (fun r2 I4 L4 p2 => ?_)
  obtain ⟨rfl, hRM1⟩ := p2
  refine jl_icmp_eq (tgt := 763) C dL_law_615 (by decide) (fun _ => ?_) (fun h => absurd rfl h)
  exact K _ _ _ _ _ (inv_plant hi _ _ _) (aP_plant _ _ _) hRC1 hRM1
set_option maxHeartbeats 4000000 in
theorem law_c13 {p : Program} {l : Launch} {e : Env} {s : State} {m : MethodId} {args : Array Value} {below : List Frame} {meth : Method} {c : Code} {Q : State → Prop} {G : GT} {kc ks b L0 B2 i : Nat} {xs : Nat → Int32} {A : AS} {I1 : II} {L1 : LL} {I2 : II} {L2 : LL} (C : Cx p s m args meth c cL_law 4 RL G) (hX : va_X b L0 xs s s.heap) (hbl : b < s.heap.size) (hL0 : L0 ≤ 3072) (h6 : i + 6 ≤ L0) (hb1 : s.heap.size ≤ gB G) (hb2 : gB G + 226 ≤ B2) (hkc : kc ≤ room_1.cells ∧ ks ≤ room_1.slots) (hi : inv A) (hp : aP A < 2 ^ 20) (hRC : RC A I1 L1) (hRM : RM A I2 L2) (K : ∀ (A1 : AS) (I3 : II) (L3 : LL) (I4 : II) (L4 : LL), inv A1 → aP A1 ≤ aP A + 1 → RC A1 I3 L3 → RM A1 I4 L4 → JL p l e room_1 s m args below meth c Q 4 G (226, SHC) kc ks I3 L3 (B2, (27, SHM), I4, L4) 763 [some (.ref b), some (.ref (gB G + 0)), some (.ref (B2 + 0)), some (.int (nI i))] []) : JL p l e room_1 s m args below meth c Q 4 G (226, SHC) kc ks I1 L1 (B2, (27, SHM), I2, L2) 620 [some (.ref b), some (.ref (gB G + 0)), some (.ref (B2 + 0)), some (.int (nI i))] [] := by
  have hD1 : ∀ q, rg_A G (226, SHC) q → ¬ rg_A (gY G (B2, (27, SHM), I2, L2)) (27, SHM) q := fun q a z => by have h1 : q < gB G + 226 := a.2; have h2 : B2 ≤ q := z.1; omega
  refine jl_aload_n C dL_law_620 rfl rfl ?_
  refine jl_cvI1 C vc_L_76 (c_X6_check l G _ _ _ A SHC_ok hRC hi.1) ⟨Nat.le_of_ble_eq_true rfl, Nat.le_of_ble_eq_true rfl⟩ (by decide) rfl rfl hD1 hb1 rfl rfl (Nat.le_of_ble_eq_true rfl) hkc dL_law_621 (fun r1 I3 L3 p1 => ?_)
  obtain ⟨rfl, hRC1⟩ := p1
  have hD2 : ∀ q, rg_A (gY G (B2, (27, SHM), I2, L2)) (27, SHM) q → ¬ rg_A G (226, SHC) q := fun q a z => hD1 q z a
  refine jl_aload_n C dL_law_624 rfl rfl ?_
  refine jl_cvI2 C vc_L_79 (c_X7_check l (gY G (B2, (27, SHM), I2, L2)) _ _ _ A SHM_ok hRM hi.1) ⟨Nat.le_of_ble_eq_true rfl, Nat.le_of_ble_eq_true rfl⟩ (show 0 < 27 by decide) rfl rfl hD2 (by show s.heap.size ≤ B2; omega) rfl rfl (Nat.le_of_ble_eq_true rfl) hkc dL_law_625 (fun r2 I4 L4 p2 => ?_)
  obtain ⟨rfl, hRM1⟩ := p2
  refine jl_icmp_eq (tgt := 763) C dL_law_628 (by decide) (fun _ => ?_) (fun h => absurd rfl h)
  exact K _ _ _ _ _ hi (Nat.le_succ _) hRC1 hRM1
set_option maxHeartbeats 4000000 in
theorem law_c14 {p : Program} {l : Launch} {e : Env} {s : State} {m : MethodId} {args : Array Value} {below : List Frame} {meth : Method} {c : Code} {Q : State → Prop} {G : GT} {kc ks b L0 B2 i : Nat} {xs : Nat → Int32} {A : AS} {I1 : II} {L1 : LL} {I2 : II} {L2 : LL} (C : Cx p s m args meth c cL_law 4 RL G) (hX : va_X b L0 xs s s.heap) (hbl : b < s.heap.size) (hL0 : L0 ≤ 3072) (h6 : i + 6 ≤ L0) (hb1 : s.heap.size ≤ gB G) (hb2 : gB G + 226 ≤ B2) (hkc : kc ≤ room_1.cells ∧ ks ≤ room_1.slots) (hi : inv A) (hp : aP A < 2 ^ 20) (hRC : RC A I1 L1) (hRM : RM A I2 L2) (K : ∀ (A1 : AS) (I3 : II) (L3 : LL) (I4 : II) (L4 : LL), inv A1 → aP A1 ≤ aP A + 1 → RC A1 I3 L3 → RM A1 I4 L4 → JL p l e room_1 s m args below meth c Q 4 G (226, SHC) kc ks I3 L3 (B2, (27, SHM), I4, L4) 763 [some (.ref b), some (.ref (gB G + 0)), some (.ref (B2 + 0)), some (.int (nI i))] []) : JL p l e room_1 s m args below meth c Q 4 G (226, SHC) kc ks I1 L1 (B2, (27, SHM), I2, L2) 633 [some (.ref b), some (.ref (gB G + 0)), some (.ref (B2 + 0)), some (.int (nI i))] [] := by
  have hD1 : ∀ q, rg_A G (226, SHC) q → ¬ rg_A (gY G (B2, (27, SHM), I2, L2)) (27, SHM) q := fun q a z => by have h1 : q < gB G + 226 := a.2; have h2 : B2 ≤ q := z.1; omega
  refine jl_aload_n C dL_law_633 rfl rfl ?_
  refine jl_cvI1 C vc_L_80 (c_X6_equal l G _ _ _ A SHC_ok hRC hi.1 (fun q z => ((inv_pl hi) q).mp z)) ⟨Nat.le_of_ble_eq_true rfl, Nat.le_of_ble_eq_true rfl⟩ (by decide) rfl rfl hD1 hb1 rfl rfl (Nat.le_of_ble_eq_true rfl) hkc dL_law_634 (fun r1 I3 L3 p1 => ?_)
  obtain ⟨rfl, hRC1⟩ := p1
  have hD2 : ∀ q, rg_A (gY G (B2, (27, SHM), I2, L2)) (27, SHM) q → ¬ rg_A G (226, SHC) q := fun q a z => hD1 q z a
  refine jl_aload_n C dL_law_637 rfl rfl ?_
  refine jl_cvI2 C vc_L_83 (c_X7_equal l (gY G (B2, (27, SHM), I2, L2)) _ _ _ A SHM_ok hRM hi.1 (inv_pl hi)) ⟨Nat.le_of_ble_eq_true rfl, Nat.le_of_ble_eq_true rfl⟩ (show 0 < 27 by decide) rfl rfl hD2 (by show s.heap.size ≤ B2; omega) rfl rfl (Nat.le_of_ble_eq_true rfl) hkc dL_law_638 (fun r2 I4 L4 p2 => ?_)
  obtain ⟨rfl, hRM1⟩ := p2
  refine jl_icmp_eq (tgt := 763) C dL_law_641 (by decide) (fun _ => ?_) (fun h => absurd rfl h)
  exact K _ _ _ _ _ (inv_equal hi) (aP_equal) hRC1 hRM1
set_option maxHeartbeats 4000000 in
theorem law_c15 {p : Program} {l : Launch} {e : Env} {s : State} {m : MethodId} {args : Array Value} {below : List Frame} {meth : Method} {c : Code} {Q : State → Prop} {G : GT} {kc ks b L0 B2 i : Nat} {xs : Nat → Int32} {A : AS} {I1 : II} {L1 : LL} {I2 : II} {L2 : LL} (C : Cx p s m args meth c cL_law 4 RL G) (hX : va_X b L0 xs s s.heap) (hbl : b < s.heap.size) (hL0 : L0 ≤ 3072) (h6 : i + 6 ≤ L0) (hb1 : s.heap.size ≤ gB G) (hb2 : gB G + 226 ≤ B2) (hkc : kc ≤ room_1.cells ∧ ks ≤ room_1.slots) (hi : inv A) (hp : aP A < 2 ^ 20) (hRC : RC A I1 L1) (hRM : RM A I2 L2) (K : ∀ (A1 : AS) (I3 : II) (L3 : LL) (I4 : II) (L4 : LL), inv A1 → aP A1 ≤ aP A + 1 → RC A1 I3 L3 → RM A1 I4 L4 → JL p l e room_1 s m args below meth c Q 4 G (226, SHC) kc ks I3 L3 (B2, (27, SHM), I4, L4) 763 [some (.ref b), some (.ref (gB G + 0)), some (.ref (B2 + 0)), some (.int (nI i))] []) : JL p l e room_1 s m args below meth c Q 4 G (226, SHC) kc ks I1 L1 (B2, (27, SHM), I2, L2) 646 [some (.ref b), some (.ref (gB G + 0)), some (.ref (B2 + 0)), some (.int (nI i))] [] := by
  have hD1 : ∀ q, rg_A G (226, SHC) q → ¬ rg_A (gY G (B2, (27, SHM), I2, L2)) (27, SHM) q := fun q a z => by have h1 : q < gB G + 226 := a.2; have h2 : B2 ≤ q := z.1; omega
  refine jl_aload_n C dL_law_646 rfl rfl ?_
  refine jl_aload_n C dL_law_647 rfl rfl ?_
  refine jl_iload_n C dL_law_648 rfl rfl ?_
  refine jl_iconst (v := nI 1) C dL_law_649 (by decide) ?_
  refine jl_add C dL_law_650 ?_
  refine jl_sld C hX hbl (by omega) (by omega) dL_law_651 ?_
  refine jl_i2l C dL_law_652 ?_
  refine jl_bipush (v := nI 32) C dL_law_653 (by decide) ?_
  refine jl_lshl C dL_law_655 ?_
  refine jl_aload_n C dL_law_656 rfl rfl ?_
  refine jl_iload_n C dL_law_657 rfl rfl ?_
  refine jl_iconst (v := nI 2) C dL_law_658 (by decide) ?_
  refine jl_add C dL_law_659 ?_
  refine jl_sld C hX hbl (by omega) (by omega) dL_law_660 ?_
  refine jl_i2l C dL_law_661 ?_
  refine jl_ldc2 C kc_L_69 dL_law_662 ?_
  refine jl_land C dL_law_665 ?_
  refine jl_lor C dL_law_666 ?_
  refine jl_aload_n C dL_law_667 rfl rfl ?_
  refine jl_iload_n C dL_law_668 rfl rfl ?_
  refine jl_iconst (v := nI 3) C dL_law_669 (by decide) ?_
  refine jl_add C dL_law_670 ?_
  refine jl_sld C hX hbl (by omega) (by omega) dL_law_671 ?_
  refine jl_i2l C dL_law_672 ?_
  refine jl_bipush (v := nI 32) C dL_law_673 (by decide) ?_
  refine jl_lshl C dL_law_675 ?_
  refine jl_aload_n C dL_law_676 rfl rfl ?_
  refine jl_iload_n C dL_law_677 rfl rfl ?_
  refine jl_iconst (v := nI 4) C dL_law_678 (by decide) ?_
  refine jl_add C dL_law_679 ?_
  refine jl_sld C hX hbl (by omega) (by omega) dL_law_680 ?_
  refine jl_i2l C dL_law_681 ?_
  refine jl_ldc2 C kc_L_69 dL_law_682 ?_
  refine jl_land C dL_law_685 ?_
  refine jl_lor C dL_law_686 ?_
  refine jl_cvL1 C vc_L_84 (c_X6_pivot l G _ _ _ A _ _) ⟨Nat.le_of_ble_eq_true rfl, Nat.le_of_ble_eq_true rfl⟩ (by decide) rfl rfl hD1 hb1 rfl rfl (Nat.le_of_ble_eq_true rfl) hkc dL_law_687 (fun r1 I3 L3 p1 => ?_)
  obtain ⟨rfl, rfl, rfl⟩ := p1
  have hRC1 := hRC
  have hD2 : ∀ q, rg_A (gY G (B2, (27, SHM), I2, L2)) (27, SHM) q → ¬ rg_A G (226, SHC) q := fun q a z => hD1 q z a
  refine jl_aload_n C dL_law_690 rfl rfl ?_
  refine jl_aload_n C dL_law_691 rfl rfl ?_
  refine jl_iload_n C dL_law_692 rfl rfl ?_
  refine jl_iconst (v := nI 1) C dL_law_693 (by decide) ?_
  refine jl_add C dL_law_694 ?_
  refine jl_sld C hX hbl (by omega) (by omega) dL_law_695 ?_
  refine jl_i2l C dL_law_696 ?_
  refine jl_bipush (v := nI 32) C dL_law_697 (by decide) ?_
  refine jl_lshl C dL_law_699 ?_
  refine jl_aload_n C dL_law_700 rfl rfl ?_
  refine jl_iload_n C dL_law_701 rfl rfl ?_
  refine jl_iconst (v := nI 2) C dL_law_702 (by decide) ?_
  refine jl_add C dL_law_703 ?_
  refine jl_sld C hX hbl (by omega) (by omega) dL_law_704 ?_
  refine jl_i2l C dL_law_705 ?_
  refine jl_ldc2 C kc_L_69 dL_law_706 ?_
  refine jl_land C dL_law_709 ?_
  refine jl_lor C dL_law_710 ?_
  refine jl_aload_n C dL_law_711 rfl rfl ?_
  refine jl_iload_n C dL_law_712 rfl rfl ?_
  refine jl_iconst (v := nI 3) C dL_law_713 (by decide) ?_
  refine jl_add C dL_law_714 ?_
  refine jl_sld C hX hbl (by omega) (by omega) dL_law_715 ?_
  refine jl_i2l C dL_law_716 ?_
  refine jl_bipush (v := nI 32) C dL_law_717 (by decide) ?_
  refine jl_lshl C dL_law_719 ?_
  refine jl_aload_n C dL_law_720 rfl rfl ?_
  refine jl_iload_n C dL_law_721 rfl rfl ?_
  refine jl_iconst (v := nI 4) C dL_law_722 (by decide) ?_
  refine jl_add C dL_law_723 ?_
  refine jl_sld C hX hbl (by omega) (by omega) dL_law_724 ?_
  refine jl_i2l C dL_law_725 ?_
  refine jl_ldc2 C kc_L_69 dL_law_726 ?_
  refine jl_land C dL_law_729 ?_
  refine jl_lor C dL_law_730 ?_
  refine jl_cvL2 C vc_L_88 (c_X7_pivot l (gY G (B2, (27, SHM), I2, L2)) _ _ _ _ _) ⟨Nat.le_of_ble_eq_true rfl, Nat.le_of_ble_eq_true rfl⟩ (show 0 < 27 by decide) rfl rfl hD2 (by show s.heap.size ≤ B2; omega) rfl rfl (Nat.le_of_ble_eq_true rfl) hkc dL_law_731 (fun r2 I4 L4 p2 => ?_)
  obtain ⟨rfl, rfl, rfl⟩ := p2
  have hRM1 := hRM
  refine jl_lc_eq (tgt := 763) C dL_law_734 dL_law_735 (by decide) (fun _ => ?_) (fun h => absurd rfl h)
  exact K _ _ _ _ _ hi (Nat.le_succ _) hRC1 hRM1
set_option maxHeartbeats 4000000 in
theorem law_c16 {p : Program} {l : Launch} {e : Env} {s : State} {m : MethodId} {args : Array Value} {below : List Frame} {meth : Method} {c : Code} {Q : State → Prop} {G : GT} {kc ks b L0 B2 i : Nat} {xs : Nat → Int32} {A : AS} {I1 : II} {L1 : LL} {I2 : II} {L2 : LL} (C : Cx p s m args meth c cL_law 4 RL G) (hX : va_X b L0 xs s s.heap) (hbl : b < s.heap.size) (hL0 : L0 ≤ 3072) (h6 : i + 6 ≤ L0) (hb1 : s.heap.size ≤ gB G) (hb2 : gB G + 226 ≤ B2) (hkc : kc ≤ room_1.cells ∧ ks ≤ room_1.slots) (hi : inv A) (hp : aP A < 2 ^ 20) (hRC : RC A I1 L1) (hRM : RM A I2 L2) (K : ∀ (A1 : AS) (I3 : II) (L3 : LL) (I4 : II) (L4 : LL), inv A1 → aP A1 ≤ aP A + 1 → RC A1 I3 L3 → RM A1 I4 L4 → JL p l e room_1 s m args below meth c Q 4 G (226, SHC) kc ks I3 L3 (B2, (27, SHM), I4, L4) 763 [some (.ref b), some (.ref (gB G + 0)), some (.ref (B2 + 0)), some (.int (nI i))] []) : JL p l e room_1 s m args below meth c Q 4 G (226, SHC) kc ks I1 L1 (B2, (27, SHM), I2, L2) 740 [some (.ref b), some (.ref (gB G + 0)), some (.ref (B2 + 0)), some (.int (nI i))] [] := by
  have hD1 : ∀ q, rg_A G (226, SHC) q → ¬ rg_A (gY G (B2, (27, SHM), I2, L2)) (27, SHM) q := fun q a z => by have h1 : q < gB G + 226 := a.2; have h2 : B2 ≤ q := z.1; omega
  refine jl_aload_n C dL_law_740 rfl rfl ?_
  refine jl_aload_n C dL_law_741 rfl rfl ?_
  refine jl_iload_n C dL_law_742 rfl rfl ?_
  refine jl_iconst (v := nI 1) C dL_law_743 (by decide) ?_
  refine jl_add C dL_law_744 ?_
  refine jl_sld C hX hbl (by omega) (by omega) dL_law_745 ?_
  refine jl_cvI1 C vc_L_89 (c_X6_count l G _ _ _ A _ SHC_ok hRC hi.1) ⟨Nat.le_of_ble_eq_true rfl, Nat.le_of_ble_eq_true rfl⟩ (by decide) rfl rfl hD1 hb1 rfl rfl (Nat.le_of_ble_eq_true rfl) hkc dL_law_746 (fun r1 I3 L3 p1 => ?_)
  obtain ⟨rfl, rfl, rfl⟩ := p1
  have hRC1 := hRC
  have hD2 : ∀ q, rg_A (gY G (B2, (27, SHM), I2, L2)) (27, SHM) q → ¬ rg_A G (226, SHC) q := fun q a z => hD1 q z a
  refine jl_aload_n C dL_law_749 rfl rfl ?_
  refine jl_aload_n C dL_law_750 rfl rfl ?_
  refine jl_iload_n C dL_law_751 rfl rfl ?_
  refine jl_iconst (v := nI 1) C dL_law_752 (by decide) ?_
  refine jl_add C dL_law_753 ?_
  refine jl_sld C hX hbl (by omega) (by omega) dL_law_754 ?_
  refine jl_cvI2 C vc_L_92 (c_X7_count l (gY G (B2, (27, SHM), I2, L2)) _ _ _ A _ SHM_ok hRM hi.1) ⟨Nat.le_of_ble_eq_true rfl, Nat.le_of_ble_eq_true rfl⟩ (show 0 < 27 by decide) rfl rfl hD2 (by show s.heap.size ≤ B2; omega) rfl rfl (Nat.le_of_ble_eq_true rfl) hkc dL_law_755 (fun r2 I4 L4 p2 => ?_)
  obtain ⟨rfl, rfl, rfl⟩ := p2
  have hRM1 := hRM
  refine jl_icmp_eq (tgt := 763) C dL_law_758 (by decide) (fun _ => ?_) (fun h => absurd rfl h)
  exact K _ _ _ _ _ hi (Nat.le_succ _) hRC1 hRM1

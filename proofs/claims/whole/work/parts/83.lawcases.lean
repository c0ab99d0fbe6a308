set_option maxHeartbeats 4000000 in
set_option maxRecDepth 100000 in
theorem lx_0 {p : Program} {l : Launch} {e : Env} {s : State} {m : MethodId} {below : List Frame} {meth : Method} {c : Code} {H : Heap} {locs : List Loc} {cells slots : Nat} {Q : State → Prop} {ls : Array Slot} {g : tl_G} {σ : tl_St} {rt : Option FieldType} {A : Nat → Prop} {b L i : Nat} {xs : Nat → Int32} (C : tl_C p s m meth c cL_law 4 RL rt g) (hts : ∀ w ∈ wsL_law, w.before #[Value.ref b] s = true) (hX : va_X b L xs s s.heap) (hbl : b < s.heap.size) (hbA : ¬ A b) (hAg : ∀ q, tl_A g q → A q) (hi : i + 6 ≤ L) (hL : L ≤ 3072) (hcl : cells ≤ room_1.cells ∧ slots ≤ room_1.slots) (HR : re_R σ) (hP : va_P g.1 vwCl (tl_W g σ) H) (hS : va_S A s.heap H locs) (hl : lv_has ls 4 [(0, .ref b), (1, .ref (tl_ad g 0)), (2, .ref (tl_ad g 34)), (3, .int (nI i))]) (kk : ∀ (σ2 : tl_St) (H1 : Heap) (locs1 : List Loc), re_R σ2 → va_P g.1 vwCl (tl_W g σ2) H1 → va_S A s.heap H1 locs1 → W p l e room_1 s m #[Value.ref b] below meth c H1 locs1 cells slots Q (F0 m 989 ls [])) : W p l e room_1 s m #[Value.ref b] below meth c H locs cells slots Q (F0 m 168 ls []) := by
  have hx := C.1
  have hb := C.2.1
  obtain ⟨r, σ1, σ2, z1, z2, HR2⟩ := re_head HR (xs (nI i + 1).toNatClampNeg)
  refine lv_aload_n (pc := 168) hx hb dL_law_168 rfl (lv_at hl 1 rfl) ?_
  refine lv_aload_n (pc := 169) hx hb dL_law_169 rfl (lv_at hl 0 rfl) ?_
  refine lv_iload_n (pc := 170) hx hb dL_law_170 rfl (lv_at hl 3 rfl) ?_
  refine lv_iconst (pc := 171) (v := 1) hx hb dL_law_171 (by decide) ?_
  refine lv_iadd (pc := 172) hx hb dL_law_172 ?_
  refine va_sld (pc := 173) hx hb hX hbl hbA hS (lx_in (k := 1) rfl (by omega) hL) dL_law_173 ?_
  refine lx_goi (pc := 174) (lx_callV C hts hP (okX3_head l g C.2.2.2.2.2.2.2 σ (xs (nI i + 1).toNatClampNeg) r σ1 z1) rfl rfl rfl (n := 1) (by decide +kernel) rfl (ci := 3) rfl (tl_k0 g σ) gL_law_X3_head ⟨(Nat.le_of_ble_eq_true rfl), (Nat.le_of_ble_eq_true rfl)⟩ hl.1 rfl (Nat.le_of_ble_eq_true rfl) dL_law_174 hcl) hAg hS (fun H locs hP hS => ?_)
  refine lv_aload_n (pc := 177) hx hb dL_law_177 rfl (lv_at hl 2 rfl) ?_
  refine lv_aload_n (pc := 178) hx hb dL_law_178 rfl (lv_at hl 0 rfl) ?_
  refine lv_iload_n (pc := 179) hx hb dL_law_179 rfl (lv_at hl 3 rfl) ?_
  refine lv_iconst (pc := 180) (v := 1) hx hb dL_law_180 (by decide) ?_
  refine lv_iadd (pc := 181) hx hb dL_law_181 ?_
  refine va_sld (pc := 182) hx hb hX hbl hbA hS (lx_in (k := 1) rfl (by omega) hL) dL_law_182 ?_
  refine lx_goi (pc := 183) (lx_callV C hts hP (okX4_head l g C.2.2.2.2.2.2.2 σ1 (xs (nI i + 1).toNatClampNeg) r σ2 z2) rfl rfl rfl (n := 1) (by decide +kernel) rfl (ci := 4) rfl (tl_kM g σ1) gL_law_X4_head ⟨(Nat.le_of_ble_eq_true rfl), (Nat.le_of_ble_eq_true rfl)⟩ hl.1 rfl (Nat.le_of_ble_eq_true rfl) dL_law_183 hcl) hAg hS (fun H locs hP hS => ?_)
  refine lv_icmp_eq (pc := 186) (tgt := 989) hx hb dL_law_186 (by decide) (fun _ => ?_) (fun hne => absurd rfl hne)
  exact kk σ2 _ _ HR2 hP hS
set_option maxHeartbeats 4000000 in
set_option maxRecDepth 100000 in
theorem lx_1 {p : Program} {l : Launch} {e : Env} {s : State} {m : MethodId} {below : List Frame} {meth : Method} {c : Code} {H : Heap} {locs : List Loc} {cells slots : Nat} {Q : State → Prop} {ls : Array Slot} {g : tl_G} {σ : tl_St} {rt : Option FieldType} {A : Nat → Prop} {b L i : Nat} {xs : Nat → Int32} (C : tl_C p s m meth c cL_law 4 RL rt g) (hts : ∀ w ∈ wsL_law, w.before #[Value.ref b] s = true) (hX : va_X b L xs s s.heap) (hbl : b < s.heap.size) (hbA : ¬ A b) (hAg : ∀ q, tl_A g q → A q) (hi : i + 6 ≤ L) (hL : L ≤ 3072) (hcl : cells ≤ room_1.cells ∧ slots ≤ room_1.slots) (HR : re_R σ) (hP : va_P g.1 vwCl (tl_W g σ) H) (hS : va_S A s.heap H locs) (hl : lv_has ls 4 [(0, .ref b), (1, .ref (tl_ad g 0)), (2, .ref (tl_ad g 34)), (3, .int (nI i))]) (kk : ∀ (σ2 : tl_St) (H1 : Heap) (locs1 : List Loc), re_R σ2 → va_P g.1 vwCl (tl_W g σ2) H1 → va_S A s.heap H1 locs1 → W p l e room_1 s m #[Value.ref b] below meth c H1 locs1 cells slots Q (F0 m 989 ls [])) : W p l e room_1 s m #[Value.ref b] below meth c H locs cells slots Q (F0 m 191 ls []) := by
  have hx := C.1
  have hb := C.2.1
  obtain ⟨r, σ1, σ2, z1, z2, HR2⟩ := re_basin HR (xs (nI i + 1).toNatClampNeg) (xs (nI i + 2).toNatClampNeg) (xs (nI i + 3).toNatClampNeg)
  refine lv_aload_n (pc := 191) hx hb dL_law_191 rfl (lv_at hl 1 rfl) ?_
  refine lv_aload_n (pc := 192) hx hb dL_law_192 rfl (lv_at hl 0 rfl) ?_
  refine lv_iload_n (pc := 193) hx hb dL_law_193 rfl (lv_at hl 3 rfl) ?_
  refine lv_iconst (pc := 194) (v := 1) hx hb dL_law_194 (by decide) ?_
  refine lv_iadd (pc := 195) hx hb dL_law_195 ?_
  refine va_sld (pc := 196) hx hb hX hbl hbA hS (lx_in (k := 1) rfl (by omega) hL) dL_law_196 ?_
  refine lv_aload_n (pc := 197) hx hb dL_law_197 rfl (lv_at hl 0 rfl) ?_
  refine lv_iload_n (pc := 198) hx hb dL_law_198 rfl (lv_at hl 3 rfl) ?_
  refine lv_iconst (pc := 199) (v := 2) hx hb dL_law_199 (by decide) ?_
  refine lv_iadd (pc := 200) hx hb dL_law_200 ?_
  refine va_sld (pc := 201) hx hb hX hbl hbA hS (lx_in (k := 2) rfl (by omega) hL) dL_law_201 ?_
  refine lv_aload_n (pc := 202) hx hb dL_law_202 rfl (lv_at hl 0 rfl) ?_
  refine lv_iload_n (pc := 203) hx hb dL_law_203 rfl (lv_at hl 3 rfl) ?_
  refine lv_iconst (pc := 204) (v := 3) hx hb dL_law_204 (by decide) ?_
  refine lv_iadd (pc := 205) hx hb dL_law_205 ?_
  refine va_sld (pc := 206) hx hb hX hbl hbA hS (lx_in (k := 3) rfl (by omega) hL) dL_law_206 ?_
  refine lx_goi (pc := 207) (lx_callV C hts hP (okX3_basin l g C.2.2.2.2.2.2.2 σ (xs (nI i + 1).toNatClampNeg) (xs (nI i + 2).toNatClampNeg) (xs (nI i + 3).toNatClampNeg) r σ1 z1) rfl rfl rfl (n := 3) (by decide +kernel) rfl (ci := 3) rfl (tl_k0 g σ) gL_law_X3_basin ⟨(Nat.le_of_ble_eq_true rfl), (Nat.le_of_ble_eq_true rfl)⟩ hl.1 rfl (Nat.le_of_ble_eq_true rfl) dL_law_207 hcl) hAg hS (fun H locs hP hS => ?_)
  refine lv_aload_n (pc := 210) hx hb dL_law_210 rfl (lv_at hl 2 rfl) ?_
  refine lv_aload_n (pc := 211) hx hb dL_law_211 rfl (lv_at hl 0 rfl) ?_
  refine lv_iload_n (pc := 212) hx hb dL_law_212 rfl (lv_at hl 3 rfl) ?_
  refine lv_iconst (pc := 213) (v := 1) hx hb dL_law_213 (by decide) ?_
  refine lv_iadd (pc := 214) hx hb dL_law_214 ?_
  refine va_sld (pc := 215) hx hb hX hbl hbA hS (lx_in (k := 1) rfl (by omega) hL) dL_law_215 ?_
  refine lv_aload_n (pc := 216) hx hb dL_law_216 rfl (lv_at hl 0 rfl) ?_
  refine lv_iload_n (pc := 217) hx hb dL_law_217 rfl (lv_at hl 3 rfl) ?_
  refine lv_iconst (pc := 218) (v := 2) hx hb dL_law_218 (by decide) ?_
  refine lv_iadd (pc := 219) hx hb dL_law_219 ?_
  refine va_sld (pc := 220) hx hb hX hbl hbA hS (lx_in (k := 2) rfl (by omega) hL) dL_law_220 ?_
  refine lv_aload_n (pc := 221) hx hb dL_law_221 rfl (lv_at hl 0 rfl) ?_
  refine lv_iload_n (pc := 222) hx hb dL_law_222 rfl (lv_at hl 3 rfl) ?_
  refine lv_iconst (pc := 223) (v := 3) hx hb dL_law_223 (by decide) ?_
  refine lv_iadd (pc := 224) hx hb dL_law_224 ?_
  refine va_sld (pc := 225) hx hb hX hbl hbA hS (lx_in (k := 3) rfl (by omega) hL) dL_law_225 ?_
  refine lx_goi (pc := 226) (lx_callV C hts hP (okX4_basin l g C.2.2.2.2.2.2.2 σ1 (xs (nI i + 1).toNatClampNeg) (xs (nI i + 2).toNatClampNeg) (xs (nI i + 3).toNatClampNeg) r σ2 z2) rfl rfl rfl (n := 3) (by decide +kernel) rfl (ci := 4) rfl (tl_kM g σ1) gL_law_X4_basin ⟨(Nat.le_of_ble_eq_true rfl), (Nat.le_of_ble_eq_true rfl)⟩ hl.1 rfl (Nat.le_of_ble_eq_true rfl) dL_law_226 hcl) hAg hS (fun H locs hP hS => ?_)
  refine lv_icmp_eq (pc := 229) (tgt := 989) hx hb dL_law_229 (by decide) (fun _ => ?_) (fun hne => absurd rfl hne)
  exact kk σ2 _ _ HR2 hP hS
set_option maxHeartbeats 4000000 in
set_option maxRecDepth 100000 in
theorem lx_2 {p : Program} {l : Launch} {e : Env} {s : State} {m : MethodId} {below : List Frame} {meth : Method} {c : Code} {H : Heap} {locs : List Loc} {cells slots : Nat} {Q : State → Prop} {ls : Array Slot} {g : tl_G} {σ : tl_St} {rt : Option FieldType} {A : Nat → Prop} {b L i : Nat} {xs : Nat → Int32} (C : tl_C p s m meth c cL_law 4 RL rt g) (hts : ∀ w ∈ wsL_law, w.before #[Value.ref b] s = true) (hX : va_X b L xs s s.heap) (hbl : b < s.heap.size) (hbA : ¬ A b) (hAg : ∀ q, tl_A g q → A q) (hi : i + 6 ≤ L) (hL : L ≤ 3072) (hcl : cells ≤ room_1.cells ∧ slots ≤ room_1.slots) (HR : re_R σ) (hP : va_P g.1 vwCl (tl_W g σ) H) (hS : va_S A s.heap H locs) (hl : lv_has ls 4 [(0, .ref b), (1, .ref (tl_ad g 0)), (2, .ref (tl_ad g 34)), (3, .int (nI i))]) (kk : ∀ (σ2 : tl_St) (H1 : Heap) (locs1 : List Loc), re_R σ2 → va_P g.1 vwCl (tl_W g σ2) H1 → va_S A s.heap H1 locs1 → W p l e room_1 s m #[Value.ref b] below meth c H1 locs1 cells slots Q (F0 m 989 ls [])) : W p l e room_1 s m #[Value.ref b] below meth c H locs cells slots Q (F0 m 234 ls []) := by
  have hx := C.1
  have hb := C.2.1
  obtain ⟨r, σ1, σ2, z1, z2, HR2⟩ := re_back HR 
  refine lv_aload_n (pc := 234) hx hb dL_law_234 rfl (lv_at hl 1 rfl) ?_
  refine lx_goi (pc := 235) (lx_callV C hts hP (okX3_back l g C.2.2.2.2.2.2.2 σ  r σ1 z1) rfl rfl rfl (n := 0) (by decide +kernel) rfl (ci := 3) rfl (tl_k0 g σ) gL_law_X3_back ⟨(Nat.le_of_ble_eq_true rfl), (Nat.le_of_ble_eq_true rfl)⟩ hl.1 rfl (Nat.le_of_ble_eq_true rfl) dL_law_235 hcl) hAg hS (fun H locs hP hS => ?_)
  refine lv_aload_n (pc := 238) hx hb dL_law_238 rfl (lv_at hl 2 rfl) ?_
  refine lx_goi (pc := 239) (lx_callV C hts hP (okX4_back l g C.2.2.2.2.2.2.2 σ1  r σ2 z2) rfl rfl rfl (n := 0) (by decide +kernel) rfl (ci := 4) rfl (tl_kM g σ1) gL_law_X4_back ⟨(Nat.le_of_ble_eq_true rfl), (Nat.le_of_ble_eq_true rfl)⟩ hl.1 rfl (Nat.le_of_ble_eq_true rfl) dL_law_239 hcl) hAg hS (fun H locs hP hS => ?_)
  refine lv_icmp_eq (pc := 242) (tgt := 989) hx hb dL_law_242 (by decide) (fun _ => ?_) (fun hne => absurd rfl hne)
  exact kk σ2 _ _ HR2 hP hS
set_option maxHeartbeats 4000000 in
set_option maxRecDepth 100000 in
theorem lx_3 {p : Program} {l : Launch} {e : Env} {s : State} {m : MethodId} {below : List Frame} {meth : Method} {c : Code} {H : Heap} {locs : List Loc} {cells slots : Nat} {Q : State → Prop} {ls : Array Slot} {g : tl_G} {σ : tl_St} {rt : Option FieldType} {A : Nat → Prop} {b L i : Nat} {xs : Nat → Int32} (C : tl_C p s m meth c cL_law 4 RL rt g) (hts : ∀ w ∈ wsL_law, w.before #[Value.ref b] s = true) (hX : va_X b L xs s s.heap) (hbl : b < s.heap.size) (hbA : ¬ A b) (hAg : ∀ q, tl_A g q → A q) (hi : i + 6 ≤ L) (hL : L ≤ 3072) (hcl : cells ≤ room_1.cells ∧ slots ≤ room_1.slots) (HR : re_R σ) (hP : va_P g.1 vwCl (tl_W g σ) H) (hS : va_S A s.heap H locs) (hl : lv_has ls 4 [(0, .ref b), (1, .ref (tl_ad g 0)), (2, .ref (tl_ad g 34)), (3, .int (nI i))]) (kk : ∀ (σ2 : tl_St) (H1 : Heap) (locs1 : List Loc), re_R σ2 → va_P g.1 vwCl (tl_W g σ2) H1 → va_S A s.heap H1 locs1 → W p l e room_1 s m #[Value.ref b] below meth c H1 locs1 cells slots Q (F0 m 989 ls [])) : W p l e room_1 s m #[Value.ref b] below meth c H locs cells slots Q (F0 m 247 ls []) := by
  have hx := C.1
  have hb := C.2.1
  obtain ⟨r, σ1, σ2, z1, z2, HR2⟩ := re_out HR (xs (nI i + 1).toNatClampNeg)
  refine lv_aload_n (pc := 247) hx hb dL_law_247 rfl (lv_at hl 1 rfl) ?_
  refine lv_aload_n (pc := 248) hx hb dL_law_248 rfl (lv_at hl 0 rfl) ?_
  refine lv_iload_n (pc := 249) hx hb dL_law_249 rfl (lv_at hl 3 rfl) ?_
  refine lv_iconst (pc := 250) (v := 1) hx hb dL_law_250 (by decide) ?_
  refine lv_iadd (pc := 251) hx hb dL_law_251 ?_
  refine va_sld (pc := 252) hx hb hX hbl hbA hS (lx_in (k := 1) rfl (by omega) hL) dL_law_252 ?_
  refine lx_goi (pc := 253) (lx_callV C hts hP (okX3_out l g C.2.2.2.2.2.2.2 σ (xs (nI i + 1).toNatClampNeg) r σ1 z1) rfl rfl rfl (n := 1) (by decide +kernel) rfl (ci := 3) rfl (tl_k0 g σ) gL_law_X3_out ⟨(Nat.le_of_ble_eq_true rfl), (Nat.le_of_ble_eq_true rfl)⟩ hl.1 rfl (Nat.le_of_ble_eq_true rfl) dL_law_253 hcl) hAg hS (fun H locs hP hS => ?_)
  refine lv_aload_n (pc := 256) hx hb dL_law_256 rfl (lv_at hl 2 rfl) ?_
  refine lv_aload_n (pc := 257) hx hb dL_law_257 rfl (lv_at hl 0 rfl) ?_
  refine lv_iload_n (pc := 258) hx hb dL_law_258 rfl (lv_at hl 3 rfl) ?_
  refine lv_iconst (pc := 259) (v := 1) hx hb dL_law_259 (by decide) ?_
  refine lv_iadd (pc := 260) hx hb dL_law_260 ?_
  refine va_sld (pc := 261) hx hb hX hbl hbA hS (lx_in (k := 1) rfl (by omega) hL) dL_law_261 ?_
  refine lx_goi (pc := 262) (lx_callV C hts hP (okX4_out l g C.2.2.2.2.2.2.2 σ1 (xs (nI i + 1).toNatClampNeg) r σ2 z2) rfl rfl rfl (n := 1) (by decide +kernel) rfl (ci := 4) rfl (tl_kM g σ1) gL_law_X4_out ⟨(Nat.le_of_ble_eq_true rfl), (Nat.le_of_ble_eq_true rfl)⟩ hl.1 rfl (Nat.le_of_ble_eq_true rfl) dL_law_262 hcl) hAg hS (fun H locs hP hS => ?_)
  refine lv_icmp_eq (pc := 265) (tgt := 989) hx hb dL_law_265 (by decide) (fun _ => ?_) (fun hne => absurd rfl hne)
  exact kk σ2 _ _ HR2 hP hS
set_option maxHeartbeats 4000000 in
set_option maxRecDepth 100000 in
theorem lx_4 {p : Program} {l : Launch} {e : Env} {s : State} {m : MethodId} {below : List Frame} {meth : Method} {c : Code} {H : Heap} {locs : List Loc} {cells slots : Nat} {Q : State → Prop} {ls : Array Slot} {g : tl_G} {σ : tl_St} {rt : Option FieldType} {A : Nat → Prop} {b L i : Nat} {xs : Nat → Int32} (C : tl_C p s m meth c cL_law 4 RL rt g) (hts : ∀ w ∈ wsL_law, w.before #[Value.ref b] s = true) (hX : va_X b L xs s s.heap) (hbl : b < s.heap.size) (hbA : ¬ A b) (hAg : ∀ q, tl_A g q → A q) (hi : i + 6 ≤ L) (hL : L ≤ 3072) (hcl : cells ≤ room_1.cells ∧ slots ≤ room_1.slots) (HR : re_R σ) (hP : va_P g.1 vwCl (tl_W g σ) H) (hS : va_S A s.heap H locs) (hl : lv_has ls 4 [(0, .ref b), (1, .ref (tl_ad g 0)), (2, .ref (tl_ad g 34)), (3, .int (nI i))]) (kk : ∀ (σ2 : tl_St) (H1 : Heap) (locs1 : List Loc), re_R σ2 → va_P g.1 vwCl (tl_W g σ2) H1 → va_S A s.heap H1 locs1 → W p l e room_1 s m #[Value.ref b] below meth c H1 locs1 cells slots Q (F0 m 989 ls [])) : W p l e room_1 s m #[Value.ref b] below meth c H locs cells slots Q (F0 m 270 ls []) := by
  have hx := C.1
  have hb := C.2.1
  obtain ⟨r, σ1, σ2, z1, z2, HR2⟩ := re_leak HR (xs (nI i + 1).toNatClampNeg) (xs (nI i + 2).toNatClampNeg)
  refine lv_aload_n (pc := 270) hx hb dL_law_270 rfl (lv_at hl 1 rfl) ?_
  refine lv_aload_n (pc := 271) hx hb dL_law_271 rfl (lv_at hl 0 rfl) ?_
  refine lv_iload_n (pc := 272) hx hb dL_law_272 rfl (lv_at hl 3 rfl) ?_
  refine lv_iconst (pc := 273) (v := 1) hx hb dL_law_273 (by decide) ?_
  refine lv_iadd (pc := 274) hx hb dL_law_274 ?_
  refine va_sld (pc := 275) hx hb hX hbl hbA hS (lx_in (k := 1) rfl (by omega) hL) dL_law_275 ?_
  refine lv_aload_n (pc := 276) hx hb dL_law_276 rfl (lv_at hl 0 rfl) ?_
  refine lv_iload_n (pc := 277) hx hb dL_law_277 rfl (lv_at hl 3 rfl) ?_
  refine lv_iconst (pc := 278) (v := 2) hx hb dL_law_278 (by decide) ?_
  refine lv_iadd (pc := 279) hx hb dL_law_279 ?_
  refine va_sld (pc := 280) hx hb hX hbl hbA hS (lx_in (k := 2) rfl (by omega) hL) dL_law_280 ?_
  refine lx_goi (pc := 281) (lx_callV C hts hP (okX3_leak l g C.2.2.2.2.2.2.2 σ (xs (nI i + 1).toNatClampNeg) (xs (nI i + 2).toNatClampNeg) r σ1 z1) rfl rfl rfl (n := 2) (by decide +kernel) rfl (ci := 3) rfl (tl_k0 g σ) gL_law_X3_leak ⟨(Nat.le_of_ble_eq_true rfl), (Nat.le_of_ble_eq_true rfl)⟩ hl.1 rfl (Nat.le_of_ble_eq_true rfl) dL_law_281 hcl) hAg hS (fun H locs hP hS => ?_)
  refine lv_aload_n (pc := 284) hx hb dL_law_284 rfl (lv_at hl 2 rfl) ?_
  refine lv_aload_n (pc := 285) hx hb dL_law_285 rfl (lv_at hl 0 rfl) ?_
  refine lv_iload_n (pc := 286) hx hb dL_law_286 rfl (lv_at hl 3 rfl) ?_
  refine lv_iconst (pc := 287) (v := 1) hx hb dL_law_287 (by decide) ?_
  refine lv_iadd (pc := 288) hx hb dL_law_288 ?_
  refine va_sld (pc := 289) hx hb hX hbl hbA hS (lx_in (k := 1) rfl (by omega) hL) dL_law_289 ?_
  refine lv_aload_n (pc := 290) hx hb dL_law_290 rfl (lv_at hl 0 rfl) ?_
  refine lv_iload_n (pc := 291) hx hb dL_law_291 rfl (lv_at hl 3 rfl) ?_
  refine lv_iconst (pc := 292) (v := 2) hx hb dL_law_292 (by decide) ?_
  refine lv_iadd (pc := 293) hx hb dL_law_293 ?_
  refine va_sld (pc := 294) hx hb hX hbl hbA hS (lx_in (k := 2) rfl (by omega) hL) dL_law_294 ?_
  refine lx_goi (pc := 295) (lx_callV C hts hP (okX4_leak l g C.2.2.2.2.2.2.2 σ1 (xs (nI i + 1).toNatClampNeg) (xs (nI i + 2).toNatClampNeg) r σ2 z2) rfl rfl rfl (n := 2) (by decide +kernel) rfl (ci := 4) rfl (tl_kM g σ1) gL_law_X4_leak ⟨(Nat.le_of_ble_eq_true rfl), (Nat.le_of_ble_eq_true rfl)⟩ hl.1 rfl (Nat.le_of_ble_eq_true rfl) dL_law_295 hcl) hAg hS (fun H locs hP hS => ?_)
  refine lv_icmp_eq (pc := 298) (tgt := 989) hx hb dL_law_298 (by decide) (fun _ => ?_) (fun hne => absurd rfl hne)
  exact kk σ2 _ _ HR2 hP hS
set_option maxHeartbeats 4000000 in
set_option maxRecDepth 100000 in
theorem lx_5 {p : Program} {l : Launch} {e : Env} {s : State} {m : MethodId} {below : List Frame} {meth : Method} {c : Code} {H : Heap} {locs : List Loc} {cells slots : Nat} {Q : State → Prop} {ls : Array Slot} {g : tl_G} {σ : tl_St} {rt : Option FieldType} {A : Nat → Prop} {b L i : Nat} {xs : Nat → Int32} (C : tl_C p s m meth c cL_law 4 RL rt g) (hts : ∀ w ∈ wsL_law, w.before #[Value.ref b] s = true) (hX : va_X b L xs s s.heap) (hbl : b < s.heap.size) (hbA : ¬ A b) (hAg : ∀ q, tl_A g q → A q) (hi : i + 6 ≤ L) (hL : L ≤ 3072) (hcl : cells ≤ room_1.cells ∧ slots ≤ room_1.slots) (HR : re_R σ) (hP : va_P g.1 vwCl (tl_W g σ) H) (hS : va_S A s.heap H locs) (hl : lv_has ls 4 [(0, .ref b), (1, .ref (tl_ad g 0)), (2, .ref (tl_ad g 34)), (3, .int (nI i))]) (kk : ∀ (σ2 : tl_St) (H1 : Heap) (locs1 : List Loc), re_R σ2 → va_P g.1 vwCl (tl_W g σ2) H1 → va_S A s.heap H1 locs1 → W p l e room_1 s m #[Value.ref b] below meth c H1 locs1 cells slots Q (F0 m 989 ls [])) : W p l e room_1 s m #[Value.ref b] below meth c H locs cells slots Q (F0 m 303 ls []) := by
  have hx := C.1
  have hb := C.2.1
  obtain ⟨r, σ1, σ2, z1, z2, HR2⟩ := re_read HR (xs (nI i + 1).toNatClampNeg)
  refine lv_aload_n (pc := 303) hx hb dL_law_303 rfl (lv_at hl 1 rfl) ?_
  refine lv_aload_n (pc := 304) hx hb dL_law_304 rfl (lv_at hl 0 rfl) ?_
  refine lv_iload_n (pc := 305) hx hb dL_law_305 rfl (lv_at hl 3 rfl) ?_
  refine lv_iconst (pc := 306) (v := 1) hx hb dL_law_306 (by decide) ?_
  refine lv_iadd (pc := 307) hx hb dL_law_307 ?_
  refine va_sld (pc := 308) hx hb hX hbl hbA hS (lx_in (k := 1) rfl (by omega) hL) dL_law_308 ?_
  refine lx_goi (pc := 309) (lx_callV C hts hP (okX3_read l g C.2.2.2.2.2.2.2 σ (xs (nI i + 1).toNatClampNeg) r σ1 z1) rfl rfl rfl (n := 1) (by decide +kernel) rfl (ci := 3) rfl (tl_k0 g σ) gL_law_X3_read ⟨(Nat.le_of_ble_eq_true rfl), (Nat.le_of_ble_eq_true rfl)⟩ hl.1 rfl (Nat.le_of_ble_eq_true rfl) dL_law_309 hcl) hAg hS (fun H locs hP hS => ?_)
  refine lv_aload_n (pc := 312) hx hb dL_law_312 rfl (lv_at hl 2 rfl) ?_
  refine lv_aload_n (pc := 313) hx hb dL_law_313 rfl (lv_at hl 0 rfl) ?_
  refine lv_iload_n (pc := 314) hx hb dL_law_314 rfl (lv_at hl 3 rfl) ?_
  refine lv_iconst (pc := 315) (v := 1) hx hb dL_law_315 (by decide) ?_
  refine lv_iadd (pc := 316) hx hb dL_law_316 ?_
  refine va_sld (pc := 317) hx hb hX hbl hbA hS (lx_in (k := 1) rfl (by omega) hL) dL_law_317 ?_
  refine lx_goi (pc := 318) (lx_callV C hts hP (okX4_read l g C.2.2.2.2.2.2.2 σ1 (xs (nI i + 1).toNatClampNeg) r σ2 z2) rfl rfl rfl (n := 1) (by decide +kernel) rfl (ci := 4) rfl (tl_kM g σ1) gL_law_X4_read ⟨(Nat.le_of_ble_eq_true rfl), (Nat.le_of_ble_eq_true rfl)⟩ hl.1 rfl (Nat.le_of_ble_eq_true rfl) dL_law_318 hcl) hAg hS (fun H locs hP hS => ?_)
  refine lv_icmp_eq (pc := 321) (tgt := 989) hx hb dL_law_321 (by decide) (fun _ => ?_) (fun hne => absurd rfl hne)
  exact kk σ2 _ _ HR2 hP hS
set_option maxHeartbeats 4000000 in
set_option maxRecDepth 100000 in
theorem lx_6 {p : Program} {l : Launch} {e : Env} {s : State} {m : MethodId} {below : List Frame} {meth : Method} {c : Code} {H : Heap} {locs : List Loc} {cells slots : Nat} {Q : State → Prop} {ls : Array Slot} {g : tl_G} {σ : tl_St} {rt : Option FieldType} {A : Nat → Prop} {b L i : Nat} {xs : Nat → Int32} (C : tl_C p s m meth c cL_law 4 RL rt g) (hts : ∀ w ∈ wsL_law, w.before #[Value.ref b] s = true) (hX : va_X b L xs s s.heap) (hbl : b < s.heap.size) (hbA : ¬ A b) (hAg : ∀ q, tl_A g q → A q) (hi : i + 6 ≤ L) (hL : L ≤ 3072) (hcl : cells ≤ room_1.cells ∧ slots ≤ room_1.slots) (HR : re_R σ) (hP : va_P g.1 vwCl (tl_W g σ) H) (hS : va_S A s.heap H locs) (hl : lv_has ls 4 [(0, .ref b), (1, .ref (tl_ad g 0)), (2, .ref (tl_ad g 34)), (3, .int (nI i))]) (kk : ∀ (σ2 : tl_St) (H1 : Heap) (locs1 : List Loc), re_R σ2 → va_P g.1 vwCl (tl_W g σ2) H1 → va_S A s.heap H1 locs1 → W p l e room_1 s m #[Value.ref b] below meth c H1 locs1 cells slots Q (F0 m 989 ls [])) : W p l e room_1 s m #[Value.ref b] below meth c H locs cells slots Q (F0 m 326 ls []) := by
  have hx := C.1
  have hb := C.2.1
  obtain ⟨r, z1, z2⟩ := re_info HR (xs (nI i + 1).toNatClampNeg) (xs (nI i + 2).toNatClampNeg)
  refine lv_aload_n (pc := 326) hx hb dL_law_326 rfl (lv_at hl 1 rfl) ?_
  refine lv_aload_n (pc := 327) hx hb dL_law_327 rfl (lv_at hl 0 rfl) ?_
  refine lv_iload_n (pc := 328) hx hb dL_law_328 rfl (lv_at hl 3 rfl) ?_
  refine lv_iconst (pc := 329) (v := 1) hx hb dL_law_329 (by decide) ?_
  refine lv_iadd (pc := 330) hx hb dL_law_330 ?_
  refine va_sld (pc := 331) hx hb hX hbl hbA hS (lx_in (k := 1) rfl (by omega) hL) dL_law_331 ?_
  refine lv_aload_n (pc := 332) hx hb dL_law_332 rfl (lv_at hl 0 rfl) ?_
  refine lv_iload_n (pc := 333) hx hb dL_law_333 rfl (lv_at hl 3 rfl) ?_
  refine lv_iconst (pc := 334) (v := 2) hx hb dL_law_334 (by decide) ?_
  refine lv_iadd (pc := 335) hx hb dL_law_335 ?_
  refine va_sld (pc := 336) hx hb hX hbl hbA hS (lx_in (k := 2) rfl (by omega) hL) dL_law_336 ?_
  refine lx_goi (pc := 337) (lx_callV C hts hP (okX3_info l g C.2.2.2.2.2.2.2 σ (xs (nI i + 1).toNatClampNeg) (xs (nI i + 2).toNatClampNeg) r z1) rfl rfl rfl (n := 2) (by decide +kernel) rfl (ci := 3) rfl (tl_k0 g σ) gL_law_X3_info ⟨(Nat.le_of_ble_eq_true rfl), (Nat.le_of_ble_eq_true rfl)⟩ hl.1 rfl (Nat.le_of_ble_eq_true rfl) dL_law_337 hcl) hAg hS (fun H locs hP hS => ?_)
  refine lv_aload_n (pc := 340) hx hb dL_law_340 rfl (lv_at hl 2 rfl) ?_
  refine lv_aload_n (pc := 341) hx hb dL_law_341 rfl (lv_at hl 0 rfl) ?_
  refine lv_iload_n (pc := 342) hx hb dL_law_342 rfl (lv_at hl 3 rfl) ?_
  refine lv_iconst (pc := 343) (v := 1) hx hb dL_law_343 (by decide) ?_
  refine lv_iadd (pc := 344) hx hb dL_law_344 ?_
  refine va_sld (pc := 345) hx hb hX hbl hbA hS (lx_in (k := 1) rfl (by omega) hL) dL_law_345 ?_
  refine lv_aload_n (pc := 346) hx hb dL_law_346 rfl (lv_at hl 0 rfl) ?_
  refine lv_iload_n (pc := 347) hx hb dL_law_347 rfl (lv_at hl 3 rfl) ?_
  refine lv_iconst (pc := 348) (v := 2) hx hb dL_law_348 (by decide) ?_
  refine lv_iadd (pc := 349) hx hb dL_law_349 ?_
  refine va_sld (pc := 350) hx hb hX hbl hbA hS (lx_in (k := 2) rfl (by omega) hL) dL_law_350 ?_
  refine lx_goi (pc := 351) (lx_callV C hts hP (okX4_info l g C.2.2.2.2.2.2.2 σ (xs (nI i + 1).toNatClampNeg) (xs (nI i + 2).toNatClampNeg) r z2) rfl rfl rfl (n := 2) (by decide +kernel) rfl (ci := 4) rfl (tl_kM g σ) gL_law_X4_info ⟨(Nat.le_of_ble_eq_true rfl), (Nat.le_of_ble_eq_true rfl)⟩ hl.1 rfl (Nat.le_of_ble_eq_true rfl) dL_law_351 hcl) hAg hS (fun H locs hP hS => ?_)
  refine lv_icmp_eq (pc := 354) (tgt := 989) hx hb dL_law_354 (by decide) (fun _ => ?_) (fun hne => absurd rfl hne)
  exact kk σ _ _ HR hP hS
set_option maxHeartbeats 4000000 in
set_option maxRecDepth 100000 in
theorem lx_7 {p : Program} {l : Launch} {e : Env} {s : State} {m : MethodId} {below : List Frame} {meth : Method} {c : Code} {H : Heap} {locs : List Loc} {cells slots : Nat} {Q : State → Prop} {ls : Array Slot} {g : tl_G} {σ : tl_St} {rt : Option FieldType} {A : Nat → Prop} {b L i : Nat} {xs : Nat → Int32} (C : tl_C p s m meth c cL_law 4 RL rt g) (hts : ∀ w ∈ wsL_law, w.before #[Value.ref b] s = true) (hX : va_X b L xs s s.heap) (hbl : b < s.heap.size) (hbA : ¬ A b) (hAg : ∀ q, tl_A g q → A q) (hi : i + 6 ≤ L) (hL : L ≤ 3072) (hcl : cells ≤ room_1.cells ∧ slots ≤ room_1.slots) (HR : re_R σ) (hP : va_P g.1 vwCl (tl_W g σ) H) (hS : va_S A s.heap H locs) (hl : lv_has ls 4 [(0, .ref b), (1, .ref (tl_ad g 0)), (2, .ref (tl_ad g 34)), (3, .int (nI i))]) (kk : ∀ (σ2 : tl_St) (H1 : Heap) (locs1 : List Loc), re_R σ2 → va_P g.1 vwCl (tl_W g σ2) H1 → va_S A s.heap H1 locs1 → W p l e room_1 s m #[Value.ref b] below meth c H1 locs1 cells slots Q (F0 m 989 ls [])) : W p l e room_1 s m #[Value.ref b] below meth c H locs cells slots Q (F0 m 359 ls []) := by
  have hx := C.1
  have hb := C.2.1
  obtain ⟨r, z1⟩ : ∃ r, fX3_chamber σ (xs (nI i + 1).toNatClampNeg) = r := ⟨_, rfl⟩
  have z2 : fX4_chamber σ (xs (nI i + 1).toNatClampNeg) = r := (re_chamber HR (xs (nI i + 1).toNatClampNeg)).symm.trans z1
  refine lv_aload_n (pc := 359) hx hb dL_law_359 rfl (lv_at hl 1 rfl) ?_
  refine lv_aload_n (pc := 360) hx hb dL_law_360 rfl (lv_at hl 0 rfl) ?_
  refine lv_iload_n (pc := 361) hx hb dL_law_361 rfl (lv_at hl 3 rfl) ?_
  refine lv_iconst (pc := 362) (v := 1) hx hb dL_law_362 (by decide) ?_
  refine lv_iadd (pc := 363) hx hb dL_law_363 ?_
  refine va_sld (pc := 364) hx hb hX hbl hbA hS (lx_in (k := 1) rfl (by omega) hL) dL_law_364 ?_
  refine lx_goi (pc := 365) (lx_callV C hts hP (okX3_chamber l g C.2.2.2.2.2.2.2 σ (xs (nI i + 1).toNatClampNeg) r z1) rfl rfl rfl (n := 1) (by decide +kernel) rfl (ci := 3) rfl (tl_k0 g σ) gL_law_X3_chamber ⟨(Nat.le_of_ble_eq_true rfl), (Nat.le_of_ble_eq_true rfl)⟩ hl.1 rfl (Nat.le_of_ble_eq_true rfl) dL_law_365 hcl) hAg hS (fun H locs hP hS => ?_)
  refine lv_aload_n (pc := 368) hx hb dL_law_368 rfl (lv_at hl 2 rfl) ?_
  refine lv_aload_n (pc := 369) hx hb dL_law_369 rfl (lv_at hl 0 rfl) ?_
  refine lv_iload_n (pc := 370) hx hb dL_law_370 rfl (lv_at hl 3 rfl) ?_
  refine lv_iconst (pc := 371) (v := 1) hx hb dL_law_371 (by decide) ?_
  refine lv_iadd (pc := 372) hx hb dL_law_372 ?_
  refine va_sld (pc := 373) hx hb hX hbl hbA hS (lx_in (k := 1) rfl (by omega) hL) dL_law_373 ?_
  refine lx_goi (pc := 374) (lx_callV C hts hP (okX4_chamber l g C.2.2.2.2.2.2.2 σ (xs (nI i + 1).toNatClampNeg) r z2) rfl rfl rfl (n := 1) (by decide +kernel) rfl (ci := 4) rfl (tl_kM g σ) gL_law_X4_chamber ⟨(Nat.le_of_ble_eq_true rfl), (Nat.le_of_ble_eq_true rfl)⟩ hl.1 rfl (Nat.le_of_ble_eq_true rfl) dL_law_374 hcl) hAg hS (fun H locs hP hS => ?_)
  refine lv_icmp_eq (pc := 377) (tgt := 989) hx hb dL_law_377 (by decide) (fun _ => ?_) (fun hne => absurd rfl hne)
  exact kk σ _ _ HR hP hS
set_option maxHeartbeats 4000000 in
set_option maxRecDepth 100000 in
theorem lx_8 {p : Program} {l : Launch} {e : Env} {s : State} {m : MethodId} {below : List Frame} {meth : Method} {c : Code} {H : Heap} {locs : List Loc} {cells slots : Nat} {Q : State → Prop} {ls : Array Slot} {g : tl_G} {σ : tl_St} {rt : Option FieldType} {A : Nat → Prop} {b L i : Nat} {xs : Nat → Int32} (C : tl_C p s m meth c cL_law 4 RL rt g) (hts : ∀ w ∈ wsL_law, w.before #[Value.ref b] s = true) (hX : va_X b L xs s s.heap) (hbl : b < s.heap.size) (hbA : ¬ A b) (hAg : ∀ q, tl_A g q → A q) (hi : i + 6 ≤ L) (hL : L ≤ 3072) (hcl : cells ≤ room_1.cells ∧ slots ≤ room_1.slots) (HR : re_R σ) (hP : va_P g.1 vwCl (tl_W g σ) H) (hS : va_S A s.heap H locs) (hl : lv_has ls 4 [(0, .ref b), (1, .ref (tl_ad g 0)), (2, .ref (tl_ad g 34)), (3, .int (nI i))]) (kk : ∀ (σ2 : tl_St) (H1 : Heap) (locs1 : List Loc), re_R σ2 → va_P g.1 vwCl (tl_W g σ2) H1 → va_S A s.heap H1 locs1 → W p l e room_1 s m #[Value.ref b] below meth c H1 locs1 cells slots Q (F0 m 989 ls [])) : W p l e room_1 s m #[Value.ref b] below meth c H locs cells slots Q (F0 m 382 ls []) := by
  have hx := C.1
  have hb := C.2.1
  obtain ⟨r, σ1, σ2, z1, z2, HR2⟩ := re_boat HR (xs (nI i + 1).toNatClampNeg)
  refine lv_aload_n (pc := 382) hx hb dL_law_382 rfl (lv_at hl 1 rfl) ?_
  refine lv_aload_n (pc := 383) hx hb dL_law_383 rfl (lv_at hl 0 rfl) ?_
  refine lv_iload_n (pc := 384) hx hb dL_law_384 rfl (lv_at hl 3 rfl) ?_
  refine lv_iconst (pc := 385) (v := 1) hx hb dL_law_385 (by decide) ?_
  refine lv_iadd (pc := 386) hx hb dL_law_386 ?_
  refine va_sld (pc := 387) hx hb hX hbl hbA hS (lx_in (k := 1) rfl (by omega) hL) dL_law_387 ?_
  refine lx_goi (pc := 388) (lx_callV C hts hP (okX3_boat l g C.2.2.2.2.2.2.2 σ (xs (nI i + 1).toNatClampNeg) r σ1 z1) rfl rfl rfl (n := 1) (by decide +kernel) rfl (ci := 3) rfl (tl_k0 g σ) gL_law_X3_boat ⟨(Nat.le_of_ble_eq_true rfl), (Nat.le_of_ble_eq_true rfl)⟩ hl.1 rfl (Nat.le_of_ble_eq_true rfl) dL_law_388 hcl) hAg hS (fun H locs hP hS => ?_)
  refine lv_aload_n (pc := 391) hx hb dL_law_391 rfl (lv_at hl 2 rfl) ?_
  refine lv_aload_n (pc := 392) hx hb dL_law_392 rfl (lv_at hl 0 rfl) ?_
  refine lv_iload_n (pc := 393) hx hb dL_law_393 rfl (lv_at hl 3 rfl) ?_
  refine lv_iconst (pc := 394) (v := 1) hx hb dL_law_394 (by decide) ?_
  refine lv_iadd (pc := 395) hx hb dL_law_395 ?_
  refine va_sld (pc := 396) hx hb hX hbl hbA hS (lx_in (k := 1) rfl (by omega) hL) dL_law_396 ?_
  refine lx_goi (pc := 397) (lx_callV C hts hP (okX4_boat l g C.2.2.2.2.2.2.2 σ1 (xs (nI i + 1).toNatClampNeg) r σ2 z2) rfl rfl rfl (n := 1) (by decide +kernel) rfl (ci := 4) rfl (tl_kM g σ1) gL_law_X4_boat ⟨(Nat.le_of_ble_eq_true rfl), (Nat.le_of_ble_eq_true rfl)⟩ hl.1 rfl (Nat.le_of_ble_eq_true rfl) dL_law_397 hcl) hAg hS (fun H locs hP hS => ?_)
  refine lv_icmp_eq (pc := 400) (tgt := 989) hx hb dL_law_400 (by decide) (fun _ => ?_) (fun hne => absurd rfl hne)
  exact kk σ2 _ _ HR2 hP hS
set_option maxHeartbeats 4000000 in
set_option maxRecDepth 100000 in
theorem lx_9 {p : Program} {l : Launch} {e : Env} {s : State} {m : MethodId} {below : List Frame} {meth : Method} {c : Code} {H : Heap} {locs : List Loc} {cells slots : Nat} {Q : State → Prop} {ls : Array Slot} {g : tl_G} {σ : tl_St} {rt : Option FieldType} {A : Nat → Prop} {b L i : Nat} {xs : Nat → Int32} (C : tl_C p s m meth c cL_law 4 RL rt g) (hts : ∀ w ∈ wsL_law, w.before #[Value.ref b] s = true) (hX : va_X b L xs s s.heap) (hbl : b < s.heap.size) (hbA : ¬ A b) (hAg : ∀ q, tl_A g q → A q) (hi : i + 6 ≤ L) (hL : L ≤ 3072) (hcl : cells ≤ room_1.cells ∧ slots ≤ room_1.slots) (HR : re_R σ) (hP : va_P g.1 vwCl (tl_W g σ) H) (hS : va_S A s.heap H locs) (hl : lv_has ls 4 [(0, .ref b), (1, .ref (tl_ad g 0)), (2, .ref (tl_ad g 34)), (3, .int (nI i))]) (kk : ∀ (σ2 : tl_St) (H1 : Heap) (locs1 : List Loc), re_R σ2 → va_P g.1 vwCl (tl_W g σ2) H1 → va_S A s.heap H1 locs1 → W p l e room_1 s m #[Value.ref b] below meth c H1 locs1 cells slots Q (F0 m 989 ls [])) : W p l e room_1 s m #[Value.ref b] below meth c H locs cells slots Q (F0 m 405 ls []) := by
  have hx := C.1
  have hb := C.2.1
  obtain ⟨r, σ1, σ2, z1, z2, HR2⟩ := re_leave HR (xs (nI i + 1).toNatClampNeg)
  refine lv_aload_n (pc := 405) hx hb dL_law_405 rfl (lv_at hl 1 rfl) ?_
  refine lv_aload_n (pc := 406) hx hb dL_law_406 rfl (lv_at hl 0 rfl) ?_
  refine lv_iload_n (pc := 407) hx hb dL_law_407 rfl (lv_at hl 3 rfl) ?_
  refine lv_iconst (pc := 408) (v := 1) hx hb dL_law_408 (by decide) ?_
  refine lv_iadd (pc := 409) hx hb dL_law_409 ?_
  refine va_sld (pc := 410) hx hb hX hbl hbA hS (lx_in (k := 1) rfl (by omega) hL) dL_law_410 ?_
  refine lx_goi (pc := 411) (lx_callV C hts hP (okX3_leave l g C.2.2.2.2.2.2.2 σ (xs (nI i + 1).toNatClampNeg) r σ1 z1) rfl rfl rfl (n := 1) (by decide +kernel) rfl (ci := 3) rfl (tl_k0 g σ) gL_law_X3_leave ⟨(Nat.le_of_ble_eq_true rfl), (Nat.le_of_ble_eq_true rfl)⟩ hl.1 rfl (Nat.le_of_ble_eq_true rfl) dL_law_411 hcl) hAg hS (fun H locs hP hS => ?_)
  refine lv_aload_n (pc := 414) hx hb dL_law_414 rfl (lv_at hl 2 rfl) ?_
  refine lv_aload_n (pc := 415) hx hb dL_law_415 rfl (lv_at hl 0 rfl) ?_
  refine lv_iload_n (pc := 416) hx hb dL_law_416 rfl (lv_at hl 3 rfl) ?_
  refine lv_iconst (pc := 417) (v := 1) hx hb dL_law_417 (by decide) ?_
  refine lv_iadd (pc := 418) hx hb dL_law_418 ?_
  refine va_sld (pc := 419) hx hb hX hbl hbA hS (lx_in (k := 1) rfl (by omega) hL) dL_law_419 ?_
  refine lx_goi (pc := 420) (lx_callV C hts hP (okX4_leave l g C.2.2.2.2.2.2.2 σ1 (xs (nI i + 1).toNatClampNeg) r σ2 z2) rfl rfl rfl (n := 1) (by decide +kernel) rfl (ci := 4) rfl (tl_kM g σ1) gL_law_X4_leave ⟨(Nat.le_of_ble_eq_true rfl), (Nat.le_of_ble_eq_true rfl)⟩ hl.1 rfl (Nat.le_of_ble_eq_true rfl) dL_law_420 hcl) hAg hS (fun H locs hP hS => ?_)
  refine lv_icmp_eq (pc := 423) (tgt := 989) hx hb dL_law_423 (by decide) (fun _ => ?_) (fun hne => absurd rfl hne)
  exact kk σ2 _ _ HR2 hP hS
set_option maxHeartbeats 4000000 in
set_option maxRecDepth 100000 in
theorem lx_10 {p : Program} {l : Launch} {e : Env} {s : State} {m : MethodId} {below : List Frame} {meth : Method} {c : Code} {H : Heap} {locs : List Loc} {cells slots : Nat} {Q : State → Prop} {ls : Array Slot} {g : tl_G} {σ : tl_St} {rt : Option FieldType} {A : Nat → Prop} {b L i : Nat} {xs : Nat → Int32} (C : tl_C p s m meth c cL_law 4 RL rt g) (hts : ∀ w ∈ wsL_law, w.before #[Value.ref b] s = true) (hX : va_X b L xs s s.heap) (hbl : b < s.heap.size) (hbA : ¬ A b) (hAg : ∀ q, tl_A g q → A q) (hi : i + 6 ≤ L) (hL : L ≤ 3072) (hcl : cells ≤ room_1.cells ∧ slots ≤ room_1.slots) (HR : re_R σ) (hP : va_P g.1 vwCl (tl_W g σ) H) (hS : va_S A s.heap H locs) (hl : lv_has ls 4 [(0, .ref b), (1, .ref (tl_ad g 0)), (2, .ref (tl_ad g 34)), (3, .int (nI i))]) (kk : ∀ (σ2 : tl_St) (H1 : Heap) (locs1 : List Loc), re_R σ2 → va_P g.1 vwCl (tl_W g σ2) H1 → va_S A s.heap H1 locs1 → W p l e room_1 s m #[Value.ref b] below meth c H1 locs1 cells slots Q (F0 m 989 ls [])) : W p l e room_1 s m #[Value.ref b] below meth c H locs cells slots Q (F0 m 428 ls []) := by
  have hx := C.1
  have hb := C.2.1
  obtain ⟨r, z1, z2⟩ := re_waits HR (xs (nI i + 1).toNatClampNeg) (xs (nI i + 2).toNatClampNeg)
  refine lv_aload_n (pc := 428) hx hb dL_law_428 rfl (lv_at hl 1 rfl) ?_
  refine lv_aload_n (pc := 429) hx hb dL_law_429 rfl (lv_at hl 0 rfl) ?_
  refine lv_iload_n (pc := 430) hx hb dL_law_430 rfl (lv_at hl 3 rfl) ?_
  refine lv_iconst (pc := 431) (v := 1) hx hb dL_law_431 (by decide) ?_
  refine lv_iadd (pc := 432) hx hb dL_law_432 ?_
  refine va_sld (pc := 433) hx hb hX hbl hbA hS (lx_in (k := 1) rfl (by omega) hL) dL_law_433 ?_
  refine lv_aload_n (pc := 434) hx hb dL_law_434 rfl (lv_at hl 0 rfl) ?_
  refine lv_iload_n (pc := 435) hx hb dL_law_435 rfl (lv_at hl 3 rfl) ?_
  refine lv_iconst (pc := 436) (v := 2) hx hb dL_law_436 (by decide) ?_
  refine lv_iadd (pc := 437) hx hb dL_law_437 ?_
  refine va_sld (pc := 438) hx hb hX hbl hbA hS (lx_in (k := 2) rfl (by omega) hL) dL_law_438 ?_
  refine lx_goi (pc := 439) (lx_callV C hts hP (okX3_waits l g C.2.2.2.2.2.2.2 σ (xs (nI i + 1).toNatClampNeg) (xs (nI i + 2).toNatClampNeg) r z1) rfl rfl rfl (n := 2) (by decide +kernel) rfl (ci := 3) rfl (tl_k0 g σ) gL_law_X3_waits ⟨(Nat.le_of_ble_eq_true rfl), (Nat.le_of_ble_eq_true rfl)⟩ hl.1 rfl (Nat.le_of_ble_eq_true rfl) dL_law_439 hcl) hAg hS (fun H locs hP hS => ?_)
  refine lv_aload_n (pc := 442) hx hb dL_law_442 rfl (lv_at hl 2 rfl) ?_
  refine lv_aload_n (pc := 443) hx hb dL_law_443 rfl (lv_at hl 0 rfl) ?_
  refine lv_iload_n (pc := 444) hx hb dL_law_444 rfl (lv_at hl 3 rfl) ?_
  refine lv_iconst (pc := 445) (v := 1) hx hb dL_law_445 (by decide) ?_
  refine lv_iadd (pc := 446) hx hb dL_law_446 ?_
  refine va_sld (pc := 447) hx hb hX hbl hbA hS (lx_in (k := 1) rfl (by omega) hL) dL_law_447 ?_
  refine lv_aload_n (pc := 448) hx hb dL_law_448 rfl (lv_at hl 0 rfl) ?_
  refine lv_iload_n (pc := 449) hx hb dL_law_449 rfl (lv_at hl 3 rfl) ?_
  refine lv_iconst (pc := 450) (v := 2) hx hb dL_law_450 (by decide) ?_
  refine lv_iadd (pc := 451) hx hb dL_law_451 ?_
  refine va_sld (pc := 452) hx hb hX hbl hbA hS (lx_in (k := 2) rfl (by omega) hL) dL_law_452 ?_
  refine lx_goi (pc := 453) (lx_callV C hts hP (okX4_waits l g C.2.2.2.2.2.2.2 σ (xs (nI i + 1).toNatClampNeg) (xs (nI i + 2).toNatClampNeg) r z2) rfl rfl rfl (n := 2) (by decide +kernel) rfl (ci := 4) rfl (tl_kM g σ) gL_law_X4_waits ⟨(Nat.le_of_ble_eq_true rfl), (Nat.le_of_ble_eq_true rfl)⟩ hl.1 rfl (Nat.le_of_ble_eq_true rfl) dL_law_453 hcl) hAg hS (fun H locs hP hS => ?_)
  refine lv_icmp_eq (pc := 456) (tgt := 989) hx hb dL_law_456 (by decide) (fun _ => ?_) (fun hne => absurd rfl hne)
  exact kk σ _ _ HR hP hS
set_option maxHeartbeats 4000000 in
set_option maxRecDepth 100000 in
theorem lx_11 {p : Program} {l : Launch} {e : Env} {s : State} {m : MethodId} {below : List Frame} {meth : Method} {c : Code} {H : Heap} {locs : List Loc} {cells slots : Nat} {Q : State → Prop} {ls : Array Slot} {g : tl_G} {σ : tl_St} {rt : Option FieldType} {A : Nat → Prop} {b L i : Nat} {xs : Nat → Int32} (C : tl_C p s m meth c cL_law 4 RL rt g) (hts : ∀ w ∈ wsL_law, w.before #[Value.ref b] s = true) (hX : va_X b L xs s s.heap) (hbl : b < s.heap.size) (hbA : ¬ A b) (hAg : ∀ q, tl_A g q → A q) (hi : i + 6 ≤ L) (hL : L ≤ 3072) (hcl : cells ≤ room_1.cells ∧ slots ≤ room_1.slots) (HR : re_R σ) (hP : va_P g.1 vwCl (tl_W g σ) H) (hS : va_S A s.heap H locs) (hl : lv_has ls 4 [(0, .ref b), (1, .ref (tl_ad g 0)), (2, .ref (tl_ad g 34)), (3, .int (nI i))]) (kk : ∀ (σ2 : tl_St) (H1 : Heap) (locs1 : List Loc), re_R σ2 → va_P g.1 vwCl (tl_W g σ2) H1 → va_S A s.heap H1 locs1 → W p l e room_1 s m #[Value.ref b] below meth c H1 locs1 cells slots Q (F0 m 989 ls [])) : W p l e room_1 s m #[Value.ref b] below meth c H locs cells slots Q (F0 m 461 ls []) := by
  have hx := C.1
  have hb := C.2.1
  obtain ⟨r, σ1, σ2, z1, z2, HR2⟩ := re_rule HR (xs (nI i + 1).toNatClampNeg)
  refine lv_aload_n (pc := 461) hx hb dL_law_461 rfl (lv_at hl 1 rfl) ?_
  refine lv_aload_n (pc := 462) hx hb dL_law_462 rfl (lv_at hl 0 rfl) ?_
  refine lv_iload_n (pc := 463) hx hb dL_law_463 rfl (lv_at hl 3 rfl) ?_
  refine lv_iconst (pc := 464) (v := 1) hx hb dL_law_464 (by decide) ?_
  refine lv_iadd (pc := 465) hx hb dL_law_465 ?_
  refine va_sld (pc := 466) hx hb hX hbl hbA hS (lx_in (k := 1) rfl (by omega) hL) dL_law_466 ?_
  refine lx_goi (pc := 467) (lx_callV C hts hP (okX3_rule l g C.2.2.2.2.2.2.2 σ (xs (nI i + 1).toNatClampNeg) r σ1 z1) rfl rfl rfl (n := 1) (by decide +kernel) rfl (ci := 3) rfl (tl_k0 g σ) gL_law_X3_rule ⟨(Nat.le_of_ble_eq_true rfl), (Nat.le_of_ble_eq_true rfl)⟩ hl.1 rfl (Nat.le_of_ble_eq_true rfl) dL_law_467 hcl) hAg hS (fun H locs hP hS => ?_)
  refine lv_aload_n (pc := 470) hx hb dL_law_470 rfl (lv_at hl 2 rfl) ?_
  refine lv_aload_n (pc := 471) hx hb dL_law_471 rfl (lv_at hl 0 rfl) ?_
  refine lv_iload_n (pc := 472) hx hb dL_law_472 rfl (lv_at hl 3 rfl) ?_
  refine lv_iconst (pc := 473) (v := 1) hx hb dL_law_473 (by decide) ?_
  refine lv_iadd (pc := 474) hx hb dL_law_474 ?_
  refine va_sld (pc := 475) hx hb hX hbl hbA hS (lx_in (k := 1) rfl (by omega) hL) dL_law_475 ?_
  refine lx_goi (pc := 476) (lx_callV C hts hP (okX4_rule l g C.2.2.2.2.2.2.2 σ1 (xs (nI i + 1).toNatClampNeg) r σ2 z2) rfl rfl rfl (n := 1) (by decide +kernel) rfl (ci := 4) rfl (tl_kM g σ1) gL_law_X4_rule ⟨(Nat.le_of_ble_eq_true rfl), (Nat.le_of_ble_eq_true rfl)⟩ hl.1 rfl (Nat.le_of_ble_eq_true rfl) dL_law_476 hcl) hAg hS (fun H locs hP hS => ?_)
  refine lv_icmp_eq (pc := 479) (tgt := 989) hx hb dL_law_479 (by decide) (fun _ => ?_) (fun hne => absurd rfl hne)
  exact kk σ2 _ _ HR2 hP hS
set_option maxHeartbeats 4000000 in
set_option maxRecDepth 100000 in
theorem lx_12 {p : Program} {l : Launch} {e : Env} {s : State} {m : MethodId} {below : List Frame} {meth : Method} {c : Code} {H : Heap} {locs : List Loc} {cells slots : Nat} {Q : State → Prop} {ls : Array Slot} {g : tl_G} {σ : tl_St} {rt : Option FieldType} {A : Nat → Prop} {b L i : Nat} {xs : Nat → Int32} (C : tl_C p s m meth c cL_law 4 RL rt g) (hts : ∀ w ∈ wsL_law, w.before #[Value.ref b] s = true) (hX : va_X b L xs s s.heap) (hbl : b < s.heap.size) (hbA : ¬ A b) (hAg : ∀ q, tl_A g q → A q) (hi : i + 6 ≤ L) (hL : L ≤ 3072) (hcl : cells ≤ room_1.cells ∧ slots ≤ room_1.slots) (HR : re_R σ) (hP : va_P g.1 vwCl (tl_W g σ) H) (hS : va_S A s.heap H locs) (hl : lv_has ls 4 [(0, .ref b), (1, .ref (tl_ad g 0)), (2, .ref (tl_ad g 34)), (3, .int (nI i))]) (kk : ∀ (σ2 : tl_St) (H1 : Heap) (locs1 : List Loc), re_R σ2 → va_P g.1 vwCl (tl_W g σ2) H1 → va_S A s.heap H1 locs1 → W p l e room_1 s m #[Value.ref b] below meth c H1 locs1 cells slots Q (F0 m 989 ls [])) : W p l e room_1 s m #[Value.ref b] below meth c H locs cells slots Q (F0 m 484 ls []) := by
  have hx := C.1
  have hb := C.2.1
  obtain ⟨r, σ1, σ2, z1, z2, HR2⟩ := re_serve HR 
  refine lv_aload_n (pc := 484) hx hb dL_law_484 rfl (lv_at hl 1 rfl) ?_
  refine lx_goi (pc := 485) (lx_callV C hts hP (okX3_serve l g C.2.2.2.2.2.2.2 σ  r σ1 z1) rfl rfl rfl (n := 0) (by decide +kernel) rfl (ci := 3) rfl (tl_k0 g σ) gL_law_X3_serve ⟨(Nat.le_of_ble_eq_true rfl), (Nat.le_of_ble_eq_true rfl)⟩ hl.1 rfl (Nat.le_of_ble_eq_true rfl) dL_law_485 hcl) hAg hS (fun H locs hP hS => ?_)
  refine lv_aload_n (pc := 488) hx hb dL_law_488 rfl (lv_at hl 2 rfl) ?_
  refine lx_goi (pc := 489) (lx_callV C hts hP (okX4_serve l g C.2.2.2.2.2.2.2 σ1  r σ2 z2) rfl rfl rfl (n := 0) (by decide +kernel) rfl (ci := 4) rfl (tl_kM g σ1) gL_law_X4_serve ⟨(Nat.le_of_ble_eq_true rfl), (Nat.le_of_ble_eq_true rfl)⟩ hl.1 rfl (Nat.le_of_ble_eq_true rfl) dL_law_489 hcl) hAg hS (fun H locs hP hS => ?_)
  refine lv_icmp_eq (pc := 492) (tgt := 989) hx hb dL_law_492 (by decide) (fun _ => ?_) (fun hne => absurd rfl hne)
  exact kk σ2 _ _ HR2 hP hS
set_option maxHeartbeats 4000000 in
set_option maxRecDepth 100000 in
theorem lx_13 {p : Program} {l : Launch} {e : Env} {s : State} {m : MethodId} {below : List Frame} {meth : Method} {c : Code} {H : Heap} {locs : List Loc} {cells slots : Nat} {Q : State → Prop} {ls : Array Slot} {g : tl_G} {σ : tl_St} {rt : Option FieldType} {A : Nat → Prop} {b L i : Nat} {xs : Nat → Int32} (C : tl_C p s m meth c cL_law 4 RL rt g) (hts : ∀ w ∈ wsL_law, w.before #[Value.ref b] s = true) (hX : va_X b L xs s s.heap) (hbl : b < s.heap.size) (hbA : ¬ A b) (hAg : ∀ q, tl_A g q → A q) (hi : i + 6 ≤ L) (hL : L ≤ 3072) (hcl : cells ≤ room_1.cells ∧ slots ≤ room_1.slots) (HR : re_R σ) (hP : va_P g.1 vwCl (tl_W g σ) H) (hS : va_S A s.heap H locs) (hl : lv_has ls 4 [(0, .ref b), (1, .ref (tl_ad g 0)), (2, .ref (tl_ad g 34)), (3, .int (nI i))]) (kk : ∀ (σ2 : tl_St) (H1 : Heap) (locs1 : List Loc), re_R σ2 → va_P g.1 vwCl (tl_W g σ2) H1 → va_S A s.heap H1 locs1 → W p l e room_1 s m #[Value.ref b] below meth c H1 locs1 cells slots Q (F0 m 989 ls [])) : W p l e room_1 s m #[Value.ref b] below meth c H locs cells slots Q (F0 m 497 ls []) := by
  have hx := C.1
  have hb := C.2.1
  obtain ⟨r, z1, z2⟩ := re_next HR (xs (nI i + 1).toNatClampNeg)
  refine lv_aload_n (pc := 497) hx hb dL_law_497 rfl (lv_at hl 1 rfl) ?_
  refine lv_aload_n (pc := 498) hx hb dL_law_498 rfl (lv_at hl 0 rfl) ?_
  refine lv_iload_n (pc := 499) hx hb dL_law_499 rfl (lv_at hl 3 rfl) ?_
  refine lv_iconst (pc := 500) (v := 1) hx hb dL_law_500 (by decide) ?_
  refine lv_iadd (pc := 501) hx hb dL_law_501 ?_
  refine va_sld (pc := 502) hx hb hX hbl hbA hS (lx_in (k := 1) rfl (by omega) hL) dL_law_502 ?_
  refine lx_goi (pc := 503) (lx_callV C hts hP (okX3_next l g C.2.2.2.2.2.2.2 σ (xs (nI i + 1).toNatClampNeg) r z1) rfl rfl rfl (n := 1) (by decide +kernel) rfl (ci := 3) rfl (tl_k0 g σ) gL_law_X3_next ⟨(Nat.le_of_ble_eq_true rfl), (Nat.le_of_ble_eq_true rfl)⟩ hl.1 rfl (Nat.le_of_ble_eq_true rfl) dL_law_503 hcl) hAg hS (fun H locs hP hS => ?_)
  refine lv_aload_n (pc := 506) hx hb dL_law_506 rfl (lv_at hl 2 rfl) ?_
  refine lv_aload_n (pc := 507) hx hb dL_law_507 rfl (lv_at hl 0 rfl) ?_
  refine lv_iload_n (pc := 508) hx hb dL_law_508 rfl (lv_at hl 3 rfl) ?_
  refine lv_iconst (pc := 509) (v := 1) hx hb dL_law_509 (by decide) ?_
  refine lv_iadd (pc := 510) hx hb dL_law_510 ?_
  refine va_sld (pc := 511) hx hb hX hbl hbA hS (lx_in (k := 1) rfl (by omega) hL) dL_law_511 ?_
  refine lx_goi (pc := 512) (lx_callV C hts hP (okX4_next l g C.2.2.2.2.2.2.2 σ (xs (nI i + 1).toNatClampNeg) r z2) rfl rfl rfl (n := 1) (by decide +kernel) rfl (ci := 4) rfl (tl_kM g σ) gL_law_X4_next ⟨(Nat.le_of_ble_eq_true rfl), (Nat.le_of_ble_eq_true rfl)⟩ hl.1 rfl (Nat.le_of_ble_eq_true rfl) dL_law_512 hcl) hAg hS (fun H locs hP hS => ?_)
  refine lv_icmp_eq (pc := 515) (tgt := 989) hx hb dL_law_515 (by decide) (fun _ => ?_) (fun hne => absurd rfl hne)
  exact kk σ _ _ HR hP hS
set_option maxHeartbeats 4000000 in
set_option maxRecDepth 100000 in
theorem lx_14 {p : Program} {l : Launch} {e : Env} {s : State} {m : MethodId} {below : List Frame} {meth : Method} {c : Code} {H : Heap} {locs : List Loc} {cells slots : Nat} {Q : State → Prop} {ls : Array Slot} {g : tl_G} {σ : tl_St} {rt : Option FieldType} {A : Nat → Prop} {b L i : Nat} {xs : Nat → Int32} (C : tl_C p s m meth c cL_law 4 RL rt g) (hts : ∀ w ∈ wsL_law, w.before #[Value.ref b] s = true) (hX : va_X b L xs s s.heap) (hbl : b < s.heap.size) (hbA : ¬ A b) (hAg : ∀ q, tl_A g q → A q) (hi : i + 6 ≤ L) (hL : L ≤ 3072) (hcl : cells ≤ room_1.cells ∧ slots ≤ room_1.slots) (HR : re_R σ) (hP : va_P g.1 vwCl (tl_W g σ) H) (hS : va_S A s.heap H locs) (hl : lv_has ls 4 [(0, .ref b), (1, .ref (tl_ad g 0)), (2, .ref (tl_ad g 34)), (3, .int (nI i))]) (kk : ∀ (σ2 : tl_St) (H1 : Heap) (locs1 : List Loc), re_R σ2 → va_P g.1 vwCl (tl_W g σ2) H1 → va_S A s.heap H1 locs1 → W p l e room_1 s m #[Value.ref b] below meth c H1 locs1 cells slots Q (F0 m 989 ls [])) : W p l e room_1 s m #[Value.ref b] below meth c H locs cells slots Q (F0 m 520 ls []) := by
  have hx := C.1
  have hb := C.2.1
  obtain ⟨r, σ1, σ2, z1, z2, HR2⟩ := re_turn HR 
  refine lv_aload_n (pc := 520) hx hb dL_law_520 rfl (lv_at hl 1 rfl) ?_
  refine lx_goi (pc := 521) (lx_callV C hts hP (okX3_turn l g C.2.2.2.2.2.2.2 σ  r σ1 z1) rfl rfl rfl (n := 0) (by decide +kernel) rfl (ci := 3) rfl (tl_k0 g σ) gL_law_X3_turn ⟨(Nat.le_of_ble_eq_true rfl), (Nat.le_of_ble_eq_true rfl)⟩ hl.1 rfl (Nat.le_of_ble_eq_true rfl) dL_law_521 hcl) hAg hS (fun H locs hP hS => ?_)
  refine lv_aload_n (pc := 524) hx hb dL_law_524 rfl (lv_at hl 2 rfl) ?_
  refine lx_goi (pc := 525) (lx_callV C hts hP (okX4_turn l g C.2.2.2.2.2.2.2 σ1  r σ2 z2) rfl rfl rfl (n := 0) (by decide +kernel) rfl (ci := 4) rfl (tl_kM g σ1) gL_law_X4_turn ⟨(Nat.le_of_ble_eq_true rfl), (Nat.le_of_ble_eq_true rfl)⟩ hl.1 rfl (Nat.le_of_ble_eq_true rfl) dL_law_525 hcl) hAg hS (fun H locs hP hS => ?_)
  refine lv_icmp_eq (pc := 528) (tgt := 989) hx hb dL_law_528 (by decide) (fun _ => ?_) (fun hne => absurd rfl hne)
  exact kk σ2 _ _ HR2 hP hS
set_option maxHeartbeats 4000000 in
set_option maxRecDepth 100000 in
theorem lx_15 {p : Program} {l : Launch} {e : Env} {s : State} {m : MethodId} {below : List Frame} {meth : Method} {c : Code} {H : Heap} {locs : List Loc} {cells slots : Nat} {Q : State → Prop} {ls : Array Slot} {g : tl_G} {σ : tl_St} {rt : Option FieldType} {A : Nat → Prop} {b L i : Nat} {xs : Nat → Int32} (C : tl_C p s m meth c cL_law 4 RL rt g) (hts : ∀ w ∈ wsL_law, w.before #[Value.ref b] s = true) (hX : va_X b L xs s s.heap) (hbl : b < s.heap.size) (hbA : ¬ A b) (hAg : ∀ q, tl_A g q → A q) (hi : i + 6 ≤ L) (hL : L ≤ 3072) (hcl : cells ≤ room_1.cells ∧ slots ≤ room_1.slots) (HR : re_R σ) (hP : va_P g.1 vwCl (tl_W g σ) H) (hS : va_S A s.heap H locs) (hl : lv_has ls 4 [(0, .ref b), (1, .ref (tl_ad g 0)), (2, .ref (tl_ad g 34)), (3, .int (nI i))]) (kk : ∀ (σ2 : tl_St) (H1 : Heap) (locs1 : List Loc), re_R σ2 → va_P g.1 vwCl (tl_W g σ2) H1 → va_S A s.heap H1 locs1 → W p l e room_1 s m #[Value.ref b] below meth c H1 locs1 cells slots Q (F0 m 989 ls [])) : W p l e room_1 s m #[Value.ref b] below meth c H locs cells slots Q (F0 m 533 ls []) := by
  have hx := C.1
  have hb := C.2.1
  obtain ⟨r, z1, z2⟩ := re_ledger HR (xs (nI i + 1).toNatClampNeg) (xs (nI i + 2).toNatClampNeg)
  refine lv_aload_n (pc := 533) hx hb dL_law_533 rfl (lv_at hl 1 rfl) ?_
  refine lv_aload_n (pc := 534) hx hb dL_law_534 rfl (lv_at hl 0 rfl) ?_
  refine lv_iload_n (pc := 535) hx hb dL_law_535 rfl (lv_at hl 3 rfl) ?_
  refine lv_iconst (pc := 536) (v := 1) hx hb dL_law_536 (by decide) ?_
  refine lv_iadd (pc := 537) hx hb dL_law_537 ?_
  refine va_sld (pc := 538) hx hb hX hbl hbA hS (lx_in (k := 1) rfl (by omega) hL) dL_law_538 ?_
  refine lv_aload_n (pc := 539) hx hb dL_law_539 rfl (lv_at hl 0 rfl) ?_
  refine lv_iload_n (pc := 540) hx hb dL_law_540 rfl (lv_at hl 3 rfl) ?_
  refine lv_iconst (pc := 541) (v := 2) hx hb dL_law_541 (by decide) ?_
  refine lv_iadd (pc := 542) hx hb dL_law_542 ?_
  refine va_sld (pc := 543) hx hb hX hbl hbA hS (lx_in (k := 2) rfl (by omega) hL) dL_law_543 ?_
  refine lx_goi (pc := 544) (lx_callV C hts hP (okX3_ledger l g C.2.2.2.2.2.2.2 σ (xs (nI i + 1).toNatClampNeg) (xs (nI i + 2).toNatClampNeg) r z1) rfl rfl rfl (n := 2) (by decide +kernel) rfl (ci := 3) rfl (tl_k0 g σ) gL_law_X3_ledger ⟨(Nat.le_of_ble_eq_true rfl), (Nat.le_of_ble_eq_true rfl)⟩ hl.1 rfl (Nat.le_of_ble_eq_true rfl) dL_law_544 hcl) hAg hS (fun H locs hP hS => ?_)
  refine lv_aload_n (pc := 547) hx hb dL_law_547 rfl (lv_at hl 2 rfl) ?_
  refine lv_aload_n (pc := 548) hx hb dL_law_548 rfl (lv_at hl 0 rfl) ?_
  refine lv_iload_n (pc := 549) hx hb dL_law_549 rfl (lv_at hl 3 rfl) ?_
  refine lv_iconst (pc := 550) (v := 1) hx hb dL_law_550 (by decide) ?_
  refine lv_iadd (pc := 551) hx hb dL_law_551 ?_
  refine va_sld (pc := 552) hx hb hX hbl hbA hS (lx_in (k := 1) rfl (by omega) hL) dL_law_552 ?_
  refine lv_aload_n (pc := 553) hx hb dL_law_553 rfl (lv_at hl 0 rfl) ?_
  refine lv_iload_n (pc := 554) hx hb dL_law_554 rfl (lv_at hl 3 rfl) ?_
  refine lv_iconst (pc := 555) (v := 2) hx hb dL_law_555 (by decide) ?_
  refine lv_iadd (pc := 556) hx hb dL_law_556 ?_
  refine va_sld (pc := 557) hx hb hX hbl hbA hS (lx_in (k := 2) rfl (by omega) hL) dL_law_557 ?_
  refine lx_goi (pc := 558) (lx_callV C hts hP (okX4_ledger l g C.2.2.2.2.2.2.2 σ (xs (nI i + 1).toNatClampNeg) (xs (nI i + 2).toNatClampNeg) r z2) rfl rfl rfl (n := 2) (by decide +kernel) rfl (ci := 4) rfl (tl_kM g σ) gL_law_X4_ledger ⟨(Nat.le_of_ble_eq_true rfl), (Nat.le_of_ble_eq_true rfl)⟩ hl.1 rfl (Nat.le_of_ble_eq_true rfl) dL_law_558 hcl) hAg hS (fun H locs hP hS => ?_)
  refine lv_icmp_eq (pc := 561) (tgt := 989) hx hb dL_law_561 (by decide) (fun _ => ?_) (fun hne => absurd rfl hne)
  exact kk σ _ _ HR hP hS
set_option maxHeartbeats 4000000 in
set_option maxRecDepth 100000 in
theorem lx_16 {p : Program} {l : Launch} {e : Env} {s : State} {m : MethodId} {below : List Frame} {meth : Method} {c : Code} {H : Heap} {locs : List Loc} {cells slots : Nat} {Q : State → Prop} {ls : Array Slot} {g : tl_G} {σ : tl_St} {rt : Option FieldType} {A : Nat → Prop} {b L i : Nat} {xs : Nat → Int32} (C : tl_C p s m meth c cL_law 4 RL rt g) (hts : ∀ w ∈ wsL_law, w.before #[Value.ref b] s = true) (hX : va_X b L xs s s.heap) (hbl : b < s.heap.size) (hbA : ¬ A b) (hAg : ∀ q, tl_A g q → A q) (hi : i + 6 ≤ L) (hL : L ≤ 3072) (hcl : cells ≤ room_1.cells ∧ slots ≤ room_1.slots) (HR : re_R σ) (hP : va_P g.1 vwCl (tl_W g σ) H) (hS : va_S A s.heap H locs) (hl : lv_has ls 4 [(0, .ref b), (1, .ref (tl_ad g 0)), (2, .ref (tl_ad g 34)), (3, .int (nI i))]) (kk : ∀ (σ2 : tl_St) (H1 : Heap) (locs1 : List Loc), re_R σ2 → va_P g.1 vwCl (tl_W g σ2) H1 → va_S A s.heap H1 locs1 → W p l e room_1 s m #[Value.ref b] below meth c H1 locs1 cells slots Q (F0 m 989 ls [])) : W p l e room_1 s m #[Value.ref b] below meth c H locs cells slots Q (F0 m 566 ls []) := by
  have hx := C.1
  have hb := C.2.1
  obtain ⟨r, σ1, σ2, z1, z2, HR2⟩ := re_wipe HR 
  refine lv_aload_n (pc := 566) hx hb dL_law_566 rfl (lv_at hl 1 rfl) ?_
  refine lx_goi (pc := 567) (lx_callV C hts hP (okX3_wipe l g C.2.2.2.2.2.2.2 σ  r σ1 z1) rfl rfl rfl (n := 0) (by decide +kernel) rfl (ci := 3) rfl (tl_k0 g σ) gL_law_X3_wipe ⟨(Nat.le_of_ble_eq_true rfl), (Nat.le_of_ble_eq_true rfl)⟩ hl.1 rfl (Nat.le_of_ble_eq_true rfl) dL_law_567 hcl) hAg hS (fun H locs hP hS => ?_)
  refine lv_aload_n (pc := 570) hx hb dL_law_570 rfl (lv_at hl 2 rfl) ?_
  refine lx_goi (pc := 571) (lx_callV C hts hP (okX4_wipe l g C.2.2.2.2.2.2.2 σ1  r σ2 z2) rfl rfl rfl (n := 0) (by decide +kernel) rfl (ci := 4) rfl (tl_kM g σ1) gL_law_X4_wipe ⟨(Nat.le_of_ble_eq_true rfl), (Nat.le_of_ble_eq_true rfl)⟩ hl.1 rfl (Nat.le_of_ble_eq_true rfl) dL_law_571 hcl) hAg hS (fun H locs hP hS => ?_)
  refine lv_icmp_eq (pc := 574) (tgt := 989) hx hb dL_law_574 (by decide) (fun _ => ?_) (fun hne => absurd rfl hne)
  exact kk σ2 _ _ HR2 hP hS
set_option maxHeartbeats 4000000 in
set_option maxRecDepth 100000 in
theorem lx_17 {p : Program} {l : Launch} {e : Env} {s : State} {m : MethodId} {below : List Frame} {meth : Method} {c : Code} {H : Heap} {locs : List Loc} {cells slots : Nat} {Q : State → Prop} {ls : Array Slot} {g : tl_G} {σ : tl_St} {rt : Option FieldType} {A : Nat → Prop} {b L i : Nat} {xs : Nat → Int32} (C : tl_C p s m meth c cL_law 4 RL rt g) (hts : ∀ w ∈ wsL_law, w.before #[Value.ref b] s = true) (hX : va_X b L xs s s.heap) (hbl : b < s.heap.size) (hbA : ¬ A b) (hAg : ∀ q, tl_A g q → A q) (hi : i + 6 ≤ L) (hL : L ≤ 3072) (hcl : cells ≤ room_1.cells ∧ slots ≤ room_1.slots) (HR : re_R σ) (hP : va_P g.1 vwCl (tl_W g σ) H) (hS : va_S A s.heap H locs) (hl : lv_has ls 4 [(0, .ref b), (1, .ref (tl_ad g 0)), (2, .ref (tl_ad g 34)), (3, .int (nI i))]) (kk : ∀ (σ2 : tl_St) (H1 : Heap) (locs1 : List Loc), re_R σ2 → va_P g.1 vwCl (tl_W g σ2) H1 → va_S A s.heap H1 locs1 → W p l e room_1 s m #[Value.ref b] below meth c H1 locs1 cells slots Q (F0 m 989 ls [])) : W p l e room_1 s m #[Value.ref b] below meth c H locs cells slots Q (F0 m 579 ls []) := by
  have hx := C.1
  have hb := C.2.1
  obtain ⟨r, z1, z2⟩ := re_total HR (xs (nI i + 1).toNatClampNeg)
  refine lv_aload_n (pc := 579) hx hb dL_law_579 rfl (lv_at hl 1 rfl) ?_
  refine lv_aload_n (pc := 580) hx hb dL_law_580 rfl (lv_at hl 0 rfl) ?_
  refine lv_iload_n (pc := 581) hx hb dL_law_581 rfl (lv_at hl 3 rfl) ?_
  refine lv_iconst (pc := 582) (v := 1) hx hb dL_law_582 (by decide) ?_
  refine lv_iadd (pc := 583) hx hb dL_law_583 ?_
  refine va_sld (pc := 584) hx hb hX hbl hbA hS (lx_in (k := 1) rfl (by omega) hL) dL_law_584 ?_
  refine lx_goi (pc := 585) (lx_callV C hts hP (okX3_total l g C.2.2.2.2.2.2.2 σ (xs (nI i + 1).toNatClampNeg) r z1) rfl rfl rfl (n := 1) (by decide +kernel) rfl (ci := 3) rfl (tl_k0 g σ) gL_law_X3_total ⟨(Nat.le_of_ble_eq_true rfl), (Nat.le_of_ble_eq_true rfl)⟩ hl.1 rfl (Nat.le_of_ble_eq_true rfl) dL_law_585 hcl) hAg hS (fun H locs hP hS => ?_)
  refine lv_aload_n (pc := 588) hx hb dL_law_588 rfl (lv_at hl 2 rfl) ?_
  refine lv_aload_n (pc := 589) hx hb dL_law_589 rfl (lv_at hl 0 rfl) ?_
  refine lv_iload_n (pc := 590) hx hb dL_law_590 rfl (lv_at hl 3 rfl) ?_
  refine lv_iconst (pc := 591) (v := 1) hx hb dL_law_591 (by decide) ?_
  refine lv_iadd (pc := 592) hx hb dL_law_592 ?_
  refine va_sld (pc := 593) hx hb hX hbl hbA hS (lx_in (k := 1) rfl (by omega) hL) dL_law_593 ?_
  refine lx_goi (pc := 594) (lx_callV C hts hP (okX4_total l g C.2.2.2.2.2.2.2 σ (xs (nI i + 1).toNatClampNeg) r z2) rfl rfl rfl (n := 1) (by decide +kernel) rfl (ci := 4) rfl (tl_kM g σ) gL_law_X4_total ⟨(Nat.le_of_ble_eq_true rfl), (Nat.le_of_ble_eq_true rfl)⟩ hl.1 rfl (Nat.le_of_ble_eq_true rfl) dL_law_594 hcl) hAg hS (fun H locs hP hS => ?_)
  refine lv_icmp_eq (pc := 597) (tgt := 989) hx hb dL_law_597 (by decide) (fun _ => ?_) (fun hne => absurd rfl hne)
  exact kk σ _ _ HR hP hS
set_option maxHeartbeats 4000000 in
set_option maxRecDepth 100000 in
theorem lx_18 {p : Program} {l : Launch} {e : Env} {s : State} {m : MethodId} {below : List Frame} {meth : Method} {c : Code} {H : Heap} {locs : List Loc} {cells slots : Nat} {Q : State → Prop} {ls : Array Slot} {g : tl_G} {σ : tl_St} {rt : Option FieldType} {A : Nat → Prop} {b L i : Nat} {xs : Nat → Int32} (C : tl_C p s m meth c cL_law 4 RL rt g) (hts : ∀ w ∈ wsL_law, w.before #[Value.ref b] s = true) (hX : va_X b L xs s s.heap) (hbl : b < s.heap.size) (hbA : ¬ A b) (hAg : ∀ q, tl_A g q → A q) (hi : i + 6 ≤ L) (hL : L ≤ 3072) (hcl : cells ≤ room_1.cells ∧ slots ≤ room_1.slots) (HR : re_R σ) (hP : va_P g.1 vwCl (tl_W g σ) H) (hS : va_S A s.heap H locs) (hl : lv_has ls 4 [(0, .ref b), (1, .ref (tl_ad g 0)), (2, .ref (tl_ad g 34)), (3, .int (nI i))]) (kk : ∀ (σ2 : tl_St) (H1 : Heap) (locs1 : List Loc), re_R σ2 → va_P g.1 vwCl (tl_W g σ2) H1 → va_S A s.heap H1 locs1 → W p l e room_1 s m #[Value.ref b] below meth c H1 locs1 cells slots Q (F0 m 989 ls [])) : W p l e room_1 s m #[Value.ref b] below meth c H locs cells slots Q (F0 m 602 ls []) := by
  have hx := C.1
  have hb := C.2.1
  obtain ⟨r, σ1, σ2, z1, z2, HR2⟩ := re_step HR (xs (nI i + 1).toNatClampNeg)
  refine lv_aload_n (pc := 602) hx hb dL_law_602 rfl (lv_at hl 1 rfl) ?_
  refine lv_aload_n (pc := 603) hx hb dL_law_603 rfl (lv_at hl 0 rfl) ?_
  refine lv_iload_n (pc := 604) hx hb dL_law_604 rfl (lv_at hl 3 rfl) ?_
  refine lv_iconst (pc := 605) (v := 1) hx hb dL_law_605 (by decide) ?_
  refine lv_iadd (pc := 606) hx hb dL_law_606 ?_
  refine va_sld (pc := 607) hx hb hX hbl hbA hS (lx_in (k := 1) rfl (by omega) hL) dL_law_607 ?_
  refine lx_goi (pc := 608) (lx_callV C hts hP (okX3_step l g C.2.2.2.2.2.2.2 σ (xs (nI i + 1).toNatClampNeg) r σ1 z1) rfl rfl rfl (n := 1) (by decide +kernel) rfl (ci := 3) rfl (tl_k0 g σ) gL_law_X3_step ⟨(Nat.le_of_ble_eq_true rfl), (Nat.le_of_ble_eq_true rfl)⟩ hl.1 rfl (Nat.le_of_ble_eq_true rfl) dL_law_608 hcl) hAg hS (fun H locs hP hS => ?_)
  refine lv_aload_n (pc := 611) hx hb dL_law_611 rfl (lv_at hl 2 rfl) ?_
  refine lv_aload_n (pc := 612) hx hb dL_law_612 rfl (lv_at hl 0 rfl) ?_
  refine lv_iload_n (pc := 613) hx hb dL_law_613 rfl (lv_at hl 3 rfl) ?_
  refine lv_iconst (pc := 614) (v := 1) hx hb dL_law_614 (by decide) ?_
  refine lv_iadd (pc := 615) hx hb dL_law_615 ?_
  refine va_sld (pc := 616) hx hb hX hbl hbA hS (lx_in (k := 1) rfl (by omega) hL) dL_law_616 ?_
  refine lx_goi (pc := 617) (lx_callV C hts hP (okX4_step l g C.2.2.2.2.2.2.2 σ1 (xs (nI i + 1).toNatClampNeg) r σ2 z2) rfl rfl rfl (n := 1) (by decide +kernel) rfl (ci := 4) rfl (tl_kM g σ1) gL_law_X4_step ⟨(Nat.le_of_ble_eq_true rfl), (Nat.le_of_ble_eq_true rfl)⟩ hl.1 rfl (Nat.le_of_ble_eq_true rfl) dL_law_617 hcl) hAg hS (fun H locs hP hS => ?_)
  refine lv_icmp_eq (pc := 620) (tgt := 989) hx hb dL_law_620 (by decide) (fun _ => ?_) (fun hne => absurd rfl hne)
  exact kk σ2 _ _ HR2 hP hS
set_option maxHeartbeats 4000000 in
set_option maxRecDepth 100000 in
theorem lx_19 {p : Program} {l : Launch} {e : Env} {s : State} {m : MethodId} {below : List Frame} {meth : Method} {c : Code} {H : Heap} {locs : List Loc} {cells slots : Nat} {Q : State → Prop} {ls : Array Slot} {g : tl_G} {σ : tl_St} {rt : Option FieldType} {A : Nat → Prop} {b L i : Nat} {xs : Nat → Int32} (C : tl_C p s m meth c cL_law 4 RL rt g) (hts : ∀ w ∈ wsL_law, w.before #[Value.ref b] s = true) (hX : va_X b L xs s s.heap) (hbl : b < s.heap.size) (hbA : ¬ A b) (hAg : ∀ q, tl_A g q → A q) (hi : i + 6 ≤ L) (hL : L ≤ 3072) (hcl : cells ≤ room_1.cells ∧ slots ≤ room_1.slots) (HR : re_R σ) (hP : va_P g.1 vwCl (tl_W g σ) H) (hS : va_S A s.heap H locs) (hl : lv_has ls 4 [(0, .ref b), (1, .ref (tl_ad g 0)), (2, .ref (tl_ad g 34)), (3, .int (nI i))]) (kk : ∀ (σ2 : tl_St) (H1 : Heap) (locs1 : List Loc), re_R σ2 → va_P g.1 vwCl (tl_W g σ2) H1 → va_S A s.heap H1 locs1 → W p l e room_1 s m #[Value.ref b] below meth c H1 locs1 cells slots Q (F0 m 989 ls [])) : W p l e room_1 s m #[Value.ref b] below meth c H locs cells slots Q (F0 m 625 ls []) := by
  have hx := C.1
  have hb := C.2.1
  obtain ⟨r, σ1, σ2, z1, z2, HR2⟩ := re_ahead HR (xs (nI i + 1).toNatClampNeg)
  refine lv_aload_n (pc := 625) hx hb dL_law_625 rfl (lv_at hl 1 rfl) ?_
  refine lv_aload_n (pc := 626) hx hb dL_law_626 rfl (lv_at hl 0 rfl) ?_
  refine lv_iload_n (pc := 627) hx hb dL_law_627 rfl (lv_at hl 3 rfl) ?_
  refine lv_iconst (pc := 628) (v := 1) hx hb dL_law_628 (by decide) ?_
  refine lv_iadd (pc := 629) hx hb dL_law_629 ?_
  refine va_sld (pc := 630) hx hb hX hbl hbA hS (lx_in (k := 1) rfl (by omega) hL) dL_law_630 ?_
  refine lx_goi (pc := 631) (lx_callV C hts hP (okX3_ahead l g C.2.2.2.2.2.2.2 σ (xs (nI i + 1).toNatClampNeg) r σ1 z1) rfl rfl rfl (n := 1) (by decide +kernel) rfl (ci := 3) rfl (tl_k0 g σ) gL_law_X3_ahead ⟨(Nat.le_of_ble_eq_true rfl), (Nat.le_of_ble_eq_true rfl)⟩ hl.1 rfl (Nat.le_of_ble_eq_true rfl) dL_law_631 hcl) hAg hS (fun H locs hP hS => ?_)
  refine lv_aload_n (pc := 634) hx hb dL_law_634 rfl (lv_at hl 2 rfl) ?_
  refine lv_aload_n (pc := 635) hx hb dL_law_635 rfl (lv_at hl 0 rfl) ?_
  refine lv_iload_n (pc := 636) hx hb dL_law_636 rfl (lv_at hl 3 rfl) ?_
  refine lv_iconst (pc := 637) (v := 1) hx hb dL_law_637 (by decide) ?_
  refine lv_iadd (pc := 638) hx hb dL_law_638 ?_
  refine va_sld (pc := 639) hx hb hX hbl hbA hS (lx_in (k := 1) rfl (by omega) hL) dL_law_639 ?_
  refine lx_goi (pc := 640) (lx_callV C hts hP (okX4_ahead l g C.2.2.2.2.2.2.2 σ1 (xs (nI i + 1).toNatClampNeg) r σ2 z2) rfl rfl rfl (n := 1) (by decide +kernel) rfl (ci := 4) rfl (tl_kM g σ1) gL_law_X4_ahead ⟨(Nat.le_of_ble_eq_true rfl), (Nat.le_of_ble_eq_true rfl)⟩ hl.1 rfl (Nat.le_of_ble_eq_true rfl) dL_law_640 hcl) hAg hS (fun H locs hP hS => ?_)
  refine lv_icmp_eq (pc := 643) (tgt := 989) hx hb dL_law_643 (by decide) (fun _ => ?_) (fun hne => absurd rfl hne)
  exact kk σ2 _ _ HR2 hP hS
set_option maxHeartbeats 4000000 in
set_option maxRecDepth 100000 in
theorem lx_20 {p : Program} {l : Launch} {e : Env} {s : State} {m : MethodId} {below : List Frame} {meth : Method} {c : Code} {H : Heap} {locs : List Loc} {cells slots : Nat} {Q : State → Prop} {ls : Array Slot} {g : tl_G} {σ : tl_St} {rt : Option FieldType} {A : Nat → Prop} {b L i : Nat} {xs : Nat → Int32} (C : tl_C p s m meth c cL_law 4 RL rt g) (hts : ∀ w ∈ wsL_law, w.before #[Value.ref b] s = true) (hX : va_X b L xs s s.heap) (hbl : b < s.heap.size) (hbA : ¬ A b) (hAg : ∀ q, tl_A g q → A q) (hi : i + 6 ≤ L) (hL : L ≤ 3072) (hcl : cells ≤ room_1.cells ∧ slots ≤ room_1.slots) (HR : re_R σ) (hP : va_P g.1 vwCl (tl_W g σ) H) (hS : va_S A s.heap H locs) (hl : lv_has ls 4 [(0, .ref b), (1, .ref (tl_ad g 0)), (2, .ref (tl_ad g 34)), (3, .int (nI i))]) (kk : ∀ (σ2 : tl_St) (H1 : Heap) (locs1 : List Loc), re_R σ2 → va_P g.1 vwCl (tl_W g σ2) H1 → va_S A s.heap H1 locs1 → W p l e room_1 s m #[Value.ref b] below meth c H1 locs1 cells slots Q (F0 m 989 ls [])) : W p l e room_1 s m #[Value.ref b] below meth c H locs cells slots Q (F0 m 648 ls []) := by
  have hx := C.1
  have hb := C.2.1
  obtain ⟨r, σ1, σ2, z1, z2, HR2⟩ := re_better HR (xs (nI i + 1).toNatClampNeg) (xs (nI i + 2).toNatClampNeg)
  refine lv_aload_n (pc := 648) hx hb dL_law_648 rfl (lv_at hl 1 rfl) ?_
  refine lv_aload_n (pc := 649) hx hb dL_law_649 rfl (lv_at hl 0 rfl) ?_
  refine lv_iload_n (pc := 650) hx hb dL_law_650 rfl (lv_at hl 3 rfl) ?_
  refine lv_iconst (pc := 651) (v := 1) hx hb dL_law_651 (by decide) ?_
  refine lv_iadd (pc := 652) hx hb dL_law_652 ?_
  refine va_sld (pc := 653) hx hb hX hbl hbA hS (lx_in (k := 1) rfl (by omega) hL) dL_law_653 ?_
  refine lv_aload_n (pc := 654) hx hb dL_law_654 rfl (lv_at hl 0 rfl) ?_
  refine lv_iload_n (pc := 655) hx hb dL_law_655 rfl (lv_at hl 3 rfl) ?_
  refine lv_iconst (pc := 656) (v := 2) hx hb dL_law_656 (by decide) ?_
  refine lv_iadd (pc := 657) hx hb dL_law_657 ?_
  refine va_sld (pc := 658) hx hb hX hbl hbA hS (lx_in (k := 2) rfl (by omega) hL) dL_law_658 ?_
  refine lx_goi (pc := 659) (lx_callV C hts hP (okX3_better l g C.2.2.2.2.2.2.2 σ (xs (nI i + 1).toNatClampNeg) (xs (nI i + 2).toNatClampNeg) r σ1 z1) rfl rfl rfl (n := 2) (by decide +kernel) rfl (ci := 3) rfl (tl_k0 g σ) gL_law_X3_better ⟨(Nat.le_of_ble_eq_true rfl), (Nat.le_of_ble_eq_true rfl)⟩ hl.1 rfl (Nat.le_of_ble_eq_true rfl) dL_law_659 hcl) hAg hS (fun H locs hP hS => ?_)
  refine lv_aload_n (pc := 662) hx hb dL_law_662 rfl (lv_at hl 2 rfl) ?_
  refine lv_aload_n (pc := 663) hx hb dL_law_663 rfl (lv_at hl 0 rfl) ?_
  refine lv_iload_n (pc := 664) hx hb dL_law_664 rfl (lv_at hl 3 rfl) ?_
  refine lv_iconst (pc := 665) (v := 1) hx hb dL_law_665 (by decide) ?_
  refine lv_iadd (pc := 666) hx hb dL_law_666 ?_
  refine va_sld (pc := 667) hx hb hX hbl hbA hS (lx_in (k := 1) rfl (by omega) hL) dL_law_667 ?_
  refine lv_aload_n (pc := 668) hx hb dL_law_668 rfl (lv_at hl 0 rfl) ?_
  refine lv_iload_n (pc := 669) hx hb dL_law_669 rfl (lv_at hl 3 rfl) ?_
  refine lv_iconst (pc := 670) (v := 2) hx hb dL_law_670 (by decide) ?_
  refine lv_iadd (pc := 671) hx hb dL_law_671 ?_
  refine va_sld (pc := 672) hx hb hX hbl hbA hS (lx_in (k := 2) rfl (by omega) hL) dL_law_672 ?_
  refine lx_goi (pc := 673) (lx_callV C hts hP (okX4_better l g C.2.2.2.2.2.2.2 σ1 (xs (nI i + 1).toNatClampNeg) (xs (nI i + 2).toNatClampNeg) r σ2 z2) rfl rfl rfl (n := 2) (by decide +kernel) rfl (ci := 4) rfl (tl_kM g σ1) gL_law_X4_better ⟨(Nat.le_of_ble_eq_true rfl), (Nat.le_of_ble_eq_true rfl)⟩ hl.1 rfl (Nat.le_of_ble_eq_true rfl) dL_law_673 hcl) hAg hS (fun H locs hP hS => ?_)
  refine lv_icmp_eq (pc := 676) (tgt := 989) hx hb dL_law_676 (by decide) (fun _ => ?_) (fun hne => absurd rfl hne)
  exact kk σ2 _ _ HR2 hP hS
set_option maxHeartbeats 4000000 in
set_option maxRecDepth 100000 in
theorem lx_21 {p : Program} {l : Launch} {e : Env} {s : State} {m : MethodId} {below : List Frame} {meth : Method} {c : Code} {H : Heap} {locs : List Loc} {cells slots : Nat} {Q : State → Prop} {ls : Array Slot} {g : tl_G} {σ : tl_St} {rt : Option FieldType} {A : Nat → Prop} {b L i : Nat} {xs : Nat → Int32} (C : tl_C p s m meth c cL_law 4 RL rt g) (hts : ∀ w ∈ wsL_law, w.before #[Value.ref b] s = true) (hX : va_X b L xs s s.heap) (hbl : b < s.heap.size) (hbA : ¬ A b) (hAg : ∀ q, tl_A g q → A q) (hi : i + 6 ≤ L) (hL : L ≤ 3072) (hcl : cells ≤ room_1.cells ∧ slots ≤ room_1.slots) (HR : re_R σ) (hP : va_P g.1 vwCl (tl_W g σ) H) (hS : va_S A s.heap H locs) (hl : lv_has ls 4 [(0, .ref b), (1, .ref (tl_ad g 0)), (2, .ref (tl_ad g 34)), (3, .int (nI i))]) (kk : ∀ (σ2 : tl_St) (H1 : Heap) (locs1 : List Loc), re_R σ2 → va_P g.1 vwCl (tl_W g σ2) H1 → va_S A s.heap H1 locs1 → W p l e room_1 s m #[Value.ref b] below meth c H1 locs1 cells slots Q (F0 m 989 ls [])) : W p l e room_1 s m #[Value.ref b] below meth c H locs cells slots Q (F0 m 681 ls []) := by
  have hx := C.1
  have hb := C.2.1
  obtain ⟨r, σ1, σ2, z1, z2, HR2⟩ := re_needless HR (xs (nI i + 1).toNatClampNeg)
  refine lv_aload_n (pc := 681) hx hb dL_law_681 rfl (lv_at hl 1 rfl) ?_
  refine lv_aload_n (pc := 682) hx hb dL_law_682 rfl (lv_at hl 0 rfl) ?_
  refine lv_iload_n (pc := 683) hx hb dL_law_683 rfl (lv_at hl 3 rfl) ?_
  refine lv_iconst (pc := 684) (v := 1) hx hb dL_law_684 (by decide) ?_
  refine lv_iadd (pc := 685) hx hb dL_law_685 ?_
  refine va_sld (pc := 686) hx hb hX hbl hbA hS (lx_in (k := 1) rfl (by omega) hL) dL_law_686 ?_
  refine lx_goi (pc := 687) (lx_callV C hts hP (okX3_needless l g C.2.2.2.2.2.2.2 σ (xs (nI i + 1).toNatClampNeg) r σ1 z1) rfl rfl rfl (n := 1) (by decide +kernel) rfl (ci := 3) rfl (tl_k0 g σ) gL_law_X3_needless ⟨(Nat.le_of_ble_eq_true rfl), (Nat.le_of_ble_eq_true rfl)⟩ hl.1 rfl (Nat.le_of_ble_eq_true rfl) dL_law_687 hcl) hAg hS (fun H locs hP hS => ?_)
  refine lv_aload_n (pc := 690) hx hb dL_law_690 rfl (lv_at hl 2 rfl) ?_
  refine lv_aload_n (pc := 691) hx hb dL_law_691 rfl (lv_at hl 0 rfl) ?_
  refine lv_iload_n (pc := 692) hx hb dL_law_692 rfl (lv_at hl 3 rfl) ?_
  refine lv_iconst (pc := 693) (v := 1) hx hb dL_law_693 (by decide) ?_
  refine lv_iadd (pc := 694) hx hb dL_law_694 ?_
  refine va_sld (pc := 695) hx hb hX hbl hbA hS (lx_in (k := 1) rfl (by omega) hL) dL_law_695 ?_
  refine lx_goi (pc := 696) (lx_callV C hts hP (okX4_needless l g C.2.2.2.2.2.2.2 σ1 (xs (nI i + 1).toNatClampNeg) r σ2 z2) rfl rfl rfl (n := 1) (by decide +kernel) rfl (ci := 4) rfl (tl_kM g σ1) gL_law_X4_needless ⟨(Nat.le_of_ble_eq_true rfl), (Nat.le_of_ble_eq_true rfl)⟩ hl.1 rfl (Nat.le_of_ble_eq_true rfl) dL_law_696 hcl) hAg hS (fun H locs hP hS => ?_)
  refine lv_icmp_eq (pc := 699) (tgt := 989) hx hb dL_law_699 (by decide) (fun _ => ?_) (fun hne => absurd rfl hne)
  exact kk σ2 _ _ HR2 hP hS
set_option maxHeartbeats 4000000 in
set_option maxRecDepth 100000 in
theorem lx_22 {p : Program} {l : Launch} {e : Env} {s : State} {m : MethodId} {below : List Frame} {meth : Method} {c : Code} {H : Heap} {locs : List Loc} {cells slots : Nat} {Q : State → Prop} {ls : Array Slot} {g : tl_G} {σ : tl_St} {rt : Option FieldType} {A : Nat → Prop} {b L i : Nat} {xs : Nat → Int32} (C : tl_C p s m meth c cL_law 4 RL rt g) (hts : ∀ w ∈ wsL_law, w.before #[Value.ref b] s = true) (hX : va_X b L xs s s.heap) (hbl : b < s.heap.size) (hbA : ¬ A b) (hAg : ∀ q, tl_A g q → A q) (hi : i + 6 ≤ L) (hL : L ≤ 3072) (hcl : cells ≤ room_1.cells ∧ slots ≤ room_1.slots) (HR : re_R σ) (hP : va_P g.1 vwCl (tl_W g σ) H) (hS : va_S A s.heap H locs) (hl : lv_has ls 4 [(0, .ref b), (1, .ref (tl_ad g 0)), (2, .ref (tl_ad g 34)), (3, .int (nI i))]) (kk : ∀ (σ2 : tl_St) (H1 : Heap) (locs1 : List Loc), re_R σ2 → va_P g.1 vwCl (tl_W g σ2) H1 → va_S A s.heap H1 locs1 → W p l e room_1 s m #[Value.ref b] below meth c H1 locs1 cells slots Q (F0 m 989 ls [])) : W p l e room_1 s m #[Value.ref b] below meth c H locs cells slots Q (F0 m 704 ls []) := by
  have hx := C.1
  have hb := C.2.1
  obtain ⟨r, σ1, σ2, z1, z2, HR2⟩ := re_sheet HR (xs (nI i + 1).toNatClampNeg) (xs (nI i + 2).toNatClampNeg) (xs (nI i + 3).toNatClampNeg)
  refine lv_aload_n (pc := 704) hx hb dL_law_704 rfl (lv_at hl 1 rfl) ?_
  refine lv_aload_n (pc := 705) hx hb dL_law_705 rfl (lv_at hl 0 rfl) ?_
  refine lv_iload_n (pc := 706) hx hb dL_law_706 rfl (lv_at hl 3 rfl) ?_
  refine lv_iconst (pc := 707) (v := 1) hx hb dL_law_707 (by decide) ?_
  refine lv_iadd (pc := 708) hx hb dL_law_708 ?_
  refine va_sld (pc := 709) hx hb hX hbl hbA hS (lx_in (k := 1) rfl (by omega) hL) dL_law_709 ?_
  refine lv_aload_n (pc := 710) hx hb dL_law_710 rfl (lv_at hl 0 rfl) ?_
  refine lv_iload_n (pc := 711) hx hb dL_law_711 rfl (lv_at hl 3 rfl) ?_
  refine lv_iconst (pc := 712) (v := 2) hx hb dL_law_712 (by decide) ?_
  refine lv_iadd (pc := 713) hx hb dL_law_713 ?_
  refine va_sld (pc := 714) hx hb hX hbl hbA hS (lx_in (k := 2) rfl (by omega) hL) dL_law_714 ?_
  refine lv_aload_n (pc := 715) hx hb dL_law_715 rfl (lv_at hl 0 rfl) ?_
  refine lv_iload_n (pc := 716) hx hb dL_law_716 rfl (lv_at hl 3 rfl) ?_
  refine lv_iconst (pc := 717) (v := 3) hx hb dL_law_717 (by decide) ?_
  refine lv_iadd (pc := 718) hx hb dL_law_718 ?_
  refine va_sld (pc := 719) hx hb hX hbl hbA hS (lx_in (k := 3) rfl (by omega) hL) dL_law_719 ?_
  refine lx_goi (pc := 720) (lx_callV C hts hP (okX3_sheet l g C.2.2.2.2.2.2.2 σ (xs (nI i + 1).toNatClampNeg) (xs (nI i + 2).toNatClampNeg) (xs (nI i + 3).toNatClampNeg) r σ1 z1) rfl rfl rfl (n := 3) (by decide +kernel) rfl (ci := 3) rfl (tl_k0 g σ) gL_law_X3_sheet ⟨(Nat.le_of_ble_eq_true rfl), (Nat.le_of_ble_eq_true rfl)⟩ hl.1 rfl (Nat.le_of_ble_eq_true rfl) dL_law_720 hcl) hAg hS (fun H locs hP hS => ?_)
  refine lv_aload_n (pc := 723) hx hb dL_law_723 rfl (lv_at hl 2 rfl) ?_
  refine lv_aload_n (pc := 724) hx hb dL_law_724 rfl (lv_at hl 0 rfl) ?_
  refine lv_iload_n (pc := 725) hx hb dL_law_725 rfl (lv_at hl 3 rfl) ?_
  refine lv_iconst (pc := 726) (v := 1) hx hb dL_law_726 (by decide) ?_
  refine lv_iadd (pc := 727) hx hb dL_law_727 ?_
  refine va_sld (pc := 728) hx hb hX hbl hbA hS (lx_in (k := 1) rfl (by omega) hL) dL_law_728 ?_
  refine lv_aload_n (pc := 729) hx hb dL_law_729 rfl (lv_at hl 0 rfl) ?_
  refine lv_iload_n (pc := 730) hx hb dL_law_730 rfl (lv_at hl 3 rfl) ?_
  refine lv_iconst (pc := 731) (v := 2) hx hb dL_law_731 (by decide) ?_
  refine lv_iadd (pc := 732) hx hb dL_law_732 ?_
  refine va_sld (pc := 733) hx hb hX hbl hbA hS (lx_in (k := 2) rfl (by omega) hL) dL_law_733 ?_
  refine lv_aload_n (pc := 734) hx hb dL_law_734 rfl (lv_at hl 0 rfl) ?_
  refine lv_iload_n (pc := 735) hx hb dL_law_735 rfl (lv_at hl 3 rfl) ?_
  refine lv_iconst (pc := 736) (v := 3) hx hb dL_law_736 (by decide) ?_
  refine lv_iadd (pc := 737) hx hb dL_law_737 ?_
  refine va_sld (pc := 738) hx hb hX hbl hbA hS (lx_in (k := 3) rfl (by omega) hL) dL_law_738 ?_
  refine lx_goi (pc := 739) (lx_callV C hts hP (okX4_sheet l g C.2.2.2.2.2.2.2 σ1 (xs (nI i + 1).toNatClampNeg) (xs (nI i + 2).toNatClampNeg) (xs (nI i + 3).toNatClampNeg) r σ2 z2) rfl rfl rfl (n := 3) (by decide +kernel) rfl (ci := 4) rfl (tl_kM g σ1) gL_law_X4_sheet ⟨(Nat.le_of_ble_eq_true rfl), (Nat.le_of_ble_eq_true rfl)⟩ hl.1 rfl (Nat.le_of_ble_eq_true rfl) dL_law_739 hcl) hAg hS (fun H locs hP hS => ?_)
  refine lv_icmp_eq (pc := 742) (tgt := 989) hx hb dL_law_742 (by decide) (fun _ => ?_) (fun hne => absurd rfl hne)
  exact kk σ2 _ _ HR2 hP hS
set_option maxHeartbeats 4000000 in
set_option maxRecDepth 100000 in
theorem lx_23 {p : Program} {l : Launch} {e : Env} {s : State} {m : MethodId} {below : List Frame} {meth : Method} {c : Code} {H : Heap} {locs : List Loc} {cells slots : Nat} {Q : State → Prop} {ls : Array Slot} {g : tl_G} {σ : tl_St} {rt : Option FieldType} {A : Nat → Prop} {b L i : Nat} {xs : Nat → Int32} (C : tl_C p s m meth c cL_law 4 RL rt g) (hts : ∀ w ∈ wsL_law, w.before #[Value.ref b] s = true) (hX : va_X b L xs s s.heap) (hbl : b < s.heap.size) (hbA : ¬ A b) (hAg : ∀ q, tl_A g q → A q) (hi : i + 6 ≤ L) (hL : L ≤ 3072) (hcl : cells ≤ room_1.cells ∧ slots ≤ room_1.slots) (HR : re_R σ) (hP : va_P g.1 vwCl (tl_W g σ) H) (hS : va_S A s.heap H locs) (hl : lv_has ls 4 [(0, .ref b), (1, .ref (tl_ad g 0)), (2, .ref (tl_ad g 34)), (3, .int (nI i))]) (kk : ∀ (σ2 : tl_St) (H1 : Heap) (locs1 : List Loc), re_R σ2 → va_P g.1 vwCl (tl_W g σ2) H1 → va_S A s.heap H1 locs1 → W p l e room_1 s m #[Value.ref b] below meth c H1 locs1 cells slots Q (F0 m 989 ls [])) : W p l e room_1 s m #[Value.ref b] below meth c H locs cells slots Q (F0 m 747 ls []) := by
  have hx := C.1
  have hb := C.2.1
  obtain ⟨r, σ1, σ2, z1, z2, HR2⟩ := re_lose HR (xs (nI i + 1).toNatClampNeg)
  refine lv_aload_n (pc := 747) hx hb dL_law_747 rfl (lv_at hl 1 rfl) ?_
  refine lv_aload_n (pc := 748) hx hb dL_law_748 rfl (lv_at hl 0 rfl) ?_
  refine lv_iload_n (pc := 749) hx hb dL_law_749 rfl (lv_at hl 3 rfl) ?_
  refine lv_iconst (pc := 750) (v := 1) hx hb dL_law_750 (by decide) ?_
  refine lv_iadd (pc := 751) hx hb dL_law_751 ?_
  refine va_sld (pc := 752) hx hb hX hbl hbA hS (lx_in (k := 1) rfl (by omega) hL) dL_law_752 ?_
  refine lx_goi (pc := 753) (lx_callV C hts hP (okX3_lose l g C.2.2.2.2.2.2.2 σ (xs (nI i + 1).toNatClampNeg) r σ1 z1) rfl rfl rfl (n := 1) (by decide +kernel) rfl (ci := 3) rfl (tl_k0 g σ) gL_law_X3_lose ⟨(Nat.le_of_ble_eq_true rfl), (Nat.le_of_ble_eq_true rfl)⟩ hl.1 rfl (Nat.le_of_ble_eq_true rfl) dL_law_753 hcl) hAg hS (fun H locs hP hS => ?_)
  refine lv_aload_n (pc := 756) hx hb dL_law_756 rfl (lv_at hl 2 rfl) ?_
  refine lv_aload_n (pc := 757) hx hb dL_law_757 rfl (lv_at hl 0 rfl) ?_
  refine lv_iload_n (pc := 758) hx hb dL_law_758 rfl (lv_at hl 3 rfl) ?_
  refine lv_iconst (pc := 759) (v := 1) hx hb dL_law_759 (by decide) ?_
  refine lv_iadd (pc := 760) hx hb dL_law_760 ?_
  refine va_sld (pc := 761) hx hb hX hbl hbA hS (lx_in (k := 1) rfl (by omega) hL) dL_law_761 ?_
  refine lx_goi (pc := 762) (lx_callV C hts hP (okX4_lose l g C.2.2.2.2.2.2.2 σ1 (xs (nI i + 1).toNatClampNeg) r σ2 z2) rfl rfl rfl (n := 1) (by decide +kernel) rfl (ci := 4) rfl (tl_kM g σ1) gL_law_X4_lose ⟨(Nat.le_of_ble_eq_true rfl), (Nat.le_of_ble_eq_true rfl)⟩ hl.1 rfl (Nat.le_of_ble_eq_true rfl) dL_law_762 hcl) hAg hS (fun H locs hP hS => ?_)
  refine lv_icmp_eq (pc := 765) (tgt := 989) hx hb dL_law_765 (by decide) (fun _ => ?_) (fun hne => absurd rfl hne)
  exact kk σ2 _ _ HR2 hP hS
set_option maxHeartbeats 4000000 in
set_option maxRecDepth 100000 in
theorem lx_24 {p : Program} {l : Launch} {e : Env} {s : State} {m : MethodId} {below : List Frame} {meth : Method} {c : Code} {H : Heap} {locs : List Loc} {cells slots : Nat} {Q : State → Prop} {ls : Array Slot} {g : tl_G} {σ : tl_St} {rt : Option FieldType} {A : Nat → Prop} {b L i : Nat} {xs : Nat → Int32} (C : tl_C p s m meth c cL_law 4 RL rt g) (hts : ∀ w ∈ wsL_law, w.before #[Value.ref b] s = true) (hX : va_X b L xs s s.heap) (hbl : b < s.heap.size) (hbA : ¬ A b) (hAg : ∀ q, tl_A g q → A q) (hi : i + 6 ≤ L) (hL : L ≤ 3072) (hcl : cells ≤ room_1.cells ∧ slots ≤ room_1.slots) (HR : re_R σ) (hP : va_P g.1 vwCl (tl_W g σ) H) (hS : va_S A s.heap H locs) (hl : lv_has ls 4 [(0, .ref b), (1, .ref (tl_ad g 0)), (2, .ref (tl_ad g 34)), (3, .int (nI i))]) (kk : ∀ (σ2 : tl_St) (H1 : Heap) (locs1 : List Loc), re_R σ2 → va_P g.1 vwCl (tl_W g σ2) H1 → va_S A s.heap H1 locs1 → W p l e room_1 s m #[Value.ref b] below meth c H1 locs1 cells slots Q (F0 m 989 ls [])) : W p l e room_1 s m #[Value.ref b] below meth c H locs cells slots Q (F0 m 770 ls []) := by
  have hx := C.1
  have hb := C.2.1
  obtain ⟨r, σ1, σ2, z1, z2, HR2⟩ := re_lay HR (xs (nI i + 1).toNatClampNeg) (xs (nI i + 2).toNatClampNeg) (xs (nI i + 3).toNatClampNeg) (xs (nI i + 4).toNatClampNeg)
  refine lv_aload_n (pc := 770) hx hb dL_law_770 rfl (lv_at hl 1 rfl) ?_
  refine lv_aload_n (pc := 771) hx hb dL_law_771 rfl (lv_at hl 0 rfl) ?_
  refine lv_iload_n (pc := 772) hx hb dL_law_772 rfl (lv_at hl 3 rfl) ?_
  refine lv_iconst (pc := 773) (v := 1) hx hb dL_law_773 (by decide) ?_
  refine lv_iadd (pc := 774) hx hb dL_law_774 ?_
  refine va_sld (pc := 775) hx hb hX hbl hbA hS (lx_in (k := 1) rfl (by omega) hL) dL_law_775 ?_
  refine lv_aload_n (pc := 776) hx hb dL_law_776 rfl (lv_at hl 0 rfl) ?_
  refine lv_iload_n (pc := 777) hx hb dL_law_777 rfl (lv_at hl 3 rfl) ?_
  refine lv_iconst (pc := 778) (v := 2) hx hb dL_law_778 (by decide) ?_
  refine lv_iadd (pc := 779) hx hb dL_law_779 ?_
  refine va_sld (pc := 780) hx hb hX hbl hbA hS (lx_in (k := 2) rfl (by omega) hL) dL_law_780 ?_
  refine lv_aload_n (pc := 781) hx hb dL_law_781 rfl (lv_at hl 0 rfl) ?_
  refine lv_iload_n (pc := 782) hx hb dL_law_782 rfl (lv_at hl 3 rfl) ?_
  refine lv_iconst (pc := 783) (v := 3) hx hb dL_law_783 (by decide) ?_
  refine lv_iadd (pc := 784) hx hb dL_law_784 ?_
  refine va_sld (pc := 785) hx hb hX hbl hbA hS (lx_in (k := 3) rfl (by omega) hL) dL_law_785 ?_
  refine lv_aload_n (pc := 786) hx hb dL_law_786 rfl (lv_at hl 0 rfl) ?_
  refine lv_iload_n (pc := 787) hx hb dL_law_787 rfl (lv_at hl 3 rfl) ?_
  refine lv_iconst (pc := 788) (v := 4) hx hb dL_law_788 (by decide) ?_
  refine lv_iadd (pc := 789) hx hb dL_law_789 ?_
  refine va_sld (pc := 790) hx hb hX hbl hbA hS (lx_in (k := 4) rfl (by omega) hL) dL_law_790 ?_
  refine lx_goi (pc := 791) (lx_callV C hts hP (okX3_lay l g C.2.2.2.2.2.2.2 σ (xs (nI i + 1).toNatClampNeg) (xs (nI i + 2).toNatClampNeg) (xs (nI i + 3).toNatClampNeg) (xs (nI i + 4).toNatClampNeg) r σ1 z1) rfl rfl rfl (n := 4) (by decide +kernel) rfl (ci := 3) rfl (tl_k0 g σ) gL_law_X3_lay ⟨(Nat.le_of_ble_eq_true rfl), (Nat.le_of_ble_eq_true rfl)⟩ hl.1 rfl (Nat.le_of_ble_eq_true rfl) dL_law_791 hcl) hAg hS (fun H locs hP hS => ?_)
  refine lv_aload_n (pc := 794) hx hb dL_law_794 rfl (lv_at hl 2 rfl) ?_
  refine lv_aload_n (pc := 795) hx hb dL_law_795 rfl (lv_at hl 0 rfl) ?_
  refine lv_iload_n (pc := 796) hx hb dL_law_796 rfl (lv_at hl 3 rfl) ?_
  refine lv_iconst (pc := 797) (v := 1) hx hb dL_law_797 (by decide) ?_
  refine lv_iadd (pc := 798) hx hb dL_law_798 ?_
  refine va_sld (pc := 799) hx hb hX hbl hbA hS (lx_in (k := 1) rfl (by omega) hL) dL_law_799 ?_
  refine lv_aload_n (pc := 800) hx hb dL_law_800 rfl (lv_at hl 0 rfl) ?_
  refine lv_iload_n (pc := 801) hx hb dL_law_801 rfl (lv_at hl 3 rfl) ?_
  refine lv_iconst (pc := 802) (v := 2) hx hb dL_law_802 (by decide) ?_
  refine lv_iadd (pc := 803) hx hb dL_law_803 ?_
  refine va_sld (pc := 804) hx hb hX hbl hbA hS (lx_in (k := 2) rfl (by omega) hL) dL_law_804 ?_
  refine lv_aload_n (pc := 805) hx hb dL_law_805 rfl (lv_at hl 0 rfl) ?_
  refine lv_iload_n (pc := 806) hx hb dL_law_806 rfl (lv_at hl 3 rfl) ?_
  refine lv_iconst (pc := 807) (v := 3) hx hb dL_law_807 (by decide) ?_
  refine lv_iadd (pc := 808) hx hb dL_law_808 ?_
  refine va_sld (pc := 809) hx hb hX hbl hbA hS (lx_in (k := 3) rfl (by omega) hL) dL_law_809 ?_
  refine lv_aload_n (pc := 810) hx hb dL_law_810 rfl (lv_at hl 0 rfl) ?_
  refine lv_iload_n (pc := 811) hx hb dL_law_811 rfl (lv_at hl 3 rfl) ?_
  refine lv_iconst (pc := 812) (v := 4) hx hb dL_law_812 (by decide) ?_
  refine lv_iadd (pc := 813) hx hb dL_law_813 ?_
  refine va_sld (pc := 814) hx hb hX hbl hbA hS (lx_in (k := 4) rfl (by omega) hL) dL_law_814 ?_
  refine lx_goi (pc := 815) (lx_callV C hts hP (okX4_lay l g C.2.2.2.2.2.2.2 σ1 (xs (nI i + 1).toNatClampNeg) (xs (nI i + 2).toNatClampNeg) (xs (nI i + 3).toNatClampNeg) (xs (nI i + 4).toNatClampNeg) r σ2 z2) rfl rfl rfl (n := 4) (by decide +kernel) rfl (ci := 4) rfl (tl_kM g σ1) gL_law_X4_lay ⟨(Nat.le_of_ble_eq_true rfl), (Nat.le_of_ble_eq_true rfl)⟩ hl.1 rfl (Nat.le_of_ble_eq_true rfl) dL_law_815 hcl) hAg hS (fun H locs hP hS => ?_)
  refine lv_icmp_eq (pc := 818) (tgt := 989) hx hb dL_law_818 (by decide) (fun _ => ?_) (fun hne => absurd rfl hne)
  exact kk σ2 _ _ HR2 hP hS
set_option maxHeartbeats 4000000 in
set_option maxRecDepth 100000 in
theorem lx_25 {p : Program} {l : Launch} {e : Env} {s : State} {m : MethodId} {below : List Frame} {meth : Method} {c : Code} {H : Heap} {locs : List Loc} {cells slots : Nat} {Q : State → Prop} {ls : Array Slot} {g : tl_G} {σ : tl_St} {rt : Option FieldType} {A : Nat → Prop} {b L i : Nat} {xs : Nat → Int32} (C : tl_C p s m meth c cL_law 4 RL rt g) (hts : ∀ w ∈ wsL_law, w.before #[Value.ref b] s = true) (hX : va_X b L xs s s.heap) (hbl : b < s.heap.size) (hbA : ¬ A b) (hAg : ∀ q, tl_A g q → A q) (hi : i + 6 ≤ L) (hL : L ≤ 3072) (hcl : cells ≤ room_1.cells ∧ slots ≤ room_1.slots) (HR : re_R σ) (hP : va_P g.1 vwCl (tl_W g σ) H) (hS : va_S A s.heap H locs) (hl : lv_has ls 4 [(0, .ref b), (1, .ref (tl_ad g 0)), (2, .ref (tl_ad g 34)), (3, .int (nI i))]) (kk : ∀ (σ2 : tl_St) (H1 : Heap) (locs1 : List Loc), re_R σ2 → va_P g.1 vwCl (tl_W g σ2) H1 → va_S A s.heap H1 locs1 → W p l e room_1 s m #[Value.ref b] below meth c H1 locs1 cells slots Q (F0 m 989 ls [])) : W p l e room_1 s m #[Value.ref b] below meth c H locs cells slots Q (F0 m 823 ls []) := by
  have hx := C.1
  have hb := C.2.1
  obtain ⟨r, σ1, σ2, z1, z2, HR2⟩ := re_get HR (xs (nI i + 1).toNatClampNeg) (xs (nI i + 2).toNatClampNeg) (xs (nI i + 3).toNatClampNeg)
  refine lv_aload_n (pc := 823) hx hb dL_law_823 rfl (lv_at hl 1 rfl) ?_
  refine lv_aload_n (pc := 824) hx hb dL_law_824 rfl (lv_at hl 0 rfl) ?_
  refine lv_iload_n (pc := 825) hx hb dL_law_825 rfl (lv_at hl 3 rfl) ?_
  refine lv_iconst (pc := 826) (v := 1) hx hb dL_law_826 (by decide) ?_
  refine lv_iadd (pc := 827) hx hb dL_law_827 ?_
  refine va_sld (pc := 828) hx hb hX hbl hbA hS (lx_in (k := 1) rfl (by omega) hL) dL_law_828 ?_
  refine lv_aload_n (pc := 829) hx hb dL_law_829 rfl (lv_at hl 0 rfl) ?_
  refine lv_iload_n (pc := 830) hx hb dL_law_830 rfl (lv_at hl 3 rfl) ?_
  refine lv_iconst (pc := 831) (v := 2) hx hb dL_law_831 (by decide) ?_
  refine lv_iadd (pc := 832) hx hb dL_law_832 ?_
  refine va_sld (pc := 833) hx hb hX hbl hbA hS (lx_in (k := 2) rfl (by omega) hL) dL_law_833 ?_
  refine lv_aload_n (pc := 834) hx hb dL_law_834 rfl (lv_at hl 0 rfl) ?_
  refine lv_iload_n (pc := 835) hx hb dL_law_835 rfl (lv_at hl 3 rfl) ?_
  refine lv_iconst (pc := 836) (v := 3) hx hb dL_law_836 (by decide) ?_
  refine lv_iadd (pc := 837) hx hb dL_law_837 ?_
  refine va_sld (pc := 838) hx hb hX hbl hbA hS (lx_in (k := 3) rfl (by omega) hL) dL_law_838 ?_
  refine lx_goi (pc := 839) (lx_callV C hts hP (okX3_get l g C.2.2.2.2.2.2.2 σ (xs (nI i + 1).toNatClampNeg) (xs (nI i + 2).toNatClampNeg) (xs (nI i + 3).toNatClampNeg) r σ1 z1) rfl rfl rfl (n := 3) (by decide +kernel) rfl (ci := 3) rfl (tl_k0 g σ) gL_law_X3_get ⟨(Nat.le_of_ble_eq_true rfl), (Nat.le_of_ble_eq_true rfl)⟩ hl.1 rfl (Nat.le_of_ble_eq_true rfl) dL_law_839 hcl) hAg hS (fun H locs hP hS => ?_)
  refine lv_aload_n (pc := 842) hx hb dL_law_842 rfl (lv_at hl 2 rfl) ?_
  refine lv_aload_n (pc := 843) hx hb dL_law_843 rfl (lv_at hl 0 rfl) ?_
  refine lv_iload_n (pc := 844) hx hb dL_law_844 rfl (lv_at hl 3 rfl) ?_
  refine lv_iconst (pc := 845) (v := 1) hx hb dL_law_845 (by decide) ?_
  refine lv_iadd (pc := 846) hx hb dL_law_846 ?_
  refine va_sld (pc := 847) hx hb hX hbl hbA hS (lx_in (k := 1) rfl (by omega) hL) dL_law_847 ?_
  refine lv_aload_n (pc := 848) hx hb dL_law_848 rfl (lv_at hl 0 rfl) ?_
  refine lv_iload_n (pc := 849) hx hb dL_law_849 rfl (lv_at hl 3 rfl) ?_
  refine lv_iconst (pc := 850) (v := 2) hx hb dL_law_850 (by decide) ?_
  refine lv_iadd (pc := 851) hx hb dL_law_851 ?_
  refine va_sld (pc := 852) hx hb hX hbl hbA hS (lx_in (k := 2) rfl (by omega) hL) dL_law_852 ?_
  refine lv_aload_n (pc := 853) hx hb dL_law_853 rfl (lv_at hl 0 rfl) ?_
  refine lv_iload_n (pc := 854) hx hb dL_law_854 rfl (lv_at hl 3 rfl) ?_
  refine lv_iconst (pc := 855) (v := 3) hx hb dL_law_855 (by decide) ?_
  refine lv_iadd (pc := 856) hx hb dL_law_856 ?_
  refine va_sld (pc := 857) hx hb hX hbl hbA hS (lx_in (k := 3) rfl (by omega) hL) dL_law_857 ?_
  refine lx_goi (pc := 858) (lx_callV C hts hP (okX4_get l g C.2.2.2.2.2.2.2 σ1 (xs (nI i + 1).toNatClampNeg) (xs (nI i + 2).toNatClampNeg) (xs (nI i + 3).toNatClampNeg) r σ2 z2) rfl rfl rfl (n := 3) (by decide +kernel) rfl (ci := 4) rfl (tl_kM g σ1) gL_law_X4_get ⟨(Nat.le_of_ble_eq_true rfl), (Nat.le_of_ble_eq_true rfl)⟩ hl.1 rfl (Nat.le_of_ble_eq_true rfl) dL_law_858 hcl) hAg hS (fun H locs hP hS => ?_)
  refine lv_icmp_eq (pc := 861) (tgt := 989) hx hb dL_law_861 (by decide) (fun _ => ?_) (fun hne => absurd rfl hne)
  exact kk σ2 _ _ HR2 hP hS
set_option maxHeartbeats 4000000 in
set_option maxRecDepth 100000 in
theorem lx_26 {p : Program} {l : Launch} {e : Env} {s : State} {m : MethodId} {below : List Frame} {meth : Method} {c : Code} {H : Heap} {locs : List Loc} {cells slots : Nat} {Q : State → Prop} {ls : Array Slot} {g : tl_G} {σ : tl_St} {rt : Option FieldType} {A : Nat → Prop} {b L i : Nat} {xs : Nat → Int32} (C : tl_C p s m meth c cL_law 4 RL rt g) (hts : ∀ w ∈ wsL_law, w.before #[Value.ref b] s = true) (hX : va_X b L xs s s.heap) (hbl : b < s.heap.size) (hbA : ¬ A b) (hAg : ∀ q, tl_A g q → A q) (hi : i + 6 ≤ L) (hL : L ≤ 3072) (hcl : cells ≤ room_1.cells ∧ slots ≤ room_1.slots) (HR : re_R σ) (hP : va_P g.1 vwCl (tl_W g σ) H) (hS : va_S A s.heap H locs) (hl : lv_has ls 4 [(0, .ref b), (1, .ref (tl_ad g 0)), (2, .ref (tl_ad g 34)), (3, .int (nI i))]) (kk : ∀ (σ2 : tl_St) (H1 : Heap) (locs1 : List Loc), re_R σ2 → va_P g.1 vwCl (tl_W g σ2) H1 → va_S A s.heap H1 locs1 → W p l e room_1 s m #[Value.ref b] below meth c H1 locs1 cells slots Q (F0 m 989 ls [])) : W p l e room_1 s m #[Value.ref b] below meth c H locs cells slots Q (F0 m 866 ls []) := by
  have hx := C.1
  have hb := C.2.1
  obtain ⟨r, σ1, σ2, z1, z2, HR2⟩ := re_copy HR (xs (nI i + 1).toNatClampNeg) (xs (nI i + 2).toNatClampNeg) (xs (nI i + 3).toNatClampNeg) (xs (nI i + 4).toNatClampNeg) (xs (nI i + 5).toNatClampNeg)
  refine lv_aload_n (pc := 866) hx hb dL_law_866 rfl (lv_at hl 1 rfl) ?_
  refine lv_aload_n (pc := 867) hx hb dL_law_867 rfl (lv_at hl 0 rfl) ?_
  refine lv_iload_n (pc := 868) hx hb dL_law_868 rfl (lv_at hl 3 rfl) ?_
  refine lv_iconst (pc := 869) (v := 1) hx hb dL_law_869 (by decide) ?_
  refine lv_iadd (pc := 870) hx hb dL_law_870 ?_
  refine va_sld (pc := 871) hx hb hX hbl hbA hS (lx_in (k := 1) rfl (by omega) hL) dL_law_871 ?_
  refine lv_aload_n (pc := 872) hx hb dL_law_872 rfl (lv_at hl 0 rfl) ?_
  refine lv_iload_n (pc := 873) hx hb dL_law_873 rfl (lv_at hl 3 rfl) ?_
  refine lv_iconst (pc := 874) (v := 2) hx hb dL_law_874 (by decide) ?_
  refine lv_iadd (pc := 875) hx hb dL_law_875 ?_
  refine va_sld (pc := 876) hx hb hX hbl hbA hS (lx_in (k := 2) rfl (by omega) hL) dL_law_876 ?_
  refine lv_aload_n (pc := 877) hx hb dL_law_877 rfl (lv_at hl 0 rfl) ?_
  refine lv_iload_n (pc := 878) hx hb dL_law_878 rfl (lv_at hl 3 rfl) ?_
  refine lv_iconst (pc := 879) (v := 3) hx hb dL_law_879 (by decide) ?_
  refine lv_iadd (pc := 880) hx hb dL_law_880 ?_
  refine va_sld (pc := 881) hx hb hX hbl hbA hS (lx_in (k := 3) rfl (by omega) hL) dL_law_881 ?_
  refine lv_aload_n (pc := 882) hx hb dL_law_882 rfl (lv_at hl 0 rfl) ?_
  refine lv_iload_n (pc := 883) hx hb dL_law_883 rfl (lv_at hl 3 rfl) ?_
  refine lv_iconst (pc := 884) (v := 4) hx hb dL_law_884 (by decide) ?_
  refine lv_iadd (pc := 885) hx hb dL_law_885 ?_
  refine va_sld (pc := 886) hx hb hX hbl hbA hS (lx_in (k := 4) rfl (by omega) hL) dL_law_886 ?_
  refine lv_aload_n (pc := 887) hx hb dL_law_887 rfl (lv_at hl 0 rfl) ?_
  refine lv_iload_n (pc := 888) hx hb dL_law_888 rfl (lv_at hl 3 rfl) ?_
  refine lv_iconst (pc := 889) (v := 5) hx hb dL_law_889 (by decide) ?_
  refine lv_iadd (pc := 890) hx hb dL_law_890 ?_
  refine va_sld (pc := 891) hx hb hX hbl hbA hS (lx_in (k := 5) rfl (by omega) hL) dL_law_891 ?_
  refine lx_goi (pc := 892) (lx_callV C hts hP (okX3_copy l g C.2.2.2.2.2.2.2 σ (xs (nI i + 1).toNatClampNeg) (xs (nI i + 2).toNatClampNeg) (xs (nI i + 3).toNatClampNeg) (xs (nI i + 4).toNatClampNeg) (xs (nI i + 5).toNatClampNeg) r σ1 z1) rfl rfl rfl (n := 5) (by decide +kernel) rfl (ci := 3) rfl (tl_k0 g σ) gL_law_X3_copy ⟨(Nat.le_of_ble_eq_true rfl), (Nat.le_of_ble_eq_true rfl)⟩ hl.1 rfl (Nat.le_of_ble_eq_true rfl) dL_law_892 hcl) hAg hS (fun H locs hP hS => ?_)
  refine lv_aload_n (pc := 895) hx hb dL_law_895 rfl (lv_at hl 2 rfl) ?_
  refine lv_aload_n (pc := 896) hx hb dL_law_896 rfl (lv_at hl 0 rfl) ?_
  refine lv_iload_n (pc := 897) hx hb dL_law_897 rfl (lv_at hl 3 rfl) ?_
  refine lv_iconst (pc := 898) (v := 1) hx hb dL_law_898 (by decide) ?_
  refine lv_iadd (pc := 899) hx hb dL_law_899 ?_
  refine va_sld (pc := 900) hx hb hX hbl hbA hS (lx_in (k := 1) rfl (by omega) hL) dL_law_900 ?_
  refine lv_aload_n (pc := 901) hx hb dL_law_901 rfl (lv_at hl 0 rfl) ?_
  refine lv_iload_n (pc := 902) hx hb dL_law_902 rfl (lv_at hl 3 rfl) ?_
  refine lv_iconst (pc := 903) (v := 2) hx hb dL_law_903 (by decide) ?_
  refine lv_iadd (pc := 904) hx hb dL_law_904 ?_
  refine va_sld (pc := 905) hx hb hX hbl hbA hS (lx_in (k := 2) rfl (by omega) hL) dL_law_905 ?_
  refine lv_aload_n (pc := 906) hx hb dL_law_906 rfl (lv_at hl 0 rfl) ?_
  refine lv_iload_n (pc := 907) hx hb dL_law_907 rfl (lv_at hl 3 rfl) ?_
  refine lv_iconst (pc := 908) (v := 3) hx hb dL_law_908 (by decide) ?_
  refine lv_iadd (pc := 909) hx hb dL_law_909 ?_
  refine va_sld (pc := 910) hx hb hX hbl hbA hS (lx_in (k := 3) rfl (by omega) hL) dL_law_910 ?_
  refine lv_aload_n (pc := 911) hx hb dL_law_911 rfl (lv_at hl 0 rfl) ?_
  refine lv_iload_n (pc := 912) hx hb dL_law_912 rfl (lv_at hl 3 rfl) ?_
  refine lv_iconst (pc := 913) (v := 4) hx hb dL_law_913 (by decide) ?_
  refine lv_iadd (pc := 914) hx hb dL_law_914 ?_
  refine va_sld (pc := 915) hx hb hX hbl hbA hS (lx_in (k := 4) rfl (by omega) hL) dL_law_915 ?_
  refine lv_aload_n (pc := 916) hx hb dL_law_916 rfl (lv_at hl 0 rfl) ?_
  refine lv_iload_n (pc := 917) hx hb dL_law_917 rfl (lv_at hl 3 rfl) ?_
  refine lv_iconst (pc := 918) (v := 5) hx hb dL_law_918 (by decide) ?_
  refine lv_iadd (pc := 919) hx hb dL_law_919 ?_
  refine va_sld (pc := 920) hx hb hX hbl hbA hS (lx_in (k := 5) rfl (by omega) hL) dL_law_920 ?_
  refine lx_goi (pc := 921) (lx_callV C hts hP (okX4_copy l g C.2.2.2.2.2.2.2 σ1 (xs (nI i + 1).toNatClampNeg) (xs (nI i + 2).toNatClampNeg) (xs (nI i + 3).toNatClampNeg) (xs (nI i + 4).toNatClampNeg) (xs (nI i + 5).toNatClampNeg) r σ2 z2) rfl rfl rfl (n := 5) (by decide +kernel) rfl (ci := 4) rfl (tl_kM g σ1) gL_law_X4_copy ⟨(Nat.le_of_ble_eq_true rfl), (Nat.le_of_ble_eq_true rfl)⟩ hl.1 rfl (Nat.le_of_ble_eq_true rfl) dL_law_921 hcl) hAg hS (fun H locs hP hS => ?_)
  refine lv_icmp_eq (pc := 924) (tgt := 989) hx hb dL_law_924 (by decide) (fun _ => ?_) (fun hne => absurd rfl hne)
  exact kk σ2 _ _ HR2 hP hS
set_option maxHeartbeats 4000000 in
set_option maxRecDepth 100000 in
theorem lx_27 {p : Program} {l : Launch} {e : Env} {s : State} {m : MethodId} {below : List Frame} {meth : Method} {c : Code} {H : Heap} {locs : List Loc} {cells slots : Nat} {Q : State → Prop} {ls : Array Slot} {g : tl_G} {σ : tl_St} {rt : Option FieldType} {A : Nat → Prop} {b L i : Nat} {xs : Nat → Int32} (C : tl_C p s m meth c cL_law 4 RL rt g) (hts : ∀ w ∈ wsL_law, w.before #[Value.ref b] s = true) (hX : va_X b L xs s s.heap) (hbl : b < s.heap.size) (hbA : ¬ A b) (hAg : ∀ q, tl_A g q → A q) (hi : i + 6 ≤ L) (hL : L ≤ 3072) (hcl : cells ≤ room_1.cells ∧ slots ≤ room_1.slots) (HR : re_R σ) (hP : va_P g.1 vwCl (tl_W g σ) H) (hS : va_S A s.heap H locs) (hl : lv_has ls 4 [(0, .ref b), (1, .ref (tl_ad g 0)), (2, .ref (tl_ad g 34)), (3, .int (nI i))]) (kk : ∀ (σ2 : tl_St) (H1 : Heap) (locs1 : List Loc), re_R σ2 → va_P g.1 vwCl (tl_W g σ2) H1 → va_S A s.heap H1 locs1 → W p l e room_1 s m #[Value.ref b] below meth c H1 locs1 cells slots Q (F0 m 989 ls [])) : W p l e room_1 s m #[Value.ref b] below meth c H locs cells slots Q (F0 m 929 ls []) := by
  have hx := C.1
  have hb := C.2.1
  obtain ⟨r, σ1, σ2, z1, z2, HR2⟩ := re_write HR (xs (nI i + 1).toNatClampNeg)
  refine lv_aload_n (pc := 929) hx hb dL_law_929 rfl (lv_at hl 1 rfl) ?_
  refine lv_aload_n (pc := 930) hx hb dL_law_930 rfl (lv_at hl 0 rfl) ?_
  refine lv_iload_n (pc := 931) hx hb dL_law_931 rfl (lv_at hl 3 rfl) ?_
  refine lv_iconst (pc := 932) (v := 1) hx hb dL_law_932 (by decide) ?_
  refine lv_iadd (pc := 933) hx hb dL_law_933 ?_
  refine va_sld (pc := 934) hx hb hX hbl hbA hS (lx_in (k := 1) rfl (by omega) hL) dL_law_934 ?_
  refine lx_goi (pc := 935) (lx_callV C hts hP (okX3_write l g C.2.2.2.2.2.2.2 σ (xs (nI i + 1).toNatClampNeg) r σ1 z1) rfl rfl rfl (n := 1) (by decide +kernel) rfl (ci := 3) rfl (tl_k0 g σ) gL_law_X3_write ⟨(Nat.le_of_ble_eq_true rfl), (Nat.le_of_ble_eq_true rfl)⟩ hl.1 rfl (Nat.le_of_ble_eq_true rfl) dL_law_935 hcl) hAg hS (fun H locs hP hS => ?_)
  refine lv_aload_n (pc := 938) hx hb dL_law_938 rfl (lv_at hl 2 rfl) ?_
  refine lv_aload_n (pc := 939) hx hb dL_law_939 rfl (lv_at hl 0 rfl) ?_
  refine lv_iload_n (pc := 940) hx hb dL_law_940 rfl (lv_at hl 3 rfl) ?_
  refine lv_iconst (pc := 941) (v := 1) hx hb dL_law_941 (by decide) ?_
  refine lv_iadd (pc := 942) hx hb dL_law_942 ?_
  refine va_sld (pc := 943) hx hb hX hbl hbA hS (lx_in (k := 1) rfl (by omega) hL) dL_law_943 ?_
  refine lx_goi (pc := 944) (lx_callV C hts hP (okX4_write l g C.2.2.2.2.2.2.2 σ1 (xs (nI i + 1).toNatClampNeg) r σ2 z2) rfl rfl rfl (n := 1) (by decide +kernel) rfl (ci := 4) rfl (tl_kM g σ1) gL_law_X4_write ⟨(Nat.le_of_ble_eq_true rfl), (Nat.le_of_ble_eq_true rfl)⟩ hl.1 rfl (Nat.le_of_ble_eq_true rfl) dL_law_944 hcl) hAg hS (fun H locs hP hS => ?_)
  refine lv_icmp_eq (pc := 947) (tgt := 989) hx hb dL_law_947 (by decide) (fun _ => ?_) (fun hne => absurd rfl hne)
  exact kk σ2 _ _ HR2 hP hS
set_option maxHeartbeats 4000000 in
set_option maxRecDepth 100000 in
theorem lx_28 {p : Program} {l : Launch} {e : Env} {s : State} {m : MethodId} {below : List Frame} {meth : Method} {c : Code} {H : Heap} {locs : List Loc} {cells slots : Nat} {Q : State → Prop} {ls : Array Slot} {g : tl_G} {σ : tl_St} {rt : Option FieldType} {A : Nat → Prop} {b L i : Nat} {xs : Nat → Int32} (C : tl_C p s m meth c cL_law 4 RL rt g) (hts : ∀ w ∈ wsL_law, w.before #[Value.ref b] s = true) (hX : va_X b L xs s s.heap) (hbl : b < s.heap.size) (hbA : ¬ A b) (hAg : ∀ q, tl_A g q → A q) (hi : i + 6 ≤ L) (hL : L ≤ 3072) (hcl : cells ≤ room_1.cells ∧ slots ≤ room_1.slots) (HR : re_R σ) (hP : va_P g.1 vwCl (tl_W g σ) H) (hS : va_S A s.heap H locs) (hl : lv_has ls 4 [(0, .ref b), (1, .ref (tl_ad g 0)), (2, .ref (tl_ad g 34)), (3, .int (nI i))]) (kk : ∀ (σ2 : tl_St) (H1 : Heap) (locs1 : List Loc), re_R σ2 → va_P g.1 vwCl (tl_W g σ2) H1 → va_S A s.heap H1 locs1 → W p l e room_1 s m #[Value.ref b] below meth c H1 locs1 cells slots Q (F0 m 989 ls [])) : W p l e room_1 s m #[Value.ref b] below meth c H locs cells slots Q (F0 m 952 ls []) := by
  have hx := C.1
  have hb := C.2.1
  obtain ⟨r, z1, z2⟩ := re_count HR (xs (nI i + 1).toNatClampNeg)
  refine lv_aload_n (pc := 952) hx hb dL_law_952 rfl (lv_at hl 1 rfl) ?_
  refine lv_aload_n (pc := 953) hx hb dL_law_953 rfl (lv_at hl 0 rfl) ?_
  refine lv_iload_n (pc := 954) hx hb dL_law_954 rfl (lv_at hl 3 rfl) ?_
  refine lv_iconst (pc := 955) (v := 1) hx hb dL_law_955 (by decide) ?_
  refine lv_iadd (pc := 956) hx hb dL_law_956 ?_
  refine va_sld (pc := 957) hx hb hX hbl hbA hS (lx_in (k := 1) rfl (by omega) hL) dL_law_957 ?_
  refine lx_goi (pc := 958) (lx_callV C hts hP (okX3_count l g C.2.2.2.2.2.2.2 σ (xs (nI i + 1).toNatClampNeg) r z1) rfl rfl rfl (n := 1) (by decide +kernel) rfl (ci := 3) rfl (tl_k0 g σ) gL_law_X3_count ⟨(Nat.le_of_ble_eq_true rfl), (Nat.le_of_ble_eq_true rfl)⟩ hl.1 rfl (Nat.le_of_ble_eq_true rfl) dL_law_958 hcl) hAg hS (fun H locs hP hS => ?_)
  refine lv_aload_n (pc := 961) hx hb dL_law_961 rfl (lv_at hl 2 rfl) ?_
  refine lv_aload_n (pc := 962) hx hb dL_law_962 rfl (lv_at hl 0 rfl) ?_
  refine lv_iload_n (pc := 963) hx hb dL_law_963 rfl (lv_at hl 3 rfl) ?_
  refine lv_iconst (pc := 964) (v := 1) hx hb dL_law_964 (by decide) ?_
  refine lv_iadd (pc := 965) hx hb dL_law_965 ?_
  refine va_sld (pc := 966) hx hb hX hbl hbA hS (lx_in (k := 1) rfl (by omega) hL) dL_law_966 ?_
  refine lx_goi (pc := 967) (lx_callV C hts hP (okX4_count l g C.2.2.2.2.2.2.2 σ (xs (nI i + 1).toNatClampNeg) r z2) rfl rfl rfl (n := 1) (by decide +kernel) rfl (ci := 4) rfl (tl_kM g σ) gL_law_X4_count ⟨(Nat.le_of_ble_eq_true rfl), (Nat.le_of_ble_eq_true rfl)⟩ hl.1 rfl (Nat.le_of_ble_eq_true rfl) dL_law_967 hcl) hAg hS (fun H locs hP hS => ?_)
  refine lv_icmp_eq (pc := 970) (tgt := 989) hx hb dL_law_970 (by decide) (fun _ => ?_) (fun hne => absurd rfl hne)
  exact kk σ _ _ HR hP hS
set_option maxHeartbeats 4000000 in
set_option maxRecDepth 100000 in
theorem lx_29 {p : Program} {l : Launch} {e : Env} {s : State} {m : MethodId} {below : List Frame} {meth : Method} {c : Code} {H : Heap} {locs : List Loc} {cells slots : Nat} {Q : State → Prop} {ls : Array Slot} {g : tl_G} {σ : tl_St} {rt : Option FieldType} {A : Nat → Prop} {b L i : Nat} {xs : Nat → Int32} (C : tl_C p s m meth c cL_law 4 RL rt g) (hts : ∀ w ∈ wsL_law, w.before #[Value.ref b] s = true) (hX : va_X b L xs s s.heap) (hbl : b < s.heap.size) (hbA : ¬ A b) (hAg : ∀ q, tl_A g q → A q) (hi : i + 6 ≤ L) (hL : L ≤ 3072) (hcl : cells ≤ room_1.cells ∧ slots ≤ room_1.slots) (HR : re_R σ) (hP : va_P g.1 vwCl (tl_W g σ) H) (hS : va_S A s.heap H locs) (hl : lv_has ls 4 [(0, .ref b), (1, .ref (tl_ad g 0)), (2, .ref (tl_ad g 34)), (3, .int (nI i))]) (kk : ∀ (σ2 : tl_St) (H1 : Heap) (locs1 : List Loc), re_R σ2 → va_P g.1 vwCl (tl_W g σ2) H1 → va_S A s.heap H1 locs1 → W p l e room_1 s m #[Value.ref b] below meth c H1 locs1 cells slots Q (F0 m 989 ls [])) : W p l e room_1 s m #[Value.ref b] below meth c H locs cells slots Q (F0 m 975 ls []) := by
  have hx := C.1
  have hb := C.2.1
  obtain ⟨r, σ1, σ2, z1, z2, HR2⟩ := re_digest HR 
  refine lv_aload_n (pc := 975) hx hb dL_law_975 rfl (lv_at hl 1 rfl) ?_
  refine lx_gol (pc := 976) (lx_callV C hts hP (okX3_digest l g C.2.2.2.2.2.2.2 σ  r σ1 z1) rfl rfl rfl (n := 0) (by decide +kernel) rfl (ci := 3) rfl (tl_k0 g σ) gL_law_X3_digest ⟨(Nat.le_of_ble_eq_true rfl), (Nat.le_of_ble_eq_true rfl)⟩ hl.1 rfl (Nat.le_of_ble_eq_true rfl) dL_law_976 hcl) hAg hS (fun H locs hP hS => ?_)
  refine lv_aload_n (pc := 979) hx hb dL_law_979 rfl (lv_at hl 2 rfl) ?_
  refine lx_gol (pc := 980) (lx_callV C hts hP (okX4_digest l g C.2.2.2.2.2.2.2 σ1  r σ2 z2) rfl rfl rfl (n := 0) (by decide +kernel) rfl (ci := 4) rfl (tl_kM g σ1) gL_law_X4_digest ⟨(Nat.le_of_ble_eq_true rfl), (Nat.le_of_ble_eq_true rfl)⟩ hl.1 rfl (Nat.le_of_ble_eq_true rfl) dL_law_980 hcl) hAg hS (fun H locs hP hS => ?_)
  refine W.lcmp (pc := 983) hx hb dL_law_983 ?_
  refine lv_if_eq (pc := 984) (tgt := 989) hx hb dL_law_984 (by decide) (fun _ => ?_) (fun hne => absurd (lx_cmp r) hne)
  exact kk σ2 _ _ HR2 hP hS

theorem lx_head {p : Program} {l : Launch} {e : Env} {s : State} {m : MethodId} {below : List Frame} {meth : Method} {c : Code} {H : Heap} {locs : List Loc} {ls : Array Slot} {g : tl_G} {b L i : Nat} {xs : Nat → Int32} (C : tl_C p s m meth c cL_law 4 RL ret g) (hX : va_X b L xs s s.heap) (hbl : b < s.heap.size) (hL : L ≤ 3072) (hi : i ≤ 4000) (hS : va_S (fun q : Nat => s.heap.size ≤ q) s.heap H locs) (hl : lv_has ls 4 [(0, .ref b), (1, .ref (tl_ad g 0)), (2, .ref (tl_ad g 34)), (3, .int (nI i))]) (kk : i + 6 ≤ L → W p l e room_1 s m #[Value.ref b] below meth c H locs 50 2221 (lw_Z below #[Value.ref b] s) (F0 m 27 ls [])) : W p l e room_1 s m #[Value.ref b] below meth c H locs 50 2221 (lw_Z below #[Value.ref b] s) (F0 m 18 ls []) := by
  have hx := C.1
  have hb := C.2.1
  have hbA : ¬ (fun q : Nat => s.heap.size ≤ q) b := Nat.not_le.mpr hbl
  refine lv_iload_n (pc := 18) hx hb dL_law_18 rfl (lv_at hl 3 rfl) ?_
  refine lv_aload_n (pc := 19) hx hb dL_law_19 rfl (lv_at hl 0 rfl) ?_
  refine va_slen (pc := 20) hx hb hX hbl hbA hS dL_law_20 ?_
  refine lv_bipush (pc := 21) (v := 6) hx hb dL_law_21 (by decide) ?_
  refine lv_isub (pc := 23) hx hb dL_law_23 ?_
  refine lv_icmp_gt (pc := 24) (tgt := 995) hx hb dL_law_24 (by decide) (fun _ => ?_) (fun hc => kk (lx_more hL hi hc))
  refine lv_iconst (pc := 995) (v := 1) hx hb dL_law_995 (by decide) ?_
  refine va_forget hS.2.2 ?_
  refine W.widen (k := 600000) (n := 7302250) (Nat.le_of_ble_eq_true rfl) (Nat.le_of_ble_eq_true rfl) ?_
  exact lw_ret hx hb C.2.2.2.2.1 C.2.2.2.2.2.1 dL_law_996
set_option maxHeartbeats 4000000 in
set_option maxRecDepth 100000 in
theorem lx_switch {p : Program} {l : Launch} {e : Env} {s : State} {m : MethodId} {below : List Frame} {meth : Method} {c : Code} {H : Heap} {locs : List Loc} {cells slots : Nat} {Q : State → Prop} {ls : Array Slot} {g : tl_G} {σ : tl_St} {rt : Option FieldType} {A : Nat → Prop} {b L i : Nat} {xs : Nat → Int32} {X : Int32} (C : tl_C p s m meth c cL_law 4 RL rt g) (hts : ∀ w ∈ wsL_law, w.before #[Value.ref b] s = true) (hX : va_X b L xs s s.heap) (hbl : b < s.heap.size) (hbA : ¬ A b) (hAg : ∀ q, tl_A g q → A q) (hi : i + 6 ≤ L) (hL : L ≤ 3072) (hcl : cells ≤ room_1.cells ∧ slots ≤ room_1.slots) (HR : re_R σ) (hP : va_P g.1 vwCl (tl_W g σ) H) (hS : va_S A s.heap H locs) (hl : lv_has ls 4 [(0, .ref b), (1, .ref (tl_ad g 0)), (2, .ref (tl_ad g 34)), (3, .int (nI i))]) (kk : ∀ (σ2 : tl_St) (H1 : Heap) (locs1 : List Loc), re_R σ2 → va_P g.1 vwCl (tl_W g σ2) H1 → va_S A s.heap H1 locs1 → W p l e room_1 s m #[Value.ref b] below meth c H1 locs1 cells slots Q (F0 m 989 ls [])) : W p l e room_1 s m #[Value.ref b] below meth c H locs cells slots Q (F0 m 33 ls [.int X]) := by
  have hx := C.1
  have hb := C.2.1
  by_cases c0 : X = 0
  · refine lx_swIn (pc := 33) (tgt := 168) hx hb (kv := 0) c0 dL_law_33 (by decide) (by decide) rfl (by decide) ?_
    exact lx_0 C hts hX hbl hbA hAg hi hL hcl HR hP hS hl kk
  by_cases c1 : X = 1
  · refine lx_swIn (pc := 33) (tgt := 191) hx hb (kv := 1) c1 dL_law_33 (by decide) (by decide) rfl (by decide) ?_
    exact lx_1 C hts hX hbl hbA hAg hi hL hcl HR hP hS hl kk
  by_cases c2 : X = 2
  · refine lx_swIn (pc := 33) (tgt := 234) hx hb (kv := 2) c2 dL_law_33 (by decide) (by decide) rfl (by decide) ?_
    exact lx_2 C hts hX hbl hbA hAg hi hL hcl HR hP hS hl kk
  by_cases c3 : X = 3
  · refine lx_swIn (pc := 33) (tgt := 247) hx hb (kv := 3) c3 dL_law_33 (by decide) (by decide) rfl (by decide) ?_
    exact lx_3 C hts hX hbl hbA hAg hi hL hcl HR hP hS hl kk
  by_cases c4 : X = 4
  · refine lx_swIn (pc := 33) (tgt := 270) hx hb (kv := 4) c4 dL_law_33 (by decide) (by decide) rfl (by decide) ?_
    exact lx_4 C hts hX hbl hbA hAg hi hL hcl HR hP hS hl kk
  by_cases c5 : X = 5
  · refine lx_swIn (pc := 33) (tgt := 303) hx hb (kv := 5) c5 dL_law_33 (by decide) (by decide) rfl (by decide) ?_
    exact lx_5 C hts hX hbl hbA hAg hi hL hcl HR hP hS hl kk
  by_cases c6 : X = 6
  · refine lx_swIn (pc := 33) (tgt := 326) hx hb (kv := 6) c6 dL_law_33 (by decide) (by decide) rfl (by decide) ?_
    exact lx_6 C hts hX hbl hbA hAg hi hL hcl HR hP hS hl kk
  by_cases c7 : X = 7
  · refine lx_swIn (pc := 33) (tgt := 359) hx hb (kv := 7) c7 dL_law_33 (by decide) (by decide) rfl (by decide) ?_
    exact lx_7 C hts hX hbl hbA hAg hi hL hcl HR hP hS hl kk
  by_cases c8 : X = 8
  · refine lx_swIn (pc := 33) (tgt := 382) hx hb (kv := 8) c8 dL_law_33 (by decide) (by decide) rfl (by decide) ?_
    exact lx_8 C hts hX hbl hbA hAg hi hL hcl HR hP hS hl kk
  by_cases c9 : X = 9
  · refine lx_swIn (pc := 33) (tgt := 405) hx hb (kv := 9) c9 dL_law_33 (by decide) (by decide) rfl (by decide) ?_
    exact lx_9 C hts hX hbl hbA hAg hi hL hcl HR hP hS hl kk
  by_cases c10 : X = 10
  · refine lx_swIn (pc := 33) (tgt := 428) hx hb (kv := 10) c10 dL_law_33 (by decide) (by decide) rfl (by decide) ?_
    exact lx_10 C hts hX hbl hbA hAg hi hL hcl HR hP hS hl kk
  by_cases c11 : X = 11
  · refine lx_swIn (pc := 33) (tgt := 461) hx hb (kv := 11) c11 dL_law_33 (by decide) (by decide) rfl (by decide) ?_
    exact lx_11 C hts hX hbl hbA hAg hi hL hcl HR hP hS hl kk
  by_cases c12 : X = 12
  · refine lx_swIn (pc := 33) (tgt := 484) hx hb (kv := 12) c12 dL_law_33 (by decide) (by decide) rfl (by decide) ?_
    exact lx_12 C hts hX hbl hbA hAg hi hL hcl HR hP hS hl kk
  by_cases c13 : X = 13
  · refine lx_swIn (pc := 33) (tgt := 497) hx hb (kv := 13) c13 dL_law_33 (by decide) (by decide) rfl (by decide) ?_
    exact lx_13 C hts hX hbl hbA hAg hi hL hcl HR hP hS hl kk
  by_cases c14 : X = 14
  · refine lx_swIn (pc := 33) (tgt := 520) hx hb (kv := 14) c14 dL_law_33 (by decide) (by decide) rfl (by decide) ?_
    exact lx_14 C hts hX hbl hbA hAg hi hL hcl HR hP hS hl kk
  by_cases c15 : X = 15
  · refine lx_swIn (pc := 33) (tgt := 533) hx hb (kv := 15) c15 dL_law_33 (by decide) (by decide) rfl (by decide) ?_
    exact lx_15 C hts hX hbl hbA hAg hi hL hcl HR hP hS hl kk
  by_cases c16 : X = 16
  · refine lx_swIn (pc := 33) (tgt := 566) hx hb (kv := 16) c16 dL_law_33 (by decide) (by decide) rfl (by decide) ?_
    exact lx_16 C hts hX hbl hbA hAg hi hL hcl HR hP hS hl kk
  by_cases c17 : X = 17
  · refine lx_swIn (pc := 33) (tgt := 579) hx hb (kv := 17) c17 dL_law_33 (by decide) (by decide) rfl (by decide) ?_
    exact lx_17 C hts hX hbl hbA hAg hi hL hcl HR hP hS hl kk
  by_cases c18 : X = 18
  · refine lx_swIn (pc := 33) (tgt := 602) hx hb (kv := 18) c18 dL_law_33 (by decide) (by decide) rfl (by decide) ?_
    exact lx_18 C hts hX hbl hbA hAg hi hL hcl HR hP hS hl kk
  by_cases c19 : X = 19
  · refine lx_swIn (pc := 33) (tgt := 625) hx hb (kv := 19) c19 dL_law_33 (by decide) (by decide) rfl (by decide) ?_
    exact lx_19 C hts hX hbl hbA hAg hi hL hcl HR hP hS hl kk
  by_cases c20 : X = 20
  · refine lx_swIn (pc := 33) (tgt := 648) hx hb (kv := 20) c20 dL_law_33 (by decide) (by decide) rfl (by decide) ?_
    exact lx_20 C hts hX hbl hbA hAg hi hL hcl HR hP hS hl kk
  by_cases c21 : X = 21
  · refine lx_swIn (pc := 33) (tgt := 681) hx hb (kv := 21) c21 dL_law_33 (by decide) (by decide) rfl (by decide) ?_
    exact lx_21 C hts hX hbl hbA hAg hi hL hcl HR hP hS hl kk
  by_cases c22 : X = 22
  · refine lx_swIn (pc := 33) (tgt := 704) hx hb (kv := 22) c22 dL_law_33 (by decide) (by decide) rfl (by decide) ?_
    exact lx_22 C hts hX hbl hbA hAg hi hL hcl HR hP hS hl kk
  by_cases c23 : X = 23
  · refine lx_swIn (pc := 33) (tgt := 747) hx hb (kv := 23) c23 dL_law_33 (by decide) (by decide) rfl (by decide) ?_
    exact lx_23 C hts hX hbl hbA hAg hi hL hcl HR hP hS hl kk
  by_cases c24 : X = 24
  · refine lx_swIn (pc := 33) (tgt := 770) hx hb (kv := 24) c24 dL_law_33 (by decide) (by decide) rfl (by decide) ?_
    exact lx_24 C hts hX hbl hbA hAg hi hL hcl HR hP hS hl kk
  by_cases c25 : X = 25
  · refine lx_swIn (pc := 33) (tgt := 823) hx hb (kv := 25) c25 dL_law_33 (by decide) (by decide) rfl (by decide) ?_
    exact lx_25 C hts hX hbl hbA hAg hi hL hcl HR hP hS hl kk
  by_cases c26 : X = 26
  · refine lx_swIn (pc := 33) (tgt := 866) hx hb (kv := 26) c26 dL_law_33 (by decide) (by decide) rfl (by decide) ?_
    exact lx_26 C hts hX hbl hbA hAg hi hL hcl HR hP hS hl kk
  by_cases c27 : X = 27
  · refine lx_swIn (pc := 33) (tgt := 929) hx hb (kv := 27) c27 dL_law_33 (by decide) (by decide) rfl (by decide) ?_
    exact lx_27 C hts hX hbl hbA hAg hi hL hcl HR hP hS hl kk
  by_cases c28 : X = 28
  · refine lx_swIn (pc := 33) (tgt := 952) hx hb (kv := 28) c28 dL_law_33 (by decide) (by decide) rfl (by decide) ?_
    exact lx_28 C hts hX hbl hbA hAg hi hL hcl HR hP hS hl kk
  by_cases c29 : X = 29
  · refine lx_swIn (pc := 33) (tgt := 975) hx hb (kv := 29) c29 dL_law_33 (by decide) (by decide) rfl (by decide) ?_
    exact lx_29 C hts hX hbl hbA hAg hi hL hcl HR hP hS hl kk
  have hsw : X.toInt < 0 ∨ 29 < X.toInt := by
    have n0 := tl_ne (k := 0) c0 (by decide) (by decide)
    have n1 := tl_ne (k := 1) c1 (by decide) (by decide)
    have n2 := tl_ne (k := 2) c2 (by decide) (by decide)
    have n3 := tl_ne (k := 3) c3 (by decide) (by decide)
    have n4 := tl_ne (k := 4) c4 (by decide) (by decide)
    have n5 := tl_ne (k := 5) c5 (by decide) (by decide)
    have n6 := tl_ne (k := 6) c6 (by decide) (by decide)
    have n7 := tl_ne (k := 7) c7 (by decide) (by decide)
    have n8 := tl_ne (k := 8) c8 (by decide) (by decide)
    have n9 := tl_ne (k := 9) c9 (by decide) (by decide)
    have n10 := tl_ne (k := 10) c10 (by decide) (by decide)
    have n11 := tl_ne (k := 11) c11 (by decide) (by decide)
    have n12 := tl_ne (k := 12) c12 (by decide) (by decide)
    have n13 := tl_ne (k := 13) c13 (by decide) (by decide)
    have n14 := tl_ne (k := 14) c14 (by decide) (by decide)
    have n15 := tl_ne (k := 15) c15 (by decide) (by decide)
    have n16 := tl_ne (k := 16) c16 (by decide) (by decide)
    have n17 := tl_ne (k := 17) c17 (by decide) (by decide)
    have n18 := tl_ne (k := 18) c18 (by decide) (by decide)
    have n19 := tl_ne (k := 19) c19 (by decide) (by decide)
    have n20 := tl_ne (k := 20) c20 (by decide) (by decide)
    have n21 := tl_ne (k := 21) c21 (by decide) (by decide)
    have n22 := tl_ne (k := 22) c22 (by decide) (by decide)
    have n23 := tl_ne (k := 23) c23 (by decide) (by decide)
    have n24 := tl_ne (k := 24) c24 (by decide) (by decide)
    have n25 := tl_ne (k := 25) c25 (by decide) (by decide)
    have n26 := tl_ne (k := 26) c26 (by decide) (by decide)
    have n27 := tl_ne (k := 27) c27 (by decide) (by decide)
    have n28 := tl_ne (k := 28) c28 (by decide) (by decide)
    have n29 := tl_ne (k := 29) c29 (by decide) (by decide)
    omega
  refine lv_tableOut (pc := 33) (tgt := 989) hx hb dL_law_33 hsw (by decide) ?_
  exact kk σ _ _ HR hP hS
theorem lx_loop {p : Program} {l : Launch} {e : Env} {s : State} {m : MethodId} {below : List Frame} {meth : Method} {c : Code} {g : tl_G} {b L : Nat} {xs : Nat → Int32} (C : tl_C p s m meth c cL_law 4 RL ret g) (hts : ∀ w ∈ wsL_law, w.before #[Value.ref b] s = true) (hX : va_X b L xs s s.heap) (hbl : b < s.heap.size) (hAg : ∀ q, tl_A g q → s.heap.size ≤ q) (hL : L ≤ 3072) : ∀ (n i : Nat) (σ : tl_St) (H : Heap) (locs : List Loc) (ls : Array Slot), L + 6 ≤ i + 6 * n → i ≤ 4000 → re_R σ → va_P g.1 vwCl (tl_W g σ) H → va_S (fun q : Nat => s.heap.size ≤ q) s.heap H locs → lv_has ls 4 [(0, .ref b), (1, .ref (tl_ad g 0)), (2, .ref (tl_ad g 34)), (3, .int (nI i))] → W p l e room_1 s m #[Value.ref b] below meth c H locs 50 2221 (lw_Z below #[Value.ref b] s) (F0 m 18 ls []) := by
  have hx := C.1
  have hb := C.2.1
  have hbA : ¬ (fun q : Nat => s.heap.size ≤ q) b := Nat.not_le.mpr hbl
  intro n
  induction n with
  | zero =>
    intro i σ H locs ls hn hi HR hP hS hl
    exact lx_head C hX hbl hL hi hS hl (fun h6 => absurd h6 (by omega))
  | succ n ih =>
    intro i σ H locs ls hn hi HR hP hS hl
    refine lx_head C hX hbl hL hi hS hl (fun h6 => ?_)
    refine lv_aload_n (pc := 27) hx hb dL_law_27 rfl (lv_at hl 0 rfl) ?_
    refine lv_iload_n (pc := 28) hx hb dL_law_28 rfl (lv_at hl 3 rfl) ?_
    refine va_sld (pc := 29) hx hb hX hbl hbA hS (vp_in_nI (by omega) (by omega)) dL_law_29 ?_
    refine lv_bipush (pc := 30) (v := 31) hx hb dL_law_30 (by decide) ?_
    refine lv_iand (pc := 32) hx hb dL_law_32 ?_
    refine lx_switch C hts hX hbl hbA hAg h6 hL ⟨Nat.le_of_ble_eq_true rfl, Nat.le_of_ble_eq_true rfl⟩ HR hP hS hl (fun σ2 H1 locs1 HR2 hP2 hS2 => ?_)
    refine lv_iinc (pc := 989) (v := nI (i + 6)) (lv' := [(3, .int (nI (i + 6))), (0, .ref b), (1, .ref (tl_ad g 0)), (2, .ref (tl_ad g 34))]) hx hb dL_law_989 hl (k := 3) rfl (nI_add i 6) (by decide) rfl (fun ls hl => ?_)
    refine lv_goto (pc := 992) (tgt := 18) hx hb dL_law_992 (by decide) ?_
    exact ih (i + 6) σ2 H1 locs1 ls (by omega) (by omega) HR2 hP2 hS2 (lv_sub hl [1, 2, 3, 0] rfl)

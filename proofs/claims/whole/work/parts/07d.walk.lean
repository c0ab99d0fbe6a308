abbrev rX3_choiceOf : Room := { frames := 0, cells := 0, slots := 0, locals := 0 }
set_option maxHeartbeats 4000000 in
set_option maxRecDepth 100000 in
theorem okX3_choiceOf (l : Launch) (g : tl_G) (hI : tl_I g) (σ : tl_St) (a1 : Int32) (a2 : Int32) (ro : Int32) (h : fX3_choiceOf σ a1 a2 = ro) : Met l yX3_choiceOf wsX3_choiceOf rX3_choiceOf (va_Pc [.int a1, .int a2] (tl_Pre g σ)) (tl_Qi g ro σ) 0 0 (tl_A g) := by
  refine tl_enter (cc := cX3_choiceOf) (maxL := 2) (ret := (some .int)) (own := RX3) hI (by decide) rfl rfl (Nat.le_of_ble_eq_true rfl) ?_
  intro p e s m below meth c C hts H locs hP hS ls hl
  have hx := C.1
  have hb := C.2.1
  have hl : lv_has ls 2 [(0, .int a1), (1, .int a2)] := hl
  unfold fX3_choiceOf at h
  refine lv_iload_n (pc := 0) hx hb dX3_choiceOf_0 rfl (lv_at hl 1 rfl) ?_
  refine lv_bipush (pc := 1) (v := 6) hx hb dX3_choiceOf_1 (by decide) ?_
  refine lv_ishl (pc := 3) hx hb dX3_choiceOf_3 ?_
  refine lv_iload_n (pc := 4) hx hb dX3_choiceOf_4 rfl (lv_at hl 0 rfl) ?_
  refine lv_ior (pc := 5) hx hb dX3_choiceOf_5 ?_
  exact tl_Ritr (pc := 6) C h hP hS dX3_choiceOf_6
theorem caX3_choiceOf {p : Program} {l : Launch} {e : Env} {R : Room} {s : State} {m : MethodId} {args : Array Value} {below : List Frame} {meth : Method} {c : Code} {H : Heap} {locs : List Loc} {Q : State → Prop} {cc : ByteArray} {pc : Nat} {ls : Array Slot} {rest : List Value} {g : tl_G} {σ : tl_St} {H0 : Heap} {nL : Nat} {own : String} {ret : Option FieldType} {index : Nat} (C : tl_C p s m meth c cc nL own ret g) {Ts : List Cond} (hts : ∀ w ∈ Ts, w.before args s = true) (hP : va_P g.1 vwCl (tl_W g σ) H) (hS : va_S (tl_A g) H0 H locs) {a1 : Int32} {a2 : Int32} {ro : Int32} (h : fX3_choiceOf σ a1 a2 = ro) (hG : GoodIn Ts (va_wsS own index yX3_choiceOf wsX3_choiceOf)) (hR : 0 + 1 ≤ R.frames ∧ 8 + (2 + 11) + 0 ≤ R.locals) (hls : ls.size = nL) (hrm : (rest.map fun v => v.category).sum ≤ 8) (hdg : decode cc pc = .ok (.invokestatic index, 3)) (kk : ∀ (H1 : Heap) (locs1 : List Loc), va_P g.1 vwCl (tl_W g σ) H1 → va_S (tl_A g) H0 H1 locs1 → W p l e R s m args below meth c H1 locs1 0 0 Q (F0 m (pc + 3) ls (.int ro :: rest))) : W p l e R s m args below meth c H locs 0 0 Q (F0 m pc ls (.int a2 :: .int a1 :: rest)) :=
  tl_goi (tl_callS C hts hP (okX3_choiceOf l g C.2.2.2.2.2.2.2 σ a1 a2 ro h) rfl rfl rfl (n := 2) (by decide +kernel) rfl hG hR hls rfl hrm hdg) hS kk
abbrev rX3_bestBottom : Room := { frames := 4, cells := 0, slots := 0, locals := 96 }
set_option maxHeartbeats 4000000 in
set_option maxRecDepth 100000 in
theorem okX3_bestBottom (l : Launch) (g : tl_G) (hI : tl_I g) (σ : tl_St) (a1 : Int32) (ro : Int32) (σo : tl_St) (h : fX3_bestBottom σ a1 = some (ro, σo)) : Met l yX3_bestBottom wsX3_bestBottom rX3_bestBottom (va_Pc [.ref (tl_ad g 0), .int a1] (tl_Pre g σ)) (tl_Qi g ro σo) 0 0 (tl_A g) := by
  refine tl_enter (cc := cX3_bestBottom) (maxL := 6) (ret := (some .int)) (own := RX3) hI (by decide) rfl rfl (Nat.le_of_ble_eq_true rfl) ?_
  intro p e s m below meth c C hts H locs hP hS ls hl
  have hx := C.1
  have hb := C.2.1
  have hl : lv_has ls 6 [(0, .ref (tl_ad g 0)), (1, .int a1)] := hl
  have hc2 : ∀ w ∈ u_ws RX2 TX2 14, w.before [.ref (tl_ad g 0), .int a1].toArray s = true := fun w hw => hts w (List.mem_cons_of_mem _ (List.mem_append_right _ hw))
  have hc3 : ∀ w ∈ u_ws RX3 TX3 13, w.before [.ref (tl_ad g 0), .int a1].toArray s = true := fun w hw => hts w (List.mem_cons_of_mem _ (List.mem_append_left _ (List.mem_append_right _ hw)))
  have lk0 : (Cond.constant RX3 181 (1000000)).before [.ref (tl_ad g 0), .int a1].toArray s = true := hts _ (List.mem_cons_of_mem _ (List.mem_append_left _ (List.mem_append_left _ (List.mem_append_left _ (List.mem_of_getElem? (i := 0) rfl)))))
  have lk1 : (Cond.fieldLink RX3 16 "ThriftLock" "trial" "LThriftLock$Water;").before [.ref (tl_ad g 0), .int a1].toArray s = true := hts _ (List.mem_cons_of_mem _ (List.mem_append_left _ (List.mem_append_left _ (List.mem_append_left _ (List.mem_of_getElem? (i := 1) rfl)))))
  have lk2 : (Cond.fieldLink RX3 10 "ThriftLock" "water" "LThriftLock$Water;").before [.ref (tl_ad g 0), .int a1].toArray s = true := hts _ (List.mem_cons_of_mem _ (List.mem_append_left _ (List.mem_append_left _ (List.mem_append_left _ (List.mem_of_getElem? (i := 2) rfl)))))
  have lk3 : (Cond.fieldLink RX3 85 "ThriftLock$Water" "bottom" "[I").before [.ref (tl_ad g 0), .int a1].toArray s = true := hts _ (List.mem_cons_of_mem _ (List.mem_append_left _ (List.mem_append_left _ (List.mem_append_left _ (List.mem_of_getElem? (i := 3) rfl)))))
  unfold fX3_bestBottom at h
  refine lv_iconst (pc := 0) (v := (-1)) hx hb dX3_bestBottom_0 (by decide) ?_
  refine lv_istore_n (pc := 1) (lv' := [(2, .int (-1)), (0, .ref (tl_ad g 0)), (1, .int a1)]) hx hb dX3_bestBottom_1 rfl hl (by decide) rfl (fun ls hl => ?_)
  refine lv_ldc (pc := 2) (v := 1000000) hx hb C.2.2.2.1 lk0 dX3_bestBottom_2 ?_
  refine lv_istore_n (pc := 4) (lv' := [(3, .int 1000000), (2, .int (-1)), (0, .ref (tl_ad g 0)), (1, .int a1)]) hx hb dX3_bestBottom_4 rfl hl (by decide) rfl (fun ls hl => ?_)
  refine lv_iconst (pc := 5) (v := 0) hx hb dX3_bestBottom_5 (by decide) ?_
  refine lv_istore (pc := 6) (lv' := [(4, .int 0), (3, .int 1000000), (2, .int (-1)), (0, .ref (tl_ad g 0)), (1, .int a1)]) hx hb dX3_bestBottom_6 hl (by decide) rfl (fun ls hl => ?_)
  obtain ⟨k3, ek3, h⟩ := tl_j2 h
  have hZ3 : ∀ (σ1 : tl_St) (x2 : Int32) (H : Heap) (locs : List Loc) (ls : Array Slot), k3 σ1 x2 = some (ro, σo) → va_P g.1 vwCl (tl_W g σ1) H → va_S (tl_A g) s.heap H locs → lv_has ls 6 [(2, .int x2)] → W p l e rX3_bestBottom s m [.ref (tl_ad g 0), .int a1].toArray below meth c H locs 0 0 (MQ below (tl_Qi g ro σo) [.ref (tl_ad g 0), .int a1].toArray s 0 0 (tl_A g)) (F0 m 72 ls []) := by
    intro σ1 x2 H locs ls h hP hS hl
    replace h := (ek3 σ1 x2).trans h
    refine lv_iload_n (pc := 72) hx hb dX3_bestBottom_72 rfl (lv_at hl 0 rfl) ?_
    exact tl_Ripw (pc := 73) C h hP hS dX3_bestBottom_73
  have hL8 : ∀ (n : Nat) (σ4 : tl_St) (x5 : Int32) (x6 : Int32) (x7 : Int32) (H : Heap) (locs : List Loc) (ls : Array Slot), fX3_bestBottom_L8 a1 k3 n σ4 x5 x6 x7 = some (ro, σo) → va_P g.1 vwCl (tl_W g σ4) H → va_S (tl_A g) s.heap H locs → lv_has ls 6 [(0, .ref (tl_ad g 0)), (1, .int a1), (2, .int x5), (3, .int x6), (4, .int x7)] → W p l e rX3_bestBottom s m [.ref (tl_ad g 0), .int a1].toArray below meth c H locs 0 0 (MQ below (tl_Qi g ro σo) [.ref (tl_ad g 0), .int a1].toArray s 0 0 (tl_A g)) (F0 m 8 ls []) := by
    intro n
    induction n with
    | zero =>
      intro σ4 x5 x6 x7 H locs ls h hP hS hl
      rw [fX3_bestBottom_L8] at h
      cases h
    | succ n ih =>
      intro σ4 x5 x6 x7 H locs ls h hP hS hl
      rw [fX3_bestBottom_L8] at h
      refine lv_iload (pc := 8) hx hb dX3_bestBottom_8 (lv_at hl 4 rfl) ?_
      refine lv_bipush (pc := 10) (v := 60) hx hb dX3_bestBottom_10 (by decide) ?_
      refine lv_icmp_ge (pc := 12) (tgt := 72) hx hb dX3_bestBottom_12 (by decide) (fun c8 => ?_) (fun c8 => ?_)
      · replace h := (if_pos c8).symm.trans h
        exact hZ3 σ4 x5 _ _ _ h hP hS (lv_sub hl [2] rfl)
      · replace h := (if_neg c8).symm.trans h
        refine lv_aload_n (pc := 15) hx hb dX3_bestBottom_15 rfl (lv_at hl 0 rfl) ?_
        refine tl_g0_1 (pc := 16) C hc3 hP lk1 dX3_bestBottom_16 ?_
        refine lv_aload_n (pc := 19) hx hb dX3_bestBottom_19 rfl (lv_at hl 0 rfl) ?_
        refine tl_g0_0 (pc := 20) C hc3 hP lk2 dX3_bestBottom_20 ?_
        obtain ⟨σ9, eσ9, h⟩ := tl_o1s h
        refine caX2_becomeLike (pc := 23) C hts hP hS tl_W10 tl_W1 eσ9 gX3_bestBottom_X2_becomeLike ⟨Nat.le_of_ble_eq_true rfl, Nat.le_of_ble_eq_true rfl⟩ hl.1 (Nat.le_of_ble_eq_true rfl) dX3_bestBottom_23 (fun H locs hP hS => ?_)
        refine lv_aload_n (pc := 26) hx hb dX3_bestBottom_26 rfl (lv_at hl 0 rfl) ?_
        refine tl_g0_1 (pc := 27) C hc3 hP lk1 dX3_bestBottom_27 ?_
        refine tl_gW_4 (pc := 30) C hc2 hP tl_W10 lk3 dX3_bestBottom_30 ?_
        refine lv_iload_n (pc := 33) hx hb dX3_bestBottom_33 rfl (lv_at hl 1 rfl) ?_
        refine lv_iload (pc := 34) hx hb dX3_bestBottom_34 (lv_at hl 4 rfl) ?_
        obtain ⟨g10, h⟩ := tl_gd h
        obtain ⟨σ11, eσ11, h⟩ := tl_nm h
        refine tl_ast (pc := 36) C hP hS (tl_aW1 tl_W10 g) g10 eσ11 dX3_bestBottom_36 (fun H locs hP hS => ?_)
        refine lv_aload_n (pc := 37) hx hb dX3_bestBottom_37 rfl (lv_at hl 0 rfl) ?_
        refine tl_g0_1 (pc := 38) C hc3 hP lk1 dX3_bestBottom_38 ?_
        refine lv_bipush (pc := 41) (v := 10) hx hb dX3_bestBottom_41 (by decide) ?_
        refine lv_iload_n (pc := 43) hx hb dX3_bestBottom_43 rfl (lv_at hl 3 rfl) ?_
        obtain ⟨r12, σ13, er12, h⟩ := tl_o2s h
        refine caX2_drawnBy (pc := 44) C hts hP hS tl_W10 er12 gX3_bestBottom_X2_drawnBy ⟨Nat.le_of_ble_eq_true rfl, Nat.le_of_ble_eq_true rfl⟩ hl.1 (Nat.le_of_ble_eq_true rfl) dX3_bestBottom_44 (fun H locs hP hS => ?_)
        refine lv_istore (pc := 47) (lv' := [(5, .int r12), (0, .ref (tl_ad g 0)), (1, .int a1), (2, .int x5), (3, .int x6), (4, .int x7)]) hx hb dX3_bestBottom_47 hl (by decide) rfl (fun ls hl => ?_)
        refine lv_iload (pc := 49) hx hb dX3_bestBottom_49 (lv_at hl 0 rfl) ?_
        refine lv_iload_n (pc := 51) hx hb dX3_bestBottom_51 rfl (lv_at hl 4 rfl) ?_
        refine lv_icmp_ge (pc := 52) (tgt := 66) hx hb dX3_bestBottom_52 (by decide) (fun c14 => ?_) (fun c14 => ?_)
        · replace h := (if_pos c14).symm.trans h
          obtain ⟨x15, ex15, h⟩ := tl_nm h
          refine lv_iinc (pc := 66) (v := x15) (lv' := [(4, .int x15), (5, .int r12), (0, .ref (tl_ad g 0)), (1, .int a1), (2, .int x5), (3, .int x6)]) hx hb dX3_bestBottom_66 hl (k := 5) rfl ex15 (by decide) rfl (fun ls hl => ?_)
          refine lv_goto (pc := 69) (tgt := 8) hx hb dX3_bestBottom_69 (by decide) ?_
          exact ih σ13 x5 x6 x15 _ _ _ h hP hS (lv_sub hl [2, 3, 4, 5, 0] rfl)
        · replace h := (if_neg c14).symm.trans h
          refine lv_iload (pc := 55) hx hb dX3_bestBottom_55 (lv_at hl 0 rfl) ?_
          refine lv_istore_n (pc := 57) (lv' := [(3, .int r12), (5, .int r12), (0, .ref (tl_ad g 0)), (1, .int a1), (2, .int x5), (4, .int x7)]) hx hb dX3_bestBottom_57 rfl hl (by decide) rfl (fun ls hl => ?_)
          refine lv_iload (pc := 58) hx hb dX3_bestBottom_58 (lv_at hl 5 rfl) ?_
          refine lv_iload (pc := 60) hx hb dX3_bestBottom_60 (lv_at hl 1 rfl) ?_
          obtain ⟨r16, er16, h⟩ := tl_nm h
          refine caX3_choiceOf (pc := 62) C hts hP hS er16 gX3_bestBottom_X3_choiceOf ⟨Nat.le_of_ble_eq_true rfl, Nat.le_of_ble_eq_true rfl⟩ hl.1 (Nat.le_of_ble_eq_true rfl) dX3_bestBottom_62 (fun H locs hP hS => ?_)
          refine lv_istore_n (pc := 65) (lv' := [(2, .int r16), (3, .int r12), (5, .int r12), (0, .ref (tl_ad g 0)), (1, .int a1), (4, .int x7)]) hx hb dX3_bestBottom_65 rfl hl (by decide) rfl (fun ls hl => ?_)
          obtain ⟨x17, ex17, h⟩ := tl_nm h
          refine lv_iinc (pc := 66) (v := x17) (lv' := [(4, .int x17), (2, .int r16), (3, .int r12), (5, .int r12), (0, .ref (tl_ad g 0)), (1, .int a1)]) hx hb dX3_bestBottom_66 hl (k := 5) rfl ex17 (by decide) rfl (fun ls hl => ?_)
          refine lv_goto (pc := 69) (tgt := 8) hx hb dX3_bestBottom_69 (by decide) ?_
          exact ih σ13 r16 r12 x17 _ _ _ h hP hS (lv_sub hl [4, 5, 1, 2, 0] rfl)
  exact hL8 1000 σ (-1) 1000000 0 _ _ _ h hP hS (lv_sub hl [3, 4, 2, 1, 0] rfl)
theorem caX3_bestBottom {p : Program} {l : Launch} {e : Env} {R : Room} {s : State} {m : MethodId} {args : Array Value} {below : List Frame} {meth : Method} {c : Code} {H : Heap} {locs : List Loc} {Q : State → Prop} {cc : ByteArray} {pc : Nat} {ls : Array Slot} {rest : List Value} {g : tl_G} {σ : tl_St} {H0 : Heap} {nL : Nat} {own : String} {ret : Option FieldType} {index : Nat} (C : tl_C p s m meth c cc nL own ret g) {Ts : List Cond} (hts : ∀ w ∈ Ts, w.before args s = true) (hP : va_P g.1 vwCl (tl_W g σ) H) (hS : va_S (tl_A g) H0 H locs) {a1 : Int32} {ro : Int32} {σo : tl_St} (h : fX3_bestBottom σ a1 = some (ro, σo)) (hG : GoodIn Ts (wsV own index RX3 yX3_bestBottom wsX3_bestBottom)) (hR : 4 + 1 ≤ R.frames ∧ 8 + (6 + 11) + 96 ≤ R.locals) (hls : ls.size = nL) (hrm : (rest.map fun v => v.category).sum ≤ 8) (hdg : decode cc pc = .ok (.invokevirtual index, 3)) (kk : ∀ (H1 : Heap) (locs1 : List Loc), va_P g.1 vwCl (tl_W g σo) H1 → va_S (tl_A g) H0 H1 locs1 → W p l e R s m args below meth c H1 locs1 0 0 Q (F0 m (pc + 3) ls (.int ro :: rest))) : W p l e R s m args below meth c H locs 0 0 Q (F0 m pc ls (.int a1 :: .ref (tl_ad g 0) :: rest)) :=
  tl_goi (tl_callV C hts hP (okX3_bestBottom l g C.2.2.2.2.2.2.2 σ a1 ro σo h) rfl rfl rfl (n := 1) (by decide +kernel) rfl (ci := 3) rfl (tl_k0 g σ) hG hR hls rfl hrm hdg) hS kk
abbrev rX3_partOfChoice : Room := { frames := 0, cells := 0, slots := 0, locals := 0 }
set_option maxHeartbeats 4000000 in
set_option maxRecDepth 100000 in
theorem okX3_partOfChoice (l : Launch) (g : tl_G) (hI : tl_I g) (σ : tl_St) (a1 : Int32) (a2 : Int32) (ro : Int32) (h : fX3_partOfChoice σ a1 a2 = ro) : Met l yX3_partOfChoice wsX3_partOfChoice rX3_partOfChoice (va_Pc [.int a1, .int a2] (tl_Pre g σ)) (tl_Qi g ro σ) 0 0 (tl_A g) := by
  refine tl_enter (cc := cX3_partOfChoice) (maxL := 2) (ret := (some .int)) (own := RX3) hI (by decide) rfl rfl (Nat.le_of_ble_eq_true rfl) ?_
  intro p e s m below meth c C hts H locs hP hS ls hl
  have hx := C.1
  have hb := C.2.1
  have hl : lv_has ls 2 [(0, .int a1), (1, .int a2)] := hl
  unfold fX3_partOfChoice at h
  refine lv_iload_n (pc := 0) hx hb dX3_partOfChoice_0 rfl (lv_at hl 0 rfl) ?_
  refine lv_iconst (pc := 1) (v := (-1)) hx hb dX3_partOfChoice_1 (by decide) ?_
  refine lv_icmp_ne (pc := 2) (tgt := 7) hx hb dX3_partOfChoice_2 (by decide) (fun c1 => ?_) (fun c1 => ?_)
  · replace h := (if_neg c1).symm.trans h
    refine lv_iload_n (pc := 7) hx hb dX3_partOfChoice_7 rfl (lv_at hl 1 rfl) ?_
    refine lv_if_ne (pc := 8) (tgt := 18) hx hb dX3_partOfChoice_8 (by decide) (fun c2 => ?_) (fun c2 => ?_)
    · replace h := (if_neg c2).symm.trans h
      refine lv_iload_n (pc := 18) hx hb dX3_partOfChoice_18 rfl (lv_at hl 0 rfl) ?_
      refine lv_bipush (pc := 19) (v := 6) hx hb dX3_partOfChoice_19 (by decide) ?_
      refine lv_ishr (pc := 21) hx hb dX3_partOfChoice_21 ?_
      exact tl_Ritr (pc := 22) C h hP hS dX3_partOfChoice_22
    · replace h := (if_pos c2).symm.trans h
      refine lv_iload_n (pc := 11) hx hb dX3_partOfChoice_11 rfl (lv_at hl 0 rfl) ?_
      refine lv_bipush (pc := 12) (v := 63) hx hb dX3_partOfChoice_12 (by decide) ?_
      refine lv_iand (pc := 14) hx hb dX3_partOfChoice_14 ?_
      refine lv_goto (pc := 15) (tgt := 22) hx hb dX3_partOfChoice_15 (by decide) ?_
      exact tl_Ritr (pc := 22) C h hP hS dX3_partOfChoice_22
  · replace h := (if_pos c1).symm.trans h
    refine lv_iconst (pc := 5) (v := (-1)) hx hb dX3_partOfChoice_5 (by decide) ?_
    exact tl_Ritr (pc := 6) C h hP hS dX3_partOfChoice_6
theorem caX3_partOfChoice {p : Program} {l : Launch} {e : Env} {R : Room} {s : State} {m : MethodId} {args : Array Value} {below : List Frame} {meth : Method} {c : Code} {H : Heap} {locs : List Loc} {Q : State → Prop} {cc : ByteArray} {pc : Nat} {ls : Array Slot} {rest : List Value} {g : tl_G} {σ : tl_St} {H0 : Heap} {nL : Nat} {own : String} {ret : Option FieldType} {index : Nat} (C : tl_C p s m meth c cc nL own ret g) {Ts : List Cond} (hts : ∀ w ∈ Ts, w.before args s = true) (hP : va_P g.1 vwCl (tl_W g σ) H) (hS : va_S (tl_A g) H0 H locs) {a1 : Int32} {a2 : Int32} {ro : Int32} (h : fX3_partOfChoice σ a1 a2 = ro) (hG : GoodIn Ts (va_wsS own index yX3_partOfChoice wsX3_partOfChoice)) (hR : 0 + 1 ≤ R.frames ∧ 8 + (2 + 11) + 0 ≤ R.locals) (hls : ls.size = nL) (hrm : (rest.map fun v => v.category).sum ≤ 8) (hdg : decode cc pc = .ok (.invokestatic index, 3)) (kk : ∀ (H1 : Heap) (locs1 : List Loc), va_P g.1 vwCl (tl_W g σ) H1 → va_S (tl_A g) H0 H1 locs1 → W p l e R s m args below meth c H1 locs1 0 0 Q (F0 m (pc + 3) ls (.int ro :: rest))) : W p l e R s m args below meth c H locs 0 0 Q (F0 m pc ls (.int a2 :: .int a1 :: rest)) :=
  tl_goi (tl_callS C hts hP (okX3_partOfChoice l g C.2.2.2.2.2.2.2 σ a1 a2 ro h) rfl rfl rfl (n := 2) (by decide +kernel) rfl hG hR hls rfl hrm hdg) hS kk
abbrev rX3_better : Room := { frames := 5, cells := 0, slots := 0, locals := 121 }
set_option maxHeartbeats 4000000 in
set_option maxRecDepth 100000 in
theorem okX3_better (l : Launch) (g : tl_G) (hI : tl_I g) (σ : tl_St) (a1 : Int32) (a2 : Int32) (ro : Int32) (σo : tl_St) (h : fX3_better σ a1 a2 = some (ro, σo)) : Met l yX3_better wsX3_better rX3_better (va_Pc [.ref (tl_ad g 0), .int a1, .int a2] (tl_Pre g σ)) (tl_Qi g ro σo) 0 0 (tl_A g) := by
  refine tl_enter (cc := cX3_better) (maxL := 3) (ret := (some .int)) (own := RX3) hI (by decide) rfl rfl (Nat.le_of_ble_eq_true rfl) ?_
  intro p e s m below meth c C hts H locs hP hS ls hl
  have hx := C.1
  have hb := C.2.1
  have hl : lv_has ls 3 [(0, .ref (tl_ad g 0)), (1, .int a1), (2, .int a2)] := hl
  unfold fX3_better at h
  refine lv_aload_n (pc := 0) hx hb dX3_better_0 rfl (lv_at hl 0 rfl) ?_
  refine lv_iload_n (pc := 1) hx hb dX3_better_1 rfl (lv_at hl 1 rfl) ?_
  obtain ⟨r1, er1, h⟩ := tl_nm h
  refine caX3_isBasin (pc := 2) C hts hP hS er1 gX3_better_X3_isBasin ⟨Nat.le_of_ble_eq_true rfl, Nat.le_of_ble_eq_true rfl⟩ hl.1 (Nat.le_of_ble_eq_true rfl) dX3_better_2 (fun H locs hP hS => ?_)
  refine lv_if_eq (pc := 5) (tgt := 17) hx hb dX3_better_5 (by decide) (fun c2 => ?_) (fun c2 => ?_)
  · replace h := (if_pos c2).symm.trans h
    refine lv_bipush (pc := 17) (v := (-2)) hx hb dX3_better_17 (by decide) ?_
    exact tl_Ripw (pc := 19) C h hP hS dX3_better_19
  · replace h := (if_neg c2).symm.trans h
    refine lv_iload_n (pc := 8) hx hb dX3_better_8 rfl (lv_at hl 2 rfl) ?_
    refine lv_if_lt (pc := 9) (tgt := 17) hx hb dX3_better_9 (by decide) (fun c3 => ?_) (fun c3 => ?_)
    · replace h := (if_pos c3).symm.trans h
      refine lv_bipush (pc := 17) (v := (-2)) hx hb dX3_better_17 (by decide) ?_
      exact tl_Ripw (pc := 19) C h hP hS dX3_better_19
    · replace h := (if_neg c3).symm.trans h
      refine lv_iload_n (pc := 12) hx hb dX3_better_12 rfl (lv_at hl 2 rfl) ?_
      refine lv_iconst (pc := 13) (v := 1) hx hb dX3_better_13 (by decide) ?_
      refine lv_icmp_le (pc := 14) (tgt := 20) hx hb dX3_better_14 (by decide) (fun c4 => ?_) (fun c4 => ?_)
      · replace h := (if_pos c4).symm.trans h
        refine lv_aload_n (pc := 20) hx hb dX3_better_20 rfl (lv_at hl 0 rfl) ?_
        refine lv_iload_n (pc := 21) hx hb dX3_better_21 rfl (lv_at hl 1 rfl) ?_
        obtain ⟨r5, σ6, er5, h⟩ := tl_o2s h
        refine caX3_bestBottom (pc := 22) C hts hP hS er5 gX3_better_X3_bestBottom ⟨Nat.le_of_ble_eq_true rfl, Nat.le_of_ble_eq_true rfl⟩ hl.1 (Nat.le_of_ble_eq_true rfl) dX3_better_22 (fun H locs hP hS => ?_)
        refine lv_iload_n (pc := 25) hx hb dX3_better_25 rfl (lv_at hl 2 rfl) ?_
        obtain ⟨r7, er7, h⟩ := tl_nm h
        refine caX3_partOfChoice (pc := 26) C hts hP hS er7 gX3_better_X3_partOfChoice ⟨Nat.le_of_ble_eq_true rfl, Nat.le_of_ble_eq_true rfl⟩ hl.1 (Nat.le_of_ble_eq_true rfl) dX3_better_26 (fun H locs hP hS => ?_)
        exact tl_Ripw (pc := 29) C h hP hS dX3_better_29
      · replace h := (if_neg c4).symm.trans h
        refine lv_bipush (pc := 17) (v := (-2)) hx hb dX3_better_17 (by decide) ?_
        exact tl_Ripw (pc := 19) C h hP hS dX3_better_19
theorem caX3_better {p : Program} {l : Launch} {e : Env} {R : Room} {s : State} {m : MethodId} {args : Array Value} {below : List Frame} {meth : Method} {c : Code} {H : Heap} {locs : List Loc} {Q : State → Prop} {cc : ByteArray} {pc : Nat} {ls : Array Slot} {rest : List Value} {g : tl_G} {σ : tl_St} {H0 : Heap} {nL : Nat} {own : String} {ret : Option FieldType} {index : Nat} (C : tl_C p s m meth c cc nL own ret g) {Ts : List Cond} (hts : ∀ w ∈ Ts, w.before args s = true) (hP : va_P g.1 vwCl (tl_W g σ) H) (hS : va_S (tl_A g) H0 H locs) {a1 : Int32} {a2 : Int32} {ro : Int32} {σo : tl_St} (h : fX3_better σ a1 a2 = some (ro, σo)) (hG : GoodIn Ts (wsV own index RX3 yX3_better wsX3_better)) (hR : 5 + 1 ≤ R.frames ∧ 8 + (3 + 11) + 121 ≤ R.locals) (hls : ls.size = nL) (hrm : (rest.map fun v => v.category).sum ≤ 8) (hdg : decode cc pc = .ok (.invokevirtual index, 3)) (kk : ∀ (H1 : Heap) (locs1 : List Loc), va_P g.1 vwCl (tl_W g σo) H1 → va_S (tl_A g) H0 H1 locs1 → W p l e R s m args below meth c H1 locs1 0 0 Q (F0 m (pc + 3) ls (.int ro :: rest))) : W p l e R s m args below meth c H locs 0 0 Q (F0 m pc ls (.int a2 :: .int a1 :: .ref (tl_ad g 0) :: rest)) :=
  tl_goi (tl_callV C hts hP (okX3_better l g C.2.2.2.2.2.2.2 σ a1 a2 ro σo h) rfl rfl rfl (n := 2) (by decide +kernel) rfl (ci := 3) rfl (tl_k0 g σ) hG hR hls rfl hrm hdg) hS kk
abbrev rX3_leastNeeded : Room := { frames := 4, cells := 0, slots := 0, locals := 96 }
set_option maxHeartbeats 4000000 in
set_option maxRecDepth 100000 in
theorem okX3_leastNeeded (l : Launch) (g : tl_G) (hI : tl_I g) (σ : tl_St) (ro : Int32) (σo : tl_St) (h : fX3_leastNeeded σ = some (ro, σo)) : Met l yX3_leastNeeded wsX3_leastNeeded rX3_leastNeeded (va_Pc [.ref (tl_ad g 0)] (tl_Pre g σ)) (tl_Qi g ro σo) 0 0 (tl_A g) := by
  refine tl_enter (cc := cX3_leastNeeded) (maxL := 5) (ret := (some .int)) (own := RX3) hI (by decide) rfl rfl (Nat.le_of_ble_eq_true rfl) ?_
  intro p e s m below meth c C hts H locs hP hS ls hl
  have hx := C.1
  have hb := C.2.1
  have hl : lv_has ls 5 [(0, .ref (tl_ad g 0))] := hl
  have hc2 : ∀ w ∈ u_ws RX2 TX2 14, w.before [.ref (tl_ad g 0)].toArray s = true := fun w hw => hts w (List.mem_cons_of_mem _ (List.mem_append_right _ hw))
  have hc3 : ∀ w ∈ u_ws RX3 TX3 13, w.before [.ref (tl_ad g 0)].toArray s = true := fun w hw => hts w (List.mem_cons_of_mem _ (List.mem_append_left _ (List.mem_append_right _ hw)))
  have lk0 : (Cond.constant RX3 181 (1000000)).before [.ref (tl_ad g 0)].toArray s = true := hts _ (List.mem_cons_of_mem _ (List.mem_append_left _ (List.mem_append_left _ (List.mem_append_left _ (List.mem_of_getElem? (i := 0) rfl)))))
  have lk1 : (Cond.fieldLink RX3 10 "ThriftLock" "water" "LThriftLock$Water;").before [.ref (tl_ad g 0)].toArray s = true := hts _ (List.mem_cons_of_mem _ (List.mem_append_left _ (List.mem_append_left _ (List.mem_append_left _ (List.mem_of_getElem? (i := 1) rfl)))))
  have lk2 : (Cond.fieldLink RX3 48 "ThriftLock$Water" "basins" "I").before [.ref (tl_ad g 0)].toArray s = true := hts _ (List.mem_cons_of_mem _ (List.mem_append_left _ (List.mem_append_left _ (List.mem_append_left _ (List.mem_of_getElem? (i := 2) rfl)))))
  have lk3 : (Cond.fieldLink RX3 16 "ThriftLock" "trial" "LThriftLock$Water;").before [.ref (tl_ad g 0)].toArray s = true := hts _ (List.mem_cons_of_mem _ (List.mem_append_left _ (List.mem_append_left _ (List.mem_append_left _ (List.mem_of_getElem? (i := 3) rfl)))))
  have lk4 : (Cond.fieldLink RX3 58 "ThriftLock$Water" "outBits" "I").before [.ref (tl_ad g 0)].toArray s = true := hts _ (List.mem_cons_of_mem _ (List.mem_append_left _ (List.mem_append_left _ (List.mem_append_left _ (List.mem_of_getElem? (i := 4) rfl)))))
  unfold fX3_leastNeeded at h
  refine lv_iconst (pc := 0) (v := (-1)) hx hb dX3_leastNeeded_0 (by decide) ?_
  refine lv_istore_n (pc := 1) (lv' := [(1, .int (-1)), (0, .ref (tl_ad g 0))]) hx hb dX3_leastNeeded_1 rfl hl (by decide) rfl (fun ls hl => ?_)
  refine lv_ldc (pc := 2) (v := 1000000) hx hb C.2.2.2.1 lk0 dX3_leastNeeded_2 ?_
  refine lv_istore_n (pc := 4) (lv' := [(2, .int 1000000), (1, .int (-1)), (0, .ref (tl_ad g 0))]) hx hb dX3_leastNeeded_4 rfl hl (by decide) rfl (fun ls hl => ?_)
  refine lv_iconst (pc := 5) (v := 0) hx hb dX3_leastNeeded_5 (by decide) ?_
  refine lv_istore_n (pc := 6) (lv' := [(3, .int 0), (2, .int 1000000), (1, .int (-1)), (0, .ref (tl_ad g 0))]) hx hb dX3_leastNeeded_6 rfl hl (by decide) rfl (fun ls hl => ?_)
  obtain ⟨k3, ek3, h⟩ := tl_j2 h
  have hZ3 : ∀ (σ1 : tl_St) (x2 : Int32) (H : Heap) (locs : List Loc) (ls : Array Slot), k3 σ1 x2 = some (ro, σo) → va_P g.1 vwCl (tl_W g σ1) H → va_S (tl_A g) s.heap H locs → lv_has ls 5 [(1, .int x2)] → W p l e rX3_leastNeeded s m [.ref (tl_ad g 0)].toArray below meth c H locs 0 0 (MQ below (tl_Qi g ro σo) [.ref (tl_ad g 0)].toArray s 0 0 (tl_A g)) (F0 m 92 ls []) := by
    intro σ1 x2 H locs ls h hP hS hl
    replace h := (ek3 σ1 x2).trans h
    refine lv_iload_n (pc := 92) hx hb dX3_leastNeeded_92 rfl (lv_at hl 0 rfl) ?_
    exact tl_Ripw (pc := 93) C h hP hS dX3_leastNeeded_93
  have hL7 : ∀ (n : Nat) (σ4 : tl_St) (x5 : Int32) (x6 : Int32) (x7 : Int32) (H : Heap) (locs : List Loc) (ls : Array Slot), fX3_leastNeeded_L7 k3 n σ4 x5 x6 x7 = some (ro, σo) → va_P g.1 vwCl (tl_W g σ4) H → va_S (tl_A g) s.heap H locs → lv_has ls 5 [(0, .ref (tl_ad g 0)), (1, .int x5), (2, .int x6), (3, .int x7)] → W p l e rX3_leastNeeded s m [.ref (tl_ad g 0)].toArray below meth c H locs 0 0 (MQ below (tl_Qi g ro σo) [.ref (tl_ad g 0)].toArray s 0 0 (tl_A g)) (F0 m 7 ls []) := by
    intro n
    induction n with
    | zero =>
      intro σ4 x5 x6 x7 H locs ls h hP hS hl
      rw [fX3_leastNeeded_L7] at h
      cases h
    | succ n ih =>
      intro σ4 x5 x6 x7 H locs ls h hP hS hl
      rw [fX3_leastNeeded_L7] at h
      refine lv_iload_n (pc := 7) hx hb dX3_leastNeeded_7 rfl (lv_at hl 3 rfl) ?_
      refine lv_aload_n (pc := 8) hx hb dX3_leastNeeded_8 rfl (lv_at hl 0 rfl) ?_
      refine tl_g0_0 (pc := 9) C hc3 hP lk1 dX3_leastNeeded_9 ?_
      refine tl_gW_2 (pc := 12) C hc2 hP tl_W1 lk2 dX3_leastNeeded_12 ?_
      refine lv_icmp_ge (pc := 15) (tgt := 92) hx hb dX3_leastNeeded_15 (by decide) (fun c8 => ?_) (fun c8 => ?_)
      · replace h := (if_pos c8).symm.trans h
        exact hZ3 σ4 x5 _ _ _ h hP hS (lv_sub hl [1] rfl)
      · replace h := (if_neg c8).symm.trans h
        refine lv_aload_n (pc := 18) hx hb dX3_leastNeeded_18 rfl (lv_at hl 0 rfl) ?_
        refine tl_g0_0 (pc := 19) C hc3 hP lk1 dX3_leastNeeded_19 ?_
        refine lv_iload_n (pc := 22) hx hb dX3_leastNeeded_22 rfl (lv_at hl 3 rfl) ?_
        obtain ⟨r9, er9, h⟩ := tl_nm h
        refine caX2_isOut (pc := 23) C hts hP hS tl_W1 er9 gX3_leastNeeded_X2_isOut ⟨Nat.le_of_ble_eq_true rfl, Nat.le_of_ble_eq_true rfl⟩ hl.1 (Nat.le_of_ble_eq_true rfl) dX3_leastNeeded_23 (fun H locs hP hS => ?_)
        refine lv_if_eq (pc := 26) (tgt := 32) hx hb dX3_leastNeeded_26 (by decide) (fun c10 => ?_) (fun c10 => ?_)
        · replace h := (if_pos c10).symm.trans h
          refine lv_aload_n (pc := 32) hx hb dX3_leastNeeded_32 rfl (lv_at hl 0 rfl) ?_
          refine tl_g0_1 (pc := 33) C hc3 hP lk3 dX3_leastNeeded_33 ?_
          refine lv_aload_n (pc := 36) hx hb dX3_leastNeeded_36 rfl (lv_at hl 0 rfl) ?_
          refine tl_g0_0 (pc := 37) C hc3 hP lk1 dX3_leastNeeded_37 ?_
          obtain ⟨σ11, eσ11, h⟩ := tl_o1s h
          refine caX2_becomeLike (pc := 40) C hts hP hS tl_W10 tl_W1 eσ11 gX3_leastNeeded_X2_becomeLike ⟨Nat.le_of_ble_eq_true rfl, Nat.le_of_ble_eq_true rfl⟩ hl.1 (Nat.le_of_ble_eq_true rfl) dX3_leastNeeded_40 (fun H locs hP hS => ?_)
          refine lv_aload_n (pc := 43) hx hb dX3_leastNeeded_43 rfl (lv_at hl 0 rfl) ?_
          refine tl_g0_1 (pc := 44) C hc3 hP lk3 dX3_leastNeeded_44 ?_
          refine lv_dup (pc := 47) hx hb dX3_leastNeeded_47 rfl ?_
          refine tl_gW_3 (pc := 48) C hc2 hP tl_W10 lk4 dX3_leastNeeded_48 ?_
          refine lv_iconst (pc := 51) (v := 1) hx hb dX3_leastNeeded_51 (by decide) ?_
          refine lv_iload_n (pc := 52) hx hb dX3_leastNeeded_52 rfl (lv_at hl 3 rfl) ?_
          refine lv_ishl (pc := 53) hx hb dX3_leastNeeded_53 ?_
          refine lv_ior (pc := 54) hx hb dX3_leastNeeded_54 ?_
          obtain ⟨σ12, eσ12, h⟩ := tl_nm h
          refine tl_sW_3 (pc := 55) C hc2 hP hS tl_W10 eσ12 lk4 dX3_leastNeeded_55 (fun H locs hP hS => ?_)
          refine lv_aload_n (pc := 58) hx hb dX3_leastNeeded_58 rfl (lv_at hl 0 rfl) ?_
          refine tl_g0_1 (pc := 59) C hc3 hP lk3 dX3_leastNeeded_59 ?_
          refine lv_bipush (pc := 62) (v := 10) hx hb dX3_leastNeeded_62 (by decide) ?_
          refine lv_iload_n (pc := 64) hx hb dX3_leastNeeded_64 rfl (lv_at hl 2 rfl) ?_
          obtain ⟨r13, σ14, er13, h⟩ := tl_o2s h
          refine caX2_drawnBy (pc := 65) C hts hP hS tl_W10 er13 gX3_leastNeeded_X2_drawnBy ⟨Nat.le_of_ble_eq_true rfl, Nat.le_of_ble_eq_true rfl⟩ hl.1 (Nat.le_of_ble_eq_true rfl) dX3_leastNeeded_65 (fun H locs hP hS => ?_)
          refine lv_istore (pc := 68) (lv' := [(4, .int r13), (0, .ref (tl_ad g 0)), (1, .int x5), (2, .int x6), (3, .int x7)]) hx hb dX3_leastNeeded_68 hl (by decide) rfl (fun ls hl => ?_)
          refine lv_iload (pc := 70) hx hb dX3_leastNeeded_70 (lv_at hl 0 rfl) ?_
          refine lv_iload_n (pc := 72) hx hb dX3_leastNeeded_72 rfl (lv_at hl 3 rfl) ?_
          refine lv_icmp_ge (pc := 73) (tgt := 86) hx hb dX3_leastNeeded_73 (by decide) (fun c15 => ?_) (fun c15 => ?_)
          · replace h := (if_pos c15).symm.trans h
            obtain ⟨x16, ex16, h⟩ := tl_nm h
            refine lv_iinc (pc := 86) (v := x16) (lv' := [(3, .int x16), (4, .int r13), (0, .ref (tl_ad g 0)), (1, .int x5), (2, .int x6)]) hx hb dX3_leastNeeded_86 hl (k := 4) rfl ex16 (by decide) rfl (fun ls hl => ?_)
            refine lv_goto (pc := 89) (tgt := 7) hx hb dX3_leastNeeded_89 (by decide) ?_
            exact ih σ14 x5 x6 x16 _ _ _ h hP hS (lv_sub hl [2, 3, 4, 0] rfl)
          · replace h := (if_neg c15).symm.trans h
            refine lv_iload (pc := 76) hx hb dX3_leastNeeded_76 (lv_at hl 0 rfl) ?_
            refine lv_istore_n (pc := 78) (lv' := [(2, .int r13), (4, .int r13), (0, .ref (tl_ad g 0)), (1, .int x5), (3, .int x7)]) hx hb dX3_leastNeeded_78 rfl hl (by decide) rfl (fun ls hl => ?_)
            refine lv_iload_n (pc := 79) hx hb dX3_leastNeeded_79 rfl (lv_at hl 4 rfl) ?_
            refine lv_iload (pc := 80) hx hb dX3_leastNeeded_80 (lv_at hl 1 rfl) ?_
            obtain ⟨r17, er17, h⟩ := tl_nm h
            refine caX3_choiceOf (pc := 82) C hts hP hS er17 gX3_leastNeeded_X3_choiceOf ⟨Nat.le_of_ble_eq_true rfl, Nat.le_of_ble_eq_true rfl⟩ hl.1 (Nat.le_of_ble_eq_true rfl) dX3_leastNeeded_82 (fun H locs hP hS => ?_)
            refine lv_istore_n (pc := 85) (lv' := [(1, .int r17), (2, .int r13), (4, .int r13), (0, .ref (tl_ad g 0)), (3, .int x7)]) hx hb dX3_leastNeeded_85 rfl hl (by decide) rfl (fun ls hl => ?_)
            obtain ⟨x18, ex18, h⟩ := tl_nm h
            refine lv_iinc (pc := 86) (v := x18) (lv' := [(3, .int x18), (1, .int r17), (2, .int r13), (4, .int r13), (0, .ref (tl_ad g 0))]) hx hb dX3_leastNeeded_86 hl (k := 4) rfl ex18 (by decide) rfl (fun ls hl => ?_)
            refine lv_goto (pc := 89) (tgt := 7) hx hb dX3_leastNeeded_89 (by decide) ?_
            exact ih σ14 r17 r13 x18 _ _ _ h hP hS (lv_sub hl [4, 1, 2, 0] rfl)
        · replace h := (if_neg c10).symm.trans h
          refine lv_goto (pc := 29) (tgt := 86) hx hb dX3_leastNeeded_29 (by decide) ?_
          obtain ⟨x19, ex19, h⟩ := tl_nm h
          refine lv_iinc (pc := 86) (v := x19) (lv' := [(3, .int x19), (0, .ref (tl_ad g 0)), (1, .int x5), (2, .int x6)]) hx hb dX3_leastNeeded_86 hl (k := 3) rfl ex19 (by decide) rfl (fun ls hl => ?_)
          refine lv_goto (pc := 89) (tgt := 7) hx hb dX3_leastNeeded_89 (by decide) ?_
          exact ih σ4 x5 x6 x19 _ _ _ h hP hS (lv_sub hl [1, 2, 3, 0] rfl)
  exact hL7 1000 σ (-1) 1000000 0 _ _ _ h hP hS (lv_sub hl [3, 2, 1, 0] rfl)
theorem caX3_leastNeeded {p : Program} {l : Launch} {e : Env} {R : Room} {s : State} {m : MethodId} {args : Array Value} {below : List Frame} {meth : Method} {c : Code} {H : Heap} {locs : List Loc} {Q : State → Prop} {cc : ByteArray} {pc : Nat} {ls : Array Slot} {rest : List Value} {g : tl_G} {σ : tl_St} {H0 : Heap} {nL : Nat} {own : String} {ret : Option FieldType} {index : Nat} (C : tl_C p s m meth c cc nL own ret g) {Ts : List Cond} (hts : ∀ w ∈ Ts, w.before args s = true) (hP : va_P g.1 vwCl (tl_W g σ) H) (hS : va_S (tl_A g) H0 H locs) {ro : Int32} {σo : tl_St} (h : fX3_leastNeeded σ = some (ro, σo)) (hG : GoodIn Ts (wsV own index RX3 yX3_leastNeeded wsX3_leastNeeded)) (hR : 4 + 1 ≤ R.frames ∧ 8 + (5 + 11) + 96 ≤ R.locals) (hls : ls.size = nL) (hrm : (rest.map fun v => v.category).sum ≤ 8) (hdg : decode cc pc = .ok (.invokevirtual index, 3)) (kk : ∀ (H1 : Heap) (locs1 : List Loc), va_P g.1 vwCl (tl_W g σo) H1 → va_S (tl_A g) H0 H1 locs1 → W p l e R s m args below meth c H1 locs1 0 0 Q (F0 m (pc + 3) ls (.int ro :: rest))) : W p l e R s m args below meth c H locs 0 0 Q (F0 m pc ls (.ref (tl_ad g 0) :: rest)) :=
  tl_goi (tl_callV C hts hP (okX3_leastNeeded l g C.2.2.2.2.2.2.2 σ ro σo h) rfl rfl rfl (n := 0) (by decide +kernel) rfl (ci := 3) rfl (tl_k0 g σ) hG hR hls rfl hrm hdg) hS kk
abbrev rX3_needless : Room := { frames := 5, cells := 0, slots := 0, locals := 120 }
set_option maxHeartbeats 4000000 in
set_option maxRecDepth 100000 in
theorem okX3_needless (l : Launch) (g : tl_G) (hI : tl_I g) (σ : tl_St) (a1 : Int32) (ro : Int32) (σo : tl_St) (h : fX3_needless σ a1 = some (ro, σo)) : Met l yX3_needless wsX3_needless rX3_needless (va_Pc [.ref (tl_ad g 0), .int a1] (tl_Pre g σ)) (tl_Qi g ro σo) 0 0 (tl_A g) := by
  refine tl_enter (cc := cX3_needless) (maxL := 2) (ret := (some .int)) (own := RX3) hI (by decide) rfl rfl (Nat.le_of_ble_eq_true rfl) ?_
  intro p e s m below meth c C hts H locs hP hS ls hl
  have hx := C.1
  have hb := C.2.1
  have hl : lv_has ls 2 [(0, .ref (tl_ad g 0)), (1, .int a1)] := hl
  unfold fX3_needless at h
  refine lv_iload_n (pc := 0) hx hb dX3_needless_0 rfl (lv_at hl 1 rfl) ?_
  refine lv_if_lt (pc := 1) (tgt := 9) hx hb dX3_needless_1 (by decide) (fun c1 => ?_) (fun c1 => ?_)
  · replace h := (if_pos c1).symm.trans h
    refine lv_bipush (pc := 9) (v := (-2)) hx hb dX3_needless_9 (by decide) ?_
    exact tl_Ripw (pc := 11) C h hP hS dX3_needless_11
  · replace h := (if_neg c1).symm.trans h
    refine lv_iload_n (pc := 4) hx hb dX3_needless_4 rfl (lv_at hl 1 rfl) ?_
    refine lv_iconst (pc := 5) (v := 1) hx hb dX3_needless_5 (by decide) ?_
    refine lv_icmp_le (pc := 6) (tgt := 12) hx hb dX3_needless_6 (by decide) (fun c2 => ?_) (fun c2 => ?_)
    · replace h := (if_pos c2).symm.trans h
      refine lv_aload_n (pc := 12) hx hb dX3_needless_12 rfl (lv_at hl 0 rfl) ?_
      obtain ⟨r3, σ4, er3, h⟩ := tl_o2s h
      refine caX3_leastNeeded (pc := 13) C hts hP hS er3 gX3_needless_X3_leastNeeded ⟨Nat.le_of_ble_eq_true rfl, Nat.le_of_ble_eq_true rfl⟩ hl.1 (Nat.le_of_ble_eq_true rfl) dX3_needless_13 (fun H locs hP hS => ?_)
      refine lv_iload_n (pc := 16) hx hb dX3_needless_16 rfl (lv_at hl 1 rfl) ?_
      obtain ⟨r5, er5, h⟩ := tl_nm h
      refine caX3_partOfChoice (pc := 17) C hts hP hS er5 gX3_needless_X3_partOfChoice ⟨Nat.le_of_ble_eq_true rfl, Nat.le_of_ble_eq_true rfl⟩ hl.1 (Nat.le_of_ble_eq_true rfl) dX3_needless_17 (fun H locs hP hS => ?_)
      exact tl_Ripw (pc := 20) C h hP hS dX3_needless_20
    · replace h := (if_neg c2).symm.trans h
      refine lv_bipush (pc := 9) (v := (-2)) hx hb dX3_needless_9 (by decide) ?_
      exact tl_Ripw (pc := 11) C h hP hS dX3_needless_11
theorem caX3_needless {p : Program} {l : Launch} {e : Env} {R : Room} {s : State} {m : MethodId} {args : Array Value} {below : List Frame} {meth : Method} {c : Code} {H : Heap} {locs : List Loc} {Q : State → Prop} {cc : ByteArray} {pc : Nat} {ls : Array Slot} {rest : List Value} {g : tl_G} {σ : tl_St} {H0 : Heap} {nL : Nat} {own : String} {ret : Option FieldType} {index : Nat} (C : tl_C p s m meth c cc nL own ret g) {Ts : List Cond} (hts : ∀ w ∈ Ts, w.before args s = true) (hP : va_P g.1 vwCl (tl_W g σ) H) (hS : va_S (tl_A g) H0 H locs) {a1 : Int32} {ro : Int32} {σo : tl_St} (h : fX3_needless σ a1 = some (ro, σo)) (hG : GoodIn Ts (wsV own index RX3 yX3_needless wsX3_needless)) (hR : 5 + 1 ≤ R.frames ∧ 8 + (2 + 11) + 120 ≤ R.locals) (hls : ls.size = nL) (hrm : (rest.map fun v => v.category).sum ≤ 8) (hdg : decode cc pc = .ok (.invokevirtual index, 3)) (kk : ∀ (H1 : Heap) (locs1 : List Loc), va_P g.1 vwCl (tl_W g σo) H1 → va_S (tl_A g) H0 H1 locs1 → W p l e R s m args below meth c H1 locs1 0 0 Q (F0 m (pc + 3) ls (.int ro :: rest))) : W p l e R s m args below meth c H locs 0 0 Q (F0 m pc ls (.int a1 :: .ref (tl_ad g 0) :: rest)) :=
  tl_goi (tl_callV C hts hP (okX3_needless l g C.2.2.2.2.2.2.2 σ a1 ro σo h) rfl rfl rfl (n := 1) (by decide +kernel) rfl (ci := 3) rfl (tl_k0 g σ) hG hR hls rfl hrm hdg) hS kk
abbrev rX3_isForm : Room := { frames := 0, cells := 0, slots := 0, locals := 0 }
set_option maxHeartbeats 4000000 in
set_option maxRecDepth 100000 in
theorem okX3_isForm (l : Launch) (g : tl_G) (hI : tl_I g) (σ : tl_St) (a1 : Int32) (ro : Int32) (h : fX3_isForm σ a1 = ro) : Met l yX3_isForm wsX3_isForm rX3_isForm (va_Pc [.int a1] (tl_Pre g σ)) (tl_Qi g ro σ) 0 0 (tl_A g) := by
  refine tl_enter (cc := cX3_isForm) (maxL := 1) (ret := (some .boolean)) (own := RX3) hI (by decide) rfl rfl (Nat.le_of_ble_eq_true rfl) ?_
  intro p e s m below meth c C hts H locs hP hS ls hl
  have hx := C.1
  have hb := C.2.1
  have hl : lv_has ls 1 [(0, .int a1)] := hl
  unfold fX3_isForm at h
  refine lv_iload_n (pc := 0) hx hb dX3_isForm_0 rfl (lv_at hl 0 rfl) ?_
  obtain ⟨k1, ek1, h⟩ := tl_j0 h
  have hJ1 : ∀ (H : Heap) (locs : List Loc) (ls : Array Slot), k1 = ro → va_P g.1 vwCl (tl_W g σ) H → va_S (tl_A g) s.heap H locs → lv_has ls 1 [] → W p l e rX3_isForm s m [.int a1].toArray below meth c H locs 0 0 (MQ below (tl_Qi g ro σ) [.int a1].toArray s 0 0 (tl_A g)) (F0 m 13 ls []) := by
    intro H locs ls h hP hS hl
    replace h := ek1.trans h
    refine lv_iconst (pc := 13) (v := 0) hx hb dX3_isForm_13 (by decide) ?_
    exact tl_Rztr (pc := 14) C h hP hS (Or.inl rfl) dX3_isForm_14
  refine lv_if_lt (pc := 1) (tgt := 13) hx hb dX3_isForm_1 (by decide) (fun c2 => ?_) (fun c2 => ?_)
  · replace h := (if_pos c2).symm.trans h
    exact hJ1 _ _ _ h hP hS (lv_sub hl [] rfl)
  · replace h := (if_neg c2).symm.trans h
    refine lv_iload_n (pc := 4) hx hb dX3_isForm_4 rfl (lv_at hl 0 rfl) ?_
    refine lv_iconst (pc := 5) (v := 3) hx hb dX3_isForm_5 (by decide) ?_
    refine lv_icmp_ge (pc := 6) (tgt := 13) hx hb dX3_isForm_6 (by decide) (fun c3 => ?_) (fun c3 => ?_)
    · replace h := (if_pos c3).symm.trans h
      exact hJ1 _ _ _ h hP hS (lv_sub hl [] rfl)
    · replace h := (if_neg c3).symm.trans h
      refine lv_iconst (pc := 9) (v := 1) hx hb dX3_isForm_9 (by decide) ?_
      refine lv_goto (pc := 10) (tgt := 14) hx hb dX3_isForm_10 (by decide) ?_
      exact tl_Rztr (pc := 14) C h hP hS (Or.inr rfl) dX3_isForm_14
theorem caX3_isForm {p : Program} {l : Launch} {e : Env} {R : Room} {s : State} {m : MethodId} {args : Array Value} {below : List Frame} {meth : Method} {c : Code} {H : Heap} {locs : List Loc} {Q : State → Prop} {cc : ByteArray} {pc : Nat} {ls : Array Slot} {rest : List Value} {g : tl_G} {σ : tl_St} {H0 : Heap} {nL : Nat} {own : String} {ret : Option FieldType} {index : Nat} (C : tl_C p s m meth c cc nL own ret g) {Ts : List Cond} (hts : ∀ w ∈ Ts, w.before args s = true) (hP : va_P g.1 vwCl (tl_W g σ) H) (hS : va_S (tl_A g) H0 H locs) {a1 : Int32} {ro : Int32} (h : fX3_isForm σ a1 = ro) (hG : GoodIn Ts (va_wsS own index yX3_isForm wsX3_isForm)) (hR : 0 + 1 ≤ R.frames ∧ 8 + (1 + 11) + 0 ≤ R.locals) (hls : ls.size = nL) (hrm : (rest.map fun v => v.category).sum ≤ 8) (hdg : decode cc pc = .ok (.invokestatic index, 3)) (kk : ∀ (H1 : Heap) (locs1 : List Loc), va_P g.1 vwCl (tl_W g σ) H1 → va_S (tl_A g) H0 H1 locs1 → W p l e R s m args below meth c H1 locs1 0 0 Q (F0 m (pc + 3) ls (.int ro :: rest))) : W p l e R s m args below meth c H locs 0 0 Q (F0 m pc ls (.int a1 :: rest)) :=
  tl_goi (tl_callS C hts hP (okX3_isForm l g C.2.2.2.2.2.2.2 σ a1 ro h) rfl rfl rfl (n := 1) (by decide +kernel) rfl hG hR hls rfl hrm hdg) hS kk
abbrev rX3_sheet : Room := { frames := 2, cells := 0, slots := 0, locals := 45 }
set_option maxHeartbeats 4000000 in
set_option maxRecDepth 100000 in
theorem okX3_sheet (l : Launch) (g : tl_G) (hI : tl_I g) (σ : tl_St) (a1 : Int32) (a2 : Int32) (a3 : Int32) (ro : Int32) (σo : tl_St) (h : fX3_sheet σ a1 a2 a3 = some (ro, σo)) : Met l yX3_sheet wsX3_sheet rX3_sheet (va_Pc [.ref (tl_ad g 0), .int a1, .int a2, .int a3] (tl_Pre g σ)) (tl_Qi g ro σo) 0 0 (tl_A g) := by
  refine tl_enter (cc := cX3_sheet) (maxL := 4) (ret := (some .int)) (own := RX3) hI (by decide) rfl rfl (Nat.le_of_ble_eq_true rfl) ?_
  intro p e s m below meth c C hts H locs hP hS ls hl
  have hx := C.1
  have hb := C.2.1
  have hl : lv_has ls 4 [(0, .ref (tl_ad g 0)), (1, .int a1), (2, .int a2), (3, .int a3)] := hl
  have hc3 : ∀ w ∈ u_ws RX3 TX3 13, w.before [.ref (tl_ad g 0), .int a1, .int a2, .int a3].toArray s = true := fun w hw => hts w (List.mem_cons_of_mem _ (List.mem_append_left _ (List.mem_append_right _ hw)))
  have lk0 : (Cond.fieldLink RX3 27 "ThriftLock" "sheets" "[LThriftLock$Sheet;").before [.ref (tl_ad g 0), .int a1, .int a2, .int a3].toArray s = true := hts _ (List.mem_cons_of_mem _ (List.mem_append_left _ (List.mem_append_left _ (List.mem_append_left _ (List.mem_of_getElem? (i := 0) rfl)))))
  unfold fX3_sheet at h
  refine lv_iload_n (pc := 0) hx hb dX3_sheet_0 rfl (lv_at hl 1 rfl) ?_
  obtain ⟨r1, er1, h⟩ := tl_nm h
  refine caX3_isSheet (pc := 1) C hts hP hS er1 gX3_sheet_X3_isSheet ⟨Nat.le_of_ble_eq_true rfl, Nat.le_of_ble_eq_true rfl⟩ hl.1 (Nat.le_of_ble_eq_true rfl) dX3_sheet_1 (fun H locs hP hS => ?_)
  refine lv_if_eq (pc := 4) (tgt := 20) hx hb dX3_sheet_4 (by decide) (fun c2 => ?_) (fun c2 => ?_)
  · replace h := (if_pos c2).symm.trans h
    refine lv_bipush (pc := 20) (v := (-2)) hx hb dX3_sheet_20 (by decide) ?_
    exact tl_Ripw (pc := 22) C h hP hS dX3_sheet_22
  · replace h := (if_neg c2).symm.trans h
    refine lv_iload_n (pc := 7) hx hb dX3_sheet_7 rfl (lv_at hl 2 rfl) ?_
    obtain ⟨r3, er3, h⟩ := tl_nm h
    refine caX3_isForm (pc := 8) C hts hP hS er3 gX3_sheet_X3_isForm ⟨Nat.le_of_ble_eq_true rfl, Nat.le_of_ble_eq_true rfl⟩ hl.1 (Nat.le_of_ble_eq_true rfl) dX3_sheet_8 (fun H locs hP hS => ?_)
    refine lv_if_eq (pc := 11) (tgt := 20) hx hb dX3_sheet_11 (by decide) (fun c4 => ?_) (fun c4 => ?_)
    · replace h := (if_pos c4).symm.trans h
      refine lv_bipush (pc := 20) (v := (-2)) hx hb dX3_sheet_20 (by decide) ?_
      exact tl_Ripw (pc := 22) C h hP hS dX3_sheet_22
    · replace h := (if_neg c4).symm.trans h
      refine lv_iload_n (pc := 14) hx hb dX3_sheet_14 rfl (lv_at hl 3 rfl) ?_
      refine lv_bipush (pc := 15) (v := 60) hx hb dX3_sheet_15 (by decide) ?_
      refine lv_icmp_le (pc := 17) (tgt := 23) hx hb dX3_sheet_17 (by decide) (fun c5 => ?_) (fun c5 => ?_)
      · replace h := (if_pos c5).symm.trans h
        refine lv_iload_n (pc := 23) hx hb dX3_sheet_23 rfl (lv_at hl 3 rfl) ?_
        refine lv_if_ge (pc := 24) (tgt := 33) hx hb dX3_sheet_24 (by decide) (fun c6 => ?_) (fun c6 => ?_)
        · replace h := (if_pos c6).symm.trans h
          refine lv_aload_n (pc := 33) hx hb dX3_sheet_33 rfl (lv_at hl 0 rfl) ?_
          refine tl_g0_3 (pc := 34) C hc3 hP lk0 dX3_sheet_34 ?_
          refine lv_iload_n (pc := 37) hx hb dX3_sheet_37 rfl (lv_at hl 1 rfl) ?_
          obtain ⟨g7, h⟩ := tl_gd h
          refine tl_aldS (pc := 38) C hP g7 dX3_sheet_38 ?_
          obtain ⟨o8, eo8, h⟩ := tl_nm h
          have io8 : tl_isS o8 := by rw [← eo8]; exact tl_sOf g7
          refine tl_tr (congrArg (tl_ad g) eo8) ?_
          refine lv_iload_n (pc := 39) hx hb dX3_sheet_39 rfl (lv_at hl 2 rfl) ?_
          refine lv_iload_n (pc := 40) hx hb dX3_sheet_40 rfl (lv_at hl 3 rfl) ?_
          obtain ⟨σ9, eσ9, h⟩ := tl_o1s h
          refine caX1_renew (pc := 41) C hts hP hS io8 eσ9 gX3_sheet_X1_renew ⟨Nat.le_of_ble_eq_true rfl, Nat.le_of_ble_eq_true rfl⟩ hl.1 (Nat.le_of_ble_eq_true rfl) dX3_sheet_41 (fun H locs hP hS => ?_)
          refine lv_iload_n (pc := 44) hx hb dX3_sheet_44 rfl (lv_at hl 3 rfl) ?_
          exact tl_Ripw (pc := 45) C h hP hS dX3_sheet_45
        · replace h := (if_neg c6).symm.trans h
          refine lv_aload_n (pc := 27) hx hb dX3_sheet_27 rfl (lv_at hl 0 rfl) ?_
          refine lv_iconst (pc := 28) (v := 5) hx hb dX3_sheet_28 (by decide) ?_
          obtain ⟨r10, σ11, er10, h⟩ := tl_nm2 h
          refine caX3_found (pc := 29) C hts hP hS er10 gX3_sheet_X3_found ⟨Nat.le_of_ble_eq_true rfl, Nat.le_of_ble_eq_true rfl⟩ hl.1 (Nat.le_of_ble_eq_true rfl) dX3_sheet_29 (fun H locs hP hS => ?_)
          exact tl_Ripw (pc := 32) C h hP hS dX3_sheet_32
      · replace h := (if_neg c5).symm.trans h
        refine lv_bipush (pc := 20) (v := (-2)) hx hb dX3_sheet_20 (by decide) ?_
        exact tl_Ripw (pc := 22) C h hP hS dX3_sheet_22
theorem caX3_sheet {p : Program} {l : Launch} {e : Env} {R : Room} {s : State} {m : MethodId} {args : Array Value} {below : List Frame} {meth : Method} {c : Code} {H : Heap} {locs : List Loc} {Q : State → Prop} {cc : ByteArray} {pc : Nat} {ls : Array Slot} {rest : List Value} {g : tl_G} {σ : tl_St} {H0 : Heap} {nL : Nat} {own : String} {ret : Option FieldType} {index : Nat} (C : tl_C p s m meth c cc nL own ret g) {Ts : List Cond} (hts : ∀ w ∈ Ts, w.before args s = true) (hP : va_P g.1 vwCl (tl_W g σ) H) (hS : va_S (tl_A g) H0 H locs) {a1 : Int32} {a2 : Int32} {a3 : Int32} {ro : Int32} {σo : tl_St} (h : fX3_sheet σ a1 a2 a3 = some (ro, σo)) (hG : GoodIn Ts (wsV own index RX3 yX3_sheet wsX3_sheet)) (hR : 2 + 1 ≤ R.frames ∧ 8 + (4 + 11) + 45 ≤ R.locals) (hls : ls.size = nL) (hrm : (rest.map fun v => v.category).sum ≤ 8) (hdg : decode cc pc = .ok (.invokevirtual index, 3)) (kk : ∀ (H1 : Heap) (locs1 : List Loc), va_P g.1 vwCl (tl_W g σo) H1 → va_S (tl_A g) H0 H1 locs1 → W p l e R s m args below meth c H1 locs1 0 0 Q (F0 m (pc + 3) ls (.int ro :: rest))) : W p l e R s m args below meth c H locs 0 0 Q (F0 m pc ls (.int a3 :: .int a2 :: .int a1 :: .ref (tl_ad g 0) :: rest)) :=
  tl_goi (tl_callV C hts hP (okX3_sheet l g C.2.2.2.2.2.2.2 σ a1 a2 a3 ro σo h) rfl rfl rfl (n := 3) (by decide +kernel) rfl (ci := 3) rfl (tl_k0 g σ) hG hR hls rfl hrm hdg) hS kk
abbrev rX3_lose : Room := { frames := 1, cells := 0, slots := 0, locals := 21 }
set_option maxHeartbeats 4000000 in
set_option maxRecDepth 100000 in
theorem okX3_lose (l : Launch) (g : tl_G) (hI : tl_I g) (σ : tl_St) (a1 : Int32) (ro : Int32) (σo : tl_St) (h : fX3_lose σ a1 = some (ro, σo)) : Met l yX3_lose wsX3_lose rX3_lose (va_Pc [.ref (tl_ad g 0), .int a1] (tl_Pre g σ)) (tl_Qi g ro σo) 0 0 (tl_A g) := by
  refine tl_enter (cc := cX3_lose) (maxL := 2) (ret := (some .int)) (own := RX3) hI (by decide) rfl rfl (Nat.le_of_ble_eq_true rfl) ?_
  intro p e s m below meth c C hts H locs hP hS ls hl
  have hx := C.1
  have hb := C.2.1
  have hl : lv_has ls 2 [(0, .ref (tl_ad g 0)), (1, .int a1)] := hl
  have hc1 : ∀ w ∈ u_ws RX1 TX1 4, w.before [.ref (tl_ad g 0), .int a1].toArray s = true := fun w hw => hts w (List.mem_cons_of_mem _ (List.mem_append_right _ hw))
  have hc3 : ∀ w ∈ u_ws RX3 TX3 13, w.before [.ref (tl_ad g 0), .int a1].toArray s = true := fun w hw => hts w (List.mem_cons_of_mem _ (List.mem_append_left _ (List.mem_append_right _ hw)))
  have lk0 : (Cond.fieldLink RX3 27 "ThriftLock" "sheets" "[LThriftLock$Sheet;").before [.ref (tl_ad g 0), .int a1].toArray s = true := hts _ (List.mem_cons_of_mem _ (List.mem_append_left _ (List.mem_append_left _ (List.mem_of_getElem? (i := 0) rfl))))
  have lk1 : (Cond.fieldLink RX3 71 "ThriftLock$Sheet" "lost" "Z").before [.ref (tl_ad g 0), .int a1].toArray s = true := hts _ (List.mem_cons_of_mem _ (List.mem_append_left _ (List.mem_append_left _ (List.mem_of_getElem? (i := 1) rfl))))
  have lk2 : (Cond.fieldLink RX3 79 "ThriftLock$Sheet" "size" "I").before [.ref (tl_ad g 0), .int a1].toArray s = true := hts _ (List.mem_cons_of_mem _ (List.mem_append_left _ (List.mem_append_left _ (List.mem_of_getElem? (i := 2) rfl))))
  unfold fX3_lose at h
  refine lv_iload_n (pc := 0) hx hb dX3_lose_0 rfl (lv_at hl 1 rfl) ?_
  obtain ⟨r1, er1, h⟩ := tl_nm h
  refine caX3_isSheet (pc := 1) C hts hP hS er1 gX3_lose_X3_isSheet ⟨Nat.le_of_ble_eq_true rfl, Nat.le_of_ble_eq_true rfl⟩ hl.1 (Nat.le_of_ble_eq_true rfl) dX3_lose_1 (fun H locs hP hS => ?_)
  refine lv_if_ne (pc := 4) (tgt := 10) hx hb dX3_lose_4 (by decide) (fun c2 => ?_) (fun c2 => ?_)
  · replace h := (if_neg c2).symm.trans h
    refine lv_aload_n (pc := 10) hx hb dX3_lose_10 rfl (lv_at hl 0 rfl) ?_
    refine tl_g0_3 (pc := 11) C hc3 hP lk0 dX3_lose_11 ?_
    refine lv_iload_n (pc := 14) hx hb dX3_lose_14 rfl (lv_at hl 1 rfl) ?_
    obtain ⟨g3, h⟩ := tl_gd h
    refine tl_aldS (pc := 15) C hP g3 dX3_lose_15 ?_
    obtain ⟨o4, eo4, h⟩ := tl_nm h
    have io4 : tl_isS o4 := by rw [← eo4]; exact tl_sOf g3
    refine tl_tr (congrArg (tl_ad g) eo4) ?_
    refine tl_gS_0 (pc := 16) C hc1 hP io4 lk1 dX3_lose_16 ?_
    refine lv_if_eq (pc := 19) (tgt := 28) hx hb dX3_lose_19 (by decide) (fun c5 => ?_) (fun c5 => ?_)
    · replace h := (if_pos c5).symm.trans h
      refine lv_aload_n (pc := 28) hx hb dX3_lose_28 rfl (lv_at hl 0 rfl) ?_
      refine tl_g0_3 (pc := 29) C hc3 hP lk0 dX3_lose_29 ?_
      refine lv_iload_n (pc := 32) hx hb dX3_lose_32 rfl (lv_at hl 1 rfl) ?_
      obtain ⟨g6, h⟩ := tl_gd h
      refine tl_aldS (pc := 33) C hP g6 dX3_lose_33 ?_
      obtain ⟨o7, eo7, h⟩ := tl_nm h
      have io7 : tl_isS o7 := by rw [← eo7]; exact tl_sOf g6
      refine tl_tr (congrArg (tl_ad g) eo7) ?_
      refine lv_iconst (pc := 34) (v := 1) hx hb dX3_lose_34 (by decide) ?_
      obtain ⟨σ8, eσ8, h⟩ := tl_nm h
      refine tl_sS_0 (pc := 35) C hc1 hP hS io7 (Or.inr rfl) eσ8 lk1 dX3_lose_35 (fun H locs hP hS => ?_)
      refine lv_aload_n (pc := 38) hx hb dX3_lose_38 rfl (lv_at hl 0 rfl) ?_
      refine tl_g0_3 (pc := 39) C hc3 hP lk0 dX3_lose_39 ?_
      refine lv_iload_n (pc := 42) hx hb dX3_lose_42 rfl (lv_at hl 1 rfl) ?_
      obtain ⟨g9, h⟩ := tl_gd h
      refine tl_aldS (pc := 43) C hP g9 dX3_lose_43 ?_
      obtain ⟨o10, eo10, h⟩ := tl_nm h
      have io10 : tl_isS o10 := by rw [← eo10]; exact tl_sOf g9
      refine tl_tr (congrArg (tl_ad g) eo10) ?_
      refine tl_gS_2 (pc := 44) C hc1 hP io10 lk2 dX3_lose_44 ?_
      exact tl_Ripw (pc := 47) C h hP hS dX3_lose_47
    · replace h := (if_neg c5).symm.trans h
      refine lv_aload_n (pc := 22) hx hb dX3_lose_22 rfl (lv_at hl 0 rfl) ?_
      refine lv_iconst (pc := 23) (v := 1) hx hb dX3_lose_23 (by decide) ?_
      obtain ⟨r11, σ12, er11, h⟩ := tl_nm2 h
      refine caX3_found (pc := 24) C hts hP hS er11 gX3_lose_X3_found ⟨Nat.le_of_ble_eq_true rfl, Nat.le_of_ble_eq_true rfl⟩ hl.1 (Nat.le_of_ble_eq_true rfl) dX3_lose_24 (fun H locs hP hS => ?_)
      exact tl_Ripw (pc := 27) C h hP hS dX3_lose_27
  · replace h := (if_pos c2).symm.trans h
    refine lv_bipush (pc := 7) (v := (-2)) hx hb dX3_lose_7 (by decide) ?_
    exact tl_Ripw (pc := 9) C h hP hS dX3_lose_9
theorem caX3_lose {p : Program} {l : Launch} {e : Env} {R : Room} {s : State} {m : MethodId} {args : Array Value} {below : List Frame} {meth : Method} {c : Code} {H : Heap} {locs : List Loc} {Q : State → Prop} {cc : ByteArray} {pc : Nat} {ls : Array Slot} {rest : List Value} {g : tl_G} {σ : tl_St} {H0 : Heap} {nL : Nat} {own : String} {ret : Option FieldType} {index : Nat} (C : tl_C p s m meth c cc nL own ret g) {Ts : List Cond} (hts : ∀ w ∈ Ts, w.before args s = true) (hP : va_P g.1 vwCl (tl_W g σ) H) (hS : va_S (tl_A g) H0 H locs) {a1 : Int32} {ro : Int32} {σo : tl_St} (h : fX3_lose σ a1 = some (ro, σo)) (hG : GoodIn Ts (wsV own index RX3 yX3_lose wsX3_lose)) (hR : 1 + 1 ≤ R.frames ∧ 8 + (2 + 11) + 21 ≤ R.locals) (hls : ls.size = nL) (hrm : (rest.map fun v => v.category).sum ≤ 8) (hdg : decode cc pc = .ok (.invokevirtual index, 3)) (kk : ∀ (H1 : Heap) (locs1 : List Loc), va_P g.1 vwCl (tl_W g σo) H1 → va_S (tl_A g) H0 H1 locs1 → W p l e R s m args below meth c H1 locs1 0 0 Q (F0 m (pc + 3) ls (.int ro :: rest))) : W p l e R s m args below meth c H locs 0 0 Q (F0 m pc ls (.int a1 :: .ref (tl_ad g 0) :: rest)) :=
  tl_goi (tl_callV C hts hP (okX3_lose l g C.2.2.2.2.2.2.2 σ a1 ro σo h) rfl rfl rfl (n := 1) (by decide +kernel) rfl (ci := 3) rfl (tl_k0 g σ) hG hR hls rfl hrm hdg) hS kk
abbrev rX3_lay : Room := { frames := 1, cells := 0, slots := 0, locals := 22 }
set_option maxHeartbeats 4000000 in
set_option maxRecDepth 100000 in
theorem okX3_lay (l : Launch) (g : tl_G) (hI : tl_I g) (σ : tl_St) (a1 : Int32) (a2 : Int32) (a3 : Int32) (a4 : Int32) (ro : Int32) (σo : tl_St) (h : fX3_lay σ a1 a2 a3 a4 = some (ro, σo)) : Met l yX3_lay wsX3_lay rX3_lay (va_Pc [.ref (tl_ad g 0), .int a1, .int a2, .int a3, .int a4] (tl_Pre g σ)) (tl_Qi g ro σo) 0 0 (tl_A g) := by
  refine tl_enter (cc := cX3_lay) (maxL := 6) (ret := (some .int)) (own := RX3) hI (by decide) rfl rfl (Nat.le_of_ble_eq_true rfl) ?_
  intro p e s m below meth c C hts H locs hP hS ls hl
  have hx := C.1
  have hb := C.2.1
  have hl : lv_has ls 6 [(0, .ref (tl_ad g 0)), (1, .int a1), (2, .int a2), (3, .int a3), (4, .int a4)] := hl
  have hc3 : ∀ w ∈ u_ws RX3 TX3 13, w.before [.ref (tl_ad g 0), .int a1, .int a2, .int a3, .int a4].toArray s = true := fun w hw => hts w (List.mem_cons_of_mem _ (List.mem_append_left _ (List.mem_append_right _ hw)))
  have lk0 : (Cond.fieldLink RX3 27 "ThriftLock" "sheets" "[LThriftLock$Sheet;").before [.ref (tl_ad g 0), .int a1, .int a2, .int a3, .int a4].toArray s = true := hts _ (List.mem_cons_of_mem _ (List.mem_append_left _ (List.mem_append_left _ (List.mem_append_left _ (List.mem_of_getElem? (i := 0) rfl)))))
  unfold fX3_lay at h
  refine lv_iload_n (pc := 0) hx hb dX3_lay_0 rfl (lv_at hl 1 rfl) ?_
  obtain ⟨r1, er1, h⟩ := tl_nm h
  refine caX3_isSheet (pc := 1) C hts hP hS er1 gX3_lay_X3_isSheet ⟨Nat.le_of_ble_eq_true rfl, Nat.le_of_ble_eq_true rfl⟩ hl.1 (Nat.le_of_ble_eq_true rfl) dX3_lay_1 (fun H locs hP hS => ?_)
  refine lv_if_eq (pc := 4) (tgt := 14) hx hb dX3_lay_4 (by decide) (fun c2 => ?_) (fun c2 => ?_)
  · replace h := (if_pos c2).symm.trans h
    refine lv_bipush (pc := 14) (v := (-2)) hx hb dX3_lay_14 (by decide) ?_
    exact tl_Ripw (pc := 16) C h hP hS dX3_lay_16
  · replace h := (if_neg c2).symm.trans h
    refine lv_iload_n (pc := 7) hx hb dX3_lay_7 rfl (lv_at hl 2 rfl) ?_
    obtain ⟨r3, er3, h⟩ := tl_nm h
    refine caX3_isForm (pc := 8) C hts hP hS er3 gX3_lay_X3_isForm ⟨Nat.le_of_ble_eq_true rfl, Nat.le_of_ble_eq_true rfl⟩ hl.1 (Nat.le_of_ble_eq_true rfl) dX3_lay_8 (fun H locs hP hS => ?_)
    refine lv_if_ne (pc := 11) (tgt := 17) hx hb dX3_lay_11 (by decide) (fun c4 => ?_) (fun c4 => ?_)
    · replace h := (if_neg c4).symm.trans h
      refine lv_aload_n (pc := 17) hx hb dX3_lay_17 rfl (lv_at hl 0 rfl) ?_
      refine tl_g0_3 (pc := 18) C hc3 hP lk0 dX3_lay_18 ?_
      refine lv_iload_n (pc := 21) hx hb dX3_lay_21 rfl (lv_at hl 1 rfl) ?_
      obtain ⟨g5, h⟩ := tl_gd h
      refine tl_aldS (pc := 22) C hP g5 dX3_lay_22 ?_
      obtain ⟨o6, eo6, h⟩ := tl_nm h
      have io6 : tl_isS o6 := by rw [← eo6]; exact tl_sOf g5
      refine tl_tr (congrArg (tl_ad g) eo6) ?_
      refine lv_iload_n (pc := 23) hx hb dX3_lay_23 rfl (lv_at hl 2 rfl) ?_
      refine lv_iload_n (pc := 24) hx hb dX3_lay_24 rfl (lv_at hl 3 rfl) ?_
      obtain ⟨r7, er7, h⟩ := tl_nm h
      refine caX1_faultAt (pc := 25) C hts hP hS io6 er7 gX3_lay_X1_faultAt ⟨Nat.le_of_ble_eq_true rfl, Nat.le_of_ble_eq_true rfl⟩ hl.1 (Nat.le_of_ble_eq_true rfl) dX3_lay_25 (fun H locs hP hS => ?_)
      refine lv_istore (pc := 28) (lv' := [(5, .int r7), (0, .ref (tl_ad g 0)), (1, .int a1), (2, .int a2), (3, .int a3), (4, .int a4)]) hx hb dX3_lay_28 hl (by decide) rfl (fun ls hl => ?_)
      refine lv_iload (pc := 30) hx hb dX3_lay_30 (lv_at hl 0 rfl) ?_
      refine lv_if_eq (pc := 32) (tgt := 42) hx hb dX3_lay_32 (by decide) (fun c8 => ?_) (fun c8 => ?_)
      · replace h := (if_pos c8).symm.trans h
        refine lv_aload_n (pc := 42) hx hb dX3_lay_42 rfl (lv_at hl 1 rfl) ?_
        refine tl_g0_3 (pc := 43) C hc3 hP lk0 dX3_lay_43 ?_
        refine lv_iload_n (pc := 46) hx hb dX3_lay_46 rfl (lv_at hl 2 rfl) ?_
        obtain ⟨g9, h⟩ := tl_gd h
        refine tl_aldS (pc := 47) C hP g9 dX3_lay_47 ?_
        obtain ⟨o10, eo10, h⟩ := tl_nm h
        have io10 : tl_isS o10 := by rw [← eo10]; exact tl_sOf g9
        refine tl_tr (congrArg (tl_ad g) eo10) ?_
        refine lv_iload_n (pc := 48) hx hb dX3_lay_48 rfl (lv_at hl 4 rfl) ?_
        refine lv_iload (pc := 49) hx hb dX3_lay_49 (lv_at hl 5 rfl) ?_
        obtain ⟨σ11, eσ11, h⟩ := tl_o1s h
        refine caX1_put (pc := 51) C hts hP hS io10 eσ11 gX3_lay_X1_put ⟨Nat.le_of_ble_eq_true rfl, Nat.le_of_ble_eq_true rfl⟩ hl.1 (Nat.le_of_ble_eq_true rfl) dX3_lay_51 (fun H locs hP hS => ?_)
        refine lv_iconst (pc := 54) (v := 1) hx hb dX3_lay_54 (by decide) ?_
        exact tl_Ripw (pc := 55) C h hP hS dX3_lay_55
      · replace h := (if_neg c8).symm.trans h
        refine lv_aload_n (pc := 35) hx hb dX3_lay_35 rfl (lv_at hl 1 rfl) ?_
        refine lv_iload (pc := 36) hx hb dX3_lay_36 (lv_at hl 0 rfl) ?_
        obtain ⟨r12, σ13, er12, h⟩ := tl_nm2 h
        refine caX3_found (pc := 38) C hts hP hS er12 gX3_lay_X3_found ⟨Nat.le_of_ble_eq_true rfl, Nat.le_of_ble_eq_true rfl⟩ hl.1 (Nat.le_of_ble_eq_true rfl) dX3_lay_38 (fun H locs hP hS => ?_)
        exact tl_Ripw (pc := 41) C h hP hS dX3_lay_41
    · replace h := (if_pos c4).symm.trans h
      refine lv_bipush (pc := 14) (v := (-2)) hx hb dX3_lay_14 (by decide) ?_
      exact tl_Ripw (pc := 16) C h hP hS dX3_lay_16
theorem caX3_lay {p : Program} {l : Launch} {e : Env} {R : Room} {s : State} {m : MethodId} {args : Array Value} {below : List Frame} {meth : Method} {c : Code} {H : Heap} {locs : List Loc} {Q : State → Prop} {cc : ByteArray} {pc : Nat} {ls : Array Slot} {rest : List Value} {g : tl_G} {σ : tl_St} {H0 : Heap} {nL : Nat} {own : String} {ret : Option FieldType} {index : Nat} (C : tl_C p s m meth c cc nL own ret g) {Ts : List Cond} (hts : ∀ w ∈ Ts, w.before args s = true) (hP : va_P g.1 vwCl (tl_W g σ) H) (hS : va_S (tl_A g) H0 H locs) {a1 : Int32} {a2 : Int32} {a3 : Int32} {a4 : Int32} {ro : Int32} {σo : tl_St} (h : fX3_lay σ a1 a2 a3 a4 = some (ro, σo)) (hG : GoodIn Ts (wsV own index RX3 yX3_lay wsX3_lay)) (hR : 1 + 1 ≤ R.frames ∧ 8 + (6 + 11) + 22 ≤ R.locals) (hls : ls.size = nL) (hrm : (rest.map fun v => v.category).sum ≤ 8) (hdg : decode cc pc = .ok (.invokevirtual index, 3)) (kk : ∀ (H1 : Heap) (locs1 : List Loc), va_P g.1 vwCl (tl_W g σo) H1 → va_S (tl_A g) H0 H1 locs1 → W p l e R s m args below meth c H1 locs1 0 0 Q (F0 m (pc + 3) ls (.int ro :: rest))) : W p l e R s m args below meth c H locs 0 0 Q (F0 m pc ls (.int a4 :: .int a3 :: .int a2 :: .int a1 :: .ref (tl_ad g 0) :: rest)) :=
  tl_goi (tl_callV C hts hP (okX3_lay l g C.2.2.2.2.2.2.2 σ a1 a2 a3 a4 ro σo h) rfl rfl rfl (n := 4) (by decide +kernel) rfl (ci := 3) rfl (tl_k0 g σ) hG hR hls rfl hrm hdg) hS kk
abbrev rX3_get : Room := { frames := 1, cells := 0, slots := 0, locals := 22 }
set_option maxHeartbeats 4000000 in
set_option maxRecDepth 100000 in
theorem okX3_get (l : Launch) (g : tl_G) (hI : tl_I g) (σ : tl_St) (a1 : Int32) (a2 : Int32) (a3 : Int32) (ro : Int32) (σo : tl_St) (h : fX3_get σ a1 a2 a3 = some (ro, σo)) : Met l yX3_get wsX3_get rX3_get (va_Pc [.ref (tl_ad g 0), .int a1, .int a2, .int a3] (tl_Pre g σ)) (tl_Qi g ro σo) 0 0 (tl_A g) := by
  refine tl_enter (cc := cX3_get) (maxL := 5) (ret := (some .int)) (own := RX3) hI (by decide) rfl rfl (Nat.le_of_ble_eq_true rfl) ?_
  intro p e s m below meth c C hts H locs hP hS ls hl
  have hx := C.1
  have hb := C.2.1
  have hl : lv_has ls 5 [(0, .ref (tl_ad g 0)), (1, .int a1), (2, .int a2), (3, .int a3)] := hl
  have hc1 : ∀ w ∈ u_ws RX1 TX1 4, w.before [.ref (tl_ad g 0), .int a1, .int a2, .int a3].toArray s = true := fun w hw => hts w (List.mem_cons_of_mem _ (List.mem_append_right _ hw))
  have hc3 : ∀ w ∈ u_ws RX3 TX3 13, w.before [.ref (tl_ad g 0), .int a1, .int a2, .int a3].toArray s = true := fun w hw => hts w (List.mem_cons_of_mem _ (List.mem_append_left _ (List.mem_append_right _ hw)))
  have lk0 : (Cond.constant RX3 210 (-2147483648)).before [.ref (tl_ad g 0), .int a1, .int a2, .int a3].toArray s = true := hts _ (List.mem_cons_of_mem _ (List.mem_append_left _ (List.mem_append_left _ (List.mem_of_getElem? (i := 0) rfl))))
  have lk1 : (Cond.fieldLink RX3 27 "ThriftLock" "sheets" "[LThriftLock$Sheet;").before [.ref (tl_ad g 0), .int a1, .int a2, .int a3].toArray s = true := hts _ (List.mem_cons_of_mem _ (List.mem_append_left _ (List.mem_append_left _ (List.mem_of_getElem? (i := 1) rfl))))
  have lk2 : (Cond.fieldLink RX3 82 "ThriftLock$Sheet" "items" "[I").before [.ref (tl_ad g 0), .int a1, .int a2, .int a3].toArray s = true := hts _ (List.mem_cons_of_mem _ (List.mem_append_left _ (List.mem_append_left _ (List.mem_of_getElem? (i := 2) rfl))))
  unfold fX3_get at h
  refine lv_iload_n (pc := 0) hx hb dX3_get_0 rfl (lv_at hl 1 rfl) ?_
  obtain ⟨r1, er1, h⟩ := tl_nm h
  refine caX3_isSheet (pc := 1) C hts hP hS er1 gX3_get_X3_isSheet ⟨Nat.le_of_ble_eq_true rfl, Nat.le_of_ble_eq_true rfl⟩ hl.1 (Nat.le_of_ble_eq_true rfl) dX3_get_1 (fun H locs hP hS => ?_)
  refine lv_if_eq (pc := 4) (tgt := 14) hx hb dX3_get_4 (by decide) (fun c2 => ?_) (fun c2 => ?_)
  · replace h := (if_pos c2).symm.trans h
    refine lv_ldc (pc := 14) (v := (-2147483648)) hx hb C.2.2.2.1 lk0 dX3_get_14 ?_
    exact tl_Ripw (pc := 16) C h hP hS dX3_get_16
  · replace h := (if_neg c2).symm.trans h
    refine lv_iload_n (pc := 7) hx hb dX3_get_7 rfl (lv_at hl 2 rfl) ?_
    obtain ⟨r3, er3, h⟩ := tl_nm h
    refine caX3_isForm (pc := 8) C hts hP hS er3 gX3_get_X3_isForm ⟨Nat.le_of_ble_eq_true rfl, Nat.le_of_ble_eq_true rfl⟩ hl.1 (Nat.le_of_ble_eq_true rfl) dX3_get_8 (fun H locs hP hS => ?_)
    refine lv_if_ne (pc := 11) (tgt := 17) hx hb dX3_get_11 (by decide) (fun c4 => ?_) (fun c4 => ?_)
    · replace h := (if_neg c4).symm.trans h
      refine lv_aload_n (pc := 17) hx hb dX3_get_17 rfl (lv_at hl 0 rfl) ?_
      refine tl_g0_3 (pc := 18) C hc3 hP lk1 dX3_get_18 ?_
      refine lv_iload_n (pc := 21) hx hb dX3_get_21 rfl (lv_at hl 1 rfl) ?_
      obtain ⟨g5, h⟩ := tl_gd h
      refine tl_aldS (pc := 22) C hP g5 dX3_get_22 ?_
      obtain ⟨o6, eo6, h⟩ := tl_nm h
      have io6 : tl_isS o6 := by rw [← eo6]; exact tl_sOf g5
      refine tl_tr (congrArg (tl_ad g) eo6) ?_
      refine lv_iload_n (pc := 23) hx hb dX3_get_23 rfl (lv_at hl 2 rfl) ?_
      refine lv_iload_n (pc := 24) hx hb dX3_get_24 rfl (lv_at hl 3 rfl) ?_
      obtain ⟨r7, er7, h⟩ := tl_nm h
      refine caX1_faultAt (pc := 25) C hts hP hS io6 er7 gX3_get_X1_faultAt ⟨Nat.le_of_ble_eq_true rfl, Nat.le_of_ble_eq_true rfl⟩ hl.1 (Nat.le_of_ble_eq_true rfl) dX3_get_25 (fun H locs hP hS => ?_)
      refine lv_istore (pc := 28) (lv' := [(4, .int r7), (0, .ref (tl_ad g 0)), (1, .int a1), (2, .int a2), (3, .int a3)]) hx hb dX3_get_28 hl (by decide) rfl (fun ls hl => ?_)
      refine lv_iload (pc := 30) hx hb dX3_get_30 (lv_at hl 0 rfl) ?_
      refine lv_if_eq (pc := 32) (tgt := 45) hx hb dX3_get_32 (by decide) (fun c8 => ?_) (fun c8 => ?_)
      · replace h := (if_pos c8).symm.trans h
        refine lv_aload_n (pc := 45) hx hb dX3_get_45 rfl (lv_at hl 1 rfl) ?_
        refine tl_g0_3 (pc := 46) C hc3 hP lk1 dX3_get_46 ?_
        refine lv_iload_n (pc := 49) hx hb dX3_get_49 rfl (lv_at hl 2 rfl) ?_
        obtain ⟨g9, h⟩ := tl_gd h
        refine tl_aldS (pc := 50) C hP g9 dX3_get_50 ?_
        obtain ⟨o10, eo10, h⟩ := tl_nm h
        have io10 : tl_isS o10 := by rw [← eo10]; exact tl_sOf g9
        refine tl_tr (congrArg (tl_ad g) eo10) ?_
        refine tl_gS_3 (pc := 51) C hc1 hP io10 lk2 dX3_get_51 ?_
        refine lv_iload_n (pc := 54) hx hb dX3_get_54 rfl (lv_at hl 4 rfl) ?_
        obtain ⟨g11, h⟩ := tl_gd h
        refine tl_ald (pc := 55) C hP (tl_aS1 io10 g) g11 dX3_get_55 ?_
        exact tl_Ripw (pc := 56) C h hP hS dX3_get_56
      · replace h := (if_neg c8).symm.trans h
        refine lv_aload_n (pc := 35) hx hb dX3_get_35 rfl (lv_at hl 1 rfl) ?_
        refine lv_iload (pc := 36) hx hb dX3_get_36 (lv_at hl 0 rfl) ?_
        obtain ⟨r12, σ13, er12, h⟩ := tl_nm2 h
        refine caX3_found (pc := 38) C hts hP hS er12 gX3_get_X3_found ⟨Nat.le_of_ble_eq_true rfl, Nat.le_of_ble_eq_true rfl⟩ hl.1 (Nat.le_of_ble_eq_true rfl) dX3_get_38 (fun H locs hP hS => ?_)
        refine lv_pop (pc := 41) hx hb dX3_get_41 rfl ?_
        refine lv_ldc (pc := 42) (v := (-2147483648)) hx hb C.2.2.2.1 lk0 dX3_get_42 ?_
        exact tl_Ripw (pc := 44) C h hP hS dX3_get_44
    · replace h := (if_pos c4).symm.trans h
      refine lv_ldc (pc := 14) (v := (-2147483648)) hx hb C.2.2.2.1 lk0 dX3_get_14 ?_
      exact tl_Ripw (pc := 16) C h hP hS dX3_get_16
theorem caX3_get {p : Program} {l : Launch} {e : Env} {R : Room} {s : State} {m : MethodId} {args : Array Value} {below : List Frame} {meth : Method} {c : Code} {H : Heap} {locs : List Loc} {Q : State → Prop} {cc : ByteArray} {pc : Nat} {ls : Array Slot} {rest : List Value} {g : tl_G} {σ : tl_St} {H0 : Heap} {nL : Nat} {own : String} {ret : Option FieldType} {index : Nat} (C : tl_C p s m meth c cc nL own ret g) {Ts : List Cond} (hts : ∀ w ∈ Ts, w.before args s = true) (hP : va_P g.1 vwCl (tl_W g σ) H) (hS : va_S (tl_A g) H0 H locs) {a1 : Int32} {a2 : Int32} {a3 : Int32} {ro : Int32} {σo : tl_St} (h : fX3_get σ a1 a2 a3 = some (ro, σo)) (hG : GoodIn Ts (wsV own index RX3 yX3_get wsX3_get)) (hR : 1 + 1 ≤ R.frames ∧ 8 + (5 + 11) + 22 ≤ R.locals) (hls : ls.size = nL) (hrm : (rest.map fun v => v.category).sum ≤ 8) (hdg : decode cc pc = .ok (.invokevirtual index, 3)) (kk : ∀ (H1 : Heap) (locs1 : List Loc), va_P g.1 vwCl (tl_W g σo) H1 → va_S (tl_A g) H0 H1 locs1 → W p l e R s m args below meth c H1 locs1 0 0 Q (F0 m (pc + 3) ls (.int ro :: rest))) : W p l e R s m args below meth c H locs 0 0 Q (F0 m pc ls (.int a3 :: .int a2 :: .int a1 :: .ref (tl_ad g 0) :: rest)) :=
  tl_goi (tl_callV C hts hP (okX3_get l g C.2.2.2.2.2.2.2 σ a1 a2 a3 ro σo h) rfl rfl rfl (n := 3) (by decide +kernel) rfl (ci := 3) rfl (tl_k0 g σ) hG hR hls rfl hrm hdg) hS kk
abbrev rX3_copy : Room := { frames := 1, cells := 0, slots := 0, locals := 26 }
set_option maxHeartbeats 4000000 in
set_option maxRecDepth 100000 in
theorem okX3_copy (l : Launch) (g : tl_G) (hI : tl_I g) (σ : tl_St) (a1 : Int32) (a2 : Int32) (a3 : Int32) (a4 : Int32) (a5 : Int32) (ro : Int32) (σo : tl_St) (h : fX3_copy σ a1 a2 a3 a4 a5 = some (ro, σo)) : Met l yX3_copy wsX3_copy rX3_copy (va_Pc [.ref (tl_ad g 0), .int a1, .int a2, .int a3, .int a4, .int a5] (tl_Pre g σ)) (tl_Qi g ro σo) 0 0 (tl_A g) := by
  refine tl_enter (cc := cX3_copy) (maxL := 8) (ret := (some .int)) (own := RX3) hI (by decide) rfl rfl (Nat.le_of_ble_eq_true rfl) ?_
  intro p e s m below meth c C hts H locs hP hS ls hl
  have hx := C.1
  have hb := C.2.1
  have hl : lv_has ls 8 [(0, .ref (tl_ad g 0)), (1, .int a1), (2, .int a2), (3, .int a3), (4, .int a4), (5, .int a5)] := hl
  have hc1 : ∀ w ∈ u_ws RX1 TX1 4, w.before [.ref (tl_ad g 0), .int a1, .int a2, .int a3, .int a4, .int a5].toArray s = true := fun w hw => hts w (List.mem_cons_of_mem _ (List.mem_append_right _ hw))
  have hc3 : ∀ w ∈ u_ws RX3 TX3 13, w.before [.ref (tl_ad g 0), .int a1, .int a2, .int a3, .int a4, .int a5].toArray s = true := fun w hw => hts w (List.mem_cons_of_mem _ (List.mem_append_left _ (List.mem_append_right _ hw)))
  have lk0 : (Cond.fieldLink RX3 27 "ThriftLock" "sheets" "[LThriftLock$Sheet;").before [.ref (tl_ad g 0), .int a1, .int a2, .int a3, .int a4, .int a5].toArray s = true := hts _ (List.mem_cons_of_mem _ (List.mem_append_left _ (List.mem_append_left _ (List.mem_of_getElem? (i := 0) rfl))))
  have lk1 : (Cond.fieldLink RX3 71 "ThriftLock$Sheet" "lost" "Z").before [.ref (tl_ad g 0), .int a1, .int a2, .int a3, .int a4, .int a5].toArray s = true := hts _ (List.mem_cons_of_mem _ (List.mem_append_left _ (List.mem_append_left _ (List.mem_of_getElem? (i := 1) rfl))))
  have lk2 : (Cond.fieldLink RX3 211 "ThriftLock$Sheet" "form" "I").before [.ref (tl_ad g 0), .int a1, .int a2, .int a3, .int a4, .int a5].toArray s = true := hts _ (List.mem_cons_of_mem _ (List.mem_append_left _ (List.mem_append_left _ (List.mem_of_getElem? (i := 2) rfl))))
  have lk3 : (Cond.fieldLink RX3 82 "ThriftLock$Sheet" "items" "[I").before [.ref (tl_ad g 0), .int a1, .int a2, .int a3, .int a4, .int a5].toArray s = true := hts _ (List.mem_cons_of_mem _ (List.mem_append_left _ (List.mem_append_left _ (List.mem_of_getElem? (i := 3) rfl))))
  have lk4 : (Cond.methodLink RX3 218 arraycopyName).before [.ref (tl_ad g 0), .int a1, .int a2, .int a3, .int a4, .int a5].toArray s = true := hts _ (List.mem_cons_of_mem _ (List.mem_append_left _ (List.mem_append_left _ (List.mem_of_getElem? (i := 4) rfl))))
  have lk5 : (Cond.native arraycopyName).before [.ref (tl_ad g 0), .int a1, .int a2, .int a3, .int a4, .int a5].toArray s = true := hts _ (List.mem_cons_of_mem _ (List.mem_append_left _ (List.mem_append_left _ (List.mem_of_getElem? (i := 5) rfl))))
  have lk6 : (Cond.static arraycopyName).before [.ref (tl_ad g 0), .int a1, .int a2, .int a3, .int a4, .int a5].toArray s = true := hts _ (List.mem_cons_of_mem _ (List.mem_append_left _ (List.mem_append_left _ (List.mem_of_getElem? (i := 6) rfl))))
  have lk7 : (Cond.initialized "java/lang/System").before [.ref (tl_ad g 0), .int a1, .int a2, .int a3, .int a4, .int a5].toArray s = true := hts _ (List.mem_cons_of_mem _ (List.mem_append_left _ (List.mem_append_left _ (List.mem_of_getElem? (i := 7) rfl))))
  unfold fX3_copy at h
  refine lv_iload_n (pc := 0) hx hb dX3_copy_0 rfl (lv_at hl 1 rfl) ?_
  obtain ⟨r1, er1, h⟩ := tl_nm h
  refine caX3_isSheet (pc := 1) C hts hP hS er1 gX3_copy_X3_isSheet ⟨Nat.le_of_ble_eq_true rfl, Nat.le_of_ble_eq_true rfl⟩ hl.1 (Nat.le_of_ble_eq_true rfl) dX3_copy_1 (fun H locs hP hS => ?_)
  refine lv_if_eq (pc := 4) (tgt := 14) hx hb dX3_copy_4 (by decide) (fun c2 => ?_) (fun c2 => ?_)
  · replace h := (if_pos c2).symm.trans h
    refine lv_bipush (pc := 14) (v := (-2)) hx hb dX3_copy_14 (by decide) ?_
    exact tl_Ripw (pc := 16) C h hP hS dX3_copy_16
  · replace h := (if_neg c2).symm.trans h
    refine lv_iload_n (pc := 7) hx hb dX3_copy_7 rfl (lv_at hl 3 rfl) ?_
    obtain ⟨r3, er3, h⟩ := tl_nm h
    refine caX3_isSheet (pc := 8) C hts hP hS er3 gX3_copy_X3_isSheet ⟨Nat.le_of_ble_eq_true rfl, Nat.le_of_ble_eq_true rfl⟩ hl.1 (Nat.le_of_ble_eq_true rfl) dX3_copy_8 (fun H locs hP hS => ?_)
    refine lv_if_ne (pc := 11) (tgt := 17) hx hb dX3_copy_11 (by decide) (fun c4 => ?_) (fun c4 => ?_)
    · replace h := (if_neg c4).symm.trans h
      refine lv_aload_n (pc := 17) hx hb dX3_copy_17 rfl (lv_at hl 0 rfl) ?_
      refine tl_g0_3 (pc := 18) C hc3 hP lk0 dX3_copy_18 ?_
      refine lv_iload_n (pc := 21) hx hb dX3_copy_21 rfl (lv_at hl 1 rfl) ?_
      obtain ⟨g5, h⟩ := tl_gd h
      refine tl_aldS (pc := 22) C hP g5 dX3_copy_22 ?_
      obtain ⟨o6, eo6, h⟩ := tl_nm h
      have io6 : tl_isS o6 := by rw [← eo6]; exact tl_sOf g5
      refine tl_tr (congrArg (tl_ad g) eo6) ?_
      refine lv_astore (pc := 23) (lv' := [(6, .ref (tl_ad g o6)), (0, .ref (tl_ad g 0)), (1, .int a1), (2, .int a2), (3, .int a3), (4, .int a4), (5, .int a5)]) hx hb dX3_copy_23 hl (by decide) rfl (fun ls hl => ?_)
      refine lv_aload_n (pc := 25) hx hb dX3_copy_25 rfl (lv_at hl 1 rfl) ?_
      refine tl_g0_3 (pc := 26) C hc3 hP lk0 dX3_copy_26 ?_
      refine lv_iload_n (pc := 29) hx hb dX3_copy_29 rfl (lv_at hl 4 rfl) ?_
      obtain ⟨g7, h⟩ := tl_gd h
      refine tl_aldS (pc := 30) C hP g7 dX3_copy_30 ?_
      obtain ⟨o8, eo8, h⟩ := tl_nm h
      have io8 : tl_isS o8 := by rw [← eo8]; exact tl_sOf g7
      refine tl_tr (congrArg (tl_ad g) eo8) ?_
      refine lv_astore (pc := 31) (lv' := [(7, .ref (tl_ad g o8)), (6, .ref (tl_ad g o6)), (0, .ref (tl_ad g 0)), (1, .int a1), (2, .int a2), (3, .int a3), (4, .int a4), (5, .int a5)]) hx hb dX3_copy_31 hl (by decide) rfl (fun ls hl => ?_)
      refine lv_aload (pc := 33) hx hb dX3_copy_33 (lv_at hl 1 rfl) ?_
      refine tl_gS_0 (pc := 35) C hc1 hP io6 lk1 dX3_copy_35 ?_
      obtain ⟨k9, ek9, h⟩ := tl_j0 h
      have hJ9 : ∀ (H : Heap) (locs : List Loc) (ls : Array Slot), k9 = some (ro, σo) → va_P g.1 vwCl (tl_W g σ) H → va_S (tl_A g) s.heap H locs → lv_has ls 8 [(0, .ref (tl_ad g 0))] → W p l e rX3_copy s m [.ref (tl_ad g 0), .int a1, .int a2, .int a3, .int a4, .int a5].toArray below meth c H locs 0 0 (MQ below (tl_Qi g ro σo) [.ref (tl_ad g 0), .int a1, .int a2, .int a3, .int a4, .int a5].toArray s 0 0 (tl_A g)) (F0 m 49 ls []) := by
        intro H locs ls h hP hS hl
        replace h := ek9.trans h
        refine lv_aload_n (pc := 49) hx hb dX3_copy_49 rfl (lv_at hl 0 rfl) ?_
        refine lv_iconst (pc := 50) (v := 1) hx hb dX3_copy_50 (by decide) ?_
        obtain ⟨r10, σ11, er10, h⟩ := tl_nm2 h
        refine caX3_found (pc := 51) C hts hP hS er10 gX3_copy_X3_found ⟨Nat.le_of_ble_eq_true rfl, Nat.le_of_ble_eq_true rfl⟩ hl.1 (Nat.le_of_ble_eq_true rfl) dX3_copy_51 (fun H locs hP hS => ?_)
        exact tl_Ripw (pc := 54) C h hP hS dX3_copy_54
      refine lv_if_ne (pc := 38) (tgt := 49) hx hb dX3_copy_38 (by decide) (fun c12 => ?_) (fun c12 => ?_)
      · replace h := (if_neg c12).symm.trans h
        exact hJ9 _ _ _ h hP hS (lv_sub hl [2] rfl)
      · replace h := (if_pos c12).symm.trans h
        refine lv_aload (pc := 41) hx hb dX3_copy_41 (lv_at hl 0 rfl) ?_
        refine tl_gS_0 (pc := 43) C hc1 hP io8 lk1 dX3_copy_43 ?_
        refine lv_if_eq (pc := 46) (tgt := 55) hx hb dX3_copy_46 (by decide) (fun c13 => ?_) (fun c13 => ?_)
        · replace h := (if_pos c13).symm.trans h
          refine lv_aload (pc := 55) hx hb dX3_copy_55 (lv_at hl 1 rfl) ?_
          refine tl_gS_1 (pc := 57) C hc1 hP io6 lk2 dX3_copy_57 ?_
          refine lv_aload (pc := 60) hx hb dX3_copy_60 (lv_at hl 0 rfl) ?_
          refine tl_gS_1 (pc := 62) C hc1 hP io8 lk2 dX3_copy_62 ?_
          refine lv_icmp_eq (pc := 65) (tgt := 74) hx hb dX3_copy_65 (by decide) (fun c14 => ?_) (fun c14 => ?_)
          · replace h := (if_pos c14).symm.trans h
            refine lv_aload (pc := 74) hx hb dX3_copy_74 (lv_at hl 1 rfl) ?_
            refine lv_iload_n (pc := 76) hx hb dX3_copy_76 rfl (lv_at hl 4 rfl) ?_
            refine lv_iload (pc := 77) hx hb dX3_copy_77 (lv_at hl 7 rfl) ?_
            obtain ⟨r15, er15, h⟩ := tl_nm h
            refine caX1_hasSpan (pc := 79) C hts hP hS io6 er15 gX3_copy_X1_hasSpan ⟨Nat.le_of_ble_eq_true rfl, Nat.le_of_ble_eq_true rfl⟩ hl.1 (Nat.le_of_ble_eq_true rfl) dX3_copy_79 (fun H locs hP hS => ?_)
            obtain ⟨k16, ek16, h⟩ := tl_j0 h
            have hJ16 : ∀ (H : Heap) (locs : List Loc) (ls : Array Slot), k16 = some (ro, σo) → va_P g.1 vwCl (tl_W g σ) H → va_S (tl_A g) s.heap H locs → lv_has ls 8 [(0, .ref (tl_ad g 0))] → W p l e rX3_copy s m [.ref (tl_ad g 0), .int a1, .int a2, .int a3, .int a4, .int a5].toArray below meth c H locs 0 0 (MQ below (tl_Qi g ro σo) [.ref (tl_ad g 0), .int a1, .int a2, .int a3, .int a4, .int a5].toArray s 0 0 (tl_A g)) (F0 m 97 ls []) := by
              intro H locs ls h hP hS hl
              replace h := ek16.trans h
              refine lv_aload_n (pc := 97) hx hb dX3_copy_97 rfl (lv_at hl 0 rfl) ?_
              refine lv_iconst (pc := 98) (v := 2) hx hb dX3_copy_98 (by decide) ?_
              obtain ⟨r17, σ18, er17, h⟩ := tl_nm2 h
              refine caX3_found (pc := 99) C hts hP hS er17 gX3_copy_X3_found ⟨Nat.le_of_ble_eq_true rfl, Nat.le_of_ble_eq_true rfl⟩ hl.1 (Nat.le_of_ble_eq_true rfl) dX3_copy_99 (fun H locs hP hS => ?_)
              exact tl_Ripw (pc := 102) C h hP hS dX3_copy_102
            refine lv_if_eq (pc := 82) (tgt := 97) hx hb dX3_copy_82 (by decide) (fun c19 => ?_) (fun c19 => ?_)
            · replace h := (if_pos c19).symm.trans h
              exact hJ16 _ _ _ h hP hS (lv_sub hl [2] rfl)
            · replace h := (if_neg c19).symm.trans h
              refine lv_aload (pc := 85) hx hb dX3_copy_85 (lv_at hl 0 rfl) ?_
              refine lv_iload (pc := 87) hx hb dX3_copy_87 (lv_at hl 6 rfl) ?_
              refine lv_iload (pc := 89) hx hb dX3_copy_89 (lv_at hl 7 rfl) ?_
              obtain ⟨r20, er20, h⟩ := tl_nm h
              refine caX1_hasSpan (pc := 91) C hts hP hS io8 er20 gX3_copy_X1_hasSpan ⟨Nat.le_of_ble_eq_true rfl, Nat.le_of_ble_eq_true rfl⟩ hl.1 (Nat.le_of_ble_eq_true rfl) dX3_copy_91 (fun H locs hP hS => ?_)
              refine lv_if_ne (pc := 94) (tgt := 103) hx hb dX3_copy_94 (by decide) (fun c21 => ?_) (fun c21 => ?_)
              · replace h := (if_neg c21).symm.trans h
                refine lv_aload (pc := 103) hx hb dX3_copy_103 (lv_at hl 1 rfl) ?_
                refine tl_gS_3 (pc := 105) C hc1 hP io6 lk3 dX3_copy_105 ?_
                refine lv_iload_n (pc := 108) hx hb dX3_copy_108 rfl (lv_at hl 4 rfl) ?_
                refine lv_aload (pc := 109) hx hb dX3_copy_109 (lv_at hl 0 rfl) ?_
                refine tl_gS_3 (pc := 111) C hc1 hP io8 lk3 dX3_copy_111 ?_
                refine lv_iload (pc := 114) hx hb dX3_copy_114 (lv_at hl 6 rfl) ?_
                refine lv_iload (pc := 116) hx hb dX3_copy_116 (lv_at hl 7 rfl) ?_
                obtain ⟨g22, h⟩ := tl_gd h
                obtain ⟨σ23, eσ23, h⟩ := tl_nm h
                refine tl_cpy (pc := 118) C hl.1 lk4 lk5 lk6 lk7 hP hS (tl_aS1 io6 g) (tl_aS1 io8 g) g22 (Nat.le_of_ble_eq_true rfl) (Nat.le_of_ble_eq_true rfl) eσ23 dX3_copy_118 (fun H locs hP hS => ?_)
                refine lv_iconst (pc := 121) (v := 1) hx hb dX3_copy_121 (by decide) ?_
                exact tl_Ripw (pc := 122) C h hP hS dX3_copy_122
              · replace h := (if_pos c21).symm.trans h
                exact hJ16 _ _ _ h hP hS (lv_sub hl [2] rfl)
          · replace h := (if_neg c14).symm.trans h
            refine lv_aload_n (pc := 68) hx hb dX3_copy_68 rfl (lv_at hl 2 rfl) ?_
            refine lv_iconst (pc := 69) (v := 4) hx hb dX3_copy_69 (by decide) ?_
            obtain ⟨r24, σ25, er24, h⟩ := tl_nm2 h
            refine caX3_found (pc := 70) C hts hP hS er24 gX3_copy_X3_found ⟨Nat.le_of_ble_eq_true rfl, Nat.le_of_ble_eq_true rfl⟩ hl.1 (Nat.le_of_ble_eq_true rfl) dX3_copy_70 (fun H locs hP hS => ?_)
            exact tl_Ripw (pc := 73) C h hP hS dX3_copy_73
        · replace h := (if_neg c13).symm.trans h
          exact hJ9 _ _ _ h hP hS (lv_sub hl [2] rfl)
    · replace h := (if_pos c4).symm.trans h
      refine lv_bipush (pc := 14) (v := (-2)) hx hb dX3_copy_14 (by decide) ?_
      exact tl_Ripw (pc := 16) C h hP hS dX3_copy_16
theorem caX3_copy {p : Program} {l : Launch} {e : Env} {R : Room} {s : State} {m : MethodId} {args : Array Value} {below : List Frame} {meth : Method} {c : Code} {H : Heap} {locs : List Loc} {Q : State → Prop} {cc : ByteArray} {pc : Nat} {ls : Array Slot} {rest : List Value} {g : tl_G} {σ : tl_St} {H0 : Heap} {nL : Nat} {own : String} {ret : Option FieldType} {index : Nat} (C : tl_C p s m meth c cc nL own ret g) {Ts : List Cond} (hts : ∀ w ∈ Ts, w.before args s = true) (hP : va_P g.1 vwCl (tl_W g σ) H) (hS : va_S (tl_A g) H0 H locs) {a1 : Int32} {a2 : Int32} {a3 : Int32} {a4 : Int32} {a5 : Int32} {ro : Int32} {σo : tl_St} (h : fX3_copy σ a1 a2 a3 a4 a5 = some (ro, σo)) (hG : GoodIn Ts (wsV own index RX3 yX3_copy wsX3_copy)) (hR : 1 + 1 ≤ R.frames ∧ 8 + (8 + 11) + 26 ≤ R.locals) (hls : ls.size = nL) (hrm : (rest.map fun v => v.category).sum ≤ 8) (hdg : decode cc pc = .ok (.invokevirtual index, 3)) (kk : ∀ (H1 : Heap) (locs1 : List Loc), va_P g.1 vwCl (tl_W g σo) H1 → va_S (tl_A g) H0 H1 locs1 → W p l e R s m args below meth c H1 locs1 0 0 Q (F0 m (pc + 3) ls (.int ro :: rest))) : W p l e R s m args below meth c H locs 0 0 Q (F0 m pc ls (.int a5 :: .int a4 :: .int a3 :: .int a2 :: .int a1 :: .ref (tl_ad g 0) :: rest)) :=
  tl_goi (tl_callV C hts hP (okX3_copy l g C.2.2.2.2.2.2.2 σ a1 a2 a3 a4 a5 ro σo h) rfl rfl rfl (n := 5) (by decide +kernel) rfl (ci := 3) rfl (tl_k0 g σ) hG hR hls rfl hrm hdg) hS kk
abbrev rX3_write : Room := { frames := 4, cells := 0, slots := 0, locals := 91 }
set_option maxHeartbeats 4000000 in
set_option maxRecDepth 100000 in
theorem okX3_write (l : Launch) (g : tl_G) (hI : tl_I g) (σ : tl_St) (a1 : Int32) (ro : Int32) (σo : tl_St) (h : fX3_write σ a1 = some (ro, σo)) : Met l yX3_write wsX3_write rX3_write (va_Pc [.ref (tl_ad g 0), .int a1] (tl_Pre g σ)) (tl_Qi g ro σo) 0 0 (tl_A g) := by
  refine tl_enter (cc := cX3_write) (maxL := 5) (ret := (some .int)) (own := RX3) hI (by decide) rfl rfl (Nat.le_of_ble_eq_true rfl) ?_
  intro p e s m below meth c C hts H locs hP hS ls hl
  have hx := C.1
  have hb := C.2.1
  have hl : lv_has ls 5 [(0, .ref (tl_ad g 0)), (1, .int a1)] := hl
  have hc1 : ∀ w ∈ u_ws RX1 TX1 4, w.before [.ref (tl_ad g 0), .int a1].toArray s = true := fun w hw => hts w (List.mem_cons_of_mem _ (List.mem_append_left _ (List.mem_append_right _ hw)))
  have hc2 : ∀ w ∈ u_ws RX2 TX2 14, w.before [.ref (tl_ad g 0), .int a1].toArray s = true := fun w hw => hts w (List.mem_cons_of_mem _ (List.mem_append_right _ hw))
  have hc3 : ∀ w ∈ u_ws RX3 TX3 13, w.before [.ref (tl_ad g 0), .int a1].toArray s = true := fun w hw => hts w (List.mem_cons_of_mem _ (List.mem_append_left _ (List.mem_append_left _ (List.mem_append_right _ hw))))
  have lk0 : (Cond.fieldLink RX3 27 "ThriftLock" "sheets" "[LThriftLock$Sheet;").before [.ref (tl_ad g 0), .int a1].toArray s = true := hts _ (List.mem_cons_of_mem _ (List.mem_append_left _ (List.mem_append_left _ (List.mem_append_left _ (List.mem_append_left _ (List.mem_of_getElem? (i := 0) rfl))))))
  have lk1 : (Cond.fieldLink RX3 71 "ThriftLock$Sheet" "lost" "Z").before [.ref (tl_ad g 0), .int a1].toArray s = true := hts _ (List.mem_cons_of_mem _ (List.mem_append_left _ (List.mem_append_left _ (List.mem_append_left _ (List.mem_append_left _ (List.mem_of_getElem? (i := 1) rfl))))))
  have lk2 : (Cond.fieldLink RX3 79 "ThriftLock$Sheet" "size" "I").before [.ref (tl_ad g 0), .int a1].toArray s = true := hts _ (List.mem_cons_of_mem _ (List.mem_append_left _ (List.mem_append_left _ (List.mem_append_left _ (List.mem_append_left _ (List.mem_of_getElem? (i := 2) rfl))))))
  have lk3 : (Cond.fieldLink RX3 10 "ThriftLock" "water" "LThriftLock$Water;").before [.ref (tl_ad g 0), .int a1].toArray s = true := hts _ (List.mem_cons_of_mem _ (List.mem_append_left _ (List.mem_append_left _ (List.mem_append_left _ (List.mem_append_left _ (List.mem_of_getElem? (i := 3) rfl))))))
  have lk4 : (Cond.fieldLink RX3 41 "ThriftLock$Water" "fullAt" "I").before [.ref (tl_ad g 0), .int a1].toArray s = true := hts _ (List.mem_cons_of_mem _ (List.mem_append_left _ (List.mem_append_left _ (List.mem_append_left _ (List.mem_append_left _ (List.mem_of_getElem? (i := 4) rfl))))))
  have lk5 : (Cond.methodLink RX3 224 Lib.Math.min.name).before [.ref (tl_ad g 0), .int a1].toArray s = true := hts _ (List.mem_cons_of_mem _ (List.mem_append_left _ (List.mem_append_left _ (List.mem_append_left _ (List.mem_append_left _ (List.mem_of_getElem? (i := 5) rfl))))))
  have lk6 : (Cond.static Lib.Math.min.name).before [.ref (tl_ad g 0), .int a1].toArray s = true := hts _ (List.mem_cons_of_mem _ (List.mem_append_left _ (List.mem_append_left _ (List.mem_append_left _ (List.mem_append_left _ (List.mem_of_getElem? (i := 6) rfl))))))
  have lk7 : (Cond.initialized "java/lang/Math").before [.ref (tl_ad g 0), .int a1].toArray s = true := hts _ (List.mem_cons_of_mem _ (List.mem_append_left _ (List.mem_append_left _ (List.mem_append_left _ (List.mem_append_left _ (List.mem_of_getElem? (i := 7) rfl))))))
  have lk8 : (Cond.code Lib.Math.min.name Lib.Math.min.code 2 (some .int)).before [.ref (tl_ad g 0), .int a1].toArray s = true := hts _ (List.mem_cons_of_mem _ (List.mem_append_left _ (List.mem_append_left _ (List.mem_append_left _ (List.mem_append_left _ (List.mem_of_getElem? (i := 8) rfl))))))
  have lk9 : (Cond.fieldLink RX3 16 "ThriftLock" "trial" "LThriftLock$Water;").before [.ref (tl_ad g 0), .int a1].toArray s = true := hts _ (List.mem_cons_of_mem _ (List.mem_append_left _ (List.mem_append_left _ (List.mem_append_left _ (List.mem_append_left _ (List.mem_of_getElem? (i := 9) rfl))))))
  have lk10 : (Cond.fieldLink RX3 174 "ThriftLock$Water" "steps" "[I").before [.ref (tl_ad g 0), .int a1].toArray s = true := hts _ (List.mem_cons_of_mem _ (List.mem_append_left _ (List.mem_append_left _ (List.mem_append_left _ (List.mem_append_left _ (List.mem_of_getElem? (i := 10) rfl))))))
  unfold fX3_write at h
  refine lv_iload_n (pc := 0) hx hb dX3_write_0 rfl (lv_at hl 1 rfl) ?_
  obtain ⟨r1, er1, h⟩ := tl_nm h
  refine caX3_isSheet (pc := 1) C hts hP hS er1 gX3_write_X3_isSheet ⟨Nat.le_of_ble_eq_true rfl, Nat.le_of_ble_eq_true rfl⟩ hl.1 (Nat.le_of_ble_eq_true rfl) dX3_write_1 (fun H locs hP hS => ?_)
  refine lv_if_ne (pc := 4) (tgt := 10) hx hb dX3_write_4 (by decide) (fun c2 => ?_) (fun c2 => ?_)
  · replace h := (if_neg c2).symm.trans h
    refine lv_aload_n (pc := 10) hx hb dX3_write_10 rfl (lv_at hl 0 rfl) ?_
    refine tl_g0_3 (pc := 11) C hc3 hP lk0 dX3_write_11 ?_
    refine lv_iload_n (pc := 14) hx hb dX3_write_14 rfl (lv_at hl 1 rfl) ?_
    obtain ⟨g3, h⟩ := tl_gd h
    refine tl_aldS (pc := 15) C hP g3 dX3_write_15 ?_
    obtain ⟨o4, eo4, h⟩ := tl_nm h
    have io4 : tl_isS o4 := by rw [← eo4]; exact tl_sOf g3
    refine tl_tr (congrArg (tl_ad g) eo4) ?_
    refine lv_astore_n (pc := 16) (lv' := [(2, .ref (tl_ad g o4)), (0, .ref (tl_ad g 0)), (1, .int a1)]) hx hb dX3_write_16 rfl hl (by decide) rfl (fun ls hl => ?_)
    refine lv_aload_n (pc := 17) hx hb dX3_write_17 rfl (lv_at hl 0 rfl) ?_
    refine tl_gS_0 (pc := 18) C hc1 hP io4 lk1 dX3_write_18 ?_
    refine lv_if_eq (pc := 21) (tgt := 30) hx hb dX3_write_21 (by decide) (fun c5 => ?_) (fun c5 => ?_)
    · replace h := (if_pos c5).symm.trans h
      refine lv_aload_n (pc := 30) hx hb dX3_write_30 rfl (lv_at hl 1 rfl) ?_
      obtain ⟨σ6, eσ6, h⟩ := tl_o1s h
      refine caX3_tryTurn (pc := 31) C hts hP hS eσ6 gX3_write_X3_tryTurn ⟨Nat.le_of_ble_eq_true rfl, Nat.le_of_ble_eq_true rfl⟩ hl.1 (Nat.le_of_ble_eq_true rfl) dX3_write_31 (fun H locs hP hS => ?_)
      refine lv_aload_n (pc := 34) hx hb dX3_write_34 rfl (lv_at hl 0 rfl) ?_
      refine tl_gS_2 (pc := 35) C hc1 hP io4 lk2 dX3_write_35 ?_
      refine lv_aload_n (pc := 38) hx hb dX3_write_38 rfl (lv_at hl 1 rfl) ?_
      refine tl_g0_0 (pc := 39) C hc3 hP lk3 dX3_write_39 ?_
      refine tl_gW_0 (pc := 42) C hc2 hP tl_W1 lk4 dX3_write_42 ?_
      refine va_mmin hx hb (C.2.2.1.trans hl.1.symm) C.2.2.2.1 lk5 lk6 lk7 lk8 (Nat.le_of_ble_eq_true rfl) (Nat.le_of_ble_eq_true rfl) (Nat.zero_le _) (Nat.zero_le _) (pc := 45) dX3_write_45 ?_
      obtain ⟨x7, ex7, h⟩ := tl_nm h
      refine tl_ti ex7 ?_
      refine lv_istore_n (pc := 48) (lv' := [(3, .int x7), (2, .ref (tl_ad g o4)), (0, .ref (tl_ad g 0)), (1, .int a1)]) hx hb dX3_write_48 rfl hl (by decide) rfl (fun ls hl => ?_)
      refine lv_iconst (pc := 49) (v := 0) hx hb dX3_write_49 (by decide) ?_
      refine lv_istore (pc := 50) (lv' := [(4, .int 0), (3, .int x7), (2, .ref (tl_ad g o4)), (0, .ref (tl_ad g 0)), (1, .int a1)]) hx hb dX3_write_50 hl (by decide) rfl (fun ls hl => ?_)
      obtain ⟨k9, ek9, h⟩ := tl_j1 h
      have hZ9 : ∀ (σ8 : tl_St) (H : Heap) (locs : List Loc) (ls : Array Slot), k9 σ8 = some (ro, σo) → va_P g.1 vwCl (tl_W g σ8) H → va_S (tl_A g) s.heap H locs → lv_has ls 5 [(3, .int x7)] → W p l e rX3_write s m [.ref (tl_ad g 0), .int a1].toArray below meth c H locs 0 0 (MQ below (tl_Qi g ro σo) [.ref (tl_ad g 0), .int a1].toArray s 0 0 (tl_A g)) (F0 m 80 ls []) := by
        intro σ8 H locs ls h hP hS hl
        replace h := (ek9 σ8).trans h
        refine lv_iload_n (pc := 80) hx hb dX3_write_80 rfl (lv_at hl 0 rfl) ?_
        exact tl_Ripw (pc := 81) C h hP hS dX3_write_81
      have hL52 : ∀ (n : Nat) (σ10 : tl_St) (x11 : Int32) (H : Heap) (locs : List Loc) (ls : Array Slot), fX3_write_L52 o4 x7 k9 n σ10 x11 = some (ro, σo) → va_P g.1 vwCl (tl_W g σ10) H → va_S (tl_A g) s.heap H locs → lv_has ls 5 [(0, .ref (tl_ad g 0)), (2, .ref (tl_ad g o4)), (3, .int x7), (4, .int x11)] → W p l e rX3_write s m [.ref (tl_ad g 0), .int a1].toArray below meth c H locs 0 0 (MQ below (tl_Qi g ro σo) [.ref (tl_ad g 0), .int a1].toArray s 0 0 (tl_A g)) (F0 m 52 ls []) := by
        intro n
        induction n with
        | zero =>
          intro σ10 x11 H locs ls h hP hS hl
          rw [fX3_write_L52] at h
          cases h
        | succ n ih =>
          intro σ10 x11 H locs ls h hP hS hl
          rw [fX3_write_L52] at h
          refine lv_iload (pc := 52) hx hb dX3_write_52 (lv_at hl 3 rfl) ?_
          refine lv_iload_n (pc := 54) hx hb dX3_write_54 rfl (lv_at hl 2 rfl) ?_
          refine lv_icmp_ge (pc := 55) (tgt := 80) hx hb dX3_write_55 (by decide) (fun c12 => ?_) (fun c12 => ?_)
          · replace h := (if_pos c12).symm.trans h
            exact hZ9 σ10 _ _ _ h hP hS (lv_sub hl [2] rfl)
          · replace h := (if_neg c12).symm.trans h
            refine lv_aload_n (pc := 58) hx hb dX3_write_58 rfl (lv_at hl 1 rfl) ?_
            refine lv_iload (pc := 59) hx hb dX3_write_59 (lv_at hl 3 rfl) ?_
            refine lv_aload_n (pc := 61) hx hb dX3_write_61 rfl (lv_at hl 0 rfl) ?_
            refine tl_g0_1 (pc := 62) C hc3 hP lk9 dX3_write_62 ?_
            refine tl_gW_10 (pc := 65) C hc2 hP tl_W10 lk10 dX3_write_65 ?_
            refine lv_iload (pc := 68) hx hb dX3_write_68 (lv_at hl 3 rfl) ?_
            obtain ⟨g13, h⟩ := tl_gd h
            refine tl_ald (pc := 70) C hP (tl_aW7 tl_W10 g) g13 dX3_write_70 ?_
            obtain ⟨σ14, eσ14, h⟩ := tl_o1s h
            refine caX1_put (pc := 71) C hts hP hS io4 eσ14 gX3_write_X1_put ⟨Nat.le_of_ble_eq_true rfl, Nat.le_of_ble_eq_true rfl⟩ hl.1 (Nat.le_of_ble_eq_true rfl) dX3_write_71 (fun H locs hP hS => ?_)
            obtain ⟨x15, ex15, h⟩ := tl_nm h
            refine lv_iinc (pc := 74) (v := x15) (lv' := [(4, .int x15), (0, .ref (tl_ad g 0)), (2, .ref (tl_ad g o4)), (3, .int x7)]) hx hb dX3_write_74 hl (k := 3) rfl ex15 (by decide) rfl (fun ls hl => ?_)
            refine lv_goto (pc := 77) (tgt := 52) hx hb dX3_write_77 (by decide) ?_
            exact ih σ14 x15 _ _ _ h hP hS (lv_sub hl [1, 2, 3, 0] rfl)
      exact hL52 1000 σ6 0 _ _ _ h hP hS (lv_sub hl [3, 2, 1, 0] rfl)
    · replace h := (if_neg c5).symm.trans h
      refine lv_aload_n (pc := 24) hx hb dX3_write_24 rfl (lv_at hl 1 rfl) ?_
      refine lv_iconst (pc := 25) (v := 1) hx hb dX3_write_25 (by decide) ?_
      obtain ⟨r16, σ17, er16, h⟩ := tl_nm2 h
      refine caX3_found (pc := 26) C hts hP hS er16 gX3_write_X3_found ⟨Nat.le_of_ble_eq_true rfl, Nat.le_of_ble_eq_true rfl⟩ hl.1 (Nat.le_of_ble_eq_true rfl) dX3_write_26 (fun H locs hP hS => ?_)
      exact tl_Ripw (pc := 29) C h hP hS dX3_write_29
  · replace h := (if_pos c2).symm.trans h
    refine lv_bipush (pc := 7) (v := (-2)) hx hb dX3_write_7 (by decide) ?_
    exact tl_Ripw (pc := 9) C h hP hS dX3_write_9
theorem caX3_write {p : Program} {l : Launch} {e : Env} {R : Room} {s : State} {m : MethodId} {args : Array Value} {below : List Frame} {meth : Method} {c : Code} {H : Heap} {locs : List Loc} {Q : State → Prop} {cc : ByteArray} {pc : Nat} {ls : Array Slot} {rest : List Value} {g : tl_G} {σ : tl_St} {H0 : Heap} {nL : Nat} {own : String} {ret : Option FieldType} {index : Nat} (C : tl_C p s m meth c cc nL own ret g) {Ts : List Cond} (hts : ∀ w ∈ Ts, w.before args s = true) (hP : va_P g.1 vwCl (tl_W g σ) H) (hS : va_S (tl_A g) H0 H locs) {a1 : Int32} {ro : Int32} {σo : tl_St} (h : fX3_write σ a1 = some (ro, σo)) (hG : GoodIn Ts (wsV own index RX3 yX3_write wsX3_write)) (hR : 4 + 1 ≤ R.frames ∧ 8 + (5 + 11) + 91 ≤ R.locals) (hls : ls.size = nL) (hrm : (rest.map fun v => v.category).sum ≤ 8) (hdg : decode cc pc = .ok (.invokevirtual index, 3)) (kk : ∀ (H1 : Heap) (locs1 : List Loc), va_P g.1 vwCl (tl_W g σo) H1 → va_S (tl_A g) H0 H1 locs1 → W p l e R s m args below meth c H1 locs1 0 0 Q (F0 m (pc + 3) ls (.int ro :: rest))) : W p l e R s m args below meth c H locs 0 0 Q (F0 m pc ls (.int a1 :: .ref (tl_ad g 0) :: rest)) :=
  tl_goi (tl_callV C hts hP (okX3_write l g C.2.2.2.2.2.2.2 σ a1 ro σo h) rfl rfl rfl (n := 1) (by decide +kernel) rfl (ci := 3) rfl (tl_k0 g σ) hG hR hls rfl hrm hdg) hS kk
abbrev rX3_count : Room := { frames := 1, cells := 0, slots := 0, locals := 22 }
set_option maxHeartbeats 4000000 in
set_option maxRecDepth 100000 in
theorem okX3_count (l : Launch) (g : tl_G) (hI : tl_I g) (σ : tl_St) (a1 : Int32) (ro : Int32) (h : fX3_count σ a1 = some ro) : Met l yX3_count wsX3_count rX3_count (va_Pc [.ref (tl_ad g 0), .int a1] (tl_Pre g σ)) (tl_Qi g ro σ) 0 0 (tl_A g) := by
  refine tl_enter (cc := cX3_count) (maxL := 2) (ret := (some .int)) (own := RX3) hI (by decide) rfl rfl (Nat.le_of_ble_eq_true rfl) ?_
  intro p e s m below meth c C hts H locs hP hS ls hl
  have hx := C.1
  have hb := C.2.1
  have hl : lv_has ls 2 [(0, .ref (tl_ad g 0)), (1, .int a1)] := hl
  have hc0 : ∀ w ∈ u_ws RX0 TX0 2, w.before [.ref (tl_ad g 0), .int a1].toArray s = true := fun w hw => hts w (List.mem_cons_of_mem _ (List.mem_append_right _ hw))
  have hc2 : ∀ w ∈ u_ws RX2 TX2 14, w.before [.ref (tl_ad g 0), .int a1].toArray s = true := fun w hw => hts w (List.mem_cons_of_mem _ (List.mem_append_left _ (List.mem_append_right _ hw)))
  have hc3 : ∀ w ∈ u_ws RX3 TX3 13, w.before [.ref (tl_ad g 0), .int a1].toArray s = true := fun w hw => hts w (List.mem_cons_of_mem _ (List.mem_append_left _ (List.mem_append_left _ (List.mem_append_right _ hw))))
  have lk0 : (Cond.fieldLink RX3 10 "ThriftLock" "water" "LThriftLock$Water;").before [.ref (tl_ad g 0), .int a1].toArray s = true := hts _ (List.mem_cons_of_mem _ (List.mem_append_left _ (List.mem_append_left _ (List.mem_append_left _ (List.mem_of_getElem? (i := 0) rfl)))))
  have lk1 : (Cond.fieldLink RX3 48 "ThriftLock$Water" "basins" "I").before [.ref (tl_ad g 0), .int a1].toArray s = true := hts _ (List.mem_cons_of_mem _ (List.mem_append_left _ (List.mem_append_left _ (List.mem_append_left _ (List.mem_of_getElem? (i := 1) rfl)))))
  have lk2 : (Cond.fieldLink RX3 21 "ThriftLock" "queues" "[LThriftLock$Queue;").before [.ref (tl_ad g 0), .int a1].toArray s = true := hts _ (List.mem_cons_of_mem _ (List.mem_append_left _ (List.mem_append_left _ (List.mem_append_left _ (List.mem_of_getElem? (i := 2) rfl)))))
  have lk3 : (Cond.fieldLink RX3 104 "ThriftLock$Queue" "size" "I").before [.ref (tl_ad g 0), .int a1].toArray s = true := hts _ (List.mem_cons_of_mem _ (List.mem_append_left _ (List.mem_append_left _ (List.mem_append_left _ (List.mem_of_getElem? (i := 3) rfl)))))
  have lk4 : (Cond.fieldLink RX3 131 "ThriftLock" "turnsKept" "I").before [.ref (tl_ad g 0), .int a1].toArray s = true := hts _ (List.mem_cons_of_mem _ (List.mem_append_left _ (List.mem_append_left _ (List.mem_append_left _ (List.mem_of_getElem? (i := 4) rfl)))))
  have lk5 : (Cond.fieldLink RX3 37 "ThriftLock$Water" "inChamber" "I").before [.ref (tl_ad g 0), .int a1].toArray s = true := hts _ (List.mem_cons_of_mem _ (List.mem_append_left _ (List.mem_append_left _ (List.mem_append_left _ (List.mem_of_getElem? (i := 5) rfl)))))
  have lk6 : (Cond.fieldLink RX3 143 "ThriftLock" "drawnEver" "I").before [.ref (tl_ad g 0), .int a1].toArray s = true := hts _ (List.mem_cons_of_mem _ (List.mem_append_left _ (List.mem_append_left _ (List.mem_append_left _ (List.mem_of_getElem? (i := 6) rfl)))))
  have lk7 : (Cond.fieldLink RX3 146 "ThriftLock" "lostEver" "I").before [.ref (tl_ad g 0), .int a1].toArray s = true := hts _ (List.mem_cons_of_mem _ (List.mem_append_left _ (List.mem_append_left _ (List.mem_append_left _ (List.mem_of_getElem? (i := 7) rfl)))))
  have lk8 : (Cond.fieldLink RX3 105 "ThriftLock" "boatsCame" "I").before [.ref (tl_ad g 0), .int a1].toArray s = true := hts _ (List.mem_cons_of_mem _ (List.mem_append_left _ (List.mem_append_left _ (List.mem_append_left _ (List.mem_of_getElem? (i := 8) rfl)))))
  have lk9 : (Cond.fieldLink RX3 229 "ThriftLock" "latestFinding" "I").before [.ref (tl_ad g 0), .int a1].toArray s = true := hts _ (List.mem_cons_of_mem _ (List.mem_append_left _ (List.mem_append_left _ (List.mem_append_left _ (List.mem_of_getElem? (i := 9) rfl)))))
  unfold fX3_count at h
  refine lv_iload_n (pc := 0) hx hb dX3_count_0 rfl (lv_at hl 1 rfl) ?_
  by_cases c1 : a1 = 0
  · replace h := (if_pos c1).symm.trans h
    refine tl_swIn (pc := 1) (tgt := 52) hx hb (kv := 0) c1 dX3_count_1 (by decide) (by decide) rfl (by decide) ?_
    refine lv_aload_n (pc := 52) hx hb dX3_count_52 rfl (lv_at hl 0 rfl) ?_
    refine tl_g0_0 (pc := 53) C hc3 hP lk0 dX3_count_53 ?_
    refine tl_gW_2 (pc := 56) C hc2 hP tl_W1 lk1 dX3_count_56 ?_
    exact tl_Ripr (pc := 59) C h hP hS dX3_count_59
  · replace h := (if_neg c1).symm.trans h
    by_cases c2 : a1 = 1
    · replace h := (if_pos c2).symm.trans h
      refine tl_swIn (pc := 1) (tgt := 60) hx hb (kv := 1) c2 dX3_count_1 (by decide) (by decide) rfl (by decide) ?_
      refine lv_aload_n (pc := 60) hx hb dX3_count_60 rfl (lv_at hl 0 rfl) ?_
      refine tl_g0_2 (pc := 61) C hc3 hP lk2 dX3_count_61 ?_
      refine lv_iconst (pc := 64) (v := 0) hx hb dX3_count_64 (by decide) ?_
      refine tl_aldQ (pc := 65) C hP (i := 0) (by decide) dX3_count_65 ?_
      refine tl_tr (a := tl_ad g (20 + 2 * (0 : Int32).toNatClampNeg)) (b := tl_ad g 20) rfl ?_
      refine tl_gQ_1 (pc := 66) C hc0 hP (Or.inl rfl) lk3 dX3_count_66 ?_
      refine lv_aload_n (pc := 69) hx hb dX3_count_69 rfl (lv_at hl 0 rfl) ?_
      refine tl_g0_2 (pc := 70) C hc3 hP lk2 dX3_count_70 ?_
      refine lv_iconst (pc := 73) (v := 1) hx hb dX3_count_73 (by decide) ?_
      refine tl_aldQ (pc := 74) C hP (i := 1) (by decide) dX3_count_74 ?_
      refine tl_tr (a := tl_ad g (20 + 2 * (1 : Int32).toNatClampNeg)) (b := tl_ad g 22) rfl ?_
      refine tl_gQ_1 (pc := 75) C hc0 hP (Or.inr rfl) lk3 dX3_count_75 ?_
      refine lv_iadd (pc := 78) hx hb dX3_count_78 ?_
      exact tl_Ripr (pc := 79) C h hP hS dX3_count_79
    · replace h := (if_neg c2).symm.trans h
      by_cases c3 : a1 = 2
      · replace h := (if_pos c3).symm.trans h
        refine tl_swIn (pc := 1) (tgt := 80) hx hb (kv := 2) c3 dX3_count_1 (by decide) (by decide) rfl (by decide) ?_
        refine lv_aload_n (pc := 80) hx hb dX3_count_80 rfl (lv_at hl 0 rfl) ?_
        refine tl_g0_5 (pc := 81) C hc3 hP lk4 dX3_count_81 ?_
        exact tl_Ripr (pc := 84) C h hP hS dX3_count_84
      · replace h := (if_neg c3).symm.trans h
        by_cases c4 : a1 = 3
        · replace h := (if_pos c4).symm.trans h
          refine tl_swIn (pc := 1) (tgt := 85) hx hb (kv := 3) c4 dX3_count_1 (by decide) (by decide) rfl (by decide) ?_
          refine lv_aload_n (pc := 85) hx hb dX3_count_85 rfl (lv_at hl 0 rfl) ?_
          refine tl_g0_0 (pc := 86) C hc3 hP lk0 dX3_count_86 ?_
          refine tl_gW_1 (pc := 89) C hc2 hP tl_W1 lk5 dX3_count_89 ?_
          exact tl_Ripr (pc := 92) C h hP hS dX3_count_92
        · replace h := (if_neg c4).symm.trans h
          by_cases c5 : a1 = 4
          · replace h := (if_pos c5).symm.trans h
            refine tl_swIn (pc := 1) (tgt := 93) hx hb (kv := 4) c5 dX3_count_1 (by decide) (by decide) rfl (by decide) ?_
            refine lv_aload_n (pc := 93) hx hb dX3_count_93 rfl (lv_at hl 0 rfl) ?_
            refine tl_g0_0 (pc := 94) C hc3 hP lk0 dX3_count_94 ?_
            obtain ⟨r6, er6, h⟩ := tl_o1s h
            refine caX2_heldInAll (pc := 97) C hts hP hS tl_W1 er6 gX3_count_X2_heldInAll ⟨Nat.le_of_ble_eq_true rfl, Nat.le_of_ble_eq_true rfl⟩ hl.1 (Nat.le_of_ble_eq_true rfl) dX3_count_97 (fun H locs hP hS => ?_)
            exact tl_Ripr (pc := 100) C h hP hS dX3_count_100
          · replace h := (if_neg c5).symm.trans h
            by_cases c7 : a1 = 5
            · replace h := (if_pos c7).symm.trans h
              refine tl_swIn (pc := 1) (tgt := 101) hx hb (kv := 5) c7 dX3_count_1 (by decide) (by decide) rfl (by decide) ?_
              refine lv_aload_n (pc := 101) hx hb dX3_count_101 rfl (lv_at hl 0 rfl) ?_
              refine tl_g0_7 (pc := 102) C hc3 hP lk6 dX3_count_102 ?_
              exact tl_Ripr (pc := 105) C h hP hS dX3_count_105
            · replace h := (if_neg c7).symm.trans h
              by_cases c8 : a1 = 6
              · replace h := (if_pos c8).symm.trans h
                refine tl_swIn (pc := 1) (tgt := 106) hx hb (kv := 6) c8 dX3_count_1 (by decide) (by decide) rfl (by decide) ?_
                refine lv_aload_n (pc := 106) hx hb dX3_count_106 rfl (lv_at hl 0 rfl) ?_
                refine tl_g0_8 (pc := 107) C hc3 hP lk7 dX3_count_107 ?_
                exact tl_Ripr (pc := 110) C h hP hS dX3_count_110
              · replace h := (if_neg c8).symm.trans h
                by_cases c9 : a1 = 7
                · replace h := (if_pos c9).symm.trans h
                  refine tl_swIn (pc := 1) (tgt := 111) hx hb (kv := 7) c9 dX3_count_1 (by decide) (by decide) rfl (by decide) ?_
                  refine lv_aload_n (pc := 111) hx hb dX3_count_111 rfl (lv_at hl 0 rfl) ?_
                  refine tl_g0_10 (pc := 112) C hc3 hP lk8 dX3_count_112 ?_
                  exact tl_Ripr (pc := 115) C h hP hS dX3_count_115
                · replace h := (if_neg c9).symm.trans h
                  by_cases c10 : a1 = 8
                  · replace h := (if_pos c10).symm.trans h
                    refine tl_swIn (pc := 1) (tgt := 116) hx hb (kv := 8) c10 dX3_count_1 (by decide) (by decide) rfl (by decide) ?_
                    refine lv_aload_n (pc := 116) hx hb dX3_count_116 rfl (lv_at hl 0 rfl) ?_
                    refine tl_g0_12 (pc := 117) C hc3 hP lk9 dX3_count_117 ?_
                    exact tl_Ripr (pc := 120) C h hP hS dX3_count_120
                  · replace h := (if_neg c10).symm.trans h
                    have hsw : (a1).toInt < 0 ∨ 8 < (a1).toInt := by
                      have n0 := tl_ne (k := 0) c1 (by decide) (by decide)
                      have n1 := tl_ne (k := 1) c2 (by decide) (by decide)
                      have n2 := tl_ne (k := 2) c3 (by decide) (by decide)
                      have n3 := tl_ne (k := 3) c4 (by decide) (by decide)
                      have n4 := tl_ne (k := 4) c5 (by decide) (by decide)
                      have n5 := tl_ne (k := 5) c7 (by decide) (by decide)
                      have n6 := tl_ne (k := 6) c8 (by decide) (by decide)
                      have n7 := tl_ne (k := 7) c9 (by decide) (by decide)
                      have n8 := tl_ne (k := 8) c10 (by decide) (by decide)
                      omega
                    refine lv_tableOut (pc := 1) (tgt := 121) hx hb dX3_count_1 hsw (by decide) ?_
                    refine lv_bipush (pc := 121) (v := (-2)) hx hb dX3_count_121 (by decide) ?_
                    exact tl_Ripr (pc := 123) C h hP hS dX3_count_123
theorem caX3_count {p : Program} {l : Launch} {e : Env} {R : Room} {s : State} {m : MethodId} {args : Array Value} {below : List Frame} {meth : Method} {c : Code} {H : Heap} {locs : List Loc} {Q : State → Prop} {cc : ByteArray} {pc : Nat} {ls : Array Slot} {rest : List Value} {g : tl_G} {σ : tl_St} {H0 : Heap} {nL : Nat} {own : String} {ret : Option FieldType} {index : Nat} (C : tl_C p s m meth c cc nL own ret g) {Ts : List Cond} (hts : ∀ w ∈ Ts, w.before args s = true) (hP : va_P g.1 vwCl (tl_W g σ) H) (hS : va_S (tl_A g) H0 H locs) {a1 : Int32} {ro : Int32} (h : fX3_count σ a1 = some ro) (hG : GoodIn Ts (wsV own index RX3 yX3_count wsX3_count)) (hR : 1 + 1 ≤ R.frames ∧ 8 + (2 + 11) + 22 ≤ R.locals) (hls : ls.size = nL) (hrm : (rest.map fun v => v.category).sum ≤ 8) (hdg : decode cc pc = .ok (.invokevirtual index, 3)) (kk : ∀ (H1 : Heap) (locs1 : List Loc), va_P g.1 vwCl (tl_W g σ) H1 → va_S (tl_A g) H0 H1 locs1 → W p l e R s m args below meth c H1 locs1 0 0 Q (F0 m (pc + 3) ls (.int ro :: rest))) : W p l e R s m args below meth c H locs 0 0 Q (F0 m pc ls (.int a1 :: .ref (tl_ad g 0) :: rest)) :=
  tl_goi (tl_callV C hts hP (okX3_count l g C.2.2.2.2.2.2.2 σ a1 ro h) rfl rfl rfl (n := 1) (by decide +kernel) rfl (ci := 3) rfl (tl_k0 g σ) hG hR hls rfl hrm hdg) hS kk
abbrev rX3_fold : Room := { frames := 0, cells := 0, slots := 0, locals := 0 }
set_option maxHeartbeats 4000000 in
set_option maxRecDepth 100000 in
theorem okX3_fold (l : Launch) (g : tl_G) (hI : tl_I g) (σ : tl_St) (a1 : Int64) (a2 : Int32) (ro : Int64) (h : fX3_fold σ a1 a2 = ro) : Met l yX3_fold wsX3_fold rX3_fold (va_Pc [.long a1, .int a2] (tl_Pre g σ)) (tl_Ql g ro σ) 0 0 (tl_A g) := by
  refine tl_enter (cc := cX3_fold) (maxL := 3) (ret := (some .long)) (own := RX3) hI (by decide) rfl rfl (Nat.le_of_ble_eq_true rfl) ?_
  intro p e s m below meth c C hts H locs hP hS ls hl
  have hx := C.1
  have hb := C.2.1
  have hl : lv_has ls 3 [(0, .long a1), (2, .int a2)] := hl
  have lk0 : (Cond.constantLong RX3 254 (31)).before [.long a1, .int a2].toArray s = true := hts _ (List.mem_cons_of_mem _ (List.mem_of_getElem? (i := 0) rfl))
  unfold fX3_fold at h
  refine lv_ldc2 (pc := 0) (v := 31) hx hb C.2.2.2.1 lk0 dX3_fold_0 ?_
  refine lv_lload_n (pc := 3) hx hb dX3_fold_3 rfl (lv_at hl 0 rfl) ?_
  refine lv_lmul (pc := 4) hx hb dX3_fold_4 ?_
  refine lv_iload_n (pc := 5) hx hb dX3_fold_5 rfl (lv_at hl 1 rfl) ?_
  refine lv_i2l (pc := 6) hx hb dX3_fold_6 rfl ?_
  refine lv_ladd (pc := 7) hx hb dX3_fold_7 ?_
  exact tl_Rltr (pc := 8) C h hP hS dX3_fold_8
theorem caX3_fold {p : Program} {l : Launch} {e : Env} {R : Room} {s : State} {m : MethodId} {args : Array Value} {below : List Frame} {meth : Method} {c : Code} {H : Heap} {locs : List Loc} {Q : State → Prop} {cc : ByteArray} {pc : Nat} {ls : Array Slot} {rest : List Value} {g : tl_G} {σ : tl_St} {H0 : Heap} {nL : Nat} {own : String} {ret : Option FieldType} {index : Nat} (C : tl_C p s m meth c cc nL own ret g) {Ts : List Cond} (hts : ∀ w ∈ Ts, w.before args s = true) (hP : va_P g.1 vwCl (tl_W g σ) H) (hS : va_S (tl_A g) H0 H locs) {a1 : Int64} {a2 : Int32} {ro : Int64} (h : fX3_fold σ a1 a2 = ro) (hG : GoodIn Ts (va_wsS own index yX3_fold wsX3_fold)) (hR : 0 + 1 ≤ R.frames ∧ 8 + (3 + 11) + 0 ≤ R.locals) (hls : ls.size = nL) (hrm : (rest.map fun v => v.category).sum ≤ 8) (hdg : decode cc pc = .ok (.invokestatic index, 3)) (kk : ∀ (H1 : Heap) (locs1 : List Loc), va_P g.1 vwCl (tl_W g σ) H1 → va_S (tl_A g) H0 H1 locs1 → W p l e R s m args below meth c H1 locs1 0 0 Q (F0 m (pc + 3) ls (.long ro :: rest))) : W p l e R s m args below meth c H locs 0 0 Q (F0 m pc ls (.int a2 :: .long a1 :: rest)) :=
  tl_gol (tl_callS C hts hP (okX3_fold l g C.2.2.2.2.2.2.2 σ a1 a2 ro h) rfl rfl rfl (n := 2) (by decide +kernel) rfl hG hR hls rfl hrm hdg) hS kk
abbrev rX3_foldBasins : Room := { frames := 5, cells := 0, slots := 0, locals := 121 }
set_option maxHeartbeats 4000000 in
set_option maxRecDepth 100000 in
theorem okX3_foldBasins (l : Launch) (g : tl_G) (hI : tl_I g) (σ : tl_St) (a1 : Int64) (ro : Int64) (σo : tl_St) (h : fX3_foldBasins σ a1 = some (ro, σo)) : Met l yX3_foldBasins wsX3_foldBasins rX3_foldBasins (va_Pc [.ref (tl_ad g 0), .long a1] (tl_Pre g σ)) (tl_Ql g ro σo) 0 0 (tl_A g) := by
  refine tl_enter (cc := cX3_foldBasins) (maxL := 7) (ret := (some .long)) (own := RX3) hI (by decide) rfl rfl (Nat.le_of_ble_eq_true rfl) ?_
  intro p e s m below meth c C hts H locs hP hS ls hl
  have hx := C.1
  have hb := C.2.1
  have hl : lv_has ls 7 [(0, .ref (tl_ad g 0)), (1, .long a1)] := hl
  have hc2 : ∀ w ∈ u_ws RX2 TX2 14, w.before [.ref (tl_ad g 0), .long a1].toArray s = true := fun w hw => hts w (List.mem_cons_of_mem _ (List.mem_append_right _ hw))
  have hc3 : ∀ w ∈ u_ws RX3 TX3 13, w.before [.ref (tl_ad g 0), .long a1].toArray s = true := fun w hw => hts w (List.mem_cons_of_mem _ (List.mem_append_left _ (List.mem_append_right _ hw)))
  have lk0 : (Cond.fieldLink RX3 10 "ThriftLock" "water" "LThriftLock$Water;").before [.ref (tl_ad g 0), .long a1].toArray s = true := hts _ (List.mem_cons_of_mem _ (List.mem_append_left _ (List.mem_append_left _ (List.mem_append_left _ (List.mem_of_getElem? (i := 0) rfl)))))
  have lk1 : (Cond.fieldLink RX3 48 "ThriftLock$Water" "basins" "I").before [.ref (tl_ad g 0), .long a1].toArray s = true := hts _ (List.mem_cons_of_mem _ (List.mem_append_left _ (List.mem_append_left _ (List.mem_append_left _ (List.mem_of_getElem? (i := 1) rfl)))))
  unfold fX3_foldBasins at h
  refine lv_lload_n (pc := 0) hx hb dX3_foldBasins_0 rfl (lv_at hl 1 rfl) ?_
  refine lv_lstore_n (pc := 1) (lv' := [(3, .long a1), (0, .ref (tl_ad g 0)), (1, .long a1)]) hx hb dX3_foldBasins_1 rfl hl (by decide) rfl (fun ls hl => ?_)
  refine lv_iconst (pc := 2) (v := 0) hx hb dX3_foldBasins_2 (by decide) ?_
  refine lv_istore (pc := 3) (lv' := [(5, .int 0), (3, .long a1), (0, .ref (tl_ad g 0)), (1, .long a1)]) hx hb dX3_foldBasins_3 hl (by decide) rfl (fun ls hl => ?_)
  obtain ⟨k3, ek3, h⟩ := tl_j2 h
  have hZ3 : ∀ (σ1 : tl_St) (x2 : Int64) (H : Heap) (locs : List Loc) (ls : Array Slot), k3 σ1 x2 = some (ro, σo) → va_P g.1 vwCl (tl_W g σ1) H → va_S (tl_A g) s.heap H locs → lv_has ls 7 [(0, .ref (tl_ad g 0)), (3, .long x2)] → W p l e rX3_foldBasins s m [.ref (tl_ad g 0), .long a1].toArray below meth c H locs 0 0 (MQ below (tl_Ql g ro σo) [.ref (tl_ad g 0), .long a1].toArray s 0 0 (tl_A g)) (F0 m 82 ls []) := by
    intro σ1 x2 H locs ls h hP hS hl
    replace h := (ek3 σ1 x2).trans h
    refine lv_iconst (pc := 82) (v := 0) hx hb dX3_foldBasins_82 (by decide) ?_
    refine lv_istore (pc := 83) (lv' := [(5, .int 0), (0, .ref (tl_ad g 0)), (3, .long x2)]) hx hb dX3_foldBasins_83 hl (by decide) rfl (fun ls hl => ?_)
    obtain ⟨k5, ek5, h⟩ := tl_j1 h
    have hZ5 : ∀ (x4 : Int64) (H : Heap) (locs : List Loc) (ls : Array Slot), k5 x4 = some (ro, σo) → va_P g.1 vwCl (tl_W g σ1) H → va_S (tl_A g) s.heap H locs → lv_has ls 7 [(3, .long x4)] → W p l e rX3_foldBasins s m [.ref (tl_ad g 0), .long a1].toArray below meth c H locs 0 0 (MQ below (tl_Ql g ro σo) [.ref (tl_ad g 0), .long a1].toArray s 0 0 (tl_A g)) (F0 m 108 ls []) := by
      intro x4 H locs ls h hP hS hl
      replace h := (ek5 x4).trans h
      refine lv_lload_n (pc := 108) hx hb dX3_foldBasins_108 rfl (lv_at hl 0 rfl) ?_
      exact tl_Rlpw (pc := 109) C h hP hS dX3_foldBasins_109
    have hL85 : ∀ (n : Nat) (x6 : Int64) (x7 : Int32) (H : Heap) (locs : List Loc) (ls : Array Slot), fX3_foldBasins_L85 σ1 k5 n x6 x7 = some (ro, σo) → va_P g.1 vwCl (tl_W g σ1) H → va_S (tl_A g) s.heap H locs → lv_has ls 7 [(0, .ref (tl_ad g 0)), (3, .long x6), (5, .int x7)] → W p l e rX3_foldBasins s m [.ref (tl_ad g 0), .long a1].toArray below meth c H locs 0 0 (MQ below (tl_Ql g ro σo) [.ref (tl_ad g 0), .long a1].toArray s 0 0 (tl_A g)) (F0 m 85 ls []) := by
      intro n
      induction n with
      | zero =>
        intro x6 x7 H locs ls h hP hS hl
        rw [fX3_foldBasins_L85] at h
        cases h
      | succ n ih =>
        intro x6 x7 H locs ls h hP hS hl
        rw [fX3_foldBasins_L85] at h
        refine lv_iload (pc := 85) hx hb dX3_foldBasins_85 (lv_at hl 2 rfl) ?_
        refine lv_iconst (pc := 87) (v := 2) hx hb dX3_foldBasins_87 (by decide) ?_
        refine lv_icmp_gt (pc := 88) (tgt := 108) hx hb dX3_foldBasins_88 (by decide) (fun c8 => ?_) (fun c8 => ?_)
        · replace h := (if_pos c8).symm.trans h
          exact hZ5 x6 _ _ _ h hP hS (lv_sub hl [1] rfl)
        · replace h := (if_neg c8).symm.trans h
          refine lv_lload_n (pc := 91) hx hb dX3_foldBasins_91 rfl (lv_at hl 1 rfl) ?_
          refine lv_aload_n (pc := 92) hx hb dX3_foldBasins_92 rfl (lv_at hl 0 rfl) ?_
          refine lv_iload (pc := 93) hx hb dX3_foldBasins_93 (lv_at hl 2 rfl) ?_
          obtain ⟨r9, er9, h⟩ := tl_nm h
          refine caX3_chamber (pc := 95) C hts hP hS er9 gX3_foldBasins_X3_chamber ⟨Nat.le_of_ble_eq_true rfl, Nat.le_of_ble_eq_true rfl⟩ hl.1 (Nat.le_of_ble_eq_true rfl) dX3_foldBasins_95 (fun H locs hP hS => ?_)
          obtain ⟨r10, er10, h⟩ := tl_nm h
          refine caX3_fold (pc := 98) C hts hP hS er10 gX3_foldBasins_X3_fold ⟨Nat.le_of_ble_eq_true rfl, Nat.le_of_ble_eq_true rfl⟩ hl.1 (Nat.le_of_ble_eq_true rfl) dX3_foldBasins_98 (fun H locs hP hS => ?_)
          refine lv_lstore_n (pc := 101) (lv' := [(3, .long r10), (0, .ref (tl_ad g 0)), (5, .int x7)]) hx hb dX3_foldBasins_101 rfl hl (by decide) rfl (fun ls hl => ?_)
          obtain ⟨x11, ex11, h⟩ := tl_nm h
          refine lv_iinc (pc := 102) (v := x11) (lv' := [(5, .int x11), (3, .long r10), (0, .ref (tl_ad g 0))]) hx hb dX3_foldBasins_102 hl (k := 2) rfl ex11 (by decide) rfl (fun ls hl => ?_)
          refine lv_goto (pc := 105) (tgt := 85) hx hb dX3_foldBasins_105 (by decide) ?_
          exact ih r10 x11 _ _ _ h hP hS (lv_sub hl [2, 1, 0] rfl)
    exact hL85 1000 x2 0 _ _ _ h hP hS (lv_sub hl [1, 2, 0] rfl)
  have hL5 : ∀ (n : Nat) (σ12 : tl_St) (x13 : Int64) (x14 : Int32) (H : Heap) (locs : List Loc) (ls : Array Slot), fX3_foldBasins_L5 k3 n σ12 x13 x14 = some (ro, σo) → va_P g.1 vwCl (tl_W g σ12) H → va_S (tl_A g) s.heap H locs → lv_has ls 7 [(0, .ref (tl_ad g 0)), (3, .long x13), (5, .int x14)] → W p l e rX3_foldBasins s m [.ref (tl_ad g 0), .long a1].toArray below meth c H locs 0 0 (MQ below (tl_Ql g ro σo) [.ref (tl_ad g 0), .long a1].toArray s 0 0 (tl_A g)) (F0 m 5 ls []) := by
    intro n
    induction n with
    | zero =>
      intro σ12 x13 x14 H locs ls h hP hS hl
      rw [fX3_foldBasins_L5] at h
      cases h
    | succ n ih =>
      intro σ12 x13 x14 H locs ls h hP hS hl
      rw [fX3_foldBasins_L5] at h
      refine lv_iload (pc := 5) hx hb dX3_foldBasins_5 (lv_at hl 2 rfl) ?_
      refine lv_aload_n (pc := 7) hx hb dX3_foldBasins_7 rfl (lv_at hl 0 rfl) ?_
      refine tl_g0_0 (pc := 8) C hc3 hP lk0 dX3_foldBasins_8 ?_
      refine tl_gW_2 (pc := 11) C hc2 hP tl_W1 lk1 dX3_foldBasins_11 ?_
      refine lv_icmp_ge (pc := 14) (tgt := 82) hx hb dX3_foldBasins_14 (by decide) (fun c15 => ?_) (fun c15 => ?_)
      · replace h := (if_pos c15).symm.trans h
        exact hZ3 σ12 x13 _ _ _ h hP hS (lv_sub hl [0, 1] rfl)
      · replace h := (if_neg c15).symm.trans h
        refine lv_iconst (pc := 17) (v := 0) hx hb dX3_foldBasins_17 (by decide) ?_
        refine lv_istore (pc := 18) (lv' := [(6, .int 0), (0, .ref (tl_ad g 0)), (3, .long x13), (5, .int x14)]) hx hb dX3_foldBasins_18 hl (by decide) rfl (fun ls hl => ?_)
        obtain ⟨k17, ek17, h⟩ := tl_j1 h
        have hZ17 : ∀ (x16 : Int64) (H : Heap) (locs : List Loc) (ls : Array Slot), k17 x16 = some (ro, σo) → va_P g.1 vwCl (tl_W g σ12) H → va_S (tl_A g) s.heap H locs → lv_has ls 7 [(0, .ref (tl_ad g 0)), (3, .long x16), (5, .int x14)] → W p l e rX3_foldBasins s m [.ref (tl_ad g 0), .long a1].toArray below meth c H locs 0 0 (MQ below (tl_Ql g ro σo) [.ref (tl_ad g 0), .long a1].toArray s 0 0 (tl_A g)) (F0 m 46 ls []) := by
          intro x16 H locs ls h hP hS hl
          replace h := (ek17 x16).trans h
          refine lv_aload_n (pc := 46) hx hb dX3_foldBasins_46 rfl (lv_at hl 0 rfl) ?_
          refine lv_iload (pc := 47) hx hb dX3_foldBasins_47 (lv_at hl 2 rfl) ?_
          obtain ⟨r18, σ19, er18, h⟩ := tl_o2s h
          refine caX3_bestBottom (pc := 49) C hts hP hS er18 gX3_foldBasins_X3_bestBottom ⟨Nat.le_of_ble_eq_true rfl, Nat.le_of_ble_eq_true rfl⟩ hl.1 (Nat.le_of_ble_eq_true rfl) dX3_foldBasins_49 (fun H locs hP hS => ?_)
          refine lv_istore (pc := 52) (lv' := [(6, .int r18), (0, .ref (tl_ad g 0)), (3, .long x16), (5, .int x14)]) hx hb dX3_foldBasins_52 hl (by decide) rfl (fun ls hl => ?_)
          refine lv_lload_n (pc := 54) hx hb dX3_foldBasins_54 rfl (lv_at hl 2 rfl) ?_
          refine lv_iload (pc := 55) hx hb dX3_foldBasins_55 (lv_at hl 0 rfl) ?_
          refine lv_iconst (pc := 57) (v := 0) hx hb dX3_foldBasins_57 (by decide) ?_
          obtain ⟨r20, er20, h⟩ := tl_nm h
          refine caX3_partOfChoice (pc := 58) C hts hP hS er20 gX3_foldBasins_X3_partOfChoice ⟨Nat.le_of_ble_eq_true rfl, Nat.le_of_ble_eq_true rfl⟩ hl.1 (Nat.le_of_ble_eq_true rfl) dX3_foldBasins_58 (fun H locs hP hS => ?_)
          obtain ⟨r21, er21, h⟩ := tl_nm h
          refine caX3_fold (pc := 61) C hts hP hS er21 gX3_foldBasins_X3_fold ⟨Nat.le_of_ble_eq_true rfl, Nat.le_of_ble_eq_true rfl⟩ hl.1 (Nat.le_of_ble_eq_true rfl) dX3_foldBasins_61 (fun H locs hP hS => ?_)
          refine lv_lstore_n (pc := 64) (lv' := [(3, .long r21), (6, .int r18), (0, .ref (tl_ad g 0)), (5, .int x14)]) hx hb dX3_foldBasins_64 rfl hl (by decide) rfl (fun ls hl => ?_)
          refine lv_lload_n (pc := 65) hx hb dX3_foldBasins_65 rfl (lv_at hl 0 rfl) ?_
          refine lv_iload (pc := 66) hx hb dX3_foldBasins_66 (lv_at hl 1 rfl) ?_
          refine lv_iconst (pc := 68) (v := 1) hx hb dX3_foldBasins_68 (by decide) ?_
          obtain ⟨r22, er22, h⟩ := tl_nm h
          refine caX3_partOfChoice (pc := 69) C hts hP hS er22 gX3_foldBasins_X3_partOfChoice ⟨Nat.le_of_ble_eq_true rfl, Nat.le_of_ble_eq_true rfl⟩ hl.1 (Nat.le_of_ble_eq_true rfl) dX3_foldBasins_69 (fun H locs hP hS => ?_)
          obtain ⟨r23, er23, h⟩ := tl_nm h
          refine caX3_fold (pc := 72) C hts hP hS er23 gX3_foldBasins_X3_fold ⟨Nat.le_of_ble_eq_true rfl, Nat.le_of_ble_eq_true rfl⟩ hl.1 (Nat.le_of_ble_eq_true rfl) dX3_foldBasins_72 (fun H locs hP hS => ?_)
          refine lv_lstore_n (pc := 75) (lv' := [(3, .long r23), (6, .int r18), (0, .ref (tl_ad g 0)), (5, .int x14)]) hx hb dX3_foldBasins_75 rfl hl (by decide) rfl (fun ls hl => ?_)
          obtain ⟨x24, ex24, h⟩ := tl_nm h
          refine lv_iinc (pc := 76) (v := x24) (lv' := [(5, .int x24), (3, .long r23), (6, .int r18), (0, .ref (tl_ad g 0))]) hx hb dX3_foldBasins_76 hl (k := 3) rfl ex24 (by decide) rfl (fun ls hl => ?_)
          refine lv_goto (pc := 79) (tgt := 5) hx hb dX3_foldBasins_79 (by decide) ?_
          exact ih σ19 r23 x24 _ _ _ h hP hS (lv_sub hl [3, 1, 0] rfl)
        have hL20 : ∀ (n : Nat) (x25 : Int64) (x26 : Int32) (H : Heap) (locs : List Loc) (ls : Array Slot), fX3_foldBasins_L20 σ12 x14 k17 n x25 x26 = some (ro, σo) → va_P g.1 vwCl (tl_W g σ12) H → va_S (tl_A g) s.heap H locs → lv_has ls 7 [(0, .ref (tl_ad g 0)), (3, .long x25), (5, .int x14), (6, .int x26)] → W p l e rX3_foldBasins s m [.ref (tl_ad g 0), .long a1].toArray below meth c H locs 0 0 (MQ below (tl_Ql g ro σo) [.ref (tl_ad g 0), .long a1].toArray s 0 0 (tl_A g)) (F0 m 20 ls []) := by
          intro n
          induction n with
          | zero =>
            intro x25 x26 H locs ls h hP hS hl
            rw [fX3_foldBasins_L20] at h
            cases h
          | succ n ih =>
            intro x25 x26 H locs ls h hP hS hl
            rw [fX3_foldBasins_L20] at h
            refine lv_iload (pc := 20) hx hb dX3_foldBasins_20 (lv_at hl 3 rfl) ?_
            refine lv_bipush (pc := 22) (v := 6) hx hb dX3_foldBasins_22 (by decide) ?_
            refine lv_icmp_gt (pc := 24) (tgt := 46) hx hb dX3_foldBasins_24 (by decide) (fun c27 => ?_) (fun c27 => ?_)
            · replace h := (if_pos c27).symm.trans h
              exact hZ17 x25 _ _ _ h hP hS (lv_sub hl [0, 1, 2] rfl)
            · replace h := (if_neg c27).symm.trans h
              refine lv_lload_n (pc := 27) hx hb dX3_foldBasins_27 rfl (lv_at hl 1 rfl) ?_
              refine lv_aload_n (pc := 28) hx hb dX3_foldBasins_28 rfl (lv_at hl 0 rfl) ?_
              refine lv_iload (pc := 29) hx hb dX3_foldBasins_29 (lv_at hl 2 rfl) ?_
              refine lv_iload (pc := 31) hx hb dX3_foldBasins_31 (lv_at hl 3 rfl) ?_
              obtain ⟨r28, er28, h⟩ := tl_o1s h
              refine caX3_info (pc := 33) C hts hP hS er28 gX3_foldBasins_X3_info ⟨Nat.le_of_ble_eq_true rfl, Nat.le_of_ble_eq_true rfl⟩ hl.1 (Nat.le_of_ble_eq_true rfl) dX3_foldBasins_33 (fun H locs hP hS => ?_)
              obtain ⟨r29, er29, h⟩ := tl_nm h
              refine caX3_fold (pc := 36) C hts hP hS er29 gX3_foldBasins_X3_fold ⟨Nat.le_of_ble_eq_true rfl, Nat.le_of_ble_eq_true rfl⟩ hl.1 (Nat.le_of_ble_eq_true rfl) dX3_foldBasins_36 (fun H locs hP hS => ?_)
              refine lv_lstore_n (pc := 39) (lv' := [(3, .long r29), (0, .ref (tl_ad g 0)), (5, .int x14), (6, .int x26)]) hx hb dX3_foldBasins_39 rfl hl (by decide) rfl (fun ls hl => ?_)
              obtain ⟨x30, ex30, h⟩ := tl_nm h
              refine lv_iinc (pc := 40) (v := x30) (lv' := [(6, .int x30), (3, .long r29), (0, .ref (tl_ad g 0)), (5, .int x14)]) hx hb dX3_foldBasins_40 hl (k := 3) rfl ex30 (by decide) rfl (fun ls hl => ?_)
              refine lv_goto (pc := 43) (tgt := 20) hx hb dX3_foldBasins_43 (by decide) ?_
              exact ih r29 x30 _ _ _ h hP hS (lv_sub hl [2, 1, 3, 0] rfl)
        exact hL20 1000 x13 0 _ _ _ h hP hS (lv_sub hl [1, 2, 3, 0] rfl)
  exact hL5 1000 σ a1 0 _ _ _ h hP hS (lv_sub hl [2, 1, 0] rfl)
theorem caX3_foldBasins {p : Program} {l : Launch} {e : Env} {R : Room} {s : State} {m : MethodId} {args : Array Value} {below : List Frame} {meth : Method} {c : Code} {H : Heap} {locs : List Loc} {Q : State → Prop} {cc : ByteArray} {pc : Nat} {ls : Array Slot} {rest : List Value} {g : tl_G} {σ : tl_St} {H0 : Heap} {nL : Nat} {own : String} {ret : Option FieldType} {index : Nat} (C : tl_C p s m meth c cc nL own ret g) {Ts : List Cond} (hts : ∀ w ∈ Ts, w.before args s = true) (hP : va_P g.1 vwCl (tl_W g σ) H) (hS : va_S (tl_A g) H0 H locs) {a1 : Int64} {ro : Int64} {σo : tl_St} (h : fX3_foldBasins σ a1 = some (ro, σo)) (hG : GoodIn Ts (wsV own index RX3 yX3_foldBasins wsX3_foldBasins)) (hR : 5 + 1 ≤ R.frames ∧ 8 + (7 + 11) + 121 ≤ R.locals) (hls : ls.size = nL) (hrm : (rest.map fun v => v.category).sum ≤ 8) (hdg : decode cc pc = .ok (.invokevirtual index, 3)) (kk : ∀ (H1 : Heap) (locs1 : List Loc), va_P g.1 vwCl (tl_W g σo) H1 → va_S (tl_A g) H0 H1 locs1 → W p l e R s m args below meth c H1 locs1 0 0 Q (F0 m (pc + 3) ls (.long ro :: rest))) : W p l e R s m args below meth c H locs 0 0 Q (F0 m pc ls (.long a1 :: .ref (tl_ad g 0) :: rest)) :=
  tl_gol (tl_callV C hts hP (okX3_foldBasins l g C.2.2.2.2.2.2.2 σ a1 ro σo h) rfl rfl rfl (n := 1) (by decide +kernel) rfl (ci := 3) rfl (tl_k0 g σ) hG hR hls rfl hrm hdg) hS kk

abbrev rX4_head : Room := { frames := 1, cells := 0, slots := 0, locals := 25 }
set_option maxHeartbeats 4000000 in
set_option maxRecDepth 100000 in
theorem okX4_head (l : Launch) (g : tl_G) (hI : tl_I g) (σ : tl_St) (a1 : Int32) (ro : Int32) (σo : tl_St) (h : fX4_head σ a1 = (ro, σo)) : Met l yX4_head wsX4_head rX4_head (va_Pc [.ref (tl_ad g 34), .int a1] (tl_Pre g σ)) (tl_Qi g ro σo) 0 0 (tl_A g) := by
  refine tl_enter (cc := cX4_head) (maxL := 3) (ret := (some .int)) (own := RX4) hI (by decide) rfl rfl (Nat.le_of_ble_eq_true rfl) ?_
  intro p e s m below meth c C hts H locs hP hS ls hl
  have hx := C.1
  have hb := C.2.1
  have hl : lv_has ls 3 [(0, .ref (tl_ad g 34)), (1, .int a1)] := hl
  have hc4 : ∀ w ∈ u_ws RX4 TX4 30, w.before [.ref (tl_ad g 34), .int a1].toArray s = true := fun w hw => hts w (List.mem_cons_of_mem _ (List.mem_append_right _ hw))
  have lk0 : (Cond.constantLong RX4 88 (60)).before [.ref (tl_ad g 34), .int a1].toArray s = true := hts _ (List.mem_cons_of_mem _ (List.mem_append_left _ (List.mem_of_getElem? (i := 0) rfl)))
  have lk1 : (Cond.fieldLink RX4 90 "ThriftLockModel" "full" "Z").before [.ref (tl_ad g 34), .int a1].toArray s = true := hts _ (List.mem_cons_of_mem _ (List.mem_append_left _ (List.mem_of_getElem? (i := 1) rfl)))
  have lk2 : (Cond.fieldLink RX4 56 "ThriftLockModel" "head" "I").before [.ref (tl_ad g 34), .int a1].toArray s = true := hts _ (List.mem_cons_of_mem _ (List.mem_append_left _ (List.mem_of_getElem? (i := 2) rfl)))
  unfold fX4_head at h
  refine lv_iload_n (pc := 0) hx hb dX4_head_0 rfl (lv_at hl 1 rfl) ?_
  refine lv_i2l (pc := 1) hx hb dX4_head_1 rfl ?_
  refine lv_lconst (pc := 2) (v := 1) hx hb dX4_head_2 (by decide) ?_
  refine lv_ldc2 (pc := 3) (v := 60) hx hb C.2.2.2.1 lk0 dX4_head_3 ?_
  obtain ⟨r1, er1, h⟩ := tl_nm h
  refine caX4_in (pc := 6) C hts hP hS er1 gX4_head_X4_in ⟨Nat.le_of_ble_eq_true rfl, Nat.le_of_ble_eq_true rfl⟩ hl.1 (Nat.le_of_ble_eq_true rfl) dX4_head_6 (fun H locs hP hS => ?_)
  refine lv_if_ne (pc := 9) (tgt := 15) hx hb dX4_head_9 (by decide) (fun c2 => ?_) (fun c2 => ?_)
  · replace h := (if_neg c2).symm.trans h
    refine lv_aload_n (pc := 15) hx hb dX4_head_15 rfl (lv_at hl 0 rfl) ?_
    refine tl_gM_6 (pc := 16) C hc4 hP lk1 dX4_head_16 ?_
    refine lv_if_eq (pc := 19) (tgt := 25) hx hb dX4_head_19 (by decide) (fun c3 => ?_) (fun c3 => ?_)
    · replace h := (if_pos c3).symm.trans h
      refine lv_aload_n (pc := 25) hx hb dX4_head_25 rfl (lv_at hl 0 rfl) ?_
      refine tl_gM_5 (pc := 26) C hc4 hP lk2 dX4_head_26 ?_
      obtain ⟨x4, ex4, h⟩ := tl_nm h
      refine tl_ti ex4 ?_
      refine lv_istore_n (pc := 29) (lv' := [(2, .int x4), (0, .ref (tl_ad g 34)), (1, .int a1)]) hx hb dX4_head_29 rfl hl (by decide) rfl (fun ls hl => ?_)
      refine lv_aload_n (pc := 30) hx hb dX4_head_30 rfl (lv_at hl 1 rfl) ?_
      refine lv_iload_n (pc := 31) hx hb dX4_head_31 rfl (lv_at hl 2 rfl) ?_
      obtain ⟨σ5, eσ5, h⟩ := tl_nm h
      refine tl_sM_5 (pc := 32) C hc4 hP hS eσ5 lk2 dX4_head_32 (fun H locs hP hS => ?_)
      refine lv_iload_n (pc := 35) hx hb dX4_head_35 rfl (lv_at hl 0 rfl) ?_
      exact tl_Ritw (pc := 36) C h hP hS dX4_head_36
    · replace h := (if_neg c3).symm.trans h
      refine lv_bipush (pc := 22) (v := (-3)) hx hb dX4_head_22 (by decide) ?_
      exact tl_Ritw (pc := 24) C h hP hS dX4_head_24
  · replace h := (if_pos c2).symm.trans h
    refine lv_bipush (pc := 12) (v := (-2)) hx hb dX4_head_12 (by decide) ?_
    exact tl_Ritw (pc := 14) C h hP hS dX4_head_14
theorem caX4_head {p : Program} {l : Launch} {e : Env} {R : Room} {s : State} {m : MethodId} {args : Array Value} {below : List Frame} {meth : Method} {c : Code} {H : Heap} {locs : List Loc} {Q : State → Prop} {cc : ByteArray} {pc : Nat} {ls : Array Slot} {rest : List Value} {g : tl_G} {σ : tl_St} {H0 : Heap} {nL : Nat} {own : String} {ret : Option FieldType} {index : Nat} (C : tl_C p s m meth c cc nL own ret g) {Ts : List Cond} (hts : ∀ w ∈ Ts, w.before args s = true) (hP : va_P g.1 vwCl (tl_W g σ) H) (hS : va_S (tl_A g) H0 H locs) {a1 : Int32} {ro : Int32} {σo : tl_St} (h : fX4_head σ a1 = (ro, σo)) (hG : GoodIn Ts (wsV own index RX4 yX4_head wsX4_head)) (hR : 1 + 1 ≤ R.frames ∧ 8 + (3 + 11) + 25 ≤ R.locals) (hls : ls.size = nL) (hrm : (rest.map fun v => v.category).sum ≤ 8) (hdg : decode cc pc = .ok (.invokevirtual index, 3)) (kk : ∀ (H1 : Heap) (locs1 : List Loc), va_P g.1 vwCl (tl_W g σo) H1 → va_S (tl_A g) H0 H1 locs1 → W p l e R s m args below meth c H1 locs1 0 0 Q (F0 m (pc + 3) ls (.int ro :: rest))) : W p l e R s m args below meth c H locs 0 0 Q (F0 m pc ls (.int a1 :: .ref (tl_ad g 34) :: rest)) :=
  tl_goi (tl_callV C hts hP (okX4_head l g C.2.2.2.2.2.2.2 σ a1 ro σo h) rfl rfl rfl (n := 1) (by decide +kernel) rfl (ci := 4) rfl (tl_kM g σ) hG hR hls rfl hrm hdg) hS kk
abbrev rX4_basin : Room := { frames := 1, cells := 0, slots := 0, locals := 25 }
set_option maxHeartbeats 4000000 in
set_option maxRecDepth 100000 in
theorem okX4_basin (l : Launch) (g : tl_G) (hI : tl_I g) (σ : tl_St) (a1 : Int32) (a2 : Int32) (a3 : Int32) (ro : Int32) (σo : tl_St) (h : fX4_basin σ a1 a2 a3 = some (ro, σo)) : Met l yX4_basin wsX4_basin rX4_basin (va_Pc [.ref (tl_ad g 34), .int a1, .int a2, .int a3] (tl_Pre g σ)) (tl_Qi g ro σo) 0 0 (tl_A g) := by
  refine tl_enter (cc := cX4_basin) (maxL := 4) (ret := (some .int)) (own := RX4) hI (by decide) rfl rfl (Nat.le_of_ble_eq_true rfl) ?_
  intro p e s m below meth c C hts H locs hP hS ls hl
  have hx := C.1
  have hb := C.2.1
  have hl : lv_has ls 4 [(0, .ref (tl_ad g 34)), (1, .int a1), (2, .int a2), (3, .int a3)] := hl
  have hc4 : ∀ w ∈ u_ws RX4 TX4 30, w.before [.ref (tl_ad g 34), .int a1, .int a2, .int a3].toArray s = true := fun w hw => hts w (List.mem_cons_of_mem _ (List.mem_append_right _ hw))
  have lk0 : (Cond.constantLong RX4 94 (59)).before [.ref (tl_ad g 34), .int a1, .int a2, .int a3].toArray s = true := hts _ (List.mem_cons_of_mem _ (List.mem_append_left _ (List.mem_of_getElem? (i := 0) rfl)))
  have lk1 : (Cond.constantLong RX4 88 (60)).before [.ref (tl_ad g 34), .int a1, .int a2, .int a3].toArray s = true := hts _ (List.mem_cons_of_mem _ (List.mem_append_left _ (List.mem_of_getElem? (i := 1) rfl)))
  have lk2 : (Cond.constantLong RX4 67 (3)).before [.ref (tl_ad g 34), .int a1, .int a2, .int a3].toArray s = true := hts _ (List.mem_cons_of_mem _ (List.mem_append_left _ (List.mem_of_getElem? (i := 2) rfl)))
  have lk3 : (Cond.fieldLink RX4 96 "ThriftLockModel" "basins" "I").before [.ref (tl_ad g 34), .int a1, .int a2, .int a3].toArray s = true := hts _ (List.mem_cons_of_mem _ (List.mem_append_left _ (List.mem_of_getElem? (i := 3) rfl)))
  have lk4 : (Cond.fieldLink RX4 22 "ThriftLockModel" "bottom" "[I").before [.ref (tl_ad g 34), .int a1, .int a2, .int a3].toArray s = true := hts _ (List.mem_cons_of_mem _ (List.mem_append_left _ (List.mem_of_getElem? (i := 4) rfl)))
  have lk5 : (Cond.fieldLink RX4 25 "ThriftLockModel" "room" "[I").before [.ref (tl_ad g 34), .int a1, .int a2, .int a3].toArray s = true := hts _ (List.mem_cons_of_mem _ (List.mem_append_left _ (List.mem_of_getElem? (i := 5) rfl)))
  have lk6 : (Cond.fieldLink RX4 28 "ThriftLockModel" "wide" "[I").before [.ref (tl_ad g 34), .int a1, .int a2, .int a3].toArray s = true := hts _ (List.mem_cons_of_mem _ (List.mem_append_left _ (List.mem_of_getElem? (i := 6) rfl)))
  have lk7 : (Cond.fieldLink RX4 31 "ThriftLockModel" "leak" "[I").before [.ref (tl_ad g 34), .int a1, .int a2, .int a3].toArray s = true := hts _ (List.mem_cons_of_mem _ (List.mem_append_left _ (List.mem_of_getElem? (i := 7) rfl)))
  have lk8 : (Cond.fieldLink RX4 34 "ThriftLockModel" "held" "[I").before [.ref (tl_ad g 34), .int a1, .int a2, .int a3].toArray s = true := hts _ (List.mem_cons_of_mem _ (List.mem_append_left _ (List.mem_of_getElem? (i := 8) rfl)))
  unfold fX4_basin at h
  refine lv_iload_n (pc := 0) hx hb dX4_basin_0 rfl (lv_at hl 1 rfl) ?_
  refine lv_i2l (pc := 1) hx hb dX4_basin_1 rfl ?_
  refine lv_lconst (pc := 2) (v := 0) hx hb dX4_basin_2 (by decide) ?_
  refine lv_ldc2 (pc := 3) (v := 59) hx hb C.2.2.2.1 lk0 dX4_basin_3 ?_
  obtain ⟨r1, er1, h⟩ := tl_nm h
  refine caX4_in (pc := 6) C hts hP hS er1 gX4_basin_X4_in ⟨Nat.le_of_ble_eq_true rfl, Nat.le_of_ble_eq_true rfl⟩ hl.1 (Nat.le_of_ble_eq_true rfl) dX4_basin_6 (fun H locs hP hS => ?_)
  refine lv_if_eq (pc := 9) (tgt := 36) hx hb dX4_basin_9 (by decide) (fun c2 => ?_) (fun c2 => ?_)
  · replace h := (if_pos c2).symm.trans h
    refine lv_bipush (pc := 36) (v := (-2)) hx hb dX4_basin_36 (by decide) ?_
    exact tl_Ripw (pc := 38) C h hP hS dX4_basin_38
  · replace h := (if_neg c2).symm.trans h
    refine lv_iload_n (pc := 12) hx hb dX4_basin_12 rfl (lv_at hl 2 rfl) ?_
    refine lv_i2l (pc := 13) hx hb dX4_basin_13 rfl ?_
    refine lv_lconst (pc := 14) (v := 1) hx hb dX4_basin_14 (by decide) ?_
    refine lv_ldc2 (pc := 15) (v := 60) hx hb C.2.2.2.1 lk1 dX4_basin_15 ?_
    obtain ⟨r3, er3, h⟩ := tl_nm h
    refine caX4_in (pc := 18) C hts hP hS er3 gX4_basin_X4_in ⟨Nat.le_of_ble_eq_true rfl, Nat.le_of_ble_eq_true rfl⟩ hl.1 (Nat.le_of_ble_eq_true rfl) dX4_basin_18 (fun H locs hP hS => ?_)
    refine lv_if_eq (pc := 21) (tgt := 36) hx hb dX4_basin_21 (by decide) (fun c4 => ?_) (fun c4 => ?_)
    · replace h := (if_pos c4).symm.trans h
      refine lv_bipush (pc := 36) (v := (-2)) hx hb dX4_basin_36 (by decide) ?_
      exact tl_Ripw (pc := 38) C h hP hS dX4_basin_38
    · replace h := (if_neg c4).symm.trans h
      refine lv_iload_n (pc := 24) hx hb dX4_basin_24 rfl (lv_at hl 3 rfl) ?_
      refine lv_i2l (pc := 25) hx hb dX4_basin_25 rfl ?_
      refine lv_lconst (pc := 26) (v := 1) hx hb dX4_basin_26 (by decide) ?_
      refine lv_ldc2 (pc := 27) (v := 3) hx hb C.2.2.2.1 lk2 dX4_basin_27 ?_
      obtain ⟨r5, er5, h⟩ := tl_nm h
      refine caX4_in (pc := 30) C hts hP hS er5 gX4_basin_X4_in ⟨Nat.le_of_ble_eq_true rfl, Nat.le_of_ble_eq_true rfl⟩ hl.1 (Nat.le_of_ble_eq_true rfl) dX4_basin_30 (fun H locs hP hS => ?_)
      refine lv_if_ne (pc := 33) (tgt := 39) hx hb dX4_basin_33 (by decide) (fun c6 => ?_) (fun c6 => ?_)
      · replace h := (if_neg c6).symm.trans h
        refine lv_aload_n (pc := 39) hx hb dX4_basin_39 rfl (lv_at hl 0 rfl) ?_
        refine tl_gM_7 (pc := 40) C hc4 hP lk3 dX4_basin_40 ?_
        refine lv_iconst (pc := 43) (v := 4) hx hb dX4_basin_43 (by decide) ?_
        refine lv_icmp_ne (pc := 44) (tgt := 50) hx hb dX4_basin_44 (by decide) (fun c7 => ?_) (fun c7 => ?_)
        · replace h := (if_neg c7).symm.trans h
          refine lv_aload_n (pc := 50) hx hb dX4_basin_50 rfl (lv_at hl 0 rfl) ?_
          refine tl_gM_8 (pc := 51) C hc4 hP lk4 dX4_basin_51 ?_
          refine lv_aload_n (pc := 54) hx hb dX4_basin_54 rfl (lv_at hl 0 rfl) ?_
          refine tl_gM_7 (pc := 55) C hc4 hP lk3 dX4_basin_55 ?_
          refine lv_iload_n (pc := 58) hx hb dX4_basin_58 rfl (lv_at hl 1 rfl) ?_
          obtain ⟨g8, h⟩ := tl_gd h
          obtain ⟨σ9, eσ9, h⟩ := tl_nm h
          refine tl_ast (pc := 59) C hP hS (tl_a39 g) g8 eσ9 dX4_basin_59 (fun H locs hP hS => ?_)
          refine lv_aload_n (pc := 60) hx hb dX4_basin_60 rfl (lv_at hl 0 rfl) ?_
          refine tl_gM_9 (pc := 61) C hc4 hP lk5 dX4_basin_61 ?_
          refine lv_aload_n (pc := 64) hx hb dX4_basin_64 rfl (lv_at hl 0 rfl) ?_
          refine tl_gM_7 (pc := 65) C hc4 hP lk3 dX4_basin_65 ?_
          refine lv_iload_n (pc := 68) hx hb dX4_basin_68 rfl (lv_at hl 2 rfl) ?_
          obtain ⟨g10, h⟩ := tl_gd h
          obtain ⟨σ11, eσ11, h⟩ := tl_nm h
          refine tl_ast (pc := 69) C hP hS (tl_a40 g) g10 eσ11 dX4_basin_69 (fun H locs hP hS => ?_)
          refine lv_aload_n (pc := 70) hx hb dX4_basin_70 rfl (lv_at hl 0 rfl) ?_
          refine tl_gM_10 (pc := 71) C hc4 hP lk6 dX4_basin_71 ?_
          refine lv_aload_n (pc := 74) hx hb dX4_basin_74 rfl (lv_at hl 0 rfl) ?_
          refine tl_gM_7 (pc := 75) C hc4 hP lk3 dX4_basin_75 ?_
          refine lv_iload_n (pc := 78) hx hb dX4_basin_78 rfl (lv_at hl 3 rfl) ?_
          obtain ⟨g12, h⟩ := tl_gd h
          obtain ⟨σ13, eσ13, h⟩ := tl_nm h
          refine tl_ast (pc := 79) C hP hS (tl_a41 g) g12 eσ13 dX4_basin_79 (fun H locs hP hS => ?_)
          refine lv_aload_n (pc := 80) hx hb dX4_basin_80 rfl (lv_at hl 0 rfl) ?_
          refine tl_gM_11 (pc := 81) C hc4 hP lk7 dX4_basin_81 ?_
          refine lv_aload_n (pc := 84) hx hb dX4_basin_84 rfl (lv_at hl 0 rfl) ?_
          refine tl_gM_7 (pc := 85) C hc4 hP lk3 dX4_basin_85 ?_
          refine lv_iconst (pc := 88) (v := 0) hx hb dX4_basin_88 (by decide) ?_
          obtain ⟨g14, h⟩ := tl_gd h
          obtain ⟨σ15, eσ15, h⟩ := tl_nm h
          refine tl_ast (pc := 89) C hP hS (tl_a42 g) g14 eσ15 dX4_basin_89 (fun H locs hP hS => ?_)
          refine lv_aload_n (pc := 90) hx hb dX4_basin_90 rfl (lv_at hl 0 rfl) ?_
          refine tl_gM_12 (pc := 91) C hc4 hP lk8 dX4_basin_91 ?_
          refine lv_aload_n (pc := 94) hx hb dX4_basin_94 rfl (lv_at hl 0 rfl) ?_
          refine tl_gM_7 (pc := 95) C hc4 hP lk3 dX4_basin_95 ?_
          refine lv_iconst (pc := 98) (v := 0) hx hb dX4_basin_98 (by decide) ?_
          obtain ⟨g16, h⟩ := tl_gd h
          obtain ⟨σ17, eσ17, h⟩ := tl_nm h
          refine tl_ast (pc := 99) C hP hS (tl_a43 g) g16 eσ17 dX4_basin_99 (fun H locs hP hS => ?_)
          refine lv_aload_n (pc := 100) hx hb dX4_basin_100 rfl (lv_at hl 0 rfl) ?_
          refine lv_dup (pc := 101) hx hb dX4_basin_101 rfl ?_
          refine tl_gM_7 (pc := 102) C hc4 hP lk3 dX4_basin_102 ?_
          refine lv_iconst (pc := 105) (v := 1) hx hb dX4_basin_105 (by decide) ?_
          refine lv_iadd (pc := 106) hx hb dX4_basin_106 ?_
          obtain ⟨σ18, eσ18, h⟩ := tl_nm h
          refine tl_sM_7 (pc := 107) C hc4 hP hS eσ18 lk3 dX4_basin_107 (fun H locs hP hS => ?_)
          refine lv_aload_n (pc := 110) hx hb dX4_basin_110 rfl (lv_at hl 0 rfl) ?_
          refine tl_gM_7 (pc := 111) C hc4 hP lk3 dX4_basin_111 ?_
          exact tl_Ripw (pc := 114) C h hP hS dX4_basin_114
        · replace h := (if_pos c7).symm.trans h
          refine lv_bipush (pc := 47) (v := (-4)) hx hb dX4_basin_47 (by decide) ?_
          exact tl_Ripw (pc := 49) C h hP hS dX4_basin_49
      · replace h := (if_pos c6).symm.trans h
        refine lv_bipush (pc := 36) (v := (-2)) hx hb dX4_basin_36 (by decide) ?_
        exact tl_Ripw (pc := 38) C h hP hS dX4_basin_38
theorem caX4_basin {p : Program} {l : Launch} {e : Env} {R : Room} {s : State} {m : MethodId} {args : Array Value} {below : List Frame} {meth : Method} {c : Code} {H : Heap} {locs : List Loc} {Q : State → Prop} {cc : ByteArray} {pc : Nat} {ls : Array Slot} {rest : List Value} {g : tl_G} {σ : tl_St} {H0 : Heap} {nL : Nat} {own : String} {ret : Option FieldType} {index : Nat} (C : tl_C p s m meth c cc nL own ret g) {Ts : List Cond} (hts : ∀ w ∈ Ts, w.before args s = true) (hP : va_P g.1 vwCl (tl_W g σ) H) (hS : va_S (tl_A g) H0 H locs) {a1 : Int32} {a2 : Int32} {a3 : Int32} {ro : Int32} {σo : tl_St} (h : fX4_basin σ a1 a2 a3 = some (ro, σo)) (hG : GoodIn Ts (wsV own index RX4 yX4_basin wsX4_basin)) (hR : 1 + 1 ≤ R.frames ∧ 8 + (4 + 11) + 25 ≤ R.locals) (hls : ls.size = nL) (hrm : (rest.map fun v => v.category).sum ≤ 8) (hdg : decode cc pc = .ok (.invokevirtual index, 3)) (kk : ∀ (H1 : Heap) (locs1 : List Loc), va_P g.1 vwCl (tl_W g σo) H1 → va_S (tl_A g) H0 H1 locs1 → W p l e R s m args below meth c H1 locs1 0 0 Q (F0 m (pc + 3) ls (.int ro :: rest))) : W p l e R s m args below meth c H locs 0 0 Q (F0 m pc ls (.int a3 :: .int a2 :: .int a1 :: .ref (tl_ad g 34) :: rest)) :=
  tl_goi (tl_callV C hts hP (okX4_basin l g C.2.2.2.2.2.2.2 σ a1 a2 a3 ro σo h) rfl rfl rfl (n := 3) (by decide +kernel) rfl (ci := 4) rfl (tl_kM g σ) hG hR hls rfl hrm hdg) hS kk
abbrev rX4_back : Room := { frames := 0, cells := 0, slots := 0, locals := 0 }
set_option maxHeartbeats 4000000 in
set_option maxRecDepth 100000 in
theorem okX4_back (l : Launch) (g : tl_G) (hI : tl_I g) (σ : tl_St) (ro : Int32) (σo : tl_St) (h : fX4_back σ = some (ro, σo)) : Met l yX4_back wsX4_back rX4_back (va_Pc [.ref (tl_ad g 34)] (tl_Pre g σ)) (tl_Qi g ro σo) 0 0 (tl_A g) := by
  refine tl_enter (cc := cX4_back) (maxL := 1) (ret := (some .int)) (own := RX4) hI (by decide) rfl rfl (Nat.le_of_ble_eq_true rfl) ?_
  intro p e s m below meth c C hts H locs hP hS ls hl
  have hx := C.1
  have hb := C.2.1
  have hl : lv_has ls 1 [(0, .ref (tl_ad g 34))] := hl
  have hc4 : ∀ w ∈ u_ws RX4 TX4 30, w.before [.ref (tl_ad g 34)].toArray s = true := fun w hw => hts w (List.mem_cons_of_mem _ (List.mem_append_right _ hw))
  have lk0 : (Cond.fieldLink RX4 96 "ThriftLockModel" "basins" "I").before [.ref (tl_ad g 34)].toArray s = true := hts _ (List.mem_cons_of_mem _ (List.mem_append_left _ (List.mem_of_getElem? (i := 0) rfl)))
  have lk1 : (Cond.fieldLink RX4 34 "ThriftLockModel" "held" "[I").before [.ref (tl_ad g 34)].toArray s = true := hts _ (List.mem_cons_of_mem _ (List.mem_append_left _ (List.mem_of_getElem? (i := 1) rfl)))
  have lk2 : (Cond.fieldLink RX4 99 "ThriftLockModel" "out" "I").before [.ref (tl_ad g 34)].toArray s = true := hts _ (List.mem_cons_of_mem _ (List.mem_append_left _ (List.mem_of_getElem? (i := 2) rfl)))
  unfold fX4_back at h
  refine lv_aload_n (pc := 0) hx hb dX4_back_0 rfl (lv_at hl 0 rfl) ?_
  refine tl_gM_7 (pc := 1) C hc4 hP lk0 dX4_back_1 ?_
  refine lv_if_eq (pc := 4) (tgt := 21) hx hb dX4_back_4 (by decide) (fun c1 => ?_) (fun c1 => ?_)
  · replace h := (if_pos c1).symm.trans h
    refine lv_bipush (pc := 21) (v := (-3)) hx hb dX4_back_21 (by decide) ?_
    exact tl_Ripw (pc := 23) C h hP hS dX4_back_23
  · replace h := (if_neg c1).symm.trans h
    refine lv_aload_n (pc := 7) hx hb dX4_back_7 rfl (lv_at hl 0 rfl) ?_
    refine tl_gM_12 (pc := 8) C hc4 hP lk1 dX4_back_8 ?_
    refine lv_aload_n (pc := 11) hx hb dX4_back_11 rfl (lv_at hl 0 rfl) ?_
    refine tl_gM_7 (pc := 12) C hc4 hP lk0 dX4_back_12 ?_
    refine lv_iconst (pc := 15) (v := 1) hx hb dX4_back_15 (by decide) ?_
    refine lv_isub (pc := 16) hx hb dX4_back_16 ?_
    obtain ⟨g2, h⟩ := tl_gd h
    refine tl_ald (pc := 17) C hP (tl_a43 g) g2 dX4_back_17 ?_
    refine lv_if_le (pc := 18) (tgt := 24) hx hb dX4_back_18 (by decide) (fun c3 => ?_) (fun c3 => ?_)
    · replace h := (if_pos c3).symm.trans h
      refine lv_aload_n (pc := 24) hx hb dX4_back_24 rfl (lv_at hl 0 rfl) ?_
      refine lv_dup (pc := 25) hx hb dX4_back_25 rfl ?_
      refine tl_gM_7 (pc := 26) C hc4 hP lk0 dX4_back_26 ?_
      refine lv_iconst (pc := 29) (v := 1) hx hb dX4_back_29 (by decide) ?_
      refine lv_isub (pc := 30) hx hb dX4_back_30 ?_
      obtain ⟨σ4, eσ4, h⟩ := tl_nm h
      refine tl_sM_7 (pc := 31) C hc4 hP hS eσ4 lk0 dX4_back_31 (fun H locs hP hS => ?_)
      refine lv_aload_n (pc := 34) hx hb dX4_back_34 rfl (lv_at hl 0 rfl) ?_
      refine lv_dup (pc := 35) hx hb dX4_back_35 rfl ?_
      refine tl_gM_13 (pc := 36) C hc4 hP lk2 dX4_back_36 ?_
      refine lv_iconst (pc := 39) (v := 1) hx hb dX4_back_39 (by decide) ?_
      refine lv_aload_n (pc := 40) hx hb dX4_back_40 rfl (lv_at hl 0 rfl) ?_
      refine tl_gM_7 (pc := 41) C hc4 hP lk0 dX4_back_41 ?_
      refine lv_ishl (pc := 44) hx hb dX4_back_44 ?_
      refine lv_iconst (pc := 45) (v := (-1)) hx hb dX4_back_45 (by decide) ?_
      refine lv_ixor (pc := 46) hx hb dX4_back_46 ?_
      refine lv_iand (pc := 47) hx hb dX4_back_47 ?_
      obtain ⟨σ5, eσ5, h⟩ := tl_nm h
      refine tl_sM_13 (pc := 48) C hc4 hP hS eσ5 lk2 dX4_back_48 (fun H locs hP hS => ?_)
      refine lv_aload_n (pc := 51) hx hb dX4_back_51 rfl (lv_at hl 0 rfl) ?_
      refine tl_gM_7 (pc := 52) C hc4 hP lk0 dX4_back_52 ?_
      exact tl_Ripw (pc := 55) C h hP hS dX4_back_55
    · replace h := (if_neg c3).symm.trans h
      refine lv_bipush (pc := 21) (v := (-3)) hx hb dX4_back_21 (by decide) ?_
      exact tl_Ripw (pc := 23) C h hP hS dX4_back_23
theorem caX4_back {p : Program} {l : Launch} {e : Env} {R : Room} {s : State} {m : MethodId} {args : Array Value} {below : List Frame} {meth : Method} {c : Code} {H : Heap} {locs : List Loc} {Q : State → Prop} {cc : ByteArray} {pc : Nat} {ls : Array Slot} {rest : List Value} {g : tl_G} {σ : tl_St} {H0 : Heap} {nL : Nat} {own : String} {ret : Option FieldType} {index : Nat} (C : tl_C p s m meth c cc nL own ret g) {Ts : List Cond} (hts : ∀ w ∈ Ts, w.before args s = true) (hP : va_P g.1 vwCl (tl_W g σ) H) (hS : va_S (tl_A g) H0 H locs) {ro : Int32} {σo : tl_St} (h : fX4_back σ = some (ro, σo)) (hG : GoodIn Ts (wsV own index RX4 yX4_back wsX4_back)) (hR : 0 + 1 ≤ R.frames ∧ 8 + (1 + 11) + 0 ≤ R.locals) (hls : ls.size = nL) (hrm : (rest.map fun v => v.category).sum ≤ 8) (hdg : decode cc pc = .ok (.invokevirtual index, 3)) (kk : ∀ (H1 : Heap) (locs1 : List Loc), va_P g.1 vwCl (tl_W g σo) H1 → va_S (tl_A g) H0 H1 locs1 → W p l e R s m args below meth c H1 locs1 0 0 Q (F0 m (pc + 3) ls (.int ro :: rest))) : W p l e R s m args below meth c H locs 0 0 Q (F0 m pc ls (.ref (tl_ad g 34) :: rest)) :=
  tl_goi (tl_callV C hts hP (okX4_back l g C.2.2.2.2.2.2.2 σ ro σo h) rfl rfl rfl (n := 0) (by decide +kernel) rfl (ci := 4) rfl (tl_kM g σ) hG hR hls rfl hrm hdg) hS kk
abbrev rX4_isBasin : Room := { frames := 1, cells := 0, slots := 0, locals := 25 }
set_option maxHeartbeats 4000000 in
set_option maxRecDepth 100000 in
theorem okX4_isBasin (l : Launch) (g : tl_G) (hI : tl_I g) (σ : tl_St) (a1 : Int32) (ro : Int32) (h : fX4_isBasin σ a1 = ro) : Met l yX4_isBasin wsX4_isBasin rX4_isBasin (va_Pc [.ref (tl_ad g 34), .int a1] (tl_Pre g σ)) (tl_Qi g ro σ) 0 0 (tl_A g) := by
  refine tl_enter (cc := cX4_isBasin) (maxL := 2) (ret := (some .boolean)) (own := RX4) hI (by decide) rfl rfl (Nat.le_of_ble_eq_true rfl) ?_
  intro p e s m below meth c C hts H locs hP hS ls hl
  have hx := C.1
  have hb := C.2.1
  have hl : lv_has ls 2 [(0, .ref (tl_ad g 34)), (1, .int a1)] := hl
  have hc4 : ∀ w ∈ u_ws RX4 TX4 30, w.before [.ref (tl_ad g 34), .int a1].toArray s = true := fun w hw => hts w (List.mem_cons_of_mem _ (List.mem_append_right _ hw))
  have lk0 : (Cond.fieldLink RX4 96 "ThriftLockModel" "basins" "I").before [.ref (tl_ad g 34), .int a1].toArray s = true := hts _ (List.mem_cons_of_mem _ (List.mem_append_left _ (List.mem_of_getElem? (i := 0) rfl)))
  unfold fX4_isBasin at h
  refine lv_iload_n (pc := 0) hx hb dX4_isBasin_0 rfl (lv_at hl 1 rfl) ?_
  refine lv_i2l (pc := 1) hx hb dX4_isBasin_1 rfl ?_
  refine lv_lconst (pc := 2) (v := 0) hx hb dX4_isBasin_2 (by decide) ?_
  refine lv_aload_n (pc := 3) hx hb dX4_isBasin_3 rfl (lv_at hl 0 rfl) ?_
  refine tl_gM_7 (pc := 4) C hc4 hP lk0 dX4_isBasin_4 ?_
  refine lv_iconst (pc := 7) (v := 1) hx hb dX4_isBasin_7 (by decide) ?_
  refine lv_isub (pc := 8) hx hb dX4_isBasin_8 ?_
  refine lv_i2l (pc := 9) hx hb dX4_isBasin_9 rfl ?_
  obtain ⟨r1, er1, h⟩ := tl_nm h
  refine caX4_in (pc := 10) C hts hP hS er1 gX4_isBasin_X4_in ⟨Nat.le_of_ble_eq_true rfl, Nat.le_of_ble_eq_true rfl⟩ hl.1 (Nat.le_of_ble_eq_true rfl) dX4_isBasin_10 (fun H locs hP hS => ?_)
  exact tl_Rztr (pc := 13) C h hP hS (by rw [← er1]; exact bX4_in σ (a1.toInt64) 0 (((σ 34 7) - 1).toInt64)) dX4_isBasin_13
theorem caX4_isBasin {p : Program} {l : Launch} {e : Env} {R : Room} {s : State} {m : MethodId} {args : Array Value} {below : List Frame} {meth : Method} {c : Code} {H : Heap} {locs : List Loc} {Q : State → Prop} {cc : ByteArray} {pc : Nat} {ls : Array Slot} {rest : List Value} {g : tl_G} {σ : tl_St} {H0 : Heap} {nL : Nat} {own : String} {ret : Option FieldType} {index : Nat} (C : tl_C p s m meth c cc nL own ret g) {Ts : List Cond} (hts : ∀ w ∈ Ts, w.before args s = true) (hP : va_P g.1 vwCl (tl_W g σ) H) (hS : va_S (tl_A g) H0 H locs) {a1 : Int32} {ro : Int32} (h : fX4_isBasin σ a1 = ro) (hG : GoodIn Ts (wsV own index RX4 yX4_isBasin wsX4_isBasin)) (hR : 1 + 1 ≤ R.frames ∧ 8 + (2 + 11) + 25 ≤ R.locals) (hls : ls.size = nL) (hrm : (rest.map fun v => v.category).sum ≤ 8) (hdg : decode cc pc = .ok (.invokevirtual index, 3)) (kk : ∀ (H1 : Heap) (locs1 : List Loc), va_P g.1 vwCl (tl_W g σ) H1 → va_S (tl_A g) H0 H1 locs1 → W p l e R s m args below meth c H1 locs1 0 0 Q (F0 m (pc + 3) ls (.int ro :: rest))) : W p l e R s m args below meth c H locs 0 0 Q (F0 m pc ls (.int a1 :: .ref (tl_ad g 34) :: rest)) :=
  tl_goi (tl_callV C hts hP (okX4_isBasin l g C.2.2.2.2.2.2.2 σ a1 ro h) rfl rfl rfl (n := 1) (by decide +kernel) rfl (ci := 4) rfl (tl_kM g σ) hG hR hls rfl hrm hdg) hS kk
abbrev rX4_out : Room := { frames := 2, cells := 0, slots := 0, locals := 46 }
set_option maxHeartbeats 4000000 in
set_option maxRecDepth 100000 in
theorem okX4_out (l : Launch) (g : tl_G) (hI : tl_I g) (σ : tl_St) (a1 : Int32) (ro : Int32) (σo : tl_St) (h : fX4_out σ a1 = (ro, σo)) : Met l yX4_out wsX4_out rX4_out (va_Pc [.ref (tl_ad g 34), .int a1] (tl_Pre g σ)) (tl_Qi g ro σo) 0 0 (tl_A g) := by
  refine tl_enter (cc := cX4_out) (maxL := 2) (ret := (some .int)) (own := RX4) hI (by decide) rfl rfl (Nat.le_of_ble_eq_true rfl) ?_
  intro p e s m below meth c C hts H locs hP hS ls hl
  have hx := C.1
  have hb := C.2.1
  have hl : lv_has ls 2 [(0, .ref (tl_ad g 34)), (1, .int a1)] := hl
  have hc4 : ∀ w ∈ u_ws RX4 TX4 30, w.before [.ref (tl_ad g 34), .int a1].toArray s = true := fun w hw => hts w (List.mem_cons_of_mem _ (List.mem_append_right _ hw))
  have lk0 : (Cond.fieldLink RX4 99 "ThriftLockModel" "out" "I").before [.ref (tl_ad g 34), .int a1].toArray s = true := hts _ (List.mem_cons_of_mem _ (List.mem_append_left _ (List.mem_of_getElem? (i := 0) rfl)))
  unfold fX4_out at h
  refine lv_aload_n (pc := 0) hx hb dX4_out_0 rfl (lv_at hl 0 rfl) ?_
  refine lv_iload_n (pc := 1) hx hb dX4_out_1 rfl (lv_at hl 1 rfl) ?_
  obtain ⟨r1, er1, h⟩ := tl_nm h
  refine caX4_isBasin (pc := 2) C hts hP hS er1 gX4_out_X4_isBasin ⟨Nat.le_of_ble_eq_true rfl, Nat.le_of_ble_eq_true rfl⟩ hl.1 (Nat.le_of_ble_eq_true rfl) dX4_out_2 (fun H locs hP hS => ?_)
  refine lv_if_ne (pc := 5) (tgt := 11) hx hb dX4_out_5 (by decide) (fun c2 => ?_) (fun c2 => ?_)
  · replace h := (if_neg c2).symm.trans h
    refine lv_aload_n (pc := 11) hx hb dX4_out_11 rfl (lv_at hl 0 rfl) ?_
    refine lv_dup (pc := 12) hx hb dX4_out_12 rfl ?_
    refine tl_gM_13 (pc := 13) C hc4 hP lk0 dX4_out_13 ?_
    refine lv_iconst (pc := 16) (v := 1) hx hb dX4_out_16 (by decide) ?_
    refine lv_iload_n (pc := 17) hx hb dX4_out_17 rfl (lv_at hl 1 rfl) ?_
    refine lv_ishl (pc := 18) hx hb dX4_out_18 ?_
    refine lv_ixor (pc := 19) hx hb dX4_out_19 ?_
    obtain ⟨σ3, eσ3, h⟩ := tl_nm h
    refine tl_sM_13 (pc := 20) C hc4 hP hS eσ3 lk0 dX4_out_20 (fun H locs hP hS => ?_)
    refine lv_aload_n (pc := 23) hx hb dX4_out_23 rfl (lv_at hl 0 rfl) ?_
    refine tl_gM_13 (pc := 24) C hc4 hP lk0 dX4_out_24 ?_
    exact tl_Ritw (pc := 27) C h hP hS dX4_out_27
  · replace h := (if_pos c2).symm.trans h
    refine lv_bipush (pc := 8) (v := (-2)) hx hb dX4_out_8 (by decide) ?_
    exact tl_Ritw (pc := 10) C h hP hS dX4_out_10
theorem caX4_out {p : Program} {l : Launch} {e : Env} {R : Room} {s : State} {m : MethodId} {args : Array Value} {below : List Frame} {meth : Method} {c : Code} {H : Heap} {locs : List Loc} {Q : State → Prop} {cc : ByteArray} {pc : Nat} {ls : Array Slot} {rest : List Value} {g : tl_G} {σ : tl_St} {H0 : Heap} {nL : Nat} {own : String} {ret : Option FieldType} {index : Nat} (C : tl_C p s m meth c cc nL own ret g) {Ts : List Cond} (hts : ∀ w ∈ Ts, w.before args s = true) (hP : va_P g.1 vwCl (tl_W g σ) H) (hS : va_S (tl_A g) H0 H locs) {a1 : Int32} {ro : Int32} {σo : tl_St} (h : fX4_out σ a1 = (ro, σo)) (hG : GoodIn Ts (wsV own index RX4 yX4_out wsX4_out)) (hR : 2 + 1 ≤ R.frames ∧ 8 + (2 + 11) + 46 ≤ R.locals) (hls : ls.size = nL) (hrm : (rest.map fun v => v.category).sum ≤ 8) (hdg : decode cc pc = .ok (.invokevirtual index, 3)) (kk : ∀ (H1 : Heap) (locs1 : List Loc), va_P g.1 vwCl (tl_W g σo) H1 → va_S (tl_A g) H0 H1 locs1 → W p l e R s m args below meth c H1 locs1 0 0 Q (F0 m (pc + 3) ls (.int ro :: rest))) : W p l e R s m args below meth c H locs 0 0 Q (F0 m pc ls (.int a1 :: .ref (tl_ad g 34) :: rest)) :=
  tl_goi (tl_callV C hts hP (okX4_out l g C.2.2.2.2.2.2.2 σ a1 ro σo h) rfl rfl rfl (n := 1) (by decide +kernel) rfl (ci := 4) rfl (tl_kM g σ) hG hR hls rfl hrm hdg) hS kk
abbrev rX4_leak : Room := { frames := 2, cells := 0, slots := 0, locals := 46 }
set_option maxHeartbeats 4000000 in
set_option maxRecDepth 100000 in
theorem okX4_leak (l : Launch) (g : tl_G) (hI : tl_I g) (σ : tl_St) (a1 : Int32) (a2 : Int32) (ro : Int32) (σo : tl_St) (h : fX4_leak σ a1 a2 = some (ro, σo)) : Met l yX4_leak wsX4_leak rX4_leak (va_Pc [.ref (tl_ad g 34), .int a1, .int a2] (tl_Pre g σ)) (tl_Qi g ro σo) 0 0 (tl_A g) := by
  refine tl_enter (cc := cX4_leak) (maxL := 4) (ret := (some .int)) (own := RX4) hI (by decide) rfl rfl (Nat.le_of_ble_eq_true rfl) ?_
  intro p e s m below meth c C hts H locs hP hS ls hl
  have hx := C.1
  have hb := C.2.1
  have hl : lv_has ls 4 [(0, .ref (tl_ad g 34)), (1, .int a1), (2, .int a2)] := hl
  have hc4 : ∀ w ∈ u_ws RX4 TX4 30, w.before [.ref (tl_ad g 34), .int a1, .int a2].toArray s = true := fun w hw => hts w (List.mem_cons_of_mem _ (List.mem_append_right _ hw))
  have lk0 : (Cond.constantLong RX4 67 (3)).before [.ref (tl_ad g 34), .int a1, .int a2].toArray s = true := hts _ (List.mem_cons_of_mem _ (List.mem_append_left _ (List.mem_of_getElem? (i := 0) rfl)))
  have lk1 : (Cond.fieldLink RX4 31 "ThriftLockModel" "leak" "[I").before [.ref (tl_ad g 34), .int a1, .int a2].toArray s = true := hts _ (List.mem_cons_of_mem _ (List.mem_append_left _ (List.mem_of_getElem? (i := 1) rfl)))
  unfold fX4_leak at h
  refine lv_aload_n (pc := 0) hx hb dX4_leak_0 rfl (lv_at hl 0 rfl) ?_
  refine lv_iload_n (pc := 1) hx hb dX4_leak_1 rfl (lv_at hl 1 rfl) ?_
  obtain ⟨r1, er1, h⟩ := tl_nm h
  refine caX4_isBasin (pc := 2) C hts hP hS er1 gX4_leak_X4_isBasin ⟨Nat.le_of_ble_eq_true rfl, Nat.le_of_ble_eq_true rfl⟩ hl.1 (Nat.le_of_ble_eq_true rfl) dX4_leak_2 (fun H locs hP hS => ?_)
  refine lv_if_eq (pc := 5) (tgt := 20) hx hb dX4_leak_5 (by decide) (fun c2 => ?_) (fun c2 => ?_)
  · replace h := (if_pos c2).symm.trans h
    refine lv_bipush (pc := 20) (v := (-2)) hx hb dX4_leak_20 (by decide) ?_
    exact tl_Ripw (pc := 22) C h hP hS dX4_leak_22
  · replace h := (if_neg c2).symm.trans h
    refine lv_iload_n (pc := 8) hx hb dX4_leak_8 rfl (lv_at hl 2 rfl) ?_
    refine lv_i2l (pc := 9) hx hb dX4_leak_9 rfl ?_
    refine lv_lconst (pc := 10) (v := 0) hx hb dX4_leak_10 (by decide) ?_
    refine lv_ldc2 (pc := 11) (v := 3) hx hb C.2.2.2.1 lk0 dX4_leak_11 ?_
    obtain ⟨r3, er3, h⟩ := tl_nm h
    refine caX4_in (pc := 14) C hts hP hS er3 gX4_leak_X4_in ⟨Nat.le_of_ble_eq_true rfl, Nat.le_of_ble_eq_true rfl⟩ hl.1 (Nat.le_of_ble_eq_true rfl) dX4_leak_14 (fun H locs hP hS => ?_)
    refine lv_if_ne (pc := 17) (tgt := 23) hx hb dX4_leak_17 (by decide) (fun c4 => ?_) (fun c4 => ?_)
    · replace h := (if_neg c4).symm.trans h
      refine lv_aload_n (pc := 23) hx hb dX4_leak_23 rfl (lv_at hl 0 rfl) ?_
      refine tl_gM_11 (pc := 24) C hc4 hP lk1 dX4_leak_24 ?_
      refine lv_iload_n (pc := 27) hx hb dX4_leak_27 rfl (lv_at hl 1 rfl) ?_
      obtain ⟨g5, h⟩ := tl_gd h
      refine tl_ald (pc := 28) C hP (tl_a42 g) g5 dX4_leak_28 ?_
      obtain ⟨x6, ex6, h⟩ := tl_nm h
      refine tl_ti ex6 ?_
      refine lv_istore_n (pc := 29) (lv' := [(3, .int x6), (0, .ref (tl_ad g 34)), (1, .int a1), (2, .int a2)]) hx hb dX4_leak_29 rfl hl (by decide) rfl (fun ls hl => ?_)
      refine lv_aload_n (pc := 30) hx hb dX4_leak_30 rfl (lv_at hl 1 rfl) ?_
      refine tl_gM_11 (pc := 31) C hc4 hP lk1 dX4_leak_31 ?_
      refine lv_iload_n (pc := 34) hx hb dX4_leak_34 rfl (lv_at hl 2 rfl) ?_
      refine lv_iload_n (pc := 35) hx hb dX4_leak_35 rfl (lv_at hl 3 rfl) ?_
      obtain ⟨g7, h⟩ := tl_gd h
      obtain ⟨σ8, eσ8, h⟩ := tl_nm h
      refine tl_ast (pc := 36) C hP hS (tl_a42 g) g7 eσ8 dX4_leak_36 (fun H locs hP hS => ?_)
      refine lv_iload_n (pc := 37) hx hb dX4_leak_37 rfl (lv_at hl 0 rfl) ?_
      exact tl_Ripw (pc := 38) C h hP hS dX4_leak_38
    · replace h := (if_pos c4).symm.trans h
      refine lv_bipush (pc := 20) (v := (-2)) hx hb dX4_leak_20 (by decide) ?_
      exact tl_Ripw (pc := 22) C h hP hS dX4_leak_22
theorem caX4_leak {p : Program} {l : Launch} {e : Env} {R : Room} {s : State} {m : MethodId} {args : Array Value} {below : List Frame} {meth : Method} {c : Code} {H : Heap} {locs : List Loc} {Q : State → Prop} {cc : ByteArray} {pc : Nat} {ls : Array Slot} {rest : List Value} {g : tl_G} {σ : tl_St} {H0 : Heap} {nL : Nat} {own : String} {ret : Option FieldType} {index : Nat} (C : tl_C p s m meth c cc nL own ret g) {Ts : List Cond} (hts : ∀ w ∈ Ts, w.before args s = true) (hP : va_P g.1 vwCl (tl_W g σ) H) (hS : va_S (tl_A g) H0 H locs) {a1 : Int32} {a2 : Int32} {ro : Int32} {σo : tl_St} (h : fX4_leak σ a1 a2 = some (ro, σo)) (hG : GoodIn Ts (wsV own index RX4 yX4_leak wsX4_leak)) (hR : 2 + 1 ≤ R.frames ∧ 8 + (4 + 11) + 46 ≤ R.locals) (hls : ls.size = nL) (hrm : (rest.map fun v => v.category).sum ≤ 8) (hdg : decode cc pc = .ok (.invokevirtual index, 3)) (kk : ∀ (H1 : Heap) (locs1 : List Loc), va_P g.1 vwCl (tl_W g σo) H1 → va_S (tl_A g) H0 H1 locs1 → W p l e R s m args below meth c H1 locs1 0 0 Q (F0 m (pc + 3) ls (.int ro :: rest))) : W p l e R s m args below meth c H locs 0 0 Q (F0 m pc ls (.int a2 :: .int a1 :: .ref (tl_ad g 34) :: rest)) :=
  tl_goi (tl_callV C hts hP (okX4_leak l g C.2.2.2.2.2.2.2 σ a1 a2 ro σo h) rfl rfl rfl (n := 2) (by decide +kernel) rfl (ci := 4) rfl (tl_kM g σ) hG hR hls rfl hrm hdg) hS kk
abbrev rX4_read : Room := { frames := 2, cells := 0, slots := 0, locals := 48 }
set_option maxHeartbeats 4000000 in
set_option maxRecDepth 100000 in
theorem okX4_read (l : Launch) (g : tl_G) (hI : tl_I g) (σ : tl_St) (a1 : Int32) (ro : Int32) (σo : tl_St) (h : fX4_read σ a1 = some (ro, σo)) : Met l yX4_read wsX4_read rX4_read (va_Pc [.ref (tl_ad g 34), .int a1] (tl_Pre g σ)) (tl_Qi g ro σo) 0 0 (tl_A g) := by
  refine tl_enter (cc := cX4_read) (maxL := 5) (ret := (some .int)) (own := RX4) hI (by decide) rfl rfl (Nat.le_of_ble_eq_true rfl) ?_
  intro p e s m below meth c C hts H locs hP hS ls hl
  have hx := C.1
  have hb := C.2.1
  have hl : lv_has ls 5 [(0, .ref (tl_ad g 34)), (1, .int a1)] := hl
  have hc4 : ∀ w ∈ u_ws RX4 TX4 30, w.before [.ref (tl_ad g 34), .int a1].toArray s = true := fun w hw => hts w (List.mem_cons_of_mem _ (List.mem_append_right _ hw))
  have lk0 : (Cond.fieldLink RX4 7 "ThriftLockModel" "forms" "[I").before [.ref (tl_ad g 34), .int a1].toArray s = true := hts _ (List.mem_cons_of_mem _ (List.mem_append_left _ (List.mem_append_left _ (List.mem_of_getElem? (i := 0) rfl))))
  have lk1 : (Cond.fieldLink RX4 13 "ThriftLockModel" "sizes" "[I").before [.ref (tl_ad g 34), .int a1].toArray s = true := hts _ (List.mem_cons_of_mem _ (List.mem_append_left _ (List.mem_append_left _ (List.mem_of_getElem? (i := 1) rfl))))
  have lk2 : (Cond.fieldLink RX4 16 "ThriftLockModel" "items" "[I").before [.ref (tl_ad g 34), .int a1].toArray s = true := hts _ (List.mem_cons_of_mem _ (List.mem_append_left _ (List.mem_append_left _ (List.mem_of_getElem? (i := 2) rfl))))
  unfold fX4_read at h
  refine lv_iload_n (pc := 0) hx hb dX4_read_0 rfl (lv_at hl 1 rfl) ?_
  obtain ⟨r1, er1, h⟩ := tl_nm h
  refine caX4_isSheet (pc := 1) C hts hP hS er1 gX4_read_X4_isSheet ⟨Nat.le_of_ble_eq_true rfl, Nat.le_of_ble_eq_true rfl⟩ hl.1 (Nat.le_of_ble_eq_true rfl) dX4_read_1 (fun H locs hP hS => ?_)
  refine lv_if_ne (pc := 4) (tgt := 10) hx hb dX4_read_4 (by decide) (fun c2 => ?_) (fun c2 => ?_)
  · replace h := (if_neg c2).symm.trans h
    refine lv_aload_n (pc := 10) hx hb dX4_read_10 rfl (lv_at hl 0 rfl) ?_
    refine tl_gM_0 (pc := 11) C hc4 hP lk0 dX4_read_11 ?_
    refine lv_iload_n (pc := 14) hx hb dX4_read_14 rfl (lv_at hl 1 rfl) ?_
    obtain ⟨g3, h⟩ := tl_gd h
    refine tl_ald (pc := 15) C hP (tl_a35 g) g3 dX4_read_15 ?_
    refine lv_if_ge (pc := 16) (tgt := 25) hx hb dX4_read_16 (by decide) (fun c4 => ?_) (fun c4 => ?_)
    · replace h := (if_pos c4).symm.trans h
      refine lv_iconst (pc := 25) (v := 0) hx hb dX4_read_25 (by decide) ?_
      refine lv_istore_n (pc := 26) (lv' := [(2, .int 0), (0, .ref (tl_ad g 34)), (1, .int a1)]) hx hb dX4_read_26 rfl hl (by decide) rfl (fun ls hl => ?_)
      refine lv_iconst (pc := 27) (v := 1) hx hb dX4_read_27 (by decide) ?_
      refine lv_istore_n (pc := 28) (lv' := [(3, .int 1), (2, .int 0), (0, .ref (tl_ad g 34)), (1, .int a1)]) hx hb dX4_read_28 rfl hl (by decide) rfl (fun ls hl => ?_)
      obtain ⟨k7, ek7, h⟩ := tl_j2 h
      have hZ7 : ∀ (σ5 : tl_St) (x6 : Int32) (H : Heap) (locs : List Loc) (ls : Array Slot), k7 σ5 x6 = some (ro, σo) → va_P g.1 vwCl (tl_W g σ5) H → va_S (tl_A g) s.heap H locs → lv_has ls 5 [(2, .int x6)] → W p l e rX4_read s m [.ref (tl_ad g 34), .int a1].toArray below meth c H locs 0 0 (MQ below (tl_Qi g ro σo) [.ref (tl_ad g 34), .int a1].toArray s 0 0 (tl_A g)) (F0 m 110 ls []) := by
        intro σ5 x6 H locs ls h hP hS hl
        replace h := (ek7 σ5 x6).trans h
        refine lv_iload_n (pc := 110) hx hb dX4_read_110 rfl (lv_at hl 0 rfl) ?_
        exact tl_Ripw (pc := 111) C h hP hS dX4_read_111
      have hL29 : ∀ (n : Nat) (σ8 : tl_St) (x9 : Int32) (x10 : Int32) (H : Heap) (locs : List Loc) (ls : Array Slot), fX4_read_L29 a1 k7 n σ8 x9 x10 = some (ro, σo) → va_P g.1 vwCl (tl_W g σ8) H → va_S (tl_A g) s.heap H locs → lv_has ls 5 [(0, .ref (tl_ad g 34)), (1, .int a1), (2, .int x9), (3, .int x10)] → W p l e rX4_read s m [.ref (tl_ad g 34), .int a1].toArray below meth c H locs 0 0 (MQ below (tl_Qi g ro σo) [.ref (tl_ad g 34), .int a1].toArray s 0 0 (tl_A g)) (F0 m 29 ls []) := by
        intro n
        induction n with
        | zero =>
          intro σ8 x9 x10 H locs ls h hP hS hl
          rw [fX4_read_L29] at h
          cases h
        | succ n ih =>
          intro σ8 x9 x10 H locs ls h hP hS hl
          rw [fX4_read_L29] at h
          refine lv_iload_n (pc := 29) hx hb dX4_read_29 rfl (lv_at hl 3 rfl) ?_
          refine lv_if_eq (pc := 30) (tgt := 110) hx hb dX4_read_30 (by decide) (fun c11 => ?_) (fun c11 => ?_)
          · replace h := (if_pos c11).symm.trans h
            exact hZ7 σ8 x9 _ _ _ h hP hS (lv_sub hl [2] rfl)
          · replace h := (if_neg c11).symm.trans h
            refine lv_iconst (pc := 33) (v := 3) hx hb dX4_read_33 (by decide) ?_
            refine lv_iload_n (pc := 34) hx hb dX4_read_34 rfl (lv_at hl 2 rfl) ?_
            refine lv_imul (pc := 35) hx hb dX4_read_35 ?_
            refine lv_iconst (pc := 36) (v := 3) hx hb dX4_read_36 (by decide) ?_
            refine lv_iadd (pc := 37) hx hb dX4_read_37 ?_
            refine lv_aload_n (pc := 38) hx hb dX4_read_38 rfl (lv_at hl 0 rfl) ?_
            refine tl_gM_1 (pc := 39) C hc4 hP lk1 dX4_read_39 ?_
            refine lv_iload_n (pc := 42) hx hb dX4_read_42 rfl (lv_at hl 1 rfl) ?_
            obtain ⟨g12, h⟩ := tl_gd h
            refine tl_ald (pc := 43) C hP (tl_a36 g) g12 dX4_read_43 ?_
            refine lv_icmp_gt (pc := 44) (tgt := 110) hx hb dX4_read_44 (by decide) (fun c13 => ?_) (fun c13 => ?_)
            · replace h := (if_pos c13).symm.trans h
              exact hZ7 σ8 x9 _ _ _ h hP hS (lv_sub hl [2] rfl)
            · replace h := (if_neg c13).symm.trans h
              refine lv_bipush (pc := 47) (v := 60) hx hb dX4_read_47 (by decide) ?_
              refine lv_iload_n (pc := 49) hx hb dX4_read_49 rfl (lv_at hl 1 rfl) ?_
              refine lv_imul (pc := 50) hx hb dX4_read_50 ?_
              refine lv_iconst (pc := 51) (v := 3) hx hb dX4_read_51 (by decide) ?_
              refine lv_iload_n (pc := 52) hx hb dX4_read_52 rfl (lv_at hl 2 rfl) ?_
              refine lv_imul (pc := 53) hx hb dX4_read_53 ?_
              refine lv_iadd (pc := 54) hx hb dX4_read_54 ?_
              obtain ⟨x14, ex14, h⟩ := tl_nm h
              refine tl_ti ex14 ?_
              refine lv_istore (pc := 55) (lv' := [(4, .int x14), (0, .ref (tl_ad g 34)), (1, .int a1), (2, .int x9), (3, .int x10)]) hx hb dX4_read_55 hl (by decide) rfl (fun ls hl => ?_)
              refine lv_aload_n (pc := 57) hx hb dX4_read_57 rfl (lv_at hl 1 rfl) ?_
              refine lv_aload_n (pc := 58) hx hb dX4_read_58 rfl (lv_at hl 1 rfl) ?_
              refine tl_gM_2 (pc := 59) C hc4 hP lk2 dX4_read_59 ?_
              refine lv_iload (pc := 62) hx hb dX4_read_62 (lv_at hl 0 rfl) ?_
              obtain ⟨g15, h⟩ := tl_gd h
              refine tl_ald (pc := 64) C hP (tl_a37 g) g15 dX4_read_64 ?_
              refine lv_aload_n (pc := 65) hx hb dX4_read_65 rfl (lv_at hl 1 rfl) ?_
              refine tl_gM_2 (pc := 66) C hc4 hP lk2 dX4_read_66 ?_
              refine lv_iload (pc := 69) hx hb dX4_read_69 (lv_at hl 0 rfl) ?_
              refine lv_iconst (pc := 71) (v := 1) hx hb dX4_read_71 (by decide) ?_
              refine lv_iadd (pc := 72) hx hb dX4_read_72 ?_
              obtain ⟨g16, h⟩ := tl_gd h
              refine tl_ald (pc := 73) C hP (tl_a37 g) g16 dX4_read_73 ?_
              refine lv_aload_n (pc := 74) hx hb dX4_read_74 rfl (lv_at hl 1 rfl) ?_
              refine tl_gM_2 (pc := 75) C hc4 hP lk2 dX4_read_75 ?_
              refine lv_iload (pc := 78) hx hb dX4_read_78 (lv_at hl 0 rfl) ?_
              refine lv_iconst (pc := 80) (v := 2) hx hb dX4_read_80 (by decide) ?_
              refine lv_iadd (pc := 81) hx hb dX4_read_81 ?_
              obtain ⟨g17, h⟩ := tl_gd h
              refine tl_ald (pc := 82) C hP (tl_a37 g) g17 dX4_read_82 ?_
              obtain ⟨r18, σ19, er18, h⟩ := tl_o2s h
              refine caX4_basin (pc := 83) C hts hP hS er18 gX4_read_X4_basin ⟨Nat.le_of_ble_eq_true rfl, Nat.le_of_ble_eq_true rfl⟩ hl.1 (Nat.le_of_ble_eq_true rfl) dX4_read_83 (fun H locs hP hS => ?_)
              obtain ⟨k21, ek21, h⟩ := tl_j1 h
              have hJ21 : ∀ (x20 : Int32) (H : Heap) (locs : List Loc) (ls : Array Slot), k21 x20 = some (ro, σo) → va_P g.1 vwCl (tl_W g σ19) H → va_S (tl_A g) s.heap H locs → lv_has ls 5 [(0, .ref (tl_ad g 34)), (1, .int a1), (2, .int x9)] → W p l e rX4_read s m [.ref (tl_ad g 34), .int a1].toArray below meth c H locs 0 0 (MQ below (tl_Qi g ro σo) [.ref (tl_ad g 34), .int a1].toArray s 0 0 (tl_A g)) (F0 m 94 ls [.int x20]) := by
                intro x20 H locs ls h hP hS hl
                replace h := (ek21 x20).trans h
                refine lv_istore_n (pc := 94) (lv' := [(3, .int x20), (0, .ref (tl_ad g 34)), (1, .int a1), (2, .int x9)]) hx hb dX4_read_94 rfl hl (by decide) rfl (fun ls hl => ?_)
                refine lv_iload_n (pc := 95) hx hb dX4_read_95 rfl (lv_at hl 3 rfl) ?_
                refine lv_iload_n (pc := 96) hx hb dX4_read_96 rfl (lv_at hl 0 rfl) ?_
                obtain ⟨k23, ek23, h⟩ := tl_j1 h
                have hJ23 : ∀ (x22 : Int32) (H : Heap) (locs : List Loc) (ls : Array Slot), k23 x22 = some (ro, σo) → va_P g.1 vwCl (tl_W g σ19) H → va_S (tl_A g) s.heap H locs → lv_has ls 5 [(0, .ref (tl_ad g 34)), (1, .int a1), (3, .int x20)] → W p l e rX4_read s m [.ref (tl_ad g 34), .int a1].toArray below meth c H locs 0 0 (MQ below (tl_Qi g ro σo) [.ref (tl_ad g 34), .int a1].toArray s 0 0 (tl_A g)) (F0 m 105 ls [.int x22, .int x9]) := by
                  intro x22 H locs ls h hP hS hl
                  replace h := (ek23 x22).trans h
                  refine lv_iadd (pc := 105) hx hb dX4_read_105 ?_
                  obtain ⟨x24, ex24, h⟩ := tl_nm h
                  refine tl_ti ex24 ?_
                  refine lv_istore_n (pc := 106) (lv' := [(2, .int x24), (0, .ref (tl_ad g 34)), (1, .int a1), (3, .int x20)]) hx hb dX4_read_106 rfl hl (by decide) rfl (fun ls hl => ?_)
                  refine lv_goto (pc := 107) (tgt := 29) hx hb dX4_read_107 (by decide) ?_
                  exact ih σ19 x24 x20 _ _ _ h hP hS (lv_sub hl [1, 2, 0, 3] rfl)
                refine lv_if_eq (pc := 97) (tgt := 104) hx hb dX4_read_97 (by decide) (fun c25 => ?_) (fun c25 => ?_)
                · replace h := (if_pos c25).symm.trans h
                  refine lv_iconst (pc := 104) (v := 0) hx hb dX4_read_104 (by decide) ?_
                  exact hJ23 0 _ _ _ h hP hS (lv_sub hl [1, 2, 0] rfl)
                · replace h := (if_neg c25).symm.trans h
                  refine lv_iconst (pc := 100) (v := 1) hx hb dX4_read_100 (by decide) ?_
                  refine lv_goto (pc := 101) (tgt := 105) hx hb dX4_read_101 (by decide) ?_
                  exact hJ23 1 _ _ _ h hP hS (lv_sub hl [1, 2, 0] rfl)
              refine lv_if_lt (pc := 86) (tgt := 93) hx hb dX4_read_86 (by decide) (fun c26 => ?_) (fun c26 => ?_)
              · replace h := (if_pos c26).symm.trans h
                refine lv_iconst (pc := 93) (v := 0) hx hb dX4_read_93 (by decide) ?_
                exact hJ21 0 _ _ _ h hP hS (lv_sub hl [1, 2, 3] rfl)
              · replace h := (if_neg c26).symm.trans h
                refine lv_iconst (pc := 89) (v := 1) hx hb dX4_read_89 (by decide) ?_
                refine lv_goto (pc := 90) (tgt := 94) hx hb dX4_read_90 (by decide) ?_
                exact hJ21 1 _ _ _ h hP hS (lv_sub hl [1, 2, 3] rfl)
      exact hL29 1000 σ 0 1 _ _ _ h hP hS (lv_sub hl [2, 3, 1, 0] rfl)
    · replace h := (if_neg c4).symm.trans h
      refine lv_aload_n (pc := 19) hx hb dX4_read_19 rfl (lv_at hl 0 rfl) ?_
      refine lv_iconst (pc := 20) (v := 1) hx hb dX4_read_20 (by decide) ?_
      obtain ⟨r27, σ28, er27, h⟩ := tl_nm2 h
      refine caX4_finds (pc := 21) C hts hP hS er27 gX4_read_X4_finds ⟨Nat.le_of_ble_eq_true rfl, Nat.le_of_ble_eq_true rfl⟩ hl.1 (Nat.le_of_ble_eq_true rfl) dX4_read_21 (fun H locs hP hS => ?_)
      exact tl_Ripw (pc := 24) C h hP hS dX4_read_24
  · replace h := (if_pos c2).symm.trans h
    refine lv_bipush (pc := 7) (v := (-2)) hx hb dX4_read_7 (by decide) ?_
    exact tl_Ripw (pc := 9) C h hP hS dX4_read_9
theorem caX4_read {p : Program} {l : Launch} {e : Env} {R : Room} {s : State} {m : MethodId} {args : Array Value} {below : List Frame} {meth : Method} {c : Code} {H : Heap} {locs : List Loc} {Q : State → Prop} {cc : ByteArray} {pc : Nat} {ls : Array Slot} {rest : List Value} {g : tl_G} {σ : tl_St} {H0 : Heap} {nL : Nat} {own : String} {ret : Option FieldType} {index : Nat} (C : tl_C p s m meth c cc nL own ret g) {Ts : List Cond} (hts : ∀ w ∈ Ts, w.before args s = true) (hP : va_P g.1 vwCl (tl_W g σ) H) (hS : va_S (tl_A g) H0 H locs) {a1 : Int32} {ro : Int32} {σo : tl_St} (h : fX4_read σ a1 = some (ro, σo)) (hG : GoodIn Ts (wsV own index RX4 yX4_read wsX4_read)) (hR : 2 + 1 ≤ R.frames ∧ 8 + (5 + 11) + 48 ≤ R.locals) (hls : ls.size = nL) (hrm : (rest.map fun v => v.category).sum ≤ 8) (hdg : decode cc pc = .ok (.invokevirtual index, 3)) (kk : ∀ (H1 : Heap) (locs1 : List Loc), va_P g.1 vwCl (tl_W g σo) H1 → va_S (tl_A g) H0 H1 locs1 → W p l e R s m args below meth c H1 locs1 0 0 Q (F0 m (pc + 3) ls (.int ro :: rest))) : W p l e R s m args below meth c H locs 0 0 Q (F0 m pc ls (.int a1 :: .ref (tl_ad g 34) :: rest)) :=
  tl_goi (tl_callV C hts hP (okX4_read l g C.2.2.2.2.2.2.2 σ a1 ro σo h) rfl rfl rfl (n := 1) (by decide +kernel) rfl (ci := 4) rfl (tl_kM g σ) hG hR hls rfl hrm hdg) hS kk
abbrev rX4_levelOf : Room := { frames := 0, cells := 0, slots := 0, locals := 0 }
set_option maxHeartbeats 4000000 in
set_option maxRecDepth 100000 in
theorem okX4_levelOf (l : Launch) (g : tl_G) (hI : tl_I g) (σ : tl_St) (a1 : Int32) (a2 : Int32) (ro : Int32) (h : fX4_levelOf σ a1 a2 = some ro) : Met l yX4_levelOf wsX4_levelOf rX4_levelOf (va_Pc [.ref (tl_ad g 34), .int a1, .int a2] (tl_Pre g σ)) (tl_Qi g ro σ) 0 0 (tl_A g) := by
  refine tl_enter (cc := cX4_levelOf) (maxL := 3) (ret := (some .int)) (own := RX4) hI (by decide) rfl rfl (Nat.le_of_ble_eq_true rfl) ?_
  intro p e s m below meth c C hts H locs hP hS ls hl
  have hx := C.1
  have hb := C.2.1
  have hl : lv_has ls 3 [(0, .ref (tl_ad g 34)), (1, .int a1), (2, .int a2)] := hl
  have hc4 : ∀ w ∈ u_ws RX4 TX4 30, w.before [.ref (tl_ad g 34), .int a1, .int a2].toArray s = true := fun w hw => hts w (List.mem_cons_of_mem _ (List.mem_append_right _ hw))
  have lk0 : (Cond.fieldLink RX4 22 "ThriftLockModel" "bottom" "[I").before [.ref (tl_ad g 34), .int a1, .int a2].toArray s = true := hts _ (List.mem_cons_of_mem _ (List.mem_append_left _ (List.mem_of_getElem? (i := 0) rfl)))
  have lk1 : (Cond.fieldLink RX4 28 "ThriftLockModel" "wide" "[I").before [.ref (tl_ad g 34), .int a1, .int a2].toArray s = true := hts _ (List.mem_cons_of_mem _ (List.mem_append_left _ (List.mem_of_getElem? (i := 1) rfl)))
  unfold fX4_levelOf at h
  refine lv_bipush (pc := 0) (v := 6) hx hb dX4_levelOf_0 (by decide) ?_
  refine lv_aload_n (pc := 2) hx hb dX4_levelOf_2 rfl (lv_at hl 0 rfl) ?_
  refine tl_gM_8 (pc := 3) C hc4 hP lk0 dX4_levelOf_3 ?_
  refine lv_iload_n (pc := 6) hx hb dX4_levelOf_6 rfl (lv_at hl 1 rfl) ?_
  obtain ⟨g1, h⟩ := tl_gd h
  refine tl_ald (pc := 7) C hP (tl_a39 g) g1 dX4_levelOf_7 ?_
  refine lv_imul (pc := 8) hx hb dX4_levelOf_8 ?_
  refine lv_iload_n (pc := 9) hx hb dX4_levelOf_9 rfl (lv_at hl 2 rfl) ?_
  refine lv_bipush (pc := 10) (v := 6) hx hb dX4_levelOf_10 (by decide) ?_
  refine lv_imul (pc := 12) hx hb dX4_levelOf_12 ?_
  refine lv_aload_n (pc := 13) hx hb dX4_levelOf_13 rfl (lv_at hl 0 rfl) ?_
  refine tl_gM_10 (pc := 14) C hc4 hP lk1 dX4_levelOf_14 ?_
  refine lv_iload_n (pc := 17) hx hb dX4_levelOf_17 rfl (lv_at hl 1 rfl) ?_
  obtain ⟨g2, h⟩ := tl_gd h
  refine tl_ald (pc := 18) C hP (tl_a41 g) g2 dX4_levelOf_18 ?_
  obtain ⟨g3, h⟩ := tl_gd h
  refine lv_idiv (pc := 19) hx hb dX4_levelOf_19 g3 ?_
  refine lv_iadd (pc := 20) hx hb dX4_levelOf_20 ?_
  exact tl_Ripr (pc := 21) C h hP hS dX4_levelOf_21
theorem caX4_levelOf {p : Program} {l : Launch} {e : Env} {R : Room} {s : State} {m : MethodId} {args : Array Value} {below : List Frame} {meth : Method} {c : Code} {H : Heap} {locs : List Loc} {Q : State → Prop} {cc : ByteArray} {pc : Nat} {ls : Array Slot} {rest : List Value} {g : tl_G} {σ : tl_St} {H0 : Heap} {nL : Nat} {own : String} {ret : Option FieldType} {index : Nat} (C : tl_C p s m meth c cc nL own ret g) {Ts : List Cond} (hts : ∀ w ∈ Ts, w.before args s = true) (hP : va_P g.1 vwCl (tl_W g σ) H) (hS : va_S (tl_A g) H0 H locs) {a1 : Int32} {a2 : Int32} {ro : Int32} (h : fX4_levelOf σ a1 a2 = some ro) (hG : GoodIn Ts (wsV own index RX4 yX4_levelOf wsX4_levelOf)) (hR : 0 + 1 ≤ R.frames ∧ 8 + (3 + 11) + 0 ≤ R.locals) (hls : ls.size = nL) (hrm : (rest.map fun v => v.category).sum ≤ 8) (hdg : decode cc pc = .ok (.invokevirtual index, 3)) (kk : ∀ (H1 : Heap) (locs1 : List Loc), va_P g.1 vwCl (tl_W g σ) H1 → va_S (tl_A g) H0 H1 locs1 → W p l e R s m args below meth c H1 locs1 0 0 Q (F0 m (pc + 3) ls (.int ro :: rest))) : W p l e R s m args below meth c H locs 0 0 Q (F0 m pc ls (.int a2 :: .int a1 :: .ref (tl_ad g 34) :: rest)) :=
  tl_goi (tl_callV C hts hP (okX4_levelOf l g C.2.2.2.2.2.2.2 σ a1 a2 ro h) rfl rfl rfl (n := 2) (by decide +kernel) rfl (ci := 4) rfl (tl_kM g σ) hG hR hls rfl hrm hdg) hS kk
abbrev rX4_infoBy : Room := { frames := 1, cells := 0, slots := 0, locals := 22 }
set_option maxHeartbeats 4000000 in
set_option maxRecDepth 100000 in
theorem okX4_infoBy (l : Launch) (g : tl_G) (hI : tl_I g) (σ : tl_St) (a1 : Int32) (a2 : Int32) (ro : Int32) (h : fX4_infoBy σ a1 a2 = some ro) : Met l yX4_infoBy wsX4_infoBy rX4_infoBy (va_Pc [.ref (tl_ad g 34), .int a1, .int a2] (tl_Pre g σ)) (tl_Qi g ro σ) 0 0 (tl_A g) := by
  refine tl_enter (cc := cX4_infoBy) (maxL := 3) (ret := (some .int)) (own := RX4) hI (by decide) rfl rfl (Nat.le_of_ble_eq_true rfl) ?_
  intro p e s m below meth c C hts H locs hP hS ls hl
  have hx := C.1
  have hb := C.2.1
  have hl : lv_has ls 3 [(0, .ref (tl_ad g 34)), (1, .int a1), (2, .int a2)] := hl
  have hc4 : ∀ w ∈ u_ws RX4 TX4 30, w.before [.ref (tl_ad g 34), .int a1, .int a2].toArray s = true := fun w hw => hts w (List.mem_cons_of_mem _ (List.mem_append_right _ hw))
  have lk0 : (Cond.fieldLink RX4 22 "ThriftLockModel" "bottom" "[I").before [.ref (tl_ad g 34), .int a1, .int a2].toArray s = true := hts _ (List.mem_cons_of_mem _ (List.mem_append_left _ (List.mem_of_getElem? (i := 0) rfl)))
  have lk1 : (Cond.fieldLink RX4 25 "ThriftLockModel" "room" "[I").before [.ref (tl_ad g 34), .int a1, .int a2].toArray s = true := hts _ (List.mem_cons_of_mem _ (List.mem_append_left _ (List.mem_of_getElem? (i := 1) rfl)))
  have lk2 : (Cond.fieldLink RX4 28 "ThriftLockModel" "wide" "[I").before [.ref (tl_ad g 34), .int a1, .int a2].toArray s = true := hts _ (List.mem_cons_of_mem _ (List.mem_append_left _ (List.mem_of_getElem? (i := 2) rfl)))
  have lk3 : (Cond.fieldLink RX4 31 "ThriftLockModel" "leak" "[I").before [.ref (tl_ad g 34), .int a1, .int a2].toArray s = true := hts _ (List.mem_cons_of_mem _ (List.mem_append_left _ (List.mem_of_getElem? (i := 3) rfl)))
  have lk4 : (Cond.fieldLink RX4 34 "ThriftLockModel" "held" "[I").before [.ref (tl_ad g 34), .int a1, .int a2].toArray s = true := hts _ (List.mem_cons_of_mem _ (List.mem_append_left _ (List.mem_of_getElem? (i := 4) rfl)))
  have lk5 : (Cond.fieldLink RX4 99 "ThriftLockModel" "out" "I").before [.ref (tl_ad g 34), .int a1, .int a2].toArray s = true := hts _ (List.mem_cons_of_mem _ (List.mem_append_left _ (List.mem_of_getElem? (i := 5) rfl)))
  unfold fX4_infoBy at h
  refine lv_iload_n (pc := 0) hx hb dX4_infoBy_0 rfl (lv_at hl 2 rfl) ?_
  by_cases c1 : a2 = 0
  · replace h := (if_pos c1).symm.trans h
    refine tl_swIn (pc := 1) (tgt := 40) hx hb (kv := 0) c1 dX4_infoBy_1 (by decide) (by decide) rfl (by decide) ?_
    refine lv_aload_n (pc := 40) hx hb dX4_infoBy_40 rfl (lv_at hl 0 rfl) ?_
    refine tl_gM_8 (pc := 41) C hc4 hP lk0 dX4_infoBy_41 ?_
    refine lv_iload_n (pc := 44) hx hb dX4_infoBy_44 rfl (lv_at hl 1 rfl) ?_
    obtain ⟨g2, h⟩ := tl_gd h
    refine tl_ald (pc := 45) C hP (tl_a39 g) g2 dX4_infoBy_45 ?_
    exact tl_Ripr (pc := 46) C h hP hS dX4_infoBy_46
  · replace h := (if_neg c1).symm.trans h
    by_cases c3 : a2 = 1
    · replace h := (if_pos c3).symm.trans h
      refine tl_swIn (pc := 1) (tgt := 47) hx hb (kv := 1) c3 dX4_infoBy_1 (by decide) (by decide) rfl (by decide) ?_
      refine lv_aload_n (pc := 47) hx hb dX4_infoBy_47 rfl (lv_at hl 0 rfl) ?_
      refine tl_gM_9 (pc := 48) C hc4 hP lk1 dX4_infoBy_48 ?_
      refine lv_iload_n (pc := 51) hx hb dX4_infoBy_51 rfl (lv_at hl 1 rfl) ?_
      obtain ⟨g4, h⟩ := tl_gd h
      refine tl_ald (pc := 52) C hP (tl_a40 g) g4 dX4_infoBy_52 ?_
      exact tl_Ripr (pc := 53) C h hP hS dX4_infoBy_53
    · replace h := (if_neg c3).symm.trans h
      by_cases c5 : a2 = 2
      · replace h := (if_pos c5).symm.trans h
        refine tl_swIn (pc := 1) (tgt := 54) hx hb (kv := 2) c5 dX4_infoBy_1 (by decide) (by decide) rfl (by decide) ?_
        refine lv_aload_n (pc := 54) hx hb dX4_infoBy_54 rfl (lv_at hl 0 rfl) ?_
        refine tl_gM_10 (pc := 55) C hc4 hP lk2 dX4_infoBy_55 ?_
        refine lv_iload_n (pc := 58) hx hb dX4_infoBy_58 rfl (lv_at hl 1 rfl) ?_
        obtain ⟨g6, h⟩ := tl_gd h
        refine tl_ald (pc := 59) C hP (tl_a41 g) g6 dX4_infoBy_59 ?_
        exact tl_Ripr (pc := 60) C h hP hS dX4_infoBy_60
      · replace h := (if_neg c5).symm.trans h
        by_cases c7 : a2 = 3
        · replace h := (if_pos c7).symm.trans h
          refine tl_swIn (pc := 1) (tgt := 61) hx hb (kv := 3) c7 dX4_infoBy_1 (by decide) (by decide) rfl (by decide) ?_
          refine lv_aload_n (pc := 61) hx hb dX4_infoBy_61 rfl (lv_at hl 0 rfl) ?_
          refine tl_gM_11 (pc := 62) C hc4 hP lk3 dX4_infoBy_62 ?_
          refine lv_iload_n (pc := 65) hx hb dX4_infoBy_65 rfl (lv_at hl 1 rfl) ?_
          obtain ⟨g8, h⟩ := tl_gd h
          refine tl_ald (pc := 66) C hP (tl_a42 g) g8 dX4_infoBy_66 ?_
          exact tl_Ripr (pc := 67) C h hP hS dX4_infoBy_67
        · replace h := (if_neg c7).symm.trans h
          by_cases c9 : a2 = 4
          · replace h := (if_pos c9).symm.trans h
            refine tl_swIn (pc := 1) (tgt := 68) hx hb (kv := 4) c9 dX4_infoBy_1 (by decide) (by decide) rfl (by decide) ?_
            refine lv_aload_n (pc := 68) hx hb dX4_infoBy_68 rfl (lv_at hl 0 rfl) ?_
            refine tl_gM_12 (pc := 69) C hc4 hP lk4 dX4_infoBy_69 ?_
            refine lv_iload_n (pc := 72) hx hb dX4_infoBy_72 rfl (lv_at hl 1 rfl) ?_
            obtain ⟨g10, h⟩ := tl_gd h
            refine tl_ald (pc := 73) C hP (tl_a43 g) g10 dX4_infoBy_73 ?_
            exact tl_Ripr (pc := 74) C h hP hS dX4_infoBy_74
          · replace h := (if_neg c9).symm.trans h
            by_cases c11 : a2 = 5
            · replace h := (if_pos c11).symm.trans h
              refine tl_swIn (pc := 1) (tgt := 75) hx hb (kv := 5) c11 dX4_infoBy_1 (by decide) (by decide) rfl (by decide) ?_
              refine lv_aload_n (pc := 75) hx hb dX4_infoBy_75 rfl (lv_at hl 0 rfl) ?_
              refine lv_iload_n (pc := 76) hx hb dX4_infoBy_76 rfl (lv_at hl 1 rfl) ?_
              refine lv_aload_n (pc := 77) hx hb dX4_infoBy_77 rfl (lv_at hl 0 rfl) ?_
              refine tl_gM_12 (pc := 78) C hc4 hP lk4 dX4_infoBy_78 ?_
              refine lv_iload_n (pc := 81) hx hb dX4_infoBy_81 rfl (lv_at hl 1 rfl) ?_
              obtain ⟨g12, h⟩ := tl_gd h
              refine tl_ald (pc := 82) C hP (tl_a43 g) g12 dX4_infoBy_82 ?_
              obtain ⟨r13, er13, h⟩ := tl_o1s h
              refine caX4_levelOf (pc := 83) C hts hP hS er13 gX4_infoBy_X4_levelOf ⟨Nat.le_of_ble_eq_true rfl, Nat.le_of_ble_eq_true rfl⟩ hl.1 (Nat.le_of_ble_eq_true rfl) dX4_infoBy_83 (fun H locs hP hS => ?_)
              exact tl_Ripr (pc := 86) C h hP hS dX4_infoBy_86
            · replace h := (if_neg c11).symm.trans h
              have hsw : (a2).toInt < 0 ∨ 5 < (a2).toInt := by
                have n0 := tl_ne (k := 0) c1 (by decide) (by decide)
                have n1 := tl_ne (k := 1) c3 (by decide) (by decide)
                have n2 := tl_ne (k := 2) c5 (by decide) (by decide)
                have n3 := tl_ne (k := 3) c7 (by decide) (by decide)
                have n4 := tl_ne (k := 4) c9 (by decide) (by decide)
                have n5 := tl_ne (k := 5) c11 (by decide) (by decide)
                omega
              refine lv_tableOut (pc := 1) (tgt := 87) hx hb dX4_infoBy_1 hsw (by decide) ?_
              refine lv_aload_n (pc := 87) hx hb dX4_infoBy_87 rfl (lv_at hl 0 rfl) ?_
              refine tl_gM_13 (pc := 88) C hc4 hP lk5 dX4_infoBy_88 ?_
              refine lv_iload_n (pc := 91) hx hb dX4_infoBy_91 rfl (lv_at hl 1 rfl) ?_
              refine lv_ishr (pc := 92) hx hb dX4_infoBy_92 ?_
              refine lv_iconst (pc := 93) (v := 1) hx hb dX4_infoBy_93 (by decide) ?_
              refine lv_iand (pc := 94) hx hb dX4_infoBy_94 ?_
              exact tl_Ripr (pc := 95) C h hP hS dX4_infoBy_95
theorem caX4_infoBy {p : Program} {l : Launch} {e : Env} {R : Room} {s : State} {m : MethodId} {args : Array Value} {below : List Frame} {meth : Method} {c : Code} {H : Heap} {locs : List Loc} {Q : State → Prop} {cc : ByteArray} {pc : Nat} {ls : Array Slot} {rest : List Value} {g : tl_G} {σ : tl_St} {H0 : Heap} {nL : Nat} {own : String} {ret : Option FieldType} {index : Nat} (C : tl_C p s m meth c cc nL own ret g) {Ts : List Cond} (hts : ∀ w ∈ Ts, w.before args s = true) (hP : va_P g.1 vwCl (tl_W g σ) H) (hS : va_S (tl_A g) H0 H locs) {a1 : Int32} {a2 : Int32} {ro : Int32} (h : fX4_infoBy σ a1 a2 = some ro) (hG : GoodIn Ts (wsV own index RX4 yX4_infoBy wsX4_infoBy)) (hR : 1 + 1 ≤ R.frames ∧ 8 + (3 + 11) + 22 ≤ R.locals) (hls : ls.size = nL) (hrm : (rest.map fun v => v.category).sum ≤ 8) (hdg : decode cc pc = .ok (.invokevirtual index, 3)) (kk : ∀ (H1 : Heap) (locs1 : List Loc), va_P g.1 vwCl (tl_W g σ) H1 → va_S (tl_A g) H0 H1 locs1 → W p l e R s m args below meth c H1 locs1 0 0 Q (F0 m (pc + 3) ls (.int ro :: rest))) : W p l e R s m args below meth c H locs 0 0 Q (F0 m pc ls (.int a2 :: .int a1 :: .ref (tl_ad g 34) :: rest)) :=
  tl_goi (tl_callV C hts hP (okX4_infoBy l g C.2.2.2.2.2.2.2 σ a1 a2 ro h) rfl rfl rfl (n := 2) (by decide +kernel) rfl (ci := 4) rfl (tl_kM g σ) hG hR hls rfl hrm hdg) hS kk
abbrev rX4_info : Room := { frames := 2, cells := 0, slots := 0, locals := 46 }
set_option maxHeartbeats 4000000 in
set_option maxRecDepth 100000 in
theorem okX4_info (l : Launch) (g : tl_G) (hI : tl_I g) (σ : tl_St) (a1 : Int32) (a2 : Int32) (ro : Int32) (h : fX4_info σ a1 a2 = some ro) : Met l yX4_info wsX4_info rX4_info (va_Pc [.ref (tl_ad g 34), .int a1, .int a2] (tl_Pre g σ)) (tl_Qi g ro σ) 0 0 (tl_A g) := by
  refine tl_enter (cc := cX4_info) (maxL := 3) (ret := (some .int)) (own := RX4) hI (by decide) rfl rfl (Nat.le_of_ble_eq_true rfl) ?_
  intro p e s m below meth c C hts H locs hP hS ls hl
  have hx := C.1
  have hb := C.2.1
  have hl : lv_has ls 3 [(0, .ref (tl_ad g 34)), (1, .int a1), (2, .int a2)] := hl
  have lk0 : (Cond.constantLong RX4 111 (6)).before [.ref (tl_ad g 34), .int a1, .int a2].toArray s = true := hts _ (List.mem_cons_of_mem _ (List.mem_append_left _ (List.mem_of_getElem? (i := 0) rfl)))
  unfold fX4_info at h
  refine lv_aload_n (pc := 0) hx hb dX4_info_0 rfl (lv_at hl 0 rfl) ?_
  refine lv_iload_n (pc := 1) hx hb dX4_info_1 rfl (lv_at hl 1 rfl) ?_
  obtain ⟨r1, er1, h⟩ := tl_nm h
  refine caX4_isBasin (pc := 2) C hts hP hS er1 gX4_info_X4_isBasin ⟨Nat.le_of_ble_eq_true rfl, Nat.le_of_ble_eq_true rfl⟩ hl.1 (Nat.le_of_ble_eq_true rfl) dX4_info_2 (fun H locs hP hS => ?_)
  obtain ⟨k2, ek2, h⟩ := tl_j0 h
  have hJ2 : ∀ (H : Heap) (locs : List Loc) (ls : Array Slot), k2 = some ro → va_P g.1 vwCl (tl_W g σ) H → va_S (tl_A g) s.heap H locs → lv_has ls 3 [] → W p l e rX4_info s m [.ref (tl_ad g 34), .int a1, .int a2].toArray below meth c H locs 0 0 (MQ below (tl_Qi g ro σ) [.ref (tl_ad g 34), .int a1, .int a2].toArray s 0 0 (tl_A g)) (F0 m 29 ls []) := by
    intro H locs ls h hP hS hl
    replace h := ek2.trans h
    refine lv_bipush (pc := 29) (v := (-2)) hx hb dX4_info_29 (by decide) ?_
    exact tl_Ripr (pc := 31) C h hP hS dX4_info_31
  refine lv_if_eq (pc := 5) (tgt := 29) hx hb dX4_info_5 (by decide) (fun c3 => ?_) (fun c3 => ?_)
  · replace h := (if_pos c3).symm.trans h
    exact hJ2 _ _ _ h hP hS (lv_sub hl [] rfl)
  · replace h := (if_neg c3).symm.trans h
    refine lv_iload_n (pc := 8) hx hb dX4_info_8 rfl (lv_at hl 2 rfl) ?_
    refine lv_i2l (pc := 9) hx hb dX4_info_9 rfl ?_
    refine lv_lconst (pc := 10) (v := 0) hx hb dX4_info_10 (by decide) ?_
    refine lv_ldc2 (pc := 11) (v := 6) hx hb C.2.2.2.1 lk0 dX4_info_11 ?_
    obtain ⟨r4, er4, h⟩ := tl_nm h
    refine caX4_in (pc := 14) C hts hP hS er4 gX4_info_X4_in ⟨Nat.le_of_ble_eq_true rfl, Nat.le_of_ble_eq_true rfl⟩ hl.1 (Nat.le_of_ble_eq_true rfl) dX4_info_14 (fun H locs hP hS => ?_)
    refine lv_if_eq (pc := 17) (tgt := 29) hx hb dX4_info_17 (by decide) (fun c5 => ?_) (fun c5 => ?_)
    · replace h := (if_pos c5).symm.trans h
      exact hJ2 _ _ _ h hP hS (lv_sub hl [] rfl)
    · replace h := (if_neg c5).symm.trans h
      refine lv_aload_n (pc := 20) hx hb dX4_info_20 rfl (lv_at hl 0 rfl) ?_
      refine lv_iload_n (pc := 21) hx hb dX4_info_21 rfl (lv_at hl 1 rfl) ?_
      refine lv_iload_n (pc := 22) hx hb dX4_info_22 rfl (lv_at hl 2 rfl) ?_
      obtain ⟨r6, er6, h⟩ := tl_o1s h
      refine caX4_infoBy (pc := 23) C hts hP hS er6 gX4_info_X4_infoBy ⟨Nat.le_of_ble_eq_true rfl, Nat.le_of_ble_eq_true rfl⟩ hl.1 (Nat.le_of_ble_eq_true rfl) dX4_info_23 (fun H locs hP hS => ?_)
      refine lv_goto (pc := 26) (tgt := 31) hx hb dX4_info_26 (by decide) ?_
      exact tl_Ripr (pc := 31) C h hP hS dX4_info_31
theorem caX4_info {p : Program} {l : Launch} {e : Env} {R : Room} {s : State} {m : MethodId} {args : Array Value} {below : List Frame} {meth : Method} {c : Code} {H : Heap} {locs : List Loc} {Q : State → Prop} {cc : ByteArray} {pc : Nat} {ls : Array Slot} {rest : List Value} {g : tl_G} {σ : tl_St} {H0 : Heap} {nL : Nat} {own : String} {ret : Option FieldType} {index : Nat} (C : tl_C p s m meth c cc nL own ret g) {Ts : List Cond} (hts : ∀ w ∈ Ts, w.before args s = true) (hP : va_P g.1 vwCl (tl_W g σ) H) (hS : va_S (tl_A g) H0 H locs) {a1 : Int32} {a2 : Int32} {ro : Int32} (h : fX4_info σ a1 a2 = some ro) (hG : GoodIn Ts (wsV own index RX4 yX4_info wsX4_info)) (hR : 2 + 1 ≤ R.frames ∧ 8 + (3 + 11) + 46 ≤ R.locals) (hls : ls.size = nL) (hrm : (rest.map fun v => v.category).sum ≤ 8) (hdg : decode cc pc = .ok (.invokevirtual index, 3)) (kk : ∀ (H1 : Heap) (locs1 : List Loc), va_P g.1 vwCl (tl_W g σ) H1 → va_S (tl_A g) H0 H1 locs1 → W p l e R s m args below meth c H1 locs1 0 0 Q (F0 m (pc + 3) ls (.int ro :: rest))) : W p l e R s m args below meth c H locs 0 0 Q (F0 m pc ls (.int a2 :: .int a1 :: .ref (tl_ad g 34) :: rest)) :=
  tl_goi (tl_callV C hts hP (okX4_info l g C.2.2.2.2.2.2.2 σ a1 a2 ro h) rfl rfl rfl (n := 2) (by decide +kernel) rfl (ci := 4) rfl (tl_kM g σ) hG hR hls rfl hrm hdg) hS kk
abbrev rX4_chamberBy : Room := { frames := 0, cells := 0, slots := 0, locals := 0 }
set_option maxHeartbeats 4000000 in
set_option maxRecDepth 100000 in
theorem okX4_chamberBy (l : Launch) (g : tl_G) (hI : tl_I g) (σ : tl_St) (a1 : Int32) (ro : Int32) (h : fX4_chamberBy σ a1 = ro) : Met l yX4_chamberBy wsX4_chamberBy rX4_chamberBy (va_Pc [.ref (tl_ad g 34), .int a1] (tl_Pre g σ)) (tl_Qi g ro σ) 0 0 (tl_A g) := by
  refine tl_enter (cc := cX4_chamberBy) (maxL := 3) (ret := (some .int)) (own := RX4) hI (by decide) rfl rfl (Nat.le_of_ble_eq_true rfl) ?_
  intro p e s m below meth c C hts H locs hP hS ls hl
  have hx := C.1
  have hb := C.2.1
  have hl : lv_has ls 3 [(0, .ref (tl_ad g 34)), (1, .int a1)] := hl
  have hc4 : ∀ w ∈ u_ws RX4 TX4 30, w.before [.ref (tl_ad g 34), .int a1].toArray s = true := fun w hw => hts w (List.mem_cons_of_mem _ (List.mem_append_right _ hw))
  have lk0 : (Cond.fieldLink RX4 90 "ThriftLockModel" "full" "Z").before [.ref (tl_ad g 34), .int a1].toArray s = true := hts _ (List.mem_cons_of_mem _ (List.mem_append_left _ (List.mem_of_getElem? (i := 0) rfl)))
  have lk1 : (Cond.fieldLink RX4 56 "ThriftLockModel" "head" "I").before [.ref (tl_ad g 34), .int a1].toArray s = true := hts _ (List.mem_cons_of_mem _ (List.mem_append_left _ (List.mem_of_getElem? (i := 1) rfl)))
  unfold fX4_chamberBy at h
  refine lv_aload_n (pc := 0) hx hb dX4_chamberBy_0 rfl (lv_at hl 0 rfl) ?_
  refine tl_gM_6 (pc := 1) C hc4 hP lk0 dX4_chamberBy_1 ?_
  obtain ⟨k2, ek2, h⟩ := tl_j1 h
  have hJ2 : ∀ (x1 : Int32) (H : Heap) (locs : List Loc) (ls : Array Slot), k2 x1 = ro → va_P g.1 vwCl (tl_W g σ) H → va_S (tl_A g) s.heap H locs → lv_has ls 3 [(0, .ref (tl_ad g 34)), (1, .int a1)] → W p l e rX4_chamberBy s m [.ref (tl_ad g 34), .int a1].toArray below meth c H locs 0 0 (MQ below (tl_Qi g ro σ) [.ref (tl_ad g 34), .int a1].toArray s 0 0 (tl_A g)) (F0 m 15 ls [.int x1]) := by
    intro x1 H locs ls h hP hS hl
    replace h := (ek2 x1).trans h
    refine lv_istore_n (pc := 15) (lv' := [(2, .int x1), (0, .ref (tl_ad g 34)), (1, .int a1)]) hx hb dX4_chamberBy_15 rfl hl (by decide) rfl (fun ls hl => ?_)
    refine lv_iload_n (pc := 16) hx hb dX4_chamberBy_16 rfl (lv_at hl 2 rfl) ?_
    refine lv_if_ne (pc := 17) (tgt := 24) hx hb dX4_chamberBy_17 (by decide) (fun c3 => ?_) (fun c3 => ?_)
    · replace h := (if_neg c3).symm.trans h
      refine lv_iload_n (pc := 24) hx hb dX4_chamberBy_24 rfl (lv_at hl 2 rfl) ?_
      refine lv_iconst (pc := 25) (v := 1) hx hb dX4_chamberBy_25 (by decide) ?_
      refine lv_icmp_ne (pc := 26) (tgt := 36) hx hb dX4_chamberBy_26 (by decide) (fun c4 => ?_) (fun c4 => ?_)
      · replace h := (if_neg c4).symm.trans h
        refine lv_aload_n (pc := 36) hx hb dX4_chamberBy_36 rfl (lv_at hl 1 rfl) ?_
        refine tl_gM_5 (pc := 37) C hc4 hP lk1 dX4_chamberBy_37 ?_
        exact tl_Ritr (pc := 40) C h hP hS dX4_chamberBy_40
      · replace h := (if_pos c4).symm.trans h
        refine lv_bipush (pc := 29) (v := 6) hx hb dX4_chamberBy_29 (by decide) ?_
        refine lv_iload_n (pc := 31) hx hb dX4_chamberBy_31 rfl (lv_at hl 0 rfl) ?_
        refine lv_imul (pc := 32) hx hb dX4_chamberBy_32 ?_
        refine lv_goto (pc := 33) (tgt := 40) hx hb dX4_chamberBy_33 (by decide) ?_
        exact tl_Ritr (pc := 40) C h hP hS dX4_chamberBy_40
    · replace h := (if_pos c3).symm.trans h
      refine lv_iload_n (pc := 20) hx hb dX4_chamberBy_20 rfl (lv_at hl 0 rfl) ?_
      refine lv_goto (pc := 21) (tgt := 40) hx hb dX4_chamberBy_21 (by decide) ?_
      exact tl_Ritr (pc := 40) C h hP hS dX4_chamberBy_40
  refine lv_if_eq (pc := 4) (tgt := 14) hx hb dX4_chamberBy_4 (by decide) (fun c5 => ?_) (fun c5 => ?_)
  · replace h := (if_pos c5).symm.trans h
    refine lv_iconst (pc := 14) (v := 0) hx hb dX4_chamberBy_14 (by decide) ?_
    exact hJ2 0 _ _ _ h hP hS (lv_sub hl [0, 1] rfl)
  · replace h := (if_neg c5).symm.trans h
    refine lv_aload_n (pc := 7) hx hb dX4_chamberBy_7 rfl (lv_at hl 0 rfl) ?_
    refine tl_gM_5 (pc := 8) C hc4 hP lk1 dX4_chamberBy_8 ?_
    refine lv_goto (pc := 11) (tgt := 15) hx hb dX4_chamberBy_11 (by decide) ?_
    exact hJ2 (σ 34 5) _ _ _ h hP hS (lv_sub hl [0, 1] rfl)
theorem caX4_chamberBy {p : Program} {l : Launch} {e : Env} {R : Room} {s : State} {m : MethodId} {args : Array Value} {below : List Frame} {meth : Method} {c : Code} {H : Heap} {locs : List Loc} {Q : State → Prop} {cc : ByteArray} {pc : Nat} {ls : Array Slot} {rest : List Value} {g : tl_G} {σ : tl_St} {H0 : Heap} {nL : Nat} {own : String} {ret : Option FieldType} {index : Nat} (C : tl_C p s m meth c cc nL own ret g) {Ts : List Cond} (hts : ∀ w ∈ Ts, w.before args s = true) (hP : va_P g.1 vwCl (tl_W g σ) H) (hS : va_S (tl_A g) H0 H locs) {a1 : Int32} {ro : Int32} (h : fX4_chamberBy σ a1 = ro) (hG : GoodIn Ts (wsV own index RX4 yX4_chamberBy wsX4_chamberBy)) (hR : 0 + 1 ≤ R.frames ∧ 8 + (3 + 11) + 0 ≤ R.locals) (hls : ls.size = nL) (hrm : (rest.map fun v => v.category).sum ≤ 8) (hdg : decode cc pc = .ok (.invokevirtual index, 3)) (kk : ∀ (H1 : Heap) (locs1 : List Loc), va_P g.1 vwCl (tl_W g σ) H1 → va_S (tl_A g) H0 H1 locs1 → W p l e R s m args below meth c H1 locs1 0 0 Q (F0 m (pc + 3) ls (.int ro :: rest))) : W p l e R s m args below meth c H locs 0 0 Q (F0 m pc ls (.int a1 :: .ref (tl_ad g 34) :: rest)) :=
  tl_goi (tl_callV C hts hP (okX4_chamberBy l g C.2.2.2.2.2.2.2 σ a1 ro h) rfl rfl rfl (n := 1) (by decide +kernel) rfl (ci := 4) rfl (tl_kM g σ) hG hR hls rfl hrm hdg) hS kk
abbrev rX4_chamber : Room := { frames := 1, cells := 0, slots := 0, locals := 25 }
set_option maxHeartbeats 4000000 in
set_option maxRecDepth 100000 in
theorem okX4_chamber (l : Launch) (g : tl_G) (hI : tl_I g) (σ : tl_St) (a1 : Int32) (ro : Int32) (h : fX4_chamber σ a1 = ro) : Met l yX4_chamber wsX4_chamber rX4_chamber (va_Pc [.ref (tl_ad g 34), .int a1] (tl_Pre g σ)) (tl_Qi g ro σ) 0 0 (tl_A g) := by
  refine tl_enter (cc := cX4_chamber) (maxL := 2) (ret := (some .int)) (own := RX4) hI (by decide) rfl rfl (Nat.le_of_ble_eq_true rfl) ?_
  intro p e s m below meth c C hts H locs hP hS ls hl
  have hx := C.1
  have hb := C.2.1
  have hl : lv_has ls 2 [(0, .ref (tl_ad g 34)), (1, .int a1)] := hl
  have lk0 : (Cond.constantLong RX4 73 (2)).before [.ref (tl_ad g 34), .int a1].toArray s = true := hts _ (List.mem_cons_of_mem _ (List.mem_append_left _ (List.mem_of_getElem? (i := 0) rfl)))
  unfold fX4_chamber at h
  refine lv_iload_n (pc := 0) hx hb dX4_chamber_0 rfl (lv_at hl 1 rfl) ?_
  refine lv_i2l (pc := 1) hx hb dX4_chamber_1 rfl ?_
  refine lv_lconst (pc := 2) (v := 0) hx hb dX4_chamber_2 (by decide) ?_
  refine lv_ldc2 (pc := 3) (v := 2) hx hb C.2.2.2.1 lk0 dX4_chamber_3 ?_
  obtain ⟨r1, er1, h⟩ := tl_nm h
  refine caX4_in (pc := 6) C hts hP hS er1 gX4_chamber_X4_in ⟨Nat.le_of_ble_eq_true rfl, Nat.le_of_ble_eq_true rfl⟩ hl.1 (Nat.le_of_ble_eq_true rfl) dX4_chamber_6 (fun H locs hP hS => ?_)
  refine lv_if_eq (pc := 9) (tgt := 20) hx hb dX4_chamber_9 (by decide) (fun c2 => ?_) (fun c2 => ?_)
  · replace h := (if_pos c2).symm.trans h
    refine lv_bipush (pc := 20) (v := (-2)) hx hb dX4_chamber_20 (by decide) ?_
    exact tl_Ritr (pc := 22) C h hP hS dX4_chamber_22
  · replace h := (if_neg c2).symm.trans h
    refine lv_aload_n (pc := 12) hx hb dX4_chamber_12 rfl (lv_at hl 0 rfl) ?_
    refine lv_iload_n (pc := 13) hx hb dX4_chamber_13 rfl (lv_at hl 1 rfl) ?_
    obtain ⟨r3, er3, h⟩ := tl_nm h
    refine caX4_chamberBy (pc := 14) C hts hP hS er3 gX4_chamber_X4_chamberBy ⟨Nat.le_of_ble_eq_true rfl, Nat.le_of_ble_eq_true rfl⟩ hl.1 (Nat.le_of_ble_eq_true rfl) dX4_chamber_14 (fun H locs hP hS => ?_)
    refine lv_goto (pc := 17) (tgt := 22) hx hb dX4_chamber_17 (by decide) ?_
    exact tl_Ritr (pc := 22) C h hP hS dX4_chamber_22
theorem caX4_chamber {p : Program} {l : Launch} {e : Env} {R : Room} {s : State} {m : MethodId} {args : Array Value} {below : List Frame} {meth : Method} {c : Code} {H : Heap} {locs : List Loc} {Q : State → Prop} {cc : ByteArray} {pc : Nat} {ls : Array Slot} {rest : List Value} {g : tl_G} {σ : tl_St} {H0 : Heap} {nL : Nat} {own : String} {ret : Option FieldType} {index : Nat} (C : tl_C p s m meth c cc nL own ret g) {Ts : List Cond} (hts : ∀ w ∈ Ts, w.before args s = true) (hP : va_P g.1 vwCl (tl_W g σ) H) (hS : va_S (tl_A g) H0 H locs) {a1 : Int32} {ro : Int32} (h : fX4_chamber σ a1 = ro) (hG : GoodIn Ts (wsV own index RX4 yX4_chamber wsX4_chamber)) (hR : 1 + 1 ≤ R.frames ∧ 8 + (2 + 11) + 25 ≤ R.locals) (hls : ls.size = nL) (hrm : (rest.map fun v => v.category).sum ≤ 8) (hdg : decode cc pc = .ok (.invokevirtual index, 3)) (kk : ∀ (H1 : Heap) (locs1 : List Loc), va_P g.1 vwCl (tl_W g σ) H1 → va_S (tl_A g) H0 H1 locs1 → W p l e R s m args below meth c H1 locs1 0 0 Q (F0 m (pc + 3) ls (.int ro :: rest))) : W p l e R s m args below meth c H locs 0 0 Q (F0 m pc ls (.int a1 :: .ref (tl_ad g 34) :: rest)) :=
  tl_goi (tl_callV C hts hP (okX4_chamber l g C.2.2.2.2.2.2.2 σ a1 ro h) rfl rfl rfl (n := 1) (by decide +kernel) rfl (ci := 4) rfl (tl_kM g σ) hG hR hls rfl hrm hdg) hS kk
abbrev rX4_manyWait : Room := { frames := 0, cells := 0, slots := 0, locals := 0 }
set_option maxHeartbeats 4000000 in
set_option maxRecDepth 100000 in
theorem okX4_manyWait (l : Launch) (g : tl_G) (hI : tl_I g) (σ : tl_St) (a1 : Int32) (ro : Int32) (h : fX4_manyWait σ a1 = some ro) : Met l yX4_manyWait wsX4_manyWait rX4_manyWait (va_Pc [.ref (tl_ad g 34), .int a1] (tl_Pre g σ)) (tl_Qi g ro σ) 0 0 (tl_A g) := by
  refine tl_enter (cc := cX4_manyWait) (maxL := 4) (ret := (some .int)) (own := RX4) hI (by decide) rfl rfl (Nat.le_of_ble_eq_true rfl) ?_
  intro p e s m below meth c C hts H locs hP hS ls hl
  have hx := C.1
  have hb := C.2.1
  have hl : lv_has ls 4 [(0, .ref (tl_ad g 34)), (1, .int a1)] := hl
  have hc4 : ∀ w ∈ u_ws RX4 TX4 30, w.before [.ref (tl_ad g 34), .int a1].toArray s = true := fun w hw => hts w (List.mem_cons_of_mem _ (List.mem_append_right _ hw))
  have lk0 : (Cond.fieldLink RX4 119 "ThriftLockModel" "came" "I").before [.ref (tl_ad g 34), .int a1].toArray s = true := hts _ (List.mem_cons_of_mem _ (List.mem_append_left _ (List.mem_of_getElem? (i := 0) rfl)))
  have lk1 : (Cond.fieldLink RX4 40 "ThriftLockModel" "isWaiting" "[Z").before [.ref (tl_ad g 34), .int a1].toArray s = true := hts _ (List.mem_cons_of_mem _ (List.mem_append_left _ (List.mem_of_getElem? (i := 1) rfl)))
  have lk2 : (Cond.fieldLink RX4 37 "ThriftLockModel" "wayOf" "[I").before [.ref (tl_ad g 34), .int a1].toArray s = true := hts _ (List.mem_cons_of_mem _ (List.mem_append_left _ (List.mem_of_getElem? (i := 2) rfl)))
  unfold fX4_manyWait at h
  refine lv_iconst (pc := 0) (v := 0) hx hb dX4_manyWait_0 (by decide) ?_
  refine lv_istore_n (pc := 1) (lv' := [(2, .int 0), (0, .ref (tl_ad g 34)), (1, .int a1)]) hx hb dX4_manyWait_1 rfl hl (by decide) rfl (fun ls hl => ?_)
  refine lv_iconst (pc := 2) (v := 0) hx hb dX4_manyWait_2 (by decide) ?_
  refine lv_istore_n (pc := 3) (lv' := [(3, .int 0), (2, .int 0), (0, .ref (tl_ad g 34)), (1, .int a1)]) hx hb dX4_manyWait_3 rfl hl (by decide) rfl (fun ls hl => ?_)
  obtain ⟨k2, ek2, h⟩ := tl_j1 h
  have hZ2 : ∀ (x1 : Int32) (H : Heap) (locs : List Loc) (ls : Array Slot), k2 x1 = some ro → va_P g.1 vwCl (tl_W g σ) H → va_S (tl_A g) s.heap H locs → lv_has ls 4 [(2, .int x1)] → W p l e rX4_manyWait s m [.ref (tl_ad g 34), .int a1].toArray below meth c H locs 0 0 (MQ below (tl_Qi g ro σ) [.ref (tl_ad g 34), .int a1].toArray s 0 0 (tl_A g)) (F0 m 45 ls []) := by
    intro x1 H locs ls h hP hS hl
    replace h := (ek2 x1).trans h
    refine lv_iload_n (pc := 45) hx hb dX4_manyWait_45 rfl (lv_at hl 0 rfl) ?_
    exact tl_Ripr (pc := 46) C h hP hS dX4_manyWait_46
  have hL4 : ∀ (n : Nat) (x3 : Int32) (x4 : Int32) (H : Heap) (locs : List Loc) (ls : Array Slot), fX4_manyWait_L4 σ a1 k2 n x3 x4 = some ro → va_P g.1 vwCl (tl_W g σ) H → va_S (tl_A g) s.heap H locs → lv_has ls 4 [(0, .ref (tl_ad g 34)), (1, .int a1), (2, .int x3), (3, .int x4)] → W p l e rX4_manyWait s m [.ref (tl_ad g 34), .int a1].toArray below meth c H locs 0 0 (MQ below (tl_Qi g ro σ) [.ref (tl_ad g 34), .int a1].toArray s 0 0 (tl_A g)) (F0 m 4 ls []) := by
    intro n
    induction n with
    | zero =>
      intro x3 x4 H locs ls h hP hS hl
      rw [fX4_manyWait_L4] at h
      cases h
    | succ n ih =>
      intro x3 x4 H locs ls h hP hS hl
      rw [fX4_manyWait_L4] at h
      refine lv_iload_n (pc := 4) hx hb dX4_manyWait_4 rfl (lv_at hl 3 rfl) ?_
      refine lv_aload_n (pc := 5) hx hb dX4_manyWait_5 rfl (lv_at hl 0 rfl) ?_
      refine tl_gM_14 (pc := 6) C hc4 hP lk0 dX4_manyWait_6 ?_
      refine lv_icmp_ge (pc := 9) (tgt := 45) hx hb dX4_manyWait_9 (by decide) (fun c5 => ?_) (fun c5 => ?_)
      · replace h := (if_pos c5).symm.trans h
        exact hZ2 x3 _ _ _ h hP hS (lv_sub hl [2] rfl)
      · replace h := (if_neg c5).symm.trans h
        refine lv_iload_n (pc := 12) hx hb dX4_manyWait_12 rfl (lv_at hl 2 rfl) ?_
        refine lv_aload_n (pc := 13) hx hb dX4_manyWait_13 rfl (lv_at hl 0 rfl) ?_
        refine tl_gM_16 (pc := 14) C hc4 hP lk1 dX4_manyWait_14 ?_
        refine lv_iload_n (pc := 17) hx hb dX4_manyWait_17 rfl (lv_at hl 3 rfl) ?_
        obtain ⟨g6, h⟩ := tl_gd h
        refine tl_zald (pc := 18) C hP g6 dX4_manyWait_18 ?_
        obtain ⟨k8, ek8, h⟩ := tl_j1 h
        have hJ8 : ∀ (x7 : Int32) (H : Heap) (locs : List Loc) (ls : Array Slot), k8 x7 = some ro → va_P g.1 vwCl (tl_W g σ) H → va_S (tl_A g) s.heap H locs → lv_has ls 4 [(0, .ref (tl_ad g 34)), (1, .int a1), (3, .int x4)] → W p l e rX4_manyWait s m [.ref (tl_ad g 34), .int a1].toArray below meth c H locs 0 0 (MQ below (tl_Qi g ro σ) [.ref (tl_ad g 34), .int a1].toArray s 0 0 (tl_A g)) (F0 m 37 ls [.int x7, .int x3]) := by
          intro x7 H locs ls h hP hS hl
          replace h := (ek8 x7).trans h
          refine lv_iadd (pc := 37) hx hb dX4_manyWait_37 ?_
          obtain ⟨x9, ex9, h⟩ := tl_nm h
          refine tl_ti ex9 ?_
          refine lv_istore_n (pc := 38) (lv' := [(2, .int x9), (0, .ref (tl_ad g 34)), (1, .int a1), (3, .int x4)]) hx hb dX4_manyWait_38 rfl hl (by decide) rfl (fun ls hl => ?_)
          obtain ⟨x10, ex10, h⟩ := tl_nm h
          refine lv_iinc (pc := 39) (v := x10) (lv' := [(3, .int x10), (2, .int x9), (0, .ref (tl_ad g 34)), (1, .int a1)]) hx hb dX4_manyWait_39 hl (k := 3) rfl ex10 (by decide) rfl (fun ls hl => ?_)
          refine lv_goto (pc := 42) (tgt := 4) hx hb dX4_manyWait_42 (by decide) ?_
          exact ih x9 x10 _ _ _ h hP hS (lv_sub hl [2, 3, 1, 0] rfl)
        obtain ⟨k11, ek11, h⟩ := tl_j0 h
        have hJ11 : ∀ (H : Heap) (locs : List Loc) (ls : Array Slot), k11 = some ro → va_P g.1 vwCl (tl_W g σ) H → va_S (tl_A g) s.heap H locs → lv_has ls 4 [(0, .ref (tl_ad g 34)), (1, .int a1), (3, .int x4)] → W p l e rX4_manyWait s m [.ref (tl_ad g 34), .int a1].toArray below meth c H locs 0 0 (MQ below (tl_Qi g ro σ) [.ref (tl_ad g 34), .int a1].toArray s 0 0 (tl_A g)) (F0 m 36 ls [.int x3]) := by
          intro H locs ls h hP hS hl
          replace h := ek11.trans h
          refine lv_iconst (pc := 36) (v := 0) hx hb dX4_manyWait_36 (by decide) ?_
          exact hJ8 0 _ _ _ h hP hS (lv_sub hl [0, 1, 2] rfl)
        refine lv_if_eq (pc := 19) (tgt := 36) hx hb dX4_manyWait_19 (by decide) (fun c12 => ?_) (fun c12 => ?_)
        · replace h := (if_pos c12).symm.trans h
          exact hJ11 _ _ _ h hP hS (lv_sub hl [0, 1, 3] rfl)
        · replace h := (if_neg c12).symm.trans h
          refine lv_aload_n (pc := 22) hx hb dX4_manyWait_22 rfl (lv_at hl 0 rfl) ?_
          refine tl_gM_15 (pc := 23) C hc4 hP lk2 dX4_manyWait_23 ?_
          refine lv_iload_n (pc := 26) hx hb dX4_manyWait_26 rfl (lv_at hl 3 rfl) ?_
          obtain ⟨g13, h⟩ := tl_gd h
          refine tl_ald (pc := 27) C hP (tl_a44 g) g13 dX4_manyWait_27 ?_
          refine lv_iload_n (pc := 28) hx hb dX4_manyWait_28 rfl (lv_at hl 1 rfl) ?_
          refine lv_icmp_ne (pc := 29) (tgt := 36) hx hb dX4_manyWait_29 (by decide) (fun c14 => ?_) (fun c14 => ?_)
          · replace h := (if_neg c14).symm.trans h
            exact hJ11 _ _ _ h hP hS (lv_sub hl [0, 1, 3] rfl)
          · replace h := (if_pos c14).symm.trans h
            refine lv_iconst (pc := 32) (v := 1) hx hb dX4_manyWait_32 (by decide) ?_
            refine lv_goto (pc := 33) (tgt := 37) hx hb dX4_manyWait_33 (by decide) ?_
            exact hJ8 1 _ _ _ h hP hS (lv_sub hl [0, 1, 3] rfl)
  exact hL4 1000 0 0 _ _ _ h hP hS (lv_sub hl [2, 3, 1, 0] rfl)
theorem caX4_manyWait {p : Program} {l : Launch} {e : Env} {R : Room} {s : State} {m : MethodId} {args : Array Value} {below : List Frame} {meth : Method} {c : Code} {H : Heap} {locs : List Loc} {Q : State → Prop} {cc : ByteArray} {pc : Nat} {ls : Array Slot} {rest : List Value} {g : tl_G} {σ : tl_St} {H0 : Heap} {nL : Nat} {own : String} {ret : Option FieldType} {index : Nat} (C : tl_C p s m meth c cc nL own ret g) {Ts : List Cond} (hts : ∀ w ∈ Ts, w.before args s = true) (hP : va_P g.1 vwCl (tl_W g σ) H) (hS : va_S (tl_A g) H0 H locs) {a1 : Int32} {ro : Int32} (h : fX4_manyWait σ a1 = some ro) (hG : GoodIn Ts (wsV own index RX4 yX4_manyWait wsX4_manyWait)) (hR : 0 + 1 ≤ R.frames ∧ 8 + (4 + 11) + 0 ≤ R.locals) (hls : ls.size = nL) (hrm : (rest.map fun v => v.category).sum ≤ 8) (hdg : decode cc pc = .ok (.invokevirtual index, 3)) (kk : ∀ (H1 : Heap) (locs1 : List Loc), va_P g.1 vwCl (tl_W g σ) H1 → va_S (tl_A g) H0 H1 locs1 → W p l e R s m args below meth c H1 locs1 0 0 Q (F0 m (pc + 3) ls (.int ro :: rest))) : W p l e R s m args below meth c H locs 0 0 Q (F0 m pc ls (.int a1 :: .ref (tl_ad g 34) :: rest)) :=
  tl_goi (tl_callV C hts hP (okX4_manyWait l g C.2.2.2.2.2.2.2 σ a1 ro h) rfl rfl rfl (n := 1) (by decide +kernel) rfl (ci := 4) rfl (tl_kM g σ) hG hR hls rfl hrm hdg) hS kk
abbrev rX4_boat : Room := { frames := 2, cells := 0, slots := 0, locals := 45 }
set_option maxHeartbeats 4000000 in
set_option maxRecDepth 100000 in
theorem okX4_boat (l : Launch) (g : tl_G) (hI : tl_I g) (σ : tl_St) (a1 : Int32) (ro : Int32) (σo : tl_St) (h : fX4_boat σ a1 = some (ro, σo)) : Met l yX4_boat wsX4_boat rX4_boat (va_Pc [.ref (tl_ad g 34), .int a1] (tl_Pre g σ)) (tl_Qi g ro σo) 0 0 (tl_A g) := by
  refine tl_enter (cc := cX4_boat) (maxL := 2) (ret := (some .int)) (own := RX4) hI (by decide) rfl rfl (Nat.le_of_ble_eq_true rfl) ?_
  intro p e s m below meth c C hts H locs hP hS ls hl
  have hx := C.1
  have hb := C.2.1
  have hl : lv_has ls 2 [(0, .ref (tl_ad g 34)), (1, .int a1)] := hl
  have hc4 : ∀ w ∈ u_ws RX4 TX4 30, w.before [.ref (tl_ad g 34), .int a1].toArray s = true := fun w hw => hts w (List.mem_cons_of_mem _ (List.mem_append_right _ hw))
  have lk0 : (Cond.fieldLink RX4 119 "ThriftLockModel" "came" "I").before [.ref (tl_ad g 34), .int a1].toArray s = true := hts _ (List.mem_cons_of_mem _ (List.mem_append_left _ (List.mem_of_getElem? (i := 0) rfl)))
  have lk1 : (Cond.fieldLink RX4 37 "ThriftLockModel" "wayOf" "[I").before [.ref (tl_ad g 34), .int a1].toArray s = true := hts _ (List.mem_cons_of_mem _ (List.mem_append_left _ (List.mem_of_getElem? (i := 1) rfl)))
  have lk2 : (Cond.fieldLink RX4 40 "ThriftLockModel" "isWaiting" "[Z").before [.ref (tl_ad g 34), .int a1].toArray s = true := hts _ (List.mem_cons_of_mem _ (List.mem_append_left _ (List.mem_of_getElem? (i := 2) rfl)))
  unfold fX4_boat at h
  refine lv_iload_n (pc := 0) hx hb dX4_boat_0 rfl (lv_at hl 1 rfl) ?_
  obtain ⟨r1, er1, h⟩ := tl_nm h
  refine caX4_isTwo (pc := 1) C hts hP hS er1 gX4_boat_X4_isTwo ⟨Nat.le_of_ble_eq_true rfl, Nat.le_of_ble_eq_true rfl⟩ hl.1 (Nat.le_of_ble_eq_true rfl) dX4_boat_1 (fun H locs hP hS => ?_)
  refine lv_if_ne (pc := 4) (tgt := 10) hx hb dX4_boat_4 (by decide) (fun c2 => ?_) (fun c2 => ?_)
  · replace h := (if_neg c2).symm.trans h
    refine lv_aload_n (pc := 10) hx hb dX4_boat_10 rfl (lv_at hl 0 rfl) ?_
    refine tl_gM_14 (pc := 11) C hc4 hP lk0 dX4_boat_11 ?_
    refine lv_bipush (pc := 14) (v := 100) hx hb dX4_boat_14 (by decide) ?_
    refine lv_icmp_eq (pc := 16) (tgt := 29) hx hb dX4_boat_16 (by decide) (fun c3 => ?_) (fun c3 => ?_)
    · replace h := (if_pos c3).symm.trans h
      refine lv_bipush (pc := 29) (v := (-4)) hx hb dX4_boat_29 (by decide) ?_
      exact tl_Ripw (pc := 31) C h hP hS dX4_boat_31
    · replace h := (if_neg c3).symm.trans h
      refine lv_aload_n (pc := 19) hx hb dX4_boat_19 rfl (lv_at hl 0 rfl) ?_
      refine lv_iload_n (pc := 20) hx hb dX4_boat_20 rfl (lv_at hl 1 rfl) ?_
      obtain ⟨r4, er4, h⟩ := tl_o1s h
      refine caX4_manyWait (pc := 21) C hts hP hS er4 gX4_boat_X4_manyWait ⟨Nat.le_of_ble_eq_true rfl, Nat.le_of_ble_eq_true rfl⟩ hl.1 (Nat.le_of_ble_eq_true rfl) dX4_boat_21 (fun H locs hP hS => ?_)
      refine lv_bipush (pc := 24) (v := 16) hx hb dX4_boat_24 (by decide) ?_
      refine lv_icmp_ne (pc := 26) (tgt := 32) hx hb dX4_boat_26 (by decide) (fun c5 => ?_) (fun c5 => ?_)
      · replace h := (if_neg c5).symm.trans h
        refine lv_aload_n (pc := 32) hx hb dX4_boat_32 rfl (lv_at hl 0 rfl) ?_
        refine tl_gM_15 (pc := 33) C hc4 hP lk1 dX4_boat_33 ?_
        refine lv_aload_n (pc := 36) hx hb dX4_boat_36 rfl (lv_at hl 0 rfl) ?_
        refine tl_gM_14 (pc := 37) C hc4 hP lk0 dX4_boat_37 ?_
        refine lv_iload_n (pc := 40) hx hb dX4_boat_40 rfl (lv_at hl 1 rfl) ?_
        obtain ⟨g6, h⟩ := tl_gd h
        obtain ⟨σ7, eσ7, h⟩ := tl_nm h
        refine tl_ast (pc := 41) C hP hS (tl_a44 g) g6 eσ7 dX4_boat_41 (fun H locs hP hS => ?_)
        refine lv_aload_n (pc := 42) hx hb dX4_boat_42 rfl (lv_at hl 0 rfl) ?_
        refine tl_gM_16 (pc := 43) C hc4 hP lk2 dX4_boat_43 ?_
        refine lv_aload_n (pc := 46) hx hb dX4_boat_46 rfl (lv_at hl 0 rfl) ?_
        refine tl_gM_14 (pc := 47) C hc4 hP lk0 dX4_boat_47 ?_
        refine lv_iconst (pc := 50) (v := 1) hx hb dX4_boat_50 (by decide) ?_
        obtain ⟨g8, h⟩ := tl_gd h
        obtain ⟨σ9, eσ9, h⟩ := tl_nm h
        refine tl_zast (pc := 51) C hP hS g8 (Or.inr rfl) eσ9 dX4_boat_51 (fun H locs hP hS => ?_)
        refine lv_aload_n (pc := 52) hx hb dX4_boat_52 rfl (lv_at hl 0 rfl) ?_
        refine lv_dup (pc := 53) hx hb dX4_boat_53 rfl ?_
        refine tl_gM_14 (pc := 54) C hc4 hP lk0 dX4_boat_54 ?_
        refine lv_iconst (pc := 57) (v := 1) hx hb dX4_boat_57 (by decide) ?_
        refine lv_iadd (pc := 58) hx hb dX4_boat_58 ?_
        obtain ⟨σ10, eσ10, h⟩ := tl_nm h
        refine tl_sM_14 (pc := 59) C hc4 hP hS eσ10 lk0 dX4_boat_59 (fun H locs hP hS => ?_)
        refine lv_aload_n (pc := 62) hx hb dX4_boat_62 rfl (lv_at hl 0 rfl) ?_
        refine tl_gM_14 (pc := 63) C hc4 hP lk0 dX4_boat_63 ?_
        refine lv_iconst (pc := 66) (v := 1) hx hb dX4_boat_66 (by decide) ?_
        refine lv_isub (pc := 67) hx hb dX4_boat_67 ?_
        exact tl_Ripw (pc := 68) C h hP hS dX4_boat_68
      · replace h := (if_pos c5).symm.trans h
        refine lv_bipush (pc := 29) (v := (-4)) hx hb dX4_boat_29 (by decide) ?_
        exact tl_Ripw (pc := 31) C h hP hS dX4_boat_31
  · replace h := (if_pos c2).symm.trans h
    refine lv_bipush (pc := 7) (v := (-2)) hx hb dX4_boat_7 (by decide) ?_
    exact tl_Ripw (pc := 9) C h hP hS dX4_boat_9
theorem caX4_boat {p : Program} {l : Launch} {e : Env} {R : Room} {s : State} {m : MethodId} {args : Array Value} {below : List Frame} {meth : Method} {c : Code} {H : Heap} {locs : List Loc} {Q : State → Prop} {cc : ByteArray} {pc : Nat} {ls : Array Slot} {rest : List Value} {g : tl_G} {σ : tl_St} {H0 : Heap} {nL : Nat} {own : String} {ret : Option FieldType} {index : Nat} (C : tl_C p s m meth c cc nL own ret g) {Ts : List Cond} (hts : ∀ w ∈ Ts, w.before args s = true) (hP : va_P g.1 vwCl (tl_W g σ) H) (hS : va_S (tl_A g) H0 H locs) {a1 : Int32} {ro : Int32} {σo : tl_St} (h : fX4_boat σ a1 = some (ro, σo)) (hG : GoodIn Ts (wsV own index RX4 yX4_boat wsX4_boat)) (hR : 2 + 1 ≤ R.frames ∧ 8 + (2 + 11) + 45 ≤ R.locals) (hls : ls.size = nL) (hrm : (rest.map fun v => v.category).sum ≤ 8) (hdg : decode cc pc = .ok (.invokevirtual index, 3)) (kk : ∀ (H1 : Heap) (locs1 : List Loc), va_P g.1 vwCl (tl_W g σo) H1 → va_S (tl_A g) H0 H1 locs1 → W p l e R s m args below meth c H1 locs1 0 0 Q (F0 m (pc + 3) ls (.int ro :: rest))) : W p l e R s m args below meth c H locs 0 0 Q (F0 m pc ls (.int a1 :: .ref (tl_ad g 34) :: rest)) :=
  tl_goi (tl_callV C hts hP (okX4_boat l g C.2.2.2.2.2.2.2 σ a1 ro σo h) rfl rfl rfl (n := 1) (by decide +kernel) rfl (ci := 4) rfl (tl_kM g σ) hG hR hls rfl hrm hdg) hS kk
abbrev rX4_leave : Room := { frames := 1, cells := 0, slots := 0, locals := 23 }
set_option maxHeartbeats 4000000 in
set_option maxRecDepth 100000 in
theorem okX4_leave (l : Launch) (g : tl_G) (hI : tl_I g) (σ : tl_St) (a1 : Int32) (ro : Int32) (σo : tl_St) (h : fX4_leave σ a1 = some (ro, σo)) : Met l yX4_leave wsX4_leave rX4_leave (va_Pc [.ref (tl_ad g 34), .int a1] (tl_Pre g σ)) (tl_Qi g ro σo) 0 0 (tl_A g) := by
  refine tl_enter (cc := cX4_leave) (maxL := 2) (ret := (some .int)) (own := RX4) hI (by decide) rfl rfl (Nat.le_of_ble_eq_true rfl) ?_
  intro p e s m below meth c C hts H locs hP hS ls hl
  have hx := C.1
  have hb := C.2.1
  have hl : lv_has ls 2 [(0, .ref (tl_ad g 34)), (1, .int a1)] := hl
  have hc4 : ∀ w ∈ u_ws RX4 TX4 30, w.before [.ref (tl_ad g 34), .int a1].toArray s = true := fun w hw => hts w (List.mem_cons_of_mem _ (List.mem_append_right _ hw))
  have lk0 : (Cond.fieldLink RX4 119 "ThriftLockModel" "came" "I").before [.ref (tl_ad g 34), .int a1].toArray s = true := hts _ (List.mem_cons_of_mem _ (List.mem_append_left _ (List.mem_of_getElem? (i := 0) rfl)))
  have lk1 : (Cond.fieldLink RX4 40 "ThriftLockModel" "isWaiting" "[Z").before [.ref (tl_ad g 34), .int a1].toArray s = true := hts _ (List.mem_cons_of_mem _ (List.mem_append_left _ (List.mem_of_getElem? (i := 1) rfl)))
  have lk2 : (Cond.fieldLink RX4 37 "ThriftLockModel" "wayOf" "[I").before [.ref (tl_ad g 34), .int a1].toArray s = true := hts _ (List.mem_cons_of_mem _ (List.mem_append_left _ (List.mem_of_getElem? (i := 2) rfl)))
  unfold fX4_leave at h
  refine lv_iload_n (pc := 0) hx hb dX4_leave_0 rfl (lv_at hl 1 rfl) ?_
  refine lv_if_ge (pc := 1) (tgt := 7) hx hb dX4_leave_1 (by decide) (fun c1 => ?_) (fun c1 => ?_)
  · replace h := (if_pos c1).symm.trans h
    refine lv_iload_n (pc := 7) hx hb dX4_leave_7 rfl (lv_at hl 1 rfl) ?_
    refine lv_aload_n (pc := 8) hx hb dX4_leave_8 rfl (lv_at hl 0 rfl) ?_
    refine tl_gM_14 (pc := 9) C hc4 hP lk0 dX4_leave_9 ?_
    refine lv_icmp_ge (pc := 12) (tgt := 24) hx hb dX4_leave_12 (by decide) (fun c2 => ?_) (fun c2 => ?_)
    · replace h := (if_pos c2).symm.trans h
      refine lv_bipush (pc := 24) (v := (-3)) hx hb dX4_leave_24 (by decide) ?_
      exact tl_Ripw (pc := 26) C h hP hS dX4_leave_26
    · replace h := (if_neg c2).symm.trans h
      refine lv_aload_n (pc := 15) hx hb dX4_leave_15 rfl (lv_at hl 0 rfl) ?_
      refine tl_gM_16 (pc := 16) C hc4 hP lk1 dX4_leave_16 ?_
      refine lv_iload_n (pc := 19) hx hb dX4_leave_19 rfl (lv_at hl 1 rfl) ?_
      obtain ⟨g3, h⟩ := tl_gd h
      refine tl_zald (pc := 20) C hP g3 dX4_leave_20 ?_
      refine lv_if_ne (pc := 21) (tgt := 27) hx hb dX4_leave_21 (by decide) (fun c4 => ?_) (fun c4 => ?_)
      · replace h := (if_neg c4).symm.trans h
        refine lv_aload_n (pc := 27) hx hb dX4_leave_27 rfl (lv_at hl 0 rfl) ?_
        refine tl_gM_16 (pc := 28) C hc4 hP lk1 dX4_leave_28 ?_
        refine lv_iload_n (pc := 31) hx hb dX4_leave_31 rfl (lv_at hl 1 rfl) ?_
        refine lv_iconst (pc := 32) (v := 0) hx hb dX4_leave_32 (by decide) ?_
        obtain ⟨g5, h⟩ := tl_gd h
        obtain ⟨σ6, eσ6, h⟩ := tl_nm h
        refine tl_zast (pc := 33) C hP hS g5 (Or.inl rfl) eσ6 dX4_leave_33 (fun H locs hP hS => ?_)
        refine lv_aload_n (pc := 34) hx hb dX4_leave_34 rfl (lv_at hl 0 rfl) ?_
        refine lv_aload_n (pc := 35) hx hb dX4_leave_35 rfl (lv_at hl 0 rfl) ?_
        refine tl_gM_15 (pc := 36) C hc4 hP lk2 dX4_leave_36 ?_
        refine lv_iload_n (pc := 39) hx hb dX4_leave_39 rfl (lv_at hl 1 rfl) ?_
        obtain ⟨g7, h⟩ := tl_gd h
        refine tl_ald (pc := 40) C hP (tl_a44 g) g7 dX4_leave_40 ?_
        obtain ⟨r8, er8, h⟩ := tl_o1s h
        refine caX4_manyWait (pc := 41) C hts hP hS er8 gX4_leave_X4_manyWait ⟨Nat.le_of_ble_eq_true rfl, Nat.le_of_ble_eq_true rfl⟩ hl.1 (Nat.le_of_ble_eq_true rfl) dX4_leave_41 (fun H locs hP hS => ?_)
        exact tl_Ripw (pc := 44) C h hP hS dX4_leave_44
      · replace h := (if_pos c4).symm.trans h
        refine lv_bipush (pc := 24) (v := (-3)) hx hb dX4_leave_24 (by decide) ?_
        exact tl_Ripw (pc := 26) C h hP hS dX4_leave_26
  · replace h := (if_neg c1).symm.trans h
    refine lv_bipush (pc := 4) (v := (-2)) hx hb dX4_leave_4 (by decide) ?_
    exact tl_Ripw (pc := 6) C h hP hS dX4_leave_6
theorem caX4_leave {p : Program} {l : Launch} {e : Env} {R : Room} {s : State} {m : MethodId} {args : Array Value} {below : List Frame} {meth : Method} {c : Code} {H : Heap} {locs : List Loc} {Q : State → Prop} {cc : ByteArray} {pc : Nat} {ls : Array Slot} {rest : List Value} {g : tl_G} {σ : tl_St} {H0 : Heap} {nL : Nat} {own : String} {ret : Option FieldType} {index : Nat} (C : tl_C p s m meth c cc nL own ret g) {Ts : List Cond} (hts : ∀ w ∈ Ts, w.before args s = true) (hP : va_P g.1 vwCl (tl_W g σ) H) (hS : va_S (tl_A g) H0 H locs) {a1 : Int32} {ro : Int32} {σo : tl_St} (h : fX4_leave σ a1 = some (ro, σo)) (hG : GoodIn Ts (wsV own index RX4 yX4_leave wsX4_leave)) (hR : 1 + 1 ≤ R.frames ∧ 8 + (2 + 11) + 23 ≤ R.locals) (hls : ls.size = nL) (hrm : (rest.map fun v => v.category).sum ≤ 8) (hdg : decode cc pc = .ok (.invokevirtual index, 3)) (kk : ∀ (H1 : Heap) (locs1 : List Loc), va_P g.1 vwCl (tl_W g σo) H1 → va_S (tl_A g) H0 H1 locs1 → W p l e R s m args below meth c H1 locs1 0 0 Q (F0 m (pc + 3) ls (.int ro :: rest))) : W p l e R s m args below meth c H locs 0 0 Q (F0 m pc ls (.int a1 :: .ref (tl_ad g 34) :: rest)) :=
  tl_goi (tl_callV C hts hP (okX4_leave l g C.2.2.2.2.2.2.2 σ a1 ro σo h) rfl rfl rfl (n := 1) (by decide +kernel) rfl (ci := 4) rfl (tl_kM g σ) hG hR hls rfl hrm hdg) hS kk
abbrev rX4_waitsBy : Room := { frames := 0, cells := 0, slots := 0, locals := 0 }
set_option maxHeartbeats 4000000 in
set_option maxRecDepth 100000 in
theorem okX4_waitsBy (l : Launch) (g : tl_G) (hI : tl_I g) (σ : tl_St) (a1 : Int32) (a2 : Int32) (ro : Int32) (h : fX4_waitsBy σ a1 a2 = some ro) : Met l yX4_waitsBy wsX4_waitsBy rX4_waitsBy (va_Pc [.ref (tl_ad g 34), .int a1, .int a2] (tl_Pre g σ)) (tl_Qi g ro σ) 0 0 (tl_A g) := by
  refine tl_enter (cc := cX4_waitsBy) (maxL := 6) (ret := (some .int)) (own := RX4) hI (by decide) rfl rfl (Nat.le_of_ble_eq_true rfl) ?_
  intro p e s m below meth c C hts H locs hP hS ls hl
  have hx := C.1
  have hb := C.2.1
  have hl : lv_has ls 6 [(0, .ref (tl_ad g 34)), (1, .int a1), (2, .int a2)] := hl
  have hc4 : ∀ w ∈ u_ws RX4 TX4 30, w.before [.ref (tl_ad g 34), .int a1, .int a2].toArray s = true := fun w hw => hts w (List.mem_cons_of_mem _ (List.mem_append_right _ hw))
  have lk0 : (Cond.fieldLink RX4 119 "ThriftLockModel" "came" "I").before [.ref (tl_ad g 34), .int a1, .int a2].toArray s = true := hts _ (List.mem_cons_of_mem _ (List.mem_append_left _ (List.mem_of_getElem? (i := 0) rfl)))
  have lk1 : (Cond.fieldLink RX4 40 "ThriftLockModel" "isWaiting" "[Z").before [.ref (tl_ad g 34), .int a1, .int a2].toArray s = true := hts _ (List.mem_cons_of_mem _ (List.mem_append_left _ (List.mem_of_getElem? (i := 1) rfl)))
  have lk2 : (Cond.fieldLink RX4 37 "ThriftLockModel" "wayOf" "[I").before [.ref (tl_ad g 34), .int a1, .int a2].toArray s = true := hts _ (List.mem_cons_of_mem _ (List.mem_append_left _ (List.mem_of_getElem? (i := 2) rfl)))
  unfold fX4_waitsBy at h
  refine lv_iconst (pc := 0) (v := 0) hx hb dX4_waitsBy_0 (by decide) ?_
  refine lv_istore_n (pc := 1) (lv' := [(3, .int 0), (0, .ref (tl_ad g 34)), (1, .int a1), (2, .int a2)]) hx hb dX4_waitsBy_1 rfl hl (by decide) rfl (fun ls hl => ?_)
  refine lv_iconst (pc := 2) (v := (-1)) hx hb dX4_waitsBy_2 (by decide) ?_
  refine lv_istore (pc := 3) (lv' := [(4, .int (-1)), (3, .int 0), (0, .ref (tl_ad g 34)), (1, .int a1), (2, .int a2)]) hx hb dX4_waitsBy_3 hl (by decide) rfl (fun ls hl => ?_)
  refine lv_iconst (pc := 5) (v := 0) hx hb dX4_waitsBy_5 (by decide) ?_
  refine lv_istore (pc := 6) (lv' := [(5, .int 0), (4, .int (-1)), (3, .int 0), (0, .ref (tl_ad g 34)), (1, .int a1), (2, .int a2)]) hx hb dX4_waitsBy_6 hl (by decide) rfl (fun ls hl => ?_)
  obtain ⟨k3, ek3, h⟩ := tl_j2 h
  have hZ3 : ∀ (x1 : Int32) (x2 : Int32) (H : Heap) (locs : List Loc) (ls : Array Slot), k3 x1 x2 = some ro → va_P g.1 vwCl (tl_W g σ) H → va_S (tl_A g) s.heap H locs → lv_has ls 6 [(2, .int a2), (3, .int x1), (4, .int x2)] → W p l e rX4_waitsBy s m [.ref (tl_ad g 34), .int a1, .int a2].toArray below meth c H locs 0 0 (MQ below (tl_Qi g ro σ) [.ref (tl_ad g 34), .int a1, .int a2].toArray s 0 0 (tl_A g)) (F0 m 61 ls []) := by
    intro x1 x2 H locs ls h hP hS hl
    replace h := (ek3 x1 x2).trans h
    refine lv_iload_n (pc := 61) hx hb dX4_waitsBy_61 rfl (lv_at hl 0 rfl) ?_
    refine lv_iconst (pc := 62) (v := (-1)) hx hb dX4_waitsBy_62 (by decide) ?_
    refine lv_icmp_ne (pc := 63) (tgt := 70) hx hb dX4_waitsBy_63 (by decide) (fun c4 => ?_) (fun c4 => ?_)
    · replace h := (if_neg c4).symm.trans h
      refine lv_iload (pc := 70) hx hb dX4_waitsBy_70 (lv_at hl 2 rfl) ?_
      exact tl_Ripr (pc := 72) C h hP hS dX4_waitsBy_72
    · replace h := (if_pos c4).symm.trans h
      refine lv_iload_n (pc := 66) hx hb dX4_waitsBy_66 rfl (lv_at hl 1 rfl) ?_
      refine lv_goto (pc := 67) (tgt := 72) hx hb dX4_waitsBy_67 (by decide) ?_
      exact tl_Ripr (pc := 72) C h hP hS dX4_waitsBy_72
  have hL8 : ∀ (n : Nat) (x5 : Int32) (x6 : Int32) (x7 : Int32) (H : Heap) (locs : List Loc) (ls : Array Slot), fX4_waitsBy_L8 σ a1 a2 k3 n x5 x6 x7 = some ro → va_P g.1 vwCl (tl_W g σ) H → va_S (tl_A g) s.heap H locs → lv_has ls 6 [(0, .ref (tl_ad g 34)), (1, .int a1), (2, .int a2), (3, .int x5), (4, .int x6), (5, .int x7)] → W p l e rX4_waitsBy s m [.ref (tl_ad g 34), .int a1, .int a2].toArray below meth c H locs 0 0 (MQ below (tl_Qi g ro σ) [.ref (tl_ad g 34), .int a1, .int a2].toArray s 0 0 (tl_A g)) (F0 m 8 ls []) := by
    intro n
    induction n with
    | zero =>
      intro x5 x6 x7 H locs ls h hP hS hl
      rw [fX4_waitsBy_L8] at h
      cases h
    | succ n ih =>
      intro x5 x6 x7 H locs ls h hP hS hl
      rw [fX4_waitsBy_L8] at h
      refine lv_iload (pc := 8) hx hb dX4_waitsBy_8 (lv_at hl 5 rfl) ?_
      refine lv_aload_n (pc := 10) hx hb dX4_waitsBy_10 rfl (lv_at hl 0 rfl) ?_
      refine tl_gM_14 (pc := 11) C hc4 hP lk0 dX4_waitsBy_11 ?_
      refine lv_icmp_ge (pc := 14) (tgt := 61) hx hb dX4_waitsBy_14 (by decide) (fun c8 => ?_) (fun c8 => ?_)
      · replace h := (if_pos c8).symm.trans h
        exact hZ3 x5 x6 _ _ _ h hP hS (lv_sub hl [2, 3, 4] rfl)
      · replace h := (if_neg c8).symm.trans h
        refine lv_aload_n (pc := 17) hx hb dX4_waitsBy_17 rfl (lv_at hl 0 rfl) ?_
        refine tl_gM_16 (pc := 18) C hc4 hP lk1 dX4_waitsBy_18 ?_
        refine lv_iload (pc := 21) hx hb dX4_waitsBy_21 (lv_at hl 5 rfl) ?_
        obtain ⟨g9, h⟩ := tl_gd h
        refine tl_zald (pc := 23) C hP g9 dX4_waitsBy_23 ?_
        refine lv_if_eq (pc := 24) (tgt := 55) hx hb dX4_waitsBy_24 (by decide) (fun c10 => ?_) (fun c10 => ?_)
        · replace h := (if_pos c10).symm.trans h
          obtain ⟨x11, ex11, h⟩ := tl_nm h
          refine lv_iinc (pc := 55) (v := x11) (lv' := [(5, .int x11), (0, .ref (tl_ad g 34)), (1, .int a1), (2, .int a2), (3, .int x5), (4, .int x6)]) hx hb dX4_waitsBy_55 hl (k := 5) rfl ex11 (by decide) rfl (fun ls hl => ?_)
          refine lv_goto (pc := 58) (tgt := 8) hx hb dX4_waitsBy_58 (by decide) ?_
          exact ih x5 x6 x11 _ _ _ h hP hS (lv_sub hl [1, 2, 3, 4, 5, 0] rfl)
        · replace h := (if_neg c10).symm.trans h
          refine lv_aload_n (pc := 27) hx hb dX4_waitsBy_27 rfl (lv_at hl 0 rfl) ?_
          refine tl_gM_15 (pc := 28) C hc4 hP lk2 dX4_waitsBy_28 ?_
          refine lv_iload (pc := 31) hx hb dX4_waitsBy_31 (lv_at hl 5 rfl) ?_
          obtain ⟨g12, h⟩ := tl_gd h
          refine tl_ald (pc := 33) C hP (tl_a44 g) g12 dX4_waitsBy_33 ?_
          refine lv_iload_n (pc := 34) hx hb dX4_waitsBy_34 rfl (lv_at hl 1 rfl) ?_
          refine lv_icmp_ne (pc := 35) (tgt := 55) hx hb dX4_waitsBy_35 (by decide) (fun c13 => ?_) (fun c13 => ?_)
          · replace h := (if_neg c13).symm.trans h
            obtain ⟨x14, ex14, h⟩ := tl_nm h
            refine lv_iinc (pc := 55) (v := x14) (lv' := [(5, .int x14), (0, .ref (tl_ad g 34)), (1, .int a1), (2, .int a2), (3, .int x5), (4, .int x6)]) hx hb dX4_waitsBy_55 hl (k := 5) rfl ex14 (by decide) rfl (fun ls hl => ?_)
            refine lv_goto (pc := 58) (tgt := 8) hx hb dX4_waitsBy_58 (by decide) ?_
            exact ih x5 x6 x14 _ _ _ h hP hS (lv_sub hl [1, 2, 3, 4, 5, 0] rfl)
          · replace h := (if_pos c13).symm.trans h
            refine lv_iload_n (pc := 38) hx hb dX4_waitsBy_38 rfl (lv_at hl 3 rfl) ?_
            refine lv_iload_n (pc := 39) hx hb dX4_waitsBy_39 rfl (lv_at hl 2 rfl) ?_
            obtain ⟨k16, ek16, h⟩ := tl_j1 h
            have hJ16 : ∀ (x15 : Int32) (H : Heap) (locs : List Loc) (ls : Array Slot), k16 x15 = some ro → va_P g.1 vwCl (tl_W g σ) H → va_S (tl_A g) s.heap H locs → lv_has ls 6 [(0, .ref (tl_ad g 34)), (1, .int a1), (2, .int a2), (3, .int x5), (5, .int x7)] → W p l e rX4_waitsBy s m [.ref (tl_ad g 34), .int a1, .int a2].toArray below meth c H locs 0 0 (MQ below (tl_Qi g ro σ) [.ref (tl_ad g 34), .int a1, .int a2].toArray s 0 0 (tl_A g)) (F0 m 50 ls [.int x15]) := by
              intro x15 H locs ls h hP hS hl
              replace h := (ek16 x15).trans h
              refine lv_istore (pc := 50) (lv' := [(4, .int x15), (0, .ref (tl_ad g 34)), (1, .int a1), (2, .int a2), (3, .int x5), (5, .int x7)]) hx hb dX4_waitsBy_50 hl (by decide) rfl (fun ls hl => ?_)
              obtain ⟨x17, ex17, h⟩ := tl_nm h
              refine lv_iinc (pc := 52) (v := x17) (lv' := [(3, .int x17), (4, .int x15), (0, .ref (tl_ad g 34)), (1, .int a1), (2, .int a2), (5, .int x7)]) hx hb dX4_waitsBy_52 hl (k := 4) rfl ex17 (by decide) rfl (fun ls hl => ?_)
              obtain ⟨x18, ex18, h⟩ := tl_nm h
              refine lv_iinc (pc := 55) (v := x18) (lv' := [(5, .int x18), (3, .int x17), (4, .int x15), (0, .ref (tl_ad g 34)), (1, .int a1), (2, .int a2)]) hx hb dX4_waitsBy_55 hl (k := 5) rfl ex18 (by decide) rfl (fun ls hl => ?_)
              refine lv_goto (pc := 58) (tgt := 8) hx hb dX4_waitsBy_58 (by decide) ?_
              exact ih x17 x15 x18 _ _ _ h hP hS (lv_sub hl [3, 4, 5, 1, 2, 0] rfl)
            refine lv_icmp_ne (pc := 40) (tgt := 48) hx hb dX4_waitsBy_40 (by decide) (fun c19 => ?_) (fun c19 => ?_)
            · replace h := (if_neg c19).symm.trans h
              refine lv_iload (pc := 48) hx hb dX4_waitsBy_48 (lv_at hl 4 rfl) ?_
              exact hJ16 x6 _ _ _ h hP hS (lv_sub hl [0, 1, 2, 3, 5] rfl)
            · replace h := (if_pos c19).symm.trans h
              refine lv_iload (pc := 43) hx hb dX4_waitsBy_43 (lv_at hl 5 rfl) ?_
              refine lv_goto (pc := 45) (tgt := 50) hx hb dX4_waitsBy_45 (by decide) ?_
              exact hJ16 x7 _ _ _ h hP hS (lv_sub hl [0, 1, 2, 3, 5] rfl)
  exact hL8 1000 0 (-1) 0 _ _ _ h hP hS (lv_sub hl [3, 4, 5, 2, 1, 0] rfl)
theorem caX4_waitsBy {p : Program} {l : Launch} {e : Env} {R : Room} {s : State} {m : MethodId} {args : Array Value} {below : List Frame} {meth : Method} {c : Code} {H : Heap} {locs : List Loc} {Q : State → Prop} {cc : ByteArray} {pc : Nat} {ls : Array Slot} {rest : List Value} {g : tl_G} {σ : tl_St} {H0 : Heap} {nL : Nat} {own : String} {ret : Option FieldType} {index : Nat} (C : tl_C p s m meth c cc nL own ret g) {Ts : List Cond} (hts : ∀ w ∈ Ts, w.before args s = true) (hP : va_P g.1 vwCl (tl_W g σ) H) (hS : va_S (tl_A g) H0 H locs) {a1 : Int32} {a2 : Int32} {ro : Int32} (h : fX4_waitsBy σ a1 a2 = some ro) (hG : GoodIn Ts (wsV own index RX4 yX4_waitsBy wsX4_waitsBy)) (hR : 0 + 1 ≤ R.frames ∧ 8 + (6 + 11) + 0 ≤ R.locals) (hls : ls.size = nL) (hrm : (rest.map fun v => v.category).sum ≤ 8) (hdg : decode cc pc = .ok (.invokevirtual index, 3)) (kk : ∀ (H1 : Heap) (locs1 : List Loc), va_P g.1 vwCl (tl_W g σ) H1 → va_S (tl_A g) H0 H1 locs1 → W p l e R s m args below meth c H1 locs1 0 0 Q (F0 m (pc + 3) ls (.int ro :: rest))) : W p l e R s m args below meth c H locs 0 0 Q (F0 m pc ls (.int a2 :: .int a1 :: .ref (tl_ad g 34) :: rest)) :=
  tl_goi (tl_callV C hts hP (okX4_waitsBy l g C.2.2.2.2.2.2.2 σ a1 a2 ro h) rfl rfl rfl (n := 2) (by decide +kernel) rfl (ci := 4) rfl (tl_kM g σ) hG hR hls rfl hrm hdg) hS kk

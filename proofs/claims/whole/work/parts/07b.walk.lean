abbrev rX2_makeTurn : Room := { frames := 2, cells := 0, slots := 0, locals := 47 }
set_option maxHeartbeats 4000000 in
set_option maxRecDepth 100000 in
theorem okX2_makeTurn (l : Launch) (g : tl_G) (hI : tl_I g) (σ : tl_St) (o : Nat) (ho : tl_isW o) (σo : tl_St) (h : fX2_makeTurn σ o = some σo) : Met l yX2_makeTurn wsX2_makeTurn rX2_makeTurn (va_Pc [.ref (tl_ad g o)] (tl_Pre g σ)) (tl_Qv g σo) 0 0 (tl_A g) := by
  refine tl_enter (cc := cX2_makeTurn) (maxL := 5) (ret := none) (own := RX2) hI (by decide) rfl rfl (Nat.le_of_ble_eq_true rfl) ?_
  intro p e s m below meth c C hts H locs hP hS ls hl
  have hx := C.1
  have hb := C.2.1
  have hl : lv_has ls 5 [(0, .ref (tl_ad g o))] := hl
  have hc2 : ∀ w ∈ u_ws RX2 TX2 14, w.before [.ref (tl_ad g o)].toArray s = true := fun w hw => hts w (List.mem_cons_of_mem _ (List.mem_append_right _ hw))
  have lk0 : (Cond.fieldLink RX2 40 "ThriftLock$Water" "inChamber" "I").before [.ref (tl_ad g o)].toArray s = true := hts _ (List.mem_cons_of_mem _ (List.mem_append_left _ (List.mem_append_left _ (List.mem_of_getElem? (i := 0) rfl))))
  have lk1 : (Cond.fieldLink RX2 37 "ThriftLock$Water" "moved" "[I").before [.ref (tl_ad g o)].toArray s = true := hts _ (List.mem_cons_of_mem _ (List.mem_append_left _ (List.mem_append_left _ (List.mem_of_getElem? (i := 1) rfl))))
  have lk2 : (Cond.fieldLink RX2 62 "ThriftLock$Water" "outside" "I").before [.ref (tl_ad g o)].toArray s = true := hts _ (List.mem_cons_of_mem _ (List.mem_append_left _ (List.mem_append_left _ (List.mem_of_getElem? (i := 2) rfl))))
  have lk3 : (Cond.fieldLink RX2 9 "ThriftLock$Water" "fullAt" "I").before [.ref (tl_ad g o)].toArray s = true := hts _ (List.mem_cons_of_mem _ (List.mem_append_left _ (List.mem_append_left _ (List.mem_of_getElem? (i := 3) rfl))))
  have lk4 : (Cond.fieldLink RX2 34 "ThriftLock$Water" "steps" "[I").before [.ref (tl_ad g o)].toArray s = true := hts _ (List.mem_cons_of_mem _ (List.mem_append_left _ (List.mem_append_left _ (List.mem_of_getElem? (i := 4) rfl))))
  have lk5 : (Cond.fieldLink RX2 31 "ThriftLock$Water" "held" "[I").before [.ref (tl_ad g o)].toArray s = true := hts _ (List.mem_cons_of_mem _ (List.mem_append_left _ (List.mem_append_left _ (List.mem_of_getElem? (i := 5) rfl))))
  unfold fX2_makeTurn at h
  refine lv_aload_n (pc := 0) hx hb dX2_makeTurn_0 rfl (lv_at hl 0 rfl) ?_
  refine tl_gW_1 (pc := 1) C hc2 hP ho lk0 dX2_makeTurn_1 ?_
  obtain ⟨k2, ek2, h⟩ := tl_j1 h
  have hJ2 : ∀ (x1 : Int32) (H : Heap) (locs : List Loc) (ls : Array Slot), k2 x1 = some σo → va_P g.1 vwCl (tl_W g σ) H → va_S (tl_A g) s.heap H locs → lv_has ls 5 [(0, .ref (tl_ad g o))] → W p l e rX2_makeTurn s m [.ref (tl_ad g o)].toArray below meth c H locs 0 0 (MQ below (tl_Qv g σo) [.ref (tl_ad g o)].toArray s 0 0 (tl_A g)) (F0 m 12 ls [.int x1]) := by
    intro x1 H locs ls h hP hS hl
    replace h := (ek2 x1).trans h
    refine lv_istore_n (pc := 12) (lv' := [(1, .int x1), (0, .ref (tl_ad g o))]) hx hb dX2_makeTurn_12 rfl hl (by decide) rfl (fun ls hl => ?_)
    refine lv_iload_n (pc := 13) hx hb dX2_makeTurn_13 rfl (lv_at hl 0 rfl) ?_
    obtain ⟨k4, ek4, h⟩ := tl_j1 h
    have hJ4 : ∀ (x3 : Int32) (H : Heap) (locs : List Loc) (ls : Array Slot), k4 x3 = some σo → va_P g.1 vwCl (tl_W g σ) H → va_S (tl_A g) s.heap H locs → lv_has ls 5 [(0, .ref (tl_ad g o)), (1, .int x1)] → W p l e rX2_makeTurn s m [.ref (tl_ad g o)].toArray below meth c H locs 0 0 (MQ below (tl_Qv g σo) [.ref (tl_ad g o)].toArray s 0 0 (tl_A g)) (F0 m 22 ls [.int x3]) := by
      intro x3 H locs ls h hP hS hl
      replace h := (ek4 x3).trans h
      refine lv_istore_n (pc := 22) (lv' := [(2, .int x3), (0, .ref (tl_ad g o)), (1, .int x1)]) hx hb dX2_makeTurn_22 rfl hl (by decide) rfl (fun ls hl => ?_)
      refine lv_aload_n (pc := 23) hx hb dX2_makeTurn_23 rfl (lv_at hl 1 rfl) ?_
      refine tl_gW_11 (pc := 24) C hc2 hP ho lk1 dX2_makeTurn_24 ?_
      refine lv_iconst (pc := 27) (v := 0) hx hb dX2_makeTurn_27 (by decide) ?_
      obtain ⟨σ5, eσ5, h⟩ := tl_o1s h
      refine caJ7_fill_53178 (pc := 28) C hts hP hS (tl_aW8 ho g) eσ5 gX2_makeTurn_J7_fill_53178 ⟨Nat.le_of_ble_eq_true rfl, Nat.le_of_ble_eq_true rfl⟩ hl.1 (Nat.le_of_ble_eq_true rfl) dX2_makeTurn_28 (fun H locs hP hS => ?_)
      refine lv_aload_n (pc := 31) hx hb dX2_makeTurn_31 rfl (lv_at hl 1 rfl) ?_
      refine lv_iconst (pc := 32) (v := 0) hx hb dX2_makeTurn_32 (by decide) ?_
      obtain ⟨σ6, eσ6, h⟩ := tl_nm h
      refine tl_sW_12 (pc := 33) C hc2 hP hS ho eσ6 lk2 dX2_makeTurn_33 (fun H locs hP hS => ?_)
      refine lv_iconst (pc := 36) (v := 0) hx hb dX2_makeTurn_36 (by decide) ?_
      refine lv_istore_n (pc := 37) (lv' := [(3, .int 0), (2, .int x3), (0, .ref (tl_ad g o)), (1, .int x1)]) hx hb dX2_makeTurn_37 rfl hl (by decide) rfl (fun ls hl => ?_)
      obtain ⟨k8, ek8, h⟩ := tl_j1 h
      have hZ8 : ∀ (σ7 : tl_St) (H : Heap) (locs : List Loc) (ls : Array Slot), k8 σ7 = some σo → va_P g.1 vwCl (tl_W g σ7) H → va_S (tl_A g) s.heap H locs → lv_has ls 5 [(0, .ref (tl_ad g o))] → W p l e rX2_makeTurn s m [.ref (tl_ad g o)].toArray below meth c H locs 0 0 (MQ below (tl_Qv g σo) [.ref (tl_ad g o)].toArray s 0 0 (tl_A g)) (F0 m 142 ls []) := by
        intro σ7 H locs ls h hP hS hl
        replace h := (ek8 σ7).trans h
        refine lv_aload_n (pc := 142) hx hb dX2_makeTurn_142 rfl (lv_at hl 0 rfl) ?_
        obtain ⟨σ9, eσ9, h⟩ := tl_o1s h
        refine caX2_loseByLeaks (pc := 143) C hts hP hS ho eσ9 gX2_makeTurn_X2_loseByLeaks ⟨Nat.le_of_ble_eq_true rfl, Nat.le_of_ble_eq_true rfl⟩ hl.1 (Nat.le_of_ble_eq_true rfl) dX2_makeTurn_143 (fun H locs hP hS => ?_)
        exact tl_Rvpw (pc := 146) C h hP hS dX2_makeTurn_146
      have hL38 : ∀ (n : Nat) (σ10 : tl_St) (x11 : Int32) (H : Heap) (locs : List Loc) (ls : Array Slot), fX2_makeTurn_L38 o x1 x3 k8 n σ10 x11 = some σo → va_P g.1 vwCl (tl_W g σ10) H → va_S (tl_A g) s.heap H locs → lv_has ls 5 [(0, .ref (tl_ad g o)), (1, .int x1), (2, .int x3), (3, .int x11)] → W p l e rX2_makeTurn s m [.ref (tl_ad g o)].toArray below meth c H locs 0 0 (MQ below (tl_Qv g σo) [.ref (tl_ad g o)].toArray s 0 0 (tl_A g)) (F0 m 38 ls []) := by
        intro n
        induction n with
        | zero =>
          intro σ10 x11 H locs ls h hP hS hl
          rw [fX2_makeTurn_L38] at h
          cases h
        | succ n ih =>
          intro σ10 x11 H locs ls h hP hS hl
          rw [fX2_makeTurn_L38] at h
          refine lv_iload_n (pc := 38) hx hb dX2_makeTurn_38 rfl (lv_at hl 3 rfl) ?_
          refine lv_aload_n (pc := 39) hx hb dX2_makeTurn_39 rfl (lv_at hl 0 rfl) ?_
          refine tl_gW_0 (pc := 40) C hc2 hP ho lk3 dX2_makeTurn_40 ?_
          refine lv_icmp_ge (pc := 43) (tgt := 142) hx hb dX2_makeTurn_43 (by decide) (fun c12 => ?_) (fun c12 => ?_)
          · replace h := (if_pos c12).symm.trans h
            exact hZ8 σ10 _ _ _ h hP hS (lv_sub hl [0] rfl)
          · replace h := (if_neg c12).symm.trans h
            refine lv_aload_n (pc := 46) hx hb dX2_makeTurn_46 rfl (lv_at hl 0 rfl) ?_
            refine lv_dup (pc := 47) hx hb dX2_makeTurn_47 rfl ?_
            refine tl_gW_1 (pc := 48) C hc2 hP ho lk0 dX2_makeTurn_48 ?_
            refine lv_iload_n (pc := 51) hx hb dX2_makeTurn_51 rfl (lv_at hl 2 rfl) ?_
            refine lv_iadd (pc := 52) hx hb dX2_makeTurn_52 ?_
            obtain ⟨σ13, eσ13, h⟩ := tl_nm h
            refine tl_sW_1 (pc := 53) C hc2 hP hS ho eσ13 lk0 dX2_makeTurn_53 (fun H locs hP hS => ?_)
            refine lv_iload_n (pc := 56) hx hb dX2_makeTurn_56 rfl (lv_at hl 1 rfl) ?_
            obtain ⟨k15, ek15, h⟩ := tl_j1 h
            have hJ15 : ∀ (x14 : Int32) (H : Heap) (locs : List Loc) (ls : Array Slot), k15 x14 = some σo → va_P g.1 vwCl (tl_W g σ13) H → va_S (tl_A g) s.heap H locs → lv_has ls 5 [(0, .ref (tl_ad g o)), (1, .int x1), (2, .int x3), (3, .int x11)] → W p l e rX2_makeTurn s m [.ref (tl_ad g o)].toArray below meth c H locs 0 0 (MQ below (tl_Qv g σo) [.ref (tl_ad g o)].toArray s 0 0 (tl_A g)) (F0 m 85 ls [.int x14]) := by
              intro x14 H locs ls h hP hS hl
              replace h := (ek15 x14).trans h
              refine lv_istore (pc := 85) (lv' := [(4, .int x14), (0, .ref (tl_ad g o)), (1, .int x1), (2, .int x3), (3, .int x11)]) hx hb dX2_makeTurn_85 hl (by decide) rfl (fun ls hl => ?_)
              refine lv_aload_n (pc := 87) hx hb dX2_makeTurn_87 rfl (lv_at hl 1 rfl) ?_
              refine tl_gW_10 (pc := 88) C hc2 hP ho lk4 dX2_makeTurn_88 ?_
              refine lv_iload_n (pc := 91) hx hb dX2_makeTurn_91 rfl (lv_at hl 4 rfl) ?_
              refine lv_iload (pc := 92) hx hb dX2_makeTurn_92 (lv_at hl 0 rfl) ?_
              obtain ⟨g16, h⟩ := tl_gd h
              obtain ⟨σ17, eσ17, h⟩ := tl_nm h
              refine tl_ast (pc := 94) C hP hS (tl_aW7 ho g) g16 eσ17 dX2_makeTurn_94 (fun H locs hP hS => ?_)
              refine lv_iload (pc := 95) hx hb dX2_makeTurn_95 (lv_at hl 0 rfl) ?_
              refine lv_iconst (pc := 97) (v := (-1)) hx hb dX2_makeTurn_97 (by decide) ?_
              refine lv_icmp_ne (pc := 98) (tgt := 114) hx hb dX2_makeTurn_98 (by decide) (fun c18 => ?_) (fun c18 => ?_)
              · replace h := (if_neg c18).symm.trans h
                refine lv_aload_n (pc := 114) hx hb dX2_makeTurn_114 rfl (lv_at hl 1 rfl) ?_
                refine tl_gW_9 (pc := 115) C hc2 hP ho lk5 dX2_makeTurn_115 ?_
                refine lv_iload (pc := 118) hx hb dX2_makeTurn_118 (lv_at hl 0 rfl) ?_
                refine lv_dup2_11 (pc := 120) hx hb dX2_makeTurn_120 rfl rfl ?_
                obtain ⟨g19, h⟩ := tl_gd h
                refine tl_ald (pc := 121) C hP (tl_aW6 ho g) g19 dX2_makeTurn_121 ?_
                refine lv_iload_n (pc := 122) hx hb dX2_makeTurn_122 rfl (lv_at hl 3 rfl) ?_
                refine lv_isub (pc := 123) hx hb dX2_makeTurn_123 ?_
                obtain ⟨g20, h⟩ := tl_gd h
                obtain ⟨σ21, eσ21, h⟩ := tl_nm h
                refine tl_ast (pc := 124) C hP hS (tl_aW6 ho g) g20 eσ21 dX2_makeTurn_124 (fun H locs hP hS => ?_)
                refine lv_aload_n (pc := 125) hx hb dX2_makeTurn_125 rfl (lv_at hl 1 rfl) ?_
                refine tl_gW_11 (pc := 126) C hc2 hP ho lk1 dX2_makeTurn_126 ?_
                refine lv_iload (pc := 129) hx hb dX2_makeTurn_129 (lv_at hl 0 rfl) ?_
                refine lv_dup2_11 (pc := 131) hx hb dX2_makeTurn_131 rfl rfl ?_
                obtain ⟨g22, h⟩ := tl_gd h
                refine tl_ald (pc := 132) C hP (tl_aW8 ho g) g22 dX2_makeTurn_132 ?_
                refine lv_iconst (pc := 133) (v := 1) hx hb dX2_makeTurn_133 (by decide) ?_
                refine lv_iadd (pc := 134) hx hb dX2_makeTurn_134 ?_
                obtain ⟨g23, h⟩ := tl_gd h
                obtain ⟨σ24, eσ24, h⟩ := tl_nm h
                refine tl_ast (pc := 135) C hP hS (tl_aW8 ho g) g23 eσ24 dX2_makeTurn_135 (fun H locs hP hS => ?_)
                obtain ⟨x25, ex25, h⟩ := tl_nm h
                refine lv_iinc (pc := 136) (v := x25) (lv' := [(3, .int x25), (4, .int x14), (0, .ref (tl_ad g o)), (1, .int x1), (2, .int x3)]) hx hb dX2_makeTurn_136 hl (k := 4) rfl ex25 (by decide) rfl (fun ls hl => ?_)
                refine lv_goto (pc := 139) (tgt := 38) hx hb dX2_makeTurn_139 (by decide) ?_
                exact ih σ24 x25 _ _ _ h hP hS (lv_sub hl [2, 3, 4, 0] rfl)
              · replace h := (if_pos c18).symm.trans h
                refine lv_aload_n (pc := 101) hx hb dX2_makeTurn_101 rfl (lv_at hl 1 rfl) ?_
                refine lv_dup (pc := 102) hx hb dX2_makeTurn_102 rfl ?_
                refine tl_gW_12 (pc := 103) C hc2 hP ho lk2 dX2_makeTurn_103 ?_
                refine lv_iconst (pc := 106) (v := 1) hx hb dX2_makeTurn_106 (by decide) ?_
                refine lv_iadd (pc := 107) hx hb dX2_makeTurn_107 ?_
                obtain ⟨σ26, eσ26, h⟩ := tl_nm h
                refine tl_sW_12 (pc := 108) C hc2 hP hS ho eσ26 lk2 dX2_makeTurn_108 (fun H locs hP hS => ?_)
                refine lv_goto (pc := 111) (tgt := 136) hx hb dX2_makeTurn_111 (by decide) ?_
                obtain ⟨x27, ex27, h⟩ := tl_nm h
                refine lv_iinc (pc := 136) (v := x27) (lv' := [(3, .int x27), (4, .int x14), (0, .ref (tl_ad g o)), (1, .int x1), (2, .int x3)]) hx hb dX2_makeTurn_136 hl (k := 4) rfl ex27 (by decide) rfl (fun ls hl => ?_)
                refine lv_goto (pc := 139) (tgt := 38) hx hb dX2_makeTurn_139 (by decide) ?_
                exact ih σ26 x27 _ _ _ h hP hS (lv_sub hl [2, 3, 4, 0] rfl)
            refine lv_if_eq (pc := 57) (tgt := 74) hx hb dX2_makeTurn_57 (by decide) (fun c28 => ?_) (fun c28 => ?_)
            · replace h := (if_pos c28).symm.trans h
              refine lv_aload_n (pc := 74) hx hb dX2_makeTurn_74 rfl (lv_at hl 0 rfl) ?_
              refine lv_bipush (pc := 75) (v := 6) hx hb dX2_makeTurn_75 (by decide) ?_
              refine lv_aload_n (pc := 77) hx hb dX2_makeTurn_77 rfl (lv_at hl 0 rfl) ?_
              refine tl_gW_1 (pc := 78) C hc2 hP ho lk0 dX2_makeTurn_78 ?_
              refine lv_imul (pc := 81) hx hb dX2_makeTurn_81 ?_
              obtain ⟨r29, er29, h⟩ := tl_o1s h
              refine caX2_basinToTake (pc := 82) C hts hP hS ho er29 gX2_makeTurn_X2_basinToTake ⟨Nat.le_of_ble_eq_true rfl, Nat.le_of_ble_eq_true rfl⟩ hl.1 (Nat.le_of_ble_eq_true rfl) dX2_makeTurn_82 (fun H locs hP hS => ?_)
              exact hJ15 r29 _ _ _ h hP hS (lv_sub hl [0, 1, 2, 3] rfl)
            · replace h := (if_neg c28).symm.trans h
              refine lv_aload_n (pc := 60) hx hb dX2_makeTurn_60 rfl (lv_at hl 0 rfl) ?_
              refine lv_bipush (pc := 61) (v := 6) hx hb dX2_makeTurn_61 (by decide) ?_
              refine lv_aload_n (pc := 63) hx hb dX2_makeTurn_63 rfl (lv_at hl 0 rfl) ?_
              refine tl_gW_1 (pc := 64) C hc2 hP ho lk0 dX2_makeTurn_64 ?_
              refine lv_imul (pc := 67) hx hb dX2_makeTurn_67 ?_
              obtain ⟨r30, er30, h⟩ := tl_o1s h
              refine caX2_basinToGive (pc := 68) C hts hP hS ho er30 gX2_makeTurn_X2_basinToGive ⟨Nat.le_of_ble_eq_true rfl, Nat.le_of_ble_eq_true rfl⟩ hl.1 (Nat.le_of_ble_eq_true rfl) dX2_makeTurn_68 (fun H locs hP hS => ?_)
              refine lv_goto (pc := 71) (tgt := 85) hx hb dX2_makeTurn_71 (by decide) ?_
              exact hJ15 r30 _ _ _ h hP hS (lv_sub hl [0, 1, 2, 3] rfl)
      exact hL38 1000 σ6 0 _ _ _ h hP hS (lv_sub hl [2, 3, 1, 0] rfl)
    refine lv_if_eq (pc := 14) (tgt := 21) hx hb dX2_makeTurn_14 (by decide) (fun c31 => ?_) (fun c31 => ?_)
    · replace h := (if_pos c31).symm.trans h
      refine lv_iconst (pc := 21) (v := (-1)) hx hb dX2_makeTurn_21 (by decide) ?_
      exact hJ4 (-1) _ _ _ h hP hS (lv_sub hl [1, 0] rfl)
    · replace h := (if_neg c31).symm.trans h
      refine lv_iconst (pc := 17) (v := 1) hx hb dX2_makeTurn_17 (by decide) ?_
      refine lv_goto (pc := 18) (tgt := 22) hx hb dX2_makeTurn_18 (by decide) ?_
      exact hJ4 1 _ _ _ h hP hS (lv_sub hl [1, 0] rfl)
  refine lv_if_ne (pc := 4) (tgt := 11) hx hb dX2_makeTurn_4 (by decide) (fun c32 => ?_) (fun c32 => ?_)
  · replace h := (if_neg c32).symm.trans h
    refine lv_iconst (pc := 11) (v := 0) hx hb dX2_makeTurn_11 (by decide) ?_
    exact hJ2 0 _ _ _ h hP hS (lv_sub hl [0] rfl)
  · replace h := (if_pos c32).symm.trans h
    refine lv_iconst (pc := 7) (v := 1) hx hb dX2_makeTurn_7 (by decide) ?_
    refine lv_goto (pc := 8) (tgt := 12) hx hb dX2_makeTurn_8 (by decide) ?_
    exact hJ2 1 _ _ _ h hP hS (lv_sub hl [0] rfl)
theorem caX2_makeTurn {p : Program} {l : Launch} {e : Env} {R : Room} {s : State} {m : MethodId} {args : Array Value} {below : List Frame} {meth : Method} {c : Code} {H : Heap} {locs : List Loc} {Q : State → Prop} {cc : ByteArray} {pc : Nat} {ls : Array Slot} {rest : List Value} {g : tl_G} {σ : tl_St} {H0 : Heap} {nL : Nat} {own : String} {ret : Option FieldType} {index : Nat} (C : tl_C p s m meth c cc nL own ret g) {Ts : List Cond} (hts : ∀ w ∈ Ts, w.before args s = true) (hP : va_P g.1 vwCl (tl_W g σ) H) (hS : va_S (tl_A g) H0 H locs) {o : Nat} (ho : tl_isW o) {σo : tl_St} (h : fX2_makeTurn σ o = some σo) (hG : GoodIn Ts (wsV own index RX2 yX2_makeTurn wsX2_makeTurn)) (hR : 2 + 1 ≤ R.frames ∧ 8 + (5 + 11) + 47 ≤ R.locals) (hls : ls.size = nL) (hrm : (rest.map fun v => v.category).sum ≤ 8) (hdg : decode cc pc = .ok (.invokevirtual index, 3)) (kk : ∀ (H1 : Heap) (locs1 : List Loc), va_P g.1 vwCl (tl_W g σo) H1 → va_S (tl_A g) H0 H1 locs1 → W p l e R s m args below meth c H1 locs1 0 0 Q (F0 m (pc + 3) ls (rest))) : W p l e R s m args below meth c H locs 0 0 Q (F0 m pc ls (.ref (tl_ad g o) :: rest)) :=
  tl_gov (tl_callV C hts hP (okX2_makeTurn l g C.2.2.2.2.2.2.2 σ o ho σo h) rfl rfl rfl (n := 0) (by decide +kernel) rfl (ci := 2) rfl (tl_kW ho g σ) hG hR hls rfl hrm hdg) hS kk
abbrev rX2_drawnBy : Room := { frames := 3, cells := 0, slots := 0, locals := 71 }
set_option maxHeartbeats 4000000 in
set_option maxRecDepth 100000 in
theorem okX2_drawnBy (l : Launch) (g : tl_G) (hI : tl_I g) (σ : tl_St) (o : Nat) (a1 : Int32) (a2 : Int32) (ho : tl_isW o) (ro : Int32) (σo : tl_St) (h : fX2_drawnBy σ o a1 a2 = some (ro, σo)) : Met l yX2_drawnBy wsX2_drawnBy rX2_drawnBy (va_Pc [.ref (tl_ad g o), .int a1, .int a2] (tl_Pre g σ)) (tl_Qi g ro σo) 0 0 (tl_A g) := by
  refine tl_enter (cc := cX2_drawnBy) (maxL := 6) (ret := (some .int)) (own := RX2) hI (by decide) rfl rfl (Nat.le_of_ble_eq_true rfl) ?_
  intro p e s m below meth c C hts H locs hP hS ls hl
  have hx := C.1
  have hb := C.2.1
  have hl : lv_has ls 6 [(0, .ref (tl_ad g o)), (1, .int a1), (2, .int a2)] := hl
  have hc2 : ∀ w ∈ u_ws RX2 TX2 14, w.before [.ref (tl_ad g o), .int a1, .int a2].toArray s = true := fun w hw => hts w (List.mem_cons_of_mem _ (List.mem_append_right _ hw))
  have lk0 : (Cond.fieldLink RX2 40 "ThriftLock$Water" "inChamber" "I").before [.ref (tl_ad g o), .int a1, .int a2].toArray s = true := hts _ (List.mem_cons_of_mem _ (List.mem_append_left _ (List.mem_append_left _ (List.mem_of_getElem? (i := 0) rfl))))
  have lk1 : (Cond.fieldLink RX2 62 "ThriftLock$Water" "outside" "I").before [.ref (tl_ad g o), .int a1, .int a2].toArray s = true := hts _ (List.mem_cons_of_mem _ (List.mem_append_left _ (List.mem_append_left _ (List.mem_of_getElem? (i := 1) rfl))))
  unfold fX2_drawnBy at h
  refine lv_iconst (pc := 0) (v := 0) hx hb dX2_drawnBy_0 (by decide) ?_
  refine lv_istore_n (pc := 1) (lv' := [(3, .int 0), (0, .ref (tl_ad g o)), (1, .int a1), (2, .int a2)]) hx hb dX2_drawnBy_1 rfl hl (by decide) rfl (fun ls hl => ?_)
  refine lv_iconst (pc := 2) (v := 0) hx hb dX2_drawnBy_2 (by decide) ?_
  refine lv_istore (pc := 3) (lv' := [(4, .int 0), (3, .int 0), (0, .ref (tl_ad g o)), (1, .int a1), (2, .int a2)]) hx hb dX2_drawnBy_3 hl (by decide) rfl (fun ls hl => ?_)
  obtain ⟨k3, ek3, h⟩ := tl_j2 h
  have hZ3 : ∀ (σ1 : tl_St) (x2 : Int32) (H : Heap) (locs : List Loc) (ls : Array Slot), k3 σ1 x2 = some (ro, σo) → va_P g.1 vwCl (tl_W g σ1) H → va_S (tl_A g) s.heap H locs → lv_has ls 6 [(3, .int x2)] → W p l e rX2_drawnBy s m [.ref (tl_ad g o), .int a1, .int a2].toArray below meth c H locs 0 0 (MQ below (tl_Qi g ro σo) [.ref (tl_ad g o), .int a1, .int a2].toArray s 0 0 (tl_A g)) (F0 m 52 ls []) := by
    intro σ1 x2 H locs ls h hP hS hl
    replace h := (ek3 σ1 x2).trans h
    refine lv_iload_n (pc := 52) hx hb dX2_drawnBy_52 rfl (lv_at hl 0 rfl) ?_
    exact tl_Ripw (pc := 53) C h hP hS dX2_drawnBy_53
  have hL5 : ∀ (n : Nat) (σ4 : tl_St) (x5 : Int32) (x6 : Int32) (H : Heap) (locs : List Loc) (ls : Array Slot), fX2_drawnBy_L5 o a1 a2 k3 n σ4 x5 x6 = some (ro, σo) → va_P g.1 vwCl (tl_W g σ4) H → va_S (tl_A g) s.heap H locs → lv_has ls 6 [(0, .ref (tl_ad g o)), (1, .int a1), (2, .int a2), (3, .int x5), (4, .int x6)] → W p l e rX2_drawnBy s m [.ref (tl_ad g o), .int a1, .int a2].toArray below meth c H locs 0 0 (MQ below (tl_Qi g ro σo) [.ref (tl_ad g o), .int a1, .int a2].toArray s 0 0 (tl_A g)) (F0 m 5 ls []) := by
    intro n
    induction n with
    | zero =>
      intro σ4 x5 x6 H locs ls h hP hS hl
      rw [fX2_drawnBy_L5] at h
      cases h
    | succ n ih =>
      intro σ4 x5 x6 H locs ls h hP hS hl
      rw [fX2_drawnBy_L5] at h
      refine lv_iload (pc := 5) hx hb dX2_drawnBy_5 (lv_at hl 4 rfl) ?_
      refine lv_iload_n (pc := 7) hx hb dX2_drawnBy_7 rfl (lv_at hl 1 rfl) ?_
      refine lv_icmp_ge (pc := 8) (tgt := 52) hx hb dX2_drawnBy_8 (by decide) (fun c7 => ?_) (fun c7 => ?_)
      · replace h := (if_pos c7).symm.trans h
        exact hZ3 σ4 x5 _ _ _ h hP hS (lv_sub hl [3] rfl)
      · replace h := (if_neg c7).symm.trans h
        refine lv_iload_n (pc := 11) hx hb dX2_drawnBy_11 rfl (lv_at hl 3 rfl) ?_
        refine lv_iload_n (pc := 12) hx hb dX2_drawnBy_12 rfl (lv_at hl 2 rfl) ?_
        refine lv_icmp_ge (pc := 13) (tgt := 52) hx hb dX2_drawnBy_13 (by decide) (fun c8 => ?_) (fun c8 => ?_)
        · replace h := (if_pos c8).symm.trans h
          exact hZ3 σ4 x5 _ _ _ h hP hS (lv_sub hl [3] rfl)
        · replace h := (if_neg c8).symm.trans h
          refine lv_aload_n (pc := 16) hx hb dX2_drawnBy_16 rfl (lv_at hl 0 rfl) ?_
          refine tl_gW_1 (pc := 17) C hc2 hP ho lk0 dX2_drawnBy_17 ?_
          obtain ⟨k10, ek10, h⟩ := tl_j1 h
          have hJ10 : ∀ (x9 : Int32) (H : Heap) (locs : List Loc) (ls : Array Slot), k10 x9 = some (ro, σo) → va_P g.1 vwCl (tl_W g σ4) H → va_S (tl_A g) s.heap H locs → lv_has ls 6 [(0, .ref (tl_ad g o)), (1, .int a1), (2, .int a2), (3, .int x5), (4, .int x6)] → W p l e rX2_drawnBy s m [.ref (tl_ad g o), .int a1, .int a2].toArray below meth c H locs 0 0 (MQ below (tl_Qi g ro σo) [.ref (tl_ad g o), .int a1, .int a2].toArray s 0 0 (tl_A g)) (F0 m 28 ls [.int x9]) := by
            intro x9 H locs ls h hP hS hl
            replace h := (ek10 x9).trans h
            refine lv_istore (pc := 28) (lv' := [(5, .int x9), (0, .ref (tl_ad g o)), (1, .int a1), (2, .int a2), (3, .int x5), (4, .int x6)]) hx hb dX2_drawnBy_28 hl (by decide) rfl (fun ls hl => ?_)
            refine lv_aload_n (pc := 30) hx hb dX2_drawnBy_30 rfl (lv_at hl 1 rfl) ?_
            obtain ⟨σ11, eσ11, h⟩ := tl_o1s h
            refine caX2_makeTurn (pc := 31) C hts hP hS ho eσ11 gX2_drawnBy_X2_makeTurn ⟨Nat.le_of_ble_eq_true rfl, Nat.le_of_ble_eq_true rfl⟩ hl.1 (Nat.le_of_ble_eq_true rfl) dX2_drawnBy_31 (fun H locs hP hS => ?_)
            refine lv_iload (pc := 34) hx hb dX2_drawnBy_34 (lv_at hl 0 rfl) ?_
            refine lv_if_eq (pc := 36) (tgt := 46) hx hb dX2_drawnBy_36 (by decide) (fun c12 => ?_) (fun c12 => ?_)
            · replace h := (if_pos c12).symm.trans h
              obtain ⟨x13, ex13, h⟩ := tl_nm h
              refine lv_iinc (pc := 46) (v := x13) (lv' := [(4, .int x13), (5, .int x9), (0, .ref (tl_ad g o)), (1, .int a1), (2, .int a2), (3, .int x5)]) hx hb dX2_drawnBy_46 hl (k := 5) rfl ex13 (by decide) rfl (fun ls hl => ?_)
              refine lv_goto (pc := 49) (tgt := 5) hx hb dX2_drawnBy_49 (by decide) ?_
              exact ih σ11 x5 x13 _ _ _ h hP hS (lv_sub hl [2, 3, 4, 5, 0] rfl)
            · replace h := (if_neg c12).symm.trans h
              refine lv_iload_n (pc := 39) hx hb dX2_drawnBy_39 rfl (lv_at hl 4 rfl) ?_
              refine lv_aload_n (pc := 40) hx hb dX2_drawnBy_40 rfl (lv_at hl 1 rfl) ?_
              refine tl_gW_12 (pc := 41) C hc2 hP ho lk1 dX2_drawnBy_41 ?_
              refine lv_iadd (pc := 44) hx hb dX2_drawnBy_44 ?_
              obtain ⟨x14, ex14, h⟩ := tl_nm h
              refine tl_ti ex14 ?_
              refine lv_istore_n (pc := 45) (lv' := [(3, .int x14), (5, .int x9), (0, .ref (tl_ad g o)), (1, .int a1), (2, .int a2), (4, .int x6)]) hx hb dX2_drawnBy_45 rfl hl (by decide) rfl (fun ls hl => ?_)
              obtain ⟨x15, ex15, h⟩ := tl_nm h
              refine lv_iinc (pc := 46) (v := x15) (lv' := [(4, .int x15), (3, .int x14), (5, .int x9), (0, .ref (tl_ad g o)), (1, .int a1), (2, .int a2)]) hx hb dX2_drawnBy_46 hl (k := 5) rfl ex15 (by decide) rfl (fun ls hl => ?_)
              refine lv_goto (pc := 49) (tgt := 5) hx hb dX2_drawnBy_49 (by decide) ?_
              exact ih σ11 x14 x15 _ _ _ h hP hS (lv_sub hl [3, 4, 5, 1, 0] rfl)
          refine lv_if_ne (pc := 20) (tgt := 27) hx hb dX2_drawnBy_20 (by decide) (fun c16 => ?_) (fun c16 => ?_)
          · replace h := (if_neg c16).symm.trans h
            refine lv_iconst (pc := 27) (v := 0) hx hb dX2_drawnBy_27 (by decide) ?_
            exact hJ10 0 _ _ _ h hP hS (lv_sub hl [0, 1, 2, 3, 4] rfl)
          · replace h := (if_pos c16).symm.trans h
            refine lv_iconst (pc := 23) (v := 1) hx hb dX2_drawnBy_23 (by decide) ?_
            refine lv_goto (pc := 24) (tgt := 28) hx hb dX2_drawnBy_24 (by decide) ?_
            exact hJ10 1 _ _ _ h hP hS (lv_sub hl [0, 1, 2, 3, 4] rfl)
  exact hL5 1000 σ 0 0 _ _ _ h hP hS (lv_sub hl [2, 3, 4, 1, 0] rfl)
theorem caX2_drawnBy {p : Program} {l : Launch} {e : Env} {R : Room} {s : State} {m : MethodId} {args : Array Value} {below : List Frame} {meth : Method} {c : Code} {H : Heap} {locs : List Loc} {Q : State → Prop} {cc : ByteArray} {pc : Nat} {ls : Array Slot} {rest : List Value} {g : tl_G} {σ : tl_St} {H0 : Heap} {nL : Nat} {own : String} {ret : Option FieldType} {index : Nat} (C : tl_C p s m meth c cc nL own ret g) {Ts : List Cond} (hts : ∀ w ∈ Ts, w.before args s = true) (hP : va_P g.1 vwCl (tl_W g σ) H) (hS : va_S (tl_A g) H0 H locs) {o : Nat} {a1 : Int32} {a2 : Int32} (ho : tl_isW o) {ro : Int32} {σo : tl_St} (h : fX2_drawnBy σ o a1 a2 = some (ro, σo)) (hG : GoodIn Ts (wsV own index RX2 yX2_drawnBy wsX2_drawnBy)) (hR : 3 + 1 ≤ R.frames ∧ 8 + (6 + 11) + 71 ≤ R.locals) (hls : ls.size = nL) (hrm : (rest.map fun v => v.category).sum ≤ 8) (hdg : decode cc pc = .ok (.invokevirtual index, 3)) (kk : ∀ (H1 : Heap) (locs1 : List Loc), va_P g.1 vwCl (tl_W g σo) H1 → va_S (tl_A g) H0 H1 locs1 → W p l e R s m args below meth c H1 locs1 0 0 Q (F0 m (pc + 3) ls (.int ro :: rest))) : W p l e R s m args below meth c H locs 0 0 Q (F0 m pc ls (.int a2 :: .int a1 :: .ref (tl_ad g o) :: rest)) :=
  tl_goi (tl_callV C hts hP (okX2_drawnBy l g C.2.2.2.2.2.2.2 σ o a1 a2 ho ro σo h) rfl rfl rfl (n := 2) (by decide +kernel) rfl (ci := 2) rfl (tl_kW ho g σ) hG hR hls rfl hrm hdg) hS kk
abbrev rX3_head : Room := { frames := 0, cells := 0, slots := 0, locals := 0 }
set_option maxHeartbeats 4000000 in
set_option maxRecDepth 100000 in
theorem okX3_head (l : Launch) (g : tl_G) (hI : tl_I g) (σ : tl_St) (a1 : Int32) (ro : Int32) (σo : tl_St) (h : fX3_head σ a1 = (ro, σo)) : Met l yX3_head wsX3_head rX3_head (va_Pc [.ref (tl_ad g 0), .int a1] (tl_Pre g σ)) (tl_Qi g ro σo) 0 0 (tl_A g) := by
  refine tl_enter (cc := cX3_head) (maxL := 3) (ret := (some .int)) (own := RX3) hI (by decide) rfl rfl (Nat.le_of_ble_eq_true rfl) ?_
  intro p e s m below meth c C hts H locs hP hS ls hl
  have hx := C.1
  have hb := C.2.1
  have hl : lv_has ls 3 [(0, .ref (tl_ad g 0)), (1, .int a1)] := hl
  have hc2 : ∀ w ∈ u_ws RX2 TX2 14, w.before [.ref (tl_ad g 0), .int a1].toArray s = true := fun w hw => hts w (List.mem_cons_of_mem _ (List.mem_append_right _ hw))
  have hc3 : ∀ w ∈ u_ws RX3 TX3 13, w.before [.ref (tl_ad g 0), .int a1].toArray s = true := fun w hw => hts w (List.mem_cons_of_mem _ (List.mem_append_left _ (List.mem_append_right _ hw)))
  have lk0 : (Cond.fieldLink RX3 10 "ThriftLock" "water" "LThriftLock$Water;").before [.ref (tl_ad g 0), .int a1].toArray s = true := hts _ (List.mem_cons_of_mem _ (List.mem_append_left _ (List.mem_append_left _ (List.mem_of_getElem? (i := 0) rfl))))
  have lk1 : (Cond.fieldLink RX3 37 "ThriftLock$Water" "inChamber" "I").before [.ref (tl_ad g 0), .int a1].toArray s = true := hts _ (List.mem_cons_of_mem _ (List.mem_append_left _ (List.mem_append_left _ (List.mem_of_getElem? (i := 1) rfl))))
  have lk2 : (Cond.fieldLink RX3 41 "ThriftLock$Water" "fullAt" "I").before [.ref (tl_ad g 0), .int a1].toArray s = true := hts _ (List.mem_cons_of_mem _ (List.mem_append_left _ (List.mem_append_left _ (List.mem_of_getElem? (i := 2) rfl))))
  unfold fX3_head at h
  refine lv_iload_n (pc := 0) hx hb dX3_head_0 rfl (lv_at hl 1 rfl) ?_
  refine lv_iconst (pc := 1) (v := 1) hx hb dX3_head_1 (by decide) ?_
  refine lv_icmp_lt (pc := 2) (tgt := 11) hx hb dX3_head_2 (by decide) (fun c1 => ?_) (fun c1 => ?_)
  · replace h := (if_pos c1).symm.trans h
    refine lv_bipush (pc := 11) (v := (-2)) hx hb dX3_head_11 (by decide) ?_
    exact tl_Ritw (pc := 13) C h hP hS dX3_head_13
  · replace h := (if_neg c1).symm.trans h
    refine lv_iload_n (pc := 5) hx hb dX3_head_5 rfl (lv_at hl 1 rfl) ?_
    refine lv_bipush (pc := 6) (v := 60) hx hb dX3_head_6 (by decide) ?_
    refine lv_icmp_le (pc := 8) (tgt := 14) hx hb dX3_head_8 (by decide) (fun c2 => ?_) (fun c2 => ?_)
    · replace h := (if_pos c2).symm.trans h
      refine lv_aload_n (pc := 14) hx hb dX3_head_14 rfl (lv_at hl 0 rfl) ?_
      refine tl_g0_0 (pc := 15) C hc3 hP lk0 dX3_head_15 ?_
      refine tl_gW_1 (pc := 18) C hc2 hP tl_W1 lk1 dX3_head_18 ?_
      refine lv_if_eq (pc := 21) (tgt := 27) hx hb dX3_head_21 (by decide) (fun c3 => ?_) (fun c3 => ?_)
      · replace h := (if_pos c3).symm.trans h
        refine lv_aload_n (pc := 27) hx hb dX3_head_27 rfl (lv_at hl 0 rfl) ?_
        refine tl_g0_0 (pc := 28) C hc3 hP lk0 dX3_head_28 ?_
        refine tl_gW_0 (pc := 31) C hc2 hP tl_W1 lk2 dX3_head_31 ?_
        obtain ⟨x4, ex4, h⟩ := tl_nm h
        refine tl_ti ex4 ?_
        refine lv_istore_n (pc := 34) (lv' := [(2, .int x4), (0, .ref (tl_ad g 0)), (1, .int a1)]) hx hb dX3_head_34 rfl hl (by decide) rfl (fun ls hl => ?_)
        refine lv_aload_n (pc := 35) hx hb dX3_head_35 rfl (lv_at hl 1 rfl) ?_
        refine tl_g0_0 (pc := 36) C hc3 hP lk0 dX3_head_36 ?_
        refine lv_iload_n (pc := 39) hx hb dX3_head_39 rfl (lv_at hl 2 rfl) ?_
        obtain ⟨σ5, eσ5, h⟩ := tl_nm h
        refine tl_sW_0 (pc := 40) C hc2 hP hS tl_W1 eσ5 lk2 dX3_head_40 (fun H locs hP hS => ?_)
        refine lv_iload_n (pc := 43) hx hb dX3_head_43 rfl (lv_at hl 0 rfl) ?_
        exact tl_Ritw (pc := 44) C h hP hS dX3_head_44
      · replace h := (if_neg c3).symm.trans h
        refine lv_bipush (pc := 24) (v := (-3)) hx hb dX3_head_24 (by decide) ?_
        exact tl_Ritw (pc := 26) C h hP hS dX3_head_26
    · replace h := (if_neg c2).symm.trans h
      refine lv_bipush (pc := 11) (v := (-2)) hx hb dX3_head_11 (by decide) ?_
      exact tl_Ritw (pc := 13) C h hP hS dX3_head_13
theorem caX3_head {p : Program} {l : Launch} {e : Env} {R : Room} {s : State} {m : MethodId} {args : Array Value} {below : List Frame} {meth : Method} {c : Code} {H : Heap} {locs : List Loc} {Q : State → Prop} {cc : ByteArray} {pc : Nat} {ls : Array Slot} {rest : List Value} {g : tl_G} {σ : tl_St} {H0 : Heap} {nL : Nat} {own : String} {ret : Option FieldType} {index : Nat} (C : tl_C p s m meth c cc nL own ret g) {Ts : List Cond} (hts : ∀ w ∈ Ts, w.before args s = true) (hP : va_P g.1 vwCl (tl_W g σ) H) (hS : va_S (tl_A g) H0 H locs) {a1 : Int32} {ro : Int32} {σo : tl_St} (h : fX3_head σ a1 = (ro, σo)) (hG : GoodIn Ts (wsV own index RX3 yX3_head wsX3_head)) (hR : 0 + 1 ≤ R.frames ∧ 8 + (3 + 11) + 0 ≤ R.locals) (hls : ls.size = nL) (hrm : (rest.map fun v => v.category).sum ≤ 8) (hdg : decode cc pc = .ok (.invokevirtual index, 3)) (kk : ∀ (H1 : Heap) (locs1 : List Loc), va_P g.1 vwCl (tl_W g σo) H1 → va_S (tl_A g) H0 H1 locs1 → W p l e R s m args below meth c H1 locs1 0 0 Q (F0 m (pc + 3) ls (.int ro :: rest))) : W p l e R s m args below meth c H locs 0 0 Q (F0 m pc ls (.int a1 :: .ref (tl_ad g 0) :: rest)) :=
  tl_goi (tl_callV C hts hP (okX3_head l g C.2.2.2.2.2.2.2 σ a1 ro σo h) rfl rfl rfl (n := 1) (by decide +kernel) rfl (ci := 3) rfl (tl_k0 g σ) hG hR hls rfl hrm hdg) hS kk
abbrev rX3_mayBeBasin : Room := { frames := 0, cells := 0, slots := 0, locals := 0 }
set_option maxHeartbeats 4000000 in
set_option maxRecDepth 100000 in
theorem okX3_mayBeBasin (l : Launch) (g : tl_G) (hI : tl_I g) (σ : tl_St) (a1 : Int32) (a2 : Int32) (a3 : Int32) (ro : Int32) (h : fX3_mayBeBasin σ a1 a2 a3 = ro) : Met l yX3_mayBeBasin wsX3_mayBeBasin rX3_mayBeBasin (va_Pc [.int a1, .int a2, .int a3] (tl_Pre g σ)) (tl_Qi g ro σ) 0 0 (tl_A g) := by
  refine tl_enter (cc := cX3_mayBeBasin) (maxL := 3) (ret := (some .boolean)) (own := RX3) hI (by decide) rfl rfl (Nat.le_of_ble_eq_true rfl) ?_
  intro p e s m below meth c C hts H locs hP hS ls hl
  have hx := C.1
  have hb := C.2.1
  have hl : lv_has ls 3 [(0, .int a1), (1, .int a2), (2, .int a3)] := hl
  unfold fX3_mayBeBasin at h
  refine lv_iload_n (pc := 0) hx hb dX3_mayBeBasin_0 rfl (lv_at hl 0 rfl) ?_
  obtain ⟨k1, ek1, h⟩ := tl_j0 h
  have hJ1 : ∀ (H : Heap) (locs : List Loc) (ls : Array Slot), k1 = ro → va_P g.1 vwCl (tl_W g σ) H → va_S (tl_A g) s.heap H locs → lv_has ls 3 [] → W p l e rX3_mayBeBasin s m [.int a1, .int a2, .int a3].toArray below meth c H locs 0 0 (MQ below (tl_Qi g ro σ) [.int a1, .int a2, .int a3].toArray s 0 0 (tl_A g)) (F0 m 35 ls []) := by
    intro H locs ls h hP hS hl
    replace h := ek1.trans h
    refine lv_iconst (pc := 35) (v := 0) hx hb dX3_mayBeBasin_35 (by decide) ?_
    exact tl_Rztr (pc := 36) C h hP hS (Or.inl rfl) dX3_mayBeBasin_36
  refine lv_if_lt (pc := 1) (tgt := 35) hx hb dX3_mayBeBasin_1 (by decide) (fun c2 => ?_) (fun c2 => ?_)
  · replace h := (if_pos c2).symm.trans h
    exact hJ1 _ _ _ h hP hS (lv_sub hl [] rfl)
  · replace h := (if_neg c2).symm.trans h
    refine lv_iload_n (pc := 4) hx hb dX3_mayBeBasin_4 rfl (lv_at hl 0 rfl) ?_
    refine lv_bipush (pc := 5) (v := 60) hx hb dX3_mayBeBasin_5 (by decide) ?_
    refine lv_icmp_ge (pc := 7) (tgt := 35) hx hb dX3_mayBeBasin_7 (by decide) (fun c3 => ?_) (fun c3 => ?_)
    · replace h := (if_pos c3).symm.trans h
      exact hJ1 _ _ _ h hP hS (lv_sub hl [] rfl)
    · replace h := (if_neg c3).symm.trans h
      refine lv_iload_n (pc := 10) hx hb dX3_mayBeBasin_10 rfl (lv_at hl 1 rfl) ?_
      refine lv_iconst (pc := 11) (v := 1) hx hb dX3_mayBeBasin_11 (by decide) ?_
      refine lv_icmp_lt (pc := 12) (tgt := 35) hx hb dX3_mayBeBasin_12 (by decide) (fun c4 => ?_) (fun c4 => ?_)
      · replace h := (if_pos c4).symm.trans h
        exact hJ1 _ _ _ h hP hS (lv_sub hl [] rfl)
      · replace h := (if_neg c4).symm.trans h
        refine lv_iload_n (pc := 15) hx hb dX3_mayBeBasin_15 rfl (lv_at hl 1 rfl) ?_
        refine lv_bipush (pc := 16) (v := 60) hx hb dX3_mayBeBasin_16 (by decide) ?_
        refine lv_icmp_gt (pc := 18) (tgt := 35) hx hb dX3_mayBeBasin_18 (by decide) (fun c5 => ?_) (fun c5 => ?_)
        · replace h := (if_pos c5).symm.trans h
          exact hJ1 _ _ _ h hP hS (lv_sub hl [] rfl)
        · replace h := (if_neg c5).symm.trans h
          refine lv_iload_n (pc := 21) hx hb dX3_mayBeBasin_21 rfl (lv_at hl 2 rfl) ?_
          refine lv_iconst (pc := 22) (v := 1) hx hb dX3_mayBeBasin_22 (by decide) ?_
          refine lv_icmp_lt (pc := 23) (tgt := 35) hx hb dX3_mayBeBasin_23 (by decide) (fun c6 => ?_) (fun c6 => ?_)
          · replace h := (if_pos c6).symm.trans h
            exact hJ1 _ _ _ h hP hS (lv_sub hl [] rfl)
          · replace h := (if_neg c6).symm.trans h
            refine lv_iload_n (pc := 26) hx hb dX3_mayBeBasin_26 rfl (lv_at hl 2 rfl) ?_
            refine lv_iconst (pc := 27) (v := 3) hx hb dX3_mayBeBasin_27 (by decide) ?_
            refine lv_icmp_gt (pc := 28) (tgt := 35) hx hb dX3_mayBeBasin_28 (by decide) (fun c7 => ?_) (fun c7 => ?_)
            · replace h := (if_pos c7).symm.trans h
              exact hJ1 _ _ _ h hP hS (lv_sub hl [] rfl)
            · replace h := (if_neg c7).symm.trans h
              refine lv_iconst (pc := 31) (v := 1) hx hb dX3_mayBeBasin_31 (by decide) ?_
              refine lv_goto (pc := 32) (tgt := 36) hx hb dX3_mayBeBasin_32 (by decide) ?_
              exact tl_Rztr (pc := 36) C h hP hS (Or.inr rfl) dX3_mayBeBasin_36
theorem caX3_mayBeBasin {p : Program} {l : Launch} {e : Env} {R : Room} {s : State} {m : MethodId} {args : Array Value} {below : List Frame} {meth : Method} {c : Code} {H : Heap} {locs : List Loc} {Q : State → Prop} {cc : ByteArray} {pc : Nat} {ls : Array Slot} {rest : List Value} {g : tl_G} {σ : tl_St} {H0 : Heap} {nL : Nat} {own : String} {ret : Option FieldType} {index : Nat} (C : tl_C p s m meth c cc nL own ret g) {Ts : List Cond} (hts : ∀ w ∈ Ts, w.before args s = true) (hP : va_P g.1 vwCl (tl_W g σ) H) (hS : va_S (tl_A g) H0 H locs) {a1 : Int32} {a2 : Int32} {a3 : Int32} {ro : Int32} (h : fX3_mayBeBasin σ a1 a2 a3 = ro) (hG : GoodIn Ts (va_wsS own index yX3_mayBeBasin wsX3_mayBeBasin)) (hR : 0 + 1 ≤ R.frames ∧ 8 + (3 + 11) + 0 ≤ R.locals) (hls : ls.size = nL) (hrm : (rest.map fun v => v.category).sum ≤ 8) (hdg : decode cc pc = .ok (.invokestatic index, 3)) (kk : ∀ (H1 : Heap) (locs1 : List Loc), va_P g.1 vwCl (tl_W g σ) H1 → va_S (tl_A g) H0 H1 locs1 → W p l e R s m args below meth c H1 locs1 0 0 Q (F0 m (pc + 3) ls (.int ro :: rest))) : W p l e R s m args below meth c H locs 0 0 Q (F0 m pc ls (.int a3 :: .int a2 :: .int a1 :: rest)) :=
  tl_goi (tl_callS C hts hP (okX3_mayBeBasin l g C.2.2.2.2.2.2.2 σ a1 a2 a3 ro h) rfl rfl rfl (n := 3) (by decide +kernel) rfl hG hR hls rfl hrm hdg) hS kk
abbrev rX3_basin : Room := { frames := 2, cells := 0, slots := 0, locals := 44 }
set_option maxHeartbeats 4000000 in
set_option maxRecDepth 100000 in
theorem okX3_basin (l : Launch) (g : tl_G) (hI : tl_I g) (σ : tl_St) (a1 : Int32) (a2 : Int32) (a3 : Int32) (ro : Int32) (σo : tl_St) (h : fX3_basin σ a1 a2 a3 = some (ro, σo)) : Met l yX3_basin wsX3_basin rX3_basin (va_Pc [.ref (tl_ad g 0), .int a1, .int a2, .int a3] (tl_Pre g σ)) (tl_Qi g ro σo) 0 0 (tl_A g) := by
  refine tl_enter (cc := cX3_basin) (maxL := 4) (ret := (some .int)) (own := RX3) hI (by decide) rfl rfl (Nat.le_of_ble_eq_true rfl) ?_
  intro p e s m below meth c C hts H locs hP hS ls hl
  have hx := C.1
  have hb := C.2.1
  have hl : lv_has ls 4 [(0, .ref (tl_ad g 0)), (1, .int a1), (2, .int a2), (3, .int a3)] := hl
  have hc2 : ∀ w ∈ u_ws RX2 TX2 14, w.before [.ref (tl_ad g 0), .int a1, .int a2, .int a3].toArray s = true := fun w hw => hts w (List.mem_cons_of_mem _ (List.mem_append_right _ hw))
  have hc3 : ∀ w ∈ u_ws RX3 TX3 13, w.before [.ref (tl_ad g 0), .int a1, .int a2, .int a3].toArray s = true := fun w hw => hts w (List.mem_cons_of_mem _ (List.mem_append_left _ (List.mem_append_right _ hw)))
  have lk0 : (Cond.fieldLink RX3 10 "ThriftLock" "water" "LThriftLock$Water;").before [.ref (tl_ad g 0), .int a1, .int a2, .int a3].toArray s = true := hts _ (List.mem_cons_of_mem _ (List.mem_append_left _ (List.mem_append_left _ (List.mem_of_getElem? (i := 0) rfl))))
  have lk1 : (Cond.fieldLink RX3 48 "ThriftLock$Water" "basins" "I").before [.ref (tl_ad g 0), .int a1, .int a2, .int a3].toArray s = true := hts _ (List.mem_cons_of_mem _ (List.mem_append_left _ (List.mem_append_left _ (List.mem_of_getElem? (i := 1) rfl))))
  unfold fX3_basin at h
  refine lv_iload_n (pc := 0) hx hb dX3_basin_0 rfl (lv_at hl 1 rfl) ?_
  refine lv_iload_n (pc := 1) hx hb dX3_basin_1 rfl (lv_at hl 2 rfl) ?_
  refine lv_iload_n (pc := 2) hx hb dX3_basin_2 rfl (lv_at hl 3 rfl) ?_
  obtain ⟨r1, er1, h⟩ := tl_nm h
  refine caX3_mayBeBasin (pc := 3) C hts hP hS er1 gX3_basin_X3_mayBeBasin ⟨Nat.le_of_ble_eq_true rfl, Nat.le_of_ble_eq_true rfl⟩ hl.1 (Nat.le_of_ble_eq_true rfl) dX3_basin_3 (fun H locs hP hS => ?_)
  refine lv_if_ne (pc := 6) (tgt := 12) hx hb dX3_basin_6 (by decide) (fun c2 => ?_) (fun c2 => ?_)
  · replace h := (if_neg c2).symm.trans h
    refine lv_aload_n (pc := 12) hx hb dX3_basin_12 rfl (lv_at hl 0 rfl) ?_
    refine tl_g0_0 (pc := 13) C hc3 hP lk0 dX3_basin_13 ?_
    refine tl_gW_2 (pc := 16) C hc2 hP tl_W1 lk1 dX3_basin_16 ?_
    refine lv_iconst (pc := 19) (v := 4) hx hb dX3_basin_19 (by decide) ?_
    refine lv_icmp_lt (pc := 20) (tgt := 26) hx hb dX3_basin_20 (by decide) (fun c3 => ?_) (fun c3 => ?_)
    · replace h := (if_pos c3).symm.trans h
      refine lv_aload_n (pc := 26) hx hb dX3_basin_26 rfl (lv_at hl 0 rfl) ?_
      refine tl_g0_0 (pc := 27) C hc3 hP lk0 dX3_basin_27 ?_
      refine lv_iload_n (pc := 30) hx hb dX3_basin_30 rfl (lv_at hl 1 rfl) ?_
      refine lv_iload_n (pc := 31) hx hb dX3_basin_31 rfl (lv_at hl 2 rfl) ?_
      refine lv_iload_n (pc := 32) hx hb dX3_basin_32 rfl (lv_at hl 3 rfl) ?_
      obtain ⟨σ4, eσ4, h⟩ := tl_o1s h
      refine caX2_addBasin (pc := 33) C hts hP hS tl_W1 eσ4 gX3_basin_X2_addBasin ⟨Nat.le_of_ble_eq_true rfl, Nat.le_of_ble_eq_true rfl⟩ hl.1 (Nat.le_of_ble_eq_true rfl) dX3_basin_33 (fun H locs hP hS => ?_)
      refine lv_aload_n (pc := 36) hx hb dX3_basin_36 rfl (lv_at hl 0 rfl) ?_
      refine tl_g0_0 (pc := 37) C hc3 hP lk0 dX3_basin_37 ?_
      refine tl_gW_2 (pc := 40) C hc2 hP tl_W1 lk1 dX3_basin_40 ?_
      exact tl_Ripw (pc := 43) C h hP hS dX3_basin_43
    · replace h := (if_neg c3).symm.trans h
      refine lv_bipush (pc := 23) (v := (-4)) hx hb dX3_basin_23 (by decide) ?_
      exact tl_Ripw (pc := 25) C h hP hS dX3_basin_25
  · replace h := (if_pos c2).symm.trans h
    refine lv_bipush (pc := 9) (v := (-2)) hx hb dX3_basin_9 (by decide) ?_
    exact tl_Ripw (pc := 11) C h hP hS dX3_basin_11
theorem caX3_basin {p : Program} {l : Launch} {e : Env} {R : Room} {s : State} {m : MethodId} {args : Array Value} {below : List Frame} {meth : Method} {c : Code} {H : Heap} {locs : List Loc} {Q : State → Prop} {cc : ByteArray} {pc : Nat} {ls : Array Slot} {rest : List Value} {g : tl_G} {σ : tl_St} {H0 : Heap} {nL : Nat} {own : String} {ret : Option FieldType} {index : Nat} (C : tl_C p s m meth c cc nL own ret g) {Ts : List Cond} (hts : ∀ w ∈ Ts, w.before args s = true) (hP : va_P g.1 vwCl (tl_W g σ) H) (hS : va_S (tl_A g) H0 H locs) {a1 : Int32} {a2 : Int32} {a3 : Int32} {ro : Int32} {σo : tl_St} (h : fX3_basin σ a1 a2 a3 = some (ro, σo)) (hG : GoodIn Ts (wsV own index RX3 yX3_basin wsX3_basin)) (hR : 2 + 1 ≤ R.frames ∧ 8 + (4 + 11) + 44 ≤ R.locals) (hls : ls.size = nL) (hrm : (rest.map fun v => v.category).sum ≤ 8) (hdg : decode cc pc = .ok (.invokevirtual index, 3)) (kk : ∀ (H1 : Heap) (locs1 : List Loc), va_P g.1 vwCl (tl_W g σo) H1 → va_S (tl_A g) H0 H1 locs1 → W p l e R s m args below meth c H1 locs1 0 0 Q (F0 m (pc + 3) ls (.int ro :: rest))) : W p l e R s m args below meth c H locs 0 0 Q (F0 m pc ls (.int a3 :: .int a2 :: .int a1 :: .ref (tl_ad g 0) :: rest)) :=
  tl_goi (tl_callV C hts hP (okX3_basin l g C.2.2.2.2.2.2.2 σ a1 a2 a3 ro σo h) rfl rfl rfl (n := 3) (by decide +kernel) rfl (ci := 3) rfl (tl_k0 g σ) hG hR hls rfl hrm hdg) hS kk
abbrev rX3_back : Room := { frames := 0, cells := 0, slots := 0, locals := 0 }
set_option maxHeartbeats 4000000 in
set_option maxRecDepth 100000 in
theorem okX3_back (l : Launch) (g : tl_G) (hI : tl_I g) (σ : tl_St) (ro : Int32) (σo : tl_St) (h : fX3_back σ = some (ro, σo)) : Met l yX3_back wsX3_back rX3_back (va_Pc [.ref (tl_ad g 0)] (tl_Pre g σ)) (tl_Qi g ro σo) 0 0 (tl_A g) := by
  refine tl_enter (cc := cX3_back) (maxL := 2) (ret := (some .int)) (own := RX3) hI (by decide) rfl rfl (Nat.le_of_ble_eq_true rfl) ?_
  intro p e s m below meth c C hts H locs hP hS ls hl
  have hx := C.1
  have hb := C.2.1
  have hl : lv_has ls 2 [(0, .ref (tl_ad g 0))] := hl
  have hc2 : ∀ w ∈ u_ws RX2 TX2 14, w.before [.ref (tl_ad g 0)].toArray s = true := fun w hw => hts w (List.mem_cons_of_mem _ (List.mem_append_right _ hw))
  have hc3 : ∀ w ∈ u_ws RX3 TX3 13, w.before [.ref (tl_ad g 0)].toArray s = true := fun w hw => hts w (List.mem_cons_of_mem _ (List.mem_append_left _ (List.mem_append_right _ hw)))
  have lk0 : (Cond.fieldLink RX3 10 "ThriftLock" "water" "LThriftLock$Water;").before [.ref (tl_ad g 0)].toArray s = true := hts _ (List.mem_cons_of_mem _ (List.mem_append_left _ (List.mem_append_left _ (List.mem_of_getElem? (i := 0) rfl))))
  have lk1 : (Cond.fieldLink RX3 48 "ThriftLock$Water" "basins" "I").before [.ref (tl_ad g 0)].toArray s = true := hts _ (List.mem_cons_of_mem _ (List.mem_append_left _ (List.mem_append_left _ (List.mem_of_getElem? (i := 1) rfl))))
  have lk2 : (Cond.fieldLink RX3 55 "ThriftLock$Water" "held" "[I").before [.ref (tl_ad g 0)].toArray s = true := hts _ (List.mem_cons_of_mem _ (List.mem_append_left _ (List.mem_append_left _ (List.mem_of_getElem? (i := 2) rfl))))
  have lk3 : (Cond.fieldLink RX3 58 "ThriftLock$Water" "outBits" "I").before [.ref (tl_ad g 0)].toArray s = true := hts _ (List.mem_cons_of_mem _ (List.mem_append_left _ (List.mem_append_left _ (List.mem_of_getElem? (i := 3) rfl))))
  unfold fX3_back at h
  refine lv_aload_n (pc := 0) hx hb dX3_back_0 rfl (lv_at hl 0 rfl) ?_
  refine tl_g0_0 (pc := 1) C hc3 hP lk0 dX3_back_1 ?_
  refine tl_gW_2 (pc := 4) C hc2 hP tl_W1 lk1 dX3_back_4 ?_
  refine lv_iconst (pc := 7) (v := 1) hx hb dX3_back_7 (by decide) ?_
  refine lv_isub (pc := 8) hx hb dX3_back_8 ?_
  obtain ⟨x1, ex1, h⟩ := tl_nm h
  refine tl_ti ex1 ?_
  refine lv_istore_n (pc := 9) (lv' := [(1, .int x1), (0, .ref (tl_ad g 0))]) hx hb dX3_back_9 rfl hl (by decide) rfl (fun ls hl => ?_)
  refine lv_iload_n (pc := 10) hx hb dX3_back_10 rfl (lv_at hl 0 rfl) ?_
  refine lv_if_lt (pc := 11) (tgt := 26) hx hb dX3_back_11 (by decide) (fun c2 => ?_) (fun c2 => ?_)
  · replace h := (if_pos c2).symm.trans h
    refine lv_bipush (pc := 26) (v := (-3)) hx hb dX3_back_26 (by decide) ?_
    exact tl_Ripw (pc := 28) C h hP hS dX3_back_28
  · replace h := (if_neg c2).symm.trans h
    refine lv_aload_n (pc := 14) hx hb dX3_back_14 rfl (lv_at hl 1 rfl) ?_
    refine tl_g0_0 (pc := 15) C hc3 hP lk0 dX3_back_15 ?_
    refine tl_gW_9 (pc := 18) C hc2 hP tl_W1 lk2 dX3_back_18 ?_
    refine lv_iload_n (pc := 21) hx hb dX3_back_21 rfl (lv_at hl 0 rfl) ?_
    obtain ⟨g3, h⟩ := tl_gd h
    refine tl_ald (pc := 22) C hP (tl_aW6 tl_W1 g) g3 dX3_back_22 ?_
    refine lv_if_eq (pc := 23) (tgt := 29) hx hb dX3_back_23 (by decide) (fun c4 => ?_) (fun c4 => ?_)
    · replace h := (if_pos c4).symm.trans h
      refine lv_aload_n (pc := 29) hx hb dX3_back_29 rfl (lv_at hl 1 rfl) ?_
      refine tl_g0_0 (pc := 30) C hc3 hP lk0 dX3_back_30 ?_
      refine lv_iload_n (pc := 33) hx hb dX3_back_33 rfl (lv_at hl 0 rfl) ?_
      obtain ⟨σ5, eσ5, h⟩ := tl_nm h
      refine tl_sW_2 (pc := 34) C hc2 hP hS tl_W1 eσ5 lk1 dX3_back_34 (fun H locs hP hS => ?_)
      refine lv_aload_n (pc := 37) hx hb dX3_back_37 rfl (lv_at hl 1 rfl) ?_
      refine tl_g0_0 (pc := 38) C hc3 hP lk0 dX3_back_38 ?_
      refine lv_dup (pc := 41) hx hb dX3_back_41 rfl ?_
      refine tl_gW_3 (pc := 42) C hc2 hP tl_W1 lk3 dX3_back_42 ?_
      refine lv_iconst (pc := 45) (v := 1) hx hb dX3_back_45 (by decide) ?_
      refine lv_iload_n (pc := 46) hx hb dX3_back_46 rfl (lv_at hl 0 rfl) ?_
      refine lv_ishl (pc := 47) hx hb dX3_back_47 ?_
      refine lv_iconst (pc := 48) (v := (-1)) hx hb dX3_back_48 (by decide) ?_
      refine lv_ixor (pc := 49) hx hb dX3_back_49 ?_
      refine lv_iand (pc := 50) hx hb dX3_back_50 ?_
      obtain ⟨σ6, eσ6, h⟩ := tl_nm h
      refine tl_sW_3 (pc := 51) C hc2 hP hS tl_W1 eσ6 lk3 dX3_back_51 (fun H locs hP hS => ?_)
      refine lv_iload_n (pc := 54) hx hb dX3_back_54 rfl (lv_at hl 0 rfl) ?_
      exact tl_Ripw (pc := 55) C h hP hS dX3_back_55
    · replace h := (if_neg c4).symm.trans h
      refine lv_bipush (pc := 26) (v := (-3)) hx hb dX3_back_26 (by decide) ?_
      exact tl_Ripw (pc := 28) C h hP hS dX3_back_28
theorem caX3_back {p : Program} {l : Launch} {e : Env} {R : Room} {s : State} {m : MethodId} {args : Array Value} {below : List Frame} {meth : Method} {c : Code} {H : Heap} {locs : List Loc} {Q : State → Prop} {cc : ByteArray} {pc : Nat} {ls : Array Slot} {rest : List Value} {g : tl_G} {σ : tl_St} {H0 : Heap} {nL : Nat} {own : String} {ret : Option FieldType} {index : Nat} (C : tl_C p s m meth c cc nL own ret g) {Ts : List Cond} (hts : ∀ w ∈ Ts, w.before args s = true) (hP : va_P g.1 vwCl (tl_W g σ) H) (hS : va_S (tl_A g) H0 H locs) {ro : Int32} {σo : tl_St} (h : fX3_back σ = some (ro, σo)) (hG : GoodIn Ts (wsV own index RX3 yX3_back wsX3_back)) (hR : 0 + 1 ≤ R.frames ∧ 8 + (2 + 11) + 0 ≤ R.locals) (hls : ls.size = nL) (hrm : (rest.map fun v => v.category).sum ≤ 8) (hdg : decode cc pc = .ok (.invokevirtual index, 3)) (kk : ∀ (H1 : Heap) (locs1 : List Loc), va_P g.1 vwCl (tl_W g σo) H1 → va_S (tl_A g) H0 H1 locs1 → W p l e R s m args below meth c H1 locs1 0 0 Q (F0 m (pc + 3) ls (.int ro :: rest))) : W p l e R s m args below meth c H locs 0 0 Q (F0 m pc ls (.ref (tl_ad g 0) :: rest)) :=
  tl_goi (tl_callV C hts hP (okX3_back l g C.2.2.2.2.2.2.2 σ ro σo h) rfl rfl rfl (n := 0) (by decide +kernel) rfl (ci := 3) rfl (tl_k0 g σ) hG hR hls rfl hrm hdg) hS kk
abbrev rX3_isBasin : Room := { frames := 0, cells := 0, slots := 0, locals := 0 }
set_option maxHeartbeats 4000000 in
set_option maxRecDepth 100000 in
theorem okX3_isBasin (l : Launch) (g : tl_G) (hI : tl_I g) (σ : tl_St) (a1 : Int32) (ro : Int32) (h : fX3_isBasin σ a1 = ro) : Met l yX3_isBasin wsX3_isBasin rX3_isBasin (va_Pc [.ref (tl_ad g 0), .int a1] (tl_Pre g σ)) (tl_Qi g ro σ) 0 0 (tl_A g) := by
  refine tl_enter (cc := cX3_isBasin) (maxL := 2) (ret := (some .boolean)) (own := RX3) hI (by decide) rfl rfl (Nat.le_of_ble_eq_true rfl) ?_
  intro p e s m below meth c C hts H locs hP hS ls hl
  have hx := C.1
  have hb := C.2.1
  have hl : lv_has ls 2 [(0, .ref (tl_ad g 0)), (1, .int a1)] := hl
  have hc2 : ∀ w ∈ u_ws RX2 TX2 14, w.before [.ref (tl_ad g 0), .int a1].toArray s = true := fun w hw => hts w (List.mem_cons_of_mem _ (List.mem_append_right _ hw))
  have hc3 : ∀ w ∈ u_ws RX3 TX3 13, w.before [.ref (tl_ad g 0), .int a1].toArray s = true := fun w hw => hts w (List.mem_cons_of_mem _ (List.mem_append_left _ (List.mem_append_right _ hw)))
  have lk0 : (Cond.fieldLink RX3 10 "ThriftLock" "water" "LThriftLock$Water;").before [.ref (tl_ad g 0), .int a1].toArray s = true := hts _ (List.mem_cons_of_mem _ (List.mem_append_left _ (List.mem_append_left _ (List.mem_of_getElem? (i := 0) rfl))))
  have lk1 : (Cond.fieldLink RX3 48 "ThriftLock$Water" "basins" "I").before [.ref (tl_ad g 0), .int a1].toArray s = true := hts _ (List.mem_cons_of_mem _ (List.mem_append_left _ (List.mem_append_left _ (List.mem_of_getElem? (i := 1) rfl))))
  unfold fX3_isBasin at h
  refine lv_iload_n (pc := 0) hx hb dX3_isBasin_0 rfl (lv_at hl 1 rfl) ?_
  obtain ⟨k1, ek1, h⟩ := tl_j0 h
  have hJ1 : ∀ (H : Heap) (locs : List Loc) (ls : Array Slot), k1 = ro → va_P g.1 vwCl (tl_W g σ) H → va_S (tl_A g) s.heap H locs → lv_has ls 2 [] → W p l e rX3_isBasin s m [.ref (tl_ad g 0), .int a1].toArray below meth c H locs 0 0 (MQ below (tl_Qi g ro σ) [.ref (tl_ad g 0), .int a1].toArray s 0 0 (tl_A g)) (F0 m 19 ls []) := by
    intro H locs ls h hP hS hl
    replace h := ek1.trans h
    refine lv_iconst (pc := 19) (v := 0) hx hb dX3_isBasin_19 (by decide) ?_
    exact tl_Rztr (pc := 20) C h hP hS (Or.inl rfl) dX3_isBasin_20
  refine lv_if_lt (pc := 1) (tgt := 19) hx hb dX3_isBasin_1 (by decide) (fun c2 => ?_) (fun c2 => ?_)
  · replace h := (if_pos c2).symm.trans h
    exact hJ1 _ _ _ h hP hS (lv_sub hl [] rfl)
  · replace h := (if_neg c2).symm.trans h
    refine lv_iload_n (pc := 4) hx hb dX3_isBasin_4 rfl (lv_at hl 1 rfl) ?_
    refine lv_aload_n (pc := 5) hx hb dX3_isBasin_5 rfl (lv_at hl 0 rfl) ?_
    refine tl_g0_0 (pc := 6) C hc3 hP lk0 dX3_isBasin_6 ?_
    refine tl_gW_2 (pc := 9) C hc2 hP tl_W1 lk1 dX3_isBasin_9 ?_
    refine lv_icmp_ge (pc := 12) (tgt := 19) hx hb dX3_isBasin_12 (by decide) (fun c3 => ?_) (fun c3 => ?_)
    · replace h := (if_pos c3).symm.trans h
      exact hJ1 _ _ _ h hP hS (lv_sub hl [] rfl)
    · replace h := (if_neg c3).symm.trans h
      refine lv_iconst (pc := 15) (v := 1) hx hb dX3_isBasin_15 (by decide) ?_
      refine lv_goto (pc := 16) (tgt := 20) hx hb dX3_isBasin_16 (by decide) ?_
      exact tl_Rztr (pc := 20) C h hP hS (Or.inr rfl) dX3_isBasin_20
theorem caX3_isBasin {p : Program} {l : Launch} {e : Env} {R : Room} {s : State} {m : MethodId} {args : Array Value} {below : List Frame} {meth : Method} {c : Code} {H : Heap} {locs : List Loc} {Q : State → Prop} {cc : ByteArray} {pc : Nat} {ls : Array Slot} {rest : List Value} {g : tl_G} {σ : tl_St} {H0 : Heap} {nL : Nat} {own : String} {ret : Option FieldType} {index : Nat} (C : tl_C p s m meth c cc nL own ret g) {Ts : List Cond} (hts : ∀ w ∈ Ts, w.before args s = true) (hP : va_P g.1 vwCl (tl_W g σ) H) (hS : va_S (tl_A g) H0 H locs) {a1 : Int32} {ro : Int32} (h : fX3_isBasin σ a1 = ro) (hG : GoodIn Ts (wsV own index RX3 yX3_isBasin wsX3_isBasin)) (hR : 0 + 1 ≤ R.frames ∧ 8 + (2 + 11) + 0 ≤ R.locals) (hls : ls.size = nL) (hrm : (rest.map fun v => v.category).sum ≤ 8) (hdg : decode cc pc = .ok (.invokevirtual index, 3)) (kk : ∀ (H1 : Heap) (locs1 : List Loc), va_P g.1 vwCl (tl_W g σ) H1 → va_S (tl_A g) H0 H1 locs1 → W p l e R s m args below meth c H1 locs1 0 0 Q (F0 m (pc + 3) ls (.int ro :: rest))) : W p l e R s m args below meth c H locs 0 0 Q (F0 m pc ls (.int a1 :: .ref (tl_ad g 0) :: rest)) :=
  tl_goi (tl_callV C hts hP (okX3_isBasin l g C.2.2.2.2.2.2.2 σ a1 ro h) rfl rfl rfl (n := 1) (by decide +kernel) rfl (ci := 3) rfl (tl_k0 g σ) hG hR hls rfl hrm hdg) hS kk
abbrev rX3_out : Room := { frames := 1, cells := 0, slots := 0, locals := 21 }
set_option maxHeartbeats 4000000 in
set_option maxRecDepth 100000 in
theorem okX3_out (l : Launch) (g : tl_G) (hI : tl_I g) (σ : tl_St) (a1 : Int32) (ro : Int32) (σo : tl_St) (h : fX3_out σ a1 = (ro, σo)) : Met l yX3_out wsX3_out rX3_out (va_Pc [.ref (tl_ad g 0), .int a1] (tl_Pre g σ)) (tl_Qi g ro σo) 0 0 (tl_A g) := by
  refine tl_enter (cc := cX3_out) (maxL := 2) (ret := (some .int)) (own := RX3) hI (by decide) rfl rfl (Nat.le_of_ble_eq_true rfl) ?_
  intro p e s m below meth c C hts H locs hP hS ls hl
  have hx := C.1
  have hb := C.2.1
  have hl : lv_has ls 2 [(0, .ref (tl_ad g 0)), (1, .int a1)] := hl
  have hc2 : ∀ w ∈ u_ws RX2 TX2 14, w.before [.ref (tl_ad g 0), .int a1].toArray s = true := fun w hw => hts w (List.mem_cons_of_mem _ (List.mem_append_right _ hw))
  have hc3 : ∀ w ∈ u_ws RX3 TX3 13, w.before [.ref (tl_ad g 0), .int a1].toArray s = true := fun w hw => hts w (List.mem_cons_of_mem _ (List.mem_append_left _ (List.mem_append_right _ hw)))
  have lk0 : (Cond.fieldLink RX3 10 "ThriftLock" "water" "LThriftLock$Water;").before [.ref (tl_ad g 0), .int a1].toArray s = true := hts _ (List.mem_cons_of_mem _ (List.mem_append_left _ (List.mem_append_left _ (List.mem_of_getElem? (i := 0) rfl))))
  have lk1 : (Cond.fieldLink RX3 58 "ThriftLock$Water" "outBits" "I").before [.ref (tl_ad g 0), .int a1].toArray s = true := hts _ (List.mem_cons_of_mem _ (List.mem_append_left _ (List.mem_append_left _ (List.mem_of_getElem? (i := 1) rfl))))
  unfold fX3_out at h
  refine lv_aload_n (pc := 0) hx hb dX3_out_0 rfl (lv_at hl 0 rfl) ?_
  refine lv_iload_n (pc := 1) hx hb dX3_out_1 rfl (lv_at hl 1 rfl) ?_
  obtain ⟨r1, er1, h⟩ := tl_nm h
  refine caX3_isBasin (pc := 2) C hts hP hS er1 gX3_out_X3_isBasin ⟨Nat.le_of_ble_eq_true rfl, Nat.le_of_ble_eq_true rfl⟩ hl.1 (Nat.le_of_ble_eq_true rfl) dX3_out_2 (fun H locs hP hS => ?_)
  refine lv_if_ne (pc := 5) (tgt := 11) hx hb dX3_out_5 (by decide) (fun c2 => ?_) (fun c2 => ?_)
  · replace h := (if_neg c2).symm.trans h
    refine lv_aload_n (pc := 11) hx hb dX3_out_11 rfl (lv_at hl 0 rfl) ?_
    refine tl_g0_0 (pc := 12) C hc3 hP lk0 dX3_out_12 ?_
    refine lv_dup (pc := 15) hx hb dX3_out_15 rfl ?_
    refine tl_gW_3 (pc := 16) C hc2 hP tl_W1 lk1 dX3_out_16 ?_
    refine lv_iconst (pc := 19) (v := 1) hx hb dX3_out_19 (by decide) ?_
    refine lv_iload_n (pc := 20) hx hb dX3_out_20 rfl (lv_at hl 1 rfl) ?_
    refine lv_ishl (pc := 21) hx hb dX3_out_21 ?_
    refine lv_ixor (pc := 22) hx hb dX3_out_22 ?_
    obtain ⟨σ3, eσ3, h⟩ := tl_nm h
    refine tl_sW_3 (pc := 23) C hc2 hP hS tl_W1 eσ3 lk1 dX3_out_23 (fun H locs hP hS => ?_)
    refine lv_aload_n (pc := 26) hx hb dX3_out_26 rfl (lv_at hl 0 rfl) ?_
    refine tl_g0_0 (pc := 27) C hc3 hP lk0 dX3_out_27 ?_
    refine tl_gW_3 (pc := 30) C hc2 hP tl_W1 lk1 dX3_out_30 ?_
    exact tl_Ritw (pc := 33) C h hP hS dX3_out_33
  · replace h := (if_pos c2).symm.trans h
    refine lv_bipush (pc := 8) (v := (-2)) hx hb dX3_out_8 (by decide) ?_
    exact tl_Ritw (pc := 10) C h hP hS dX3_out_10
theorem caX3_out {p : Program} {l : Launch} {e : Env} {R : Room} {s : State} {m : MethodId} {args : Array Value} {below : List Frame} {meth : Method} {c : Code} {H : Heap} {locs : List Loc} {Q : State → Prop} {cc : ByteArray} {pc : Nat} {ls : Array Slot} {rest : List Value} {g : tl_G} {σ : tl_St} {H0 : Heap} {nL : Nat} {own : String} {ret : Option FieldType} {index : Nat} (C : tl_C p s m meth c cc nL own ret g) {Ts : List Cond} (hts : ∀ w ∈ Ts, w.before args s = true) (hP : va_P g.1 vwCl (tl_W g σ) H) (hS : va_S (tl_A g) H0 H locs) {a1 : Int32} {ro : Int32} {σo : tl_St} (h : fX3_out σ a1 = (ro, σo)) (hG : GoodIn Ts (wsV own index RX3 yX3_out wsX3_out)) (hR : 1 + 1 ≤ R.frames ∧ 8 + (2 + 11) + 21 ≤ R.locals) (hls : ls.size = nL) (hrm : (rest.map fun v => v.category).sum ≤ 8) (hdg : decode cc pc = .ok (.invokevirtual index, 3)) (kk : ∀ (H1 : Heap) (locs1 : List Loc), va_P g.1 vwCl (tl_W g σo) H1 → va_S (tl_A g) H0 H1 locs1 → W p l e R s m args below meth c H1 locs1 0 0 Q (F0 m (pc + 3) ls (.int ro :: rest))) : W p l e R s m args below meth c H locs 0 0 Q (F0 m pc ls (.int a1 :: .ref (tl_ad g 0) :: rest)) :=
  tl_goi (tl_callV C hts hP (okX3_out l g C.2.2.2.2.2.2.2 σ a1 ro σo h) rfl rfl rfl (n := 1) (by decide +kernel) rfl (ci := 3) rfl (tl_k0 g σ) hG hR hls rfl hrm hdg) hS kk
abbrev rX3_leak : Room := { frames := 1, cells := 0, slots := 0, locals := 21 }
set_option maxHeartbeats 4000000 in
set_option maxRecDepth 100000 in
theorem okX3_leak (l : Launch) (g : tl_G) (hI : tl_I g) (σ : tl_St) (a1 : Int32) (a2 : Int32) (ro : Int32) (σo : tl_St) (h : fX3_leak σ a1 a2 = some (ro, σo)) : Met l yX3_leak wsX3_leak rX3_leak (va_Pc [.ref (tl_ad g 0), .int a1, .int a2] (tl_Pre g σ)) (tl_Qi g ro σo) 0 0 (tl_A g) := by
  refine tl_enter (cc := cX3_leak) (maxL := 4) (ret := (some .int)) (own := RX3) hI (by decide) rfl rfl (Nat.le_of_ble_eq_true rfl) ?_
  intro p e s m below meth c C hts H locs hP hS ls hl
  have hx := C.1
  have hb := C.2.1
  have hl : lv_has ls 4 [(0, .ref (tl_ad g 0)), (1, .int a1), (2, .int a2)] := hl
  have hc2 : ∀ w ∈ u_ws RX2 TX2 14, w.before [.ref (tl_ad g 0), .int a1, .int a2].toArray s = true := fun w hw => hts w (List.mem_cons_of_mem _ (List.mem_append_right _ hw))
  have hc3 : ∀ w ∈ u_ws RX3 TX3 13, w.before [.ref (tl_ad g 0), .int a1, .int a2].toArray s = true := fun w hw => hts w (List.mem_cons_of_mem _ (List.mem_append_left _ (List.mem_append_right _ hw)))
  have lk0 : (Cond.fieldLink RX3 10 "ThriftLock" "water" "LThriftLock$Water;").before [.ref (tl_ad g 0), .int a1, .int a2].toArray s = true := hts _ (List.mem_cons_of_mem _ (List.mem_append_left _ (List.mem_append_left _ (List.mem_of_getElem? (i := 0) rfl))))
  have lk1 : (Cond.fieldLink RX3 65 "ThriftLock$Water" "leaks" "[I").before [.ref (tl_ad g 0), .int a1, .int a2].toArray s = true := hts _ (List.mem_cons_of_mem _ (List.mem_append_left _ (List.mem_append_left _ (List.mem_of_getElem? (i := 1) rfl))))
  unfold fX3_leak at h
  refine lv_aload_n (pc := 0) hx hb dX3_leak_0 rfl (lv_at hl 0 rfl) ?_
  refine lv_iload_n (pc := 1) hx hb dX3_leak_1 rfl (lv_at hl 1 rfl) ?_
  obtain ⟨r1, er1, h⟩ := tl_nm h
  refine caX3_isBasin (pc := 2) C hts hP hS er1 gX3_leak_X3_isBasin ⟨Nat.le_of_ble_eq_true rfl, Nat.le_of_ble_eq_true rfl⟩ hl.1 (Nat.le_of_ble_eq_true rfl) dX3_leak_2 (fun H locs hP hS => ?_)
  refine lv_if_eq (pc := 5) (tgt := 17) hx hb dX3_leak_5 (by decide) (fun c2 => ?_) (fun c2 => ?_)
  · replace h := (if_pos c2).symm.trans h
    refine lv_bipush (pc := 17) (v := (-2)) hx hb dX3_leak_17 (by decide) ?_
    exact tl_Ripw (pc := 19) C h hP hS dX3_leak_19
  · replace h := (if_neg c2).symm.trans h
    refine lv_iload_n (pc := 8) hx hb dX3_leak_8 rfl (lv_at hl 2 rfl) ?_
    refine lv_if_lt (pc := 9) (tgt := 17) hx hb dX3_leak_9 (by decide) (fun c3 => ?_) (fun c3 => ?_)
    · replace h := (if_pos c3).symm.trans h
      refine lv_bipush (pc := 17) (v := (-2)) hx hb dX3_leak_17 (by decide) ?_
      exact tl_Ripw (pc := 19) C h hP hS dX3_leak_19
    · replace h := (if_neg c3).symm.trans h
      refine lv_iload_n (pc := 12) hx hb dX3_leak_12 rfl (lv_at hl 2 rfl) ?_
      refine lv_iconst (pc := 13) (v := 3) hx hb dX3_leak_13 (by decide) ?_
      refine lv_icmp_le (pc := 14) (tgt := 20) hx hb dX3_leak_14 (by decide) (fun c4 => ?_) (fun c4 => ?_)
      · replace h := (if_pos c4).symm.trans h
        refine lv_aload_n (pc := 20) hx hb dX3_leak_20 rfl (lv_at hl 0 rfl) ?_
        refine tl_g0_0 (pc := 21) C hc3 hP lk0 dX3_leak_21 ?_
        refine tl_gW_8 (pc := 24) C hc2 hP tl_W1 lk1 dX3_leak_24 ?_
        refine lv_iload_n (pc := 27) hx hb dX3_leak_27 rfl (lv_at hl 1 rfl) ?_
        obtain ⟨g5, h⟩ := tl_gd h
        refine tl_ald (pc := 28) C hP (tl_aW5 tl_W1 g) g5 dX3_leak_28 ?_
        obtain ⟨x6, ex6, h⟩ := tl_nm h
        refine tl_ti ex6 ?_
        refine lv_istore_n (pc := 29) (lv' := [(3, .int x6), (0, .ref (tl_ad g 0)), (1, .int a1), (2, .int a2)]) hx hb dX3_leak_29 rfl hl (by decide) rfl (fun ls hl => ?_)
        refine lv_aload_n (pc := 30) hx hb dX3_leak_30 rfl (lv_at hl 1 rfl) ?_
        refine tl_g0_0 (pc := 31) C hc3 hP lk0 dX3_leak_31 ?_
        refine tl_gW_8 (pc := 34) C hc2 hP tl_W1 lk1 dX3_leak_34 ?_
        refine lv_iload_n (pc := 37) hx hb dX3_leak_37 rfl (lv_at hl 2 rfl) ?_
        refine lv_iload_n (pc := 38) hx hb dX3_leak_38 rfl (lv_at hl 3 rfl) ?_
        obtain ⟨g7, h⟩ := tl_gd h
        obtain ⟨σ8, eσ8, h⟩ := tl_nm h
        refine tl_ast (pc := 39) C hP hS (tl_aW5 tl_W1 g) g7 eσ8 dX3_leak_39 (fun H locs hP hS => ?_)
        refine lv_iload_n (pc := 40) hx hb dX3_leak_40 rfl (lv_at hl 0 rfl) ?_
        exact tl_Ripw (pc := 41) C h hP hS dX3_leak_41
      · replace h := (if_neg c4).symm.trans h
        refine lv_bipush (pc := 17) (v := (-2)) hx hb dX3_leak_17 (by decide) ?_
        exact tl_Ripw (pc := 19) C h hP hS dX3_leak_19
theorem caX3_leak {p : Program} {l : Launch} {e : Env} {R : Room} {s : State} {m : MethodId} {args : Array Value} {below : List Frame} {meth : Method} {c : Code} {H : Heap} {locs : List Loc} {Q : State → Prop} {cc : ByteArray} {pc : Nat} {ls : Array Slot} {rest : List Value} {g : tl_G} {σ : tl_St} {H0 : Heap} {nL : Nat} {own : String} {ret : Option FieldType} {index : Nat} (C : tl_C p s m meth c cc nL own ret g) {Ts : List Cond} (hts : ∀ w ∈ Ts, w.before args s = true) (hP : va_P g.1 vwCl (tl_W g σ) H) (hS : va_S (tl_A g) H0 H locs) {a1 : Int32} {a2 : Int32} {ro : Int32} {σo : tl_St} (h : fX3_leak σ a1 a2 = some (ro, σo)) (hG : GoodIn Ts (wsV own index RX3 yX3_leak wsX3_leak)) (hR : 1 + 1 ≤ R.frames ∧ 8 + (4 + 11) + 21 ≤ R.locals) (hls : ls.size = nL) (hrm : (rest.map fun v => v.category).sum ≤ 8) (hdg : decode cc pc = .ok (.invokevirtual index, 3)) (kk : ∀ (H1 : Heap) (locs1 : List Loc), va_P g.1 vwCl (tl_W g σo) H1 → va_S (tl_A g) H0 H1 locs1 → W p l e R s m args below meth c H1 locs1 0 0 Q (F0 m (pc + 3) ls (.int ro :: rest))) : W p l e R s m args below meth c H locs 0 0 Q (F0 m pc ls (.int a2 :: .int a1 :: .ref (tl_ad g 0) :: rest)) :=
  tl_goi (tl_callV C hts hP (okX3_leak l g C.2.2.2.2.2.2.2 σ a1 a2 ro σo h) rfl rfl rfl (n := 2) (by decide +kernel) rfl (ci := 3) rfl (tl_k0 g σ) hG hR hls rfl hrm hdg) hS kk
abbrev rX3_isSheet : Room := { frames := 0, cells := 0, slots := 0, locals := 0 }
set_option maxHeartbeats 4000000 in
set_option maxRecDepth 100000 in
theorem okX3_isSheet (l : Launch) (g : tl_G) (hI : tl_I g) (σ : tl_St) (a1 : Int32) (ro : Int32) (h : fX3_isSheet σ a1 = ro) : Met l yX3_isSheet wsX3_isSheet rX3_isSheet (va_Pc [.int a1] (tl_Pre g σ)) (tl_Qi g ro σ) 0 0 (tl_A g) := by
  refine tl_enter (cc := cX3_isSheet) (maxL := 1) (ret := (some .boolean)) (own := RX3) hI (by decide) rfl rfl (Nat.le_of_ble_eq_true rfl) ?_
  intro p e s m below meth c C hts H locs hP hS ls hl
  have hx := C.1
  have hb := C.2.1
  have hl : lv_has ls 1 [(0, .int a1)] := hl
  unfold fX3_isSheet at h
  refine lv_iload_n (pc := 0) hx hb dX3_isSheet_0 rfl (lv_at hl 0 rfl) ?_
  obtain ⟨k1, ek1, h⟩ := tl_j0 h
  have hJ1 : ∀ (H : Heap) (locs : List Loc) (ls : Array Slot), k1 = ro → va_P g.1 vwCl (tl_W g σ) H → va_S (tl_A g) s.heap H locs → lv_has ls 1 [] → W p l e rX3_isSheet s m [.int a1].toArray below meth c H locs 0 0 (MQ below (tl_Qi g ro σ) [.int a1].toArray s 0 0 (tl_A g)) (F0 m 13 ls []) := by
    intro H locs ls h hP hS hl
    replace h := ek1.trans h
    refine lv_iconst (pc := 13) (v := 0) hx hb dX3_isSheet_13 (by decide) ?_
    exact tl_Rztr (pc := 14) C h hP hS (Or.inl rfl) dX3_isSheet_14
  refine lv_if_lt (pc := 1) (tgt := 13) hx hb dX3_isSheet_1 (by decide) (fun c2 => ?_) (fun c2 => ?_)
  · replace h := (if_pos c2).symm.trans h
    exact hJ1 _ _ _ h hP hS (lv_sub hl [] rfl)
  · replace h := (if_neg c2).symm.trans h
    refine lv_iload_n (pc := 4) hx hb dX3_isSheet_4 rfl (lv_at hl 0 rfl) ?_
    refine lv_iconst (pc := 5) (v := 4) hx hb dX3_isSheet_5 (by decide) ?_
    refine lv_icmp_ge (pc := 6) (tgt := 13) hx hb dX3_isSheet_6 (by decide) (fun c3 => ?_) (fun c3 => ?_)
    · replace h := (if_pos c3).symm.trans h
      exact hJ1 _ _ _ h hP hS (lv_sub hl [] rfl)
    · replace h := (if_neg c3).symm.trans h
      refine lv_iconst (pc := 9) (v := 1) hx hb dX3_isSheet_9 (by decide) ?_
      refine lv_goto (pc := 10) (tgt := 14) hx hb dX3_isSheet_10 (by decide) ?_
      exact tl_Rztr (pc := 14) C h hP hS (Or.inr rfl) dX3_isSheet_14
theorem caX3_isSheet {p : Program} {l : Launch} {e : Env} {R : Room} {s : State} {m : MethodId} {args : Array Value} {below : List Frame} {meth : Method} {c : Code} {H : Heap} {locs : List Loc} {Q : State → Prop} {cc : ByteArray} {pc : Nat} {ls : Array Slot} {rest : List Value} {g : tl_G} {σ : tl_St} {H0 : Heap} {nL : Nat} {own : String} {ret : Option FieldType} {index : Nat} (C : tl_C p s m meth c cc nL own ret g) {Ts : List Cond} (hts : ∀ w ∈ Ts, w.before args s = true) (hP : va_P g.1 vwCl (tl_W g σ) H) (hS : va_S (tl_A g) H0 H locs) {a1 : Int32} {ro : Int32} (h : fX3_isSheet σ a1 = ro) (hG : GoodIn Ts (va_wsS own index yX3_isSheet wsX3_isSheet)) (hR : 0 + 1 ≤ R.frames ∧ 8 + (1 + 11) + 0 ≤ R.locals) (hls : ls.size = nL) (hrm : (rest.map fun v => v.category).sum ≤ 8) (hdg : decode cc pc = .ok (.invokestatic index, 3)) (kk : ∀ (H1 : Heap) (locs1 : List Loc), va_P g.1 vwCl (tl_W g σ) H1 → va_S (tl_A g) H0 H1 locs1 → W p l e R s m args below meth c H1 locs1 0 0 Q (F0 m (pc + 3) ls (.int ro :: rest))) : W p l e R s m args below meth c H locs 0 0 Q (F0 m pc ls (.int a1 :: rest)) :=
  tl_goi (tl_callS C hts hP (okX3_isSheet l g C.2.2.2.2.2.2.2 σ a1 ro h) rfl rfl rfl (n := 1) (by decide +kernel) rfl hG hR hls rfl hrm hdg) hS kk
abbrev rX3_found : Room := { frames := 0, cells := 0, slots := 0, locals := 0 }
set_option maxHeartbeats 4000000 in
set_option maxRecDepth 100000 in
theorem okX3_found (l : Launch) (g : tl_G) (hI : tl_I g) (σ : tl_St) (a1 : Int32) (ro : Int32) (σo : tl_St) (h : fX3_found σ a1 = (ro, σo)) : Met l yX3_found wsX3_found rX3_found (va_Pc [.ref (tl_ad g 0), .int a1] (tl_Pre g σ)) (tl_Qi g ro σo) 0 0 (tl_A g) := by
  refine tl_enter (cc := cX3_found) (maxL := 2) (ret := (some .int)) (own := RX3) hI (by decide) rfl rfl (Nat.le_of_ble_eq_true rfl) ?_
  intro p e s m below meth c C hts H locs hP hS ls hl
  have hx := C.1
  have hb := C.2.1
  have hl : lv_has ls 2 [(0, .ref (tl_ad g 0)), (1, .int a1)] := hl
  have hc3 : ∀ w ∈ u_ws RX3 TX3 13, w.before [.ref (tl_ad g 0), .int a1].toArray s = true := fun w hw => hts w (List.mem_cons_of_mem _ (List.mem_append_right _ hw))
  have lk0 : (Cond.fieldLink RX3 229 "ThriftLock" "latestFinding" "I").before [.ref (tl_ad g 0), .int a1].toArray s = true := hts _ (List.mem_cons_of_mem _ (List.mem_append_left _ (List.mem_of_getElem? (i := 0) rfl)))
  unfold fX3_found at h
  refine lv_aload_n (pc := 0) hx hb dX3_found_0 rfl (lv_at hl 0 rfl) ?_
  refine lv_iload_n (pc := 1) hx hb dX3_found_1 rfl (lv_at hl 1 rfl) ?_
  obtain ⟨σ1, eσ1, h⟩ := tl_nm h
  refine tl_s0_12 (pc := 2) C hc3 hP hS eσ1 lk0 dX3_found_2 (fun H locs hP hS => ?_)
  refine lv_bipush (pc := 5) (v := (-10)) hx hb dX3_found_5 (by decide) ?_
  refine lv_iload_n (pc := 7) hx hb dX3_found_7 rfl (lv_at hl 1 rfl) ?_
  refine lv_isub (pc := 8) hx hb dX3_found_8 ?_
  exact tl_Ritw (pc := 9) C h hP hS dX3_found_9
theorem caX3_found {p : Program} {l : Launch} {e : Env} {R : Room} {s : State} {m : MethodId} {args : Array Value} {below : List Frame} {meth : Method} {c : Code} {H : Heap} {locs : List Loc} {Q : State → Prop} {cc : ByteArray} {pc : Nat} {ls : Array Slot} {rest : List Value} {g : tl_G} {σ : tl_St} {H0 : Heap} {nL : Nat} {own : String} {ret : Option FieldType} {index : Nat} (C : tl_C p s m meth c cc nL own ret g) {Ts : List Cond} (hts : ∀ w ∈ Ts, w.before args s = true) (hP : va_P g.1 vwCl (tl_W g σ) H) (hS : va_S (tl_A g) H0 H locs) {a1 : Int32} {ro : Int32} {σo : tl_St} (h : fX3_found σ a1 = (ro, σo)) (hG : GoodIn Ts (wsV own index RX3 yX3_found wsX3_found)) (hR : 0 + 1 ≤ R.frames ∧ 8 + (2 + 11) + 0 ≤ R.locals) (hls : ls.size = nL) (hrm : (rest.map fun v => v.category).sum ≤ 8) (hdg : decode cc pc = .ok (.invokevirtual index, 3)) (kk : ∀ (H1 : Heap) (locs1 : List Loc), va_P g.1 vwCl (tl_W g σo) H1 → va_S (tl_A g) H0 H1 locs1 → W p l e R s m args below meth c H1 locs1 0 0 Q (F0 m (pc + 3) ls (.int ro :: rest))) : W p l e R s m args below meth c H locs 0 0 Q (F0 m pc ls (.int a1 :: .ref (tl_ad g 0) :: rest)) :=
  tl_goi (tl_callV C hts hP (okX3_found l g C.2.2.2.2.2.2.2 σ a1 ro σo h) rfl rfl rfl (n := 1) (by decide +kernel) rfl (ci := 3) rfl (tl_k0 g σ) hG hR hls rfl hrm hdg) hS kk
abbrev rX3_read : Room := { frames := 2, cells := 0, slots := 0, locals := 44 }
set_option maxHeartbeats 4000000 in
set_option maxRecDepth 100000 in
theorem okX3_read (l : Launch) (g : tl_G) (hI : tl_I g) (σ : tl_St) (a1 : Int32) (ro : Int32) (σo : tl_St) (h : fX3_read σ a1 = some (ro, σo)) : Met l yX3_read wsX3_read rX3_read (va_Pc [.ref (tl_ad g 0), .int a1] (tl_Pre g σ)) (tl_Qi g ro σo) 0 0 (tl_A g) := by
  refine tl_enter (cc := cX3_read) (maxL := 5) (ret := (some .int)) (own := RX3) hI (by decide) rfl rfl (Nat.le_of_ble_eq_true rfl) ?_
  intro p e s m below meth c C hts H locs hP hS ls hl
  have hx := C.1
  have hb := C.2.1
  have hl : lv_has ls 5 [(0, .ref (tl_ad g 0)), (1, .int a1)] := hl
  have hc1 : ∀ w ∈ u_ws RX1 TX1 4, w.before [.ref (tl_ad g 0), .int a1].toArray s = true := fun w hw => hts w (List.mem_cons_of_mem _ (List.mem_append_left _ (List.mem_append_right _ hw)))
  have hc2 : ∀ w ∈ u_ws RX2 TX2 14, w.before [.ref (tl_ad g 0), .int a1].toArray s = true := fun w hw => hts w (List.mem_cons_of_mem _ (List.mem_append_right _ hw))
  have hc3 : ∀ w ∈ u_ws RX3 TX3 13, w.before [.ref (tl_ad g 0), .int a1].toArray s = true := fun w hw => hts w (List.mem_cons_of_mem _ (List.mem_append_left _ (List.mem_append_left _ (List.mem_append_right _ hw))))
  have lk0 : (Cond.fieldLink RX3 27 "ThriftLock" "sheets" "[LThriftLock$Sheet;").before [.ref (tl_ad g 0), .int a1].toArray s = true := hts _ (List.mem_cons_of_mem _ (List.mem_append_left _ (List.mem_append_left _ (List.mem_append_left _ (List.mem_append_left _ (List.mem_of_getElem? (i := 0) rfl))))))
  have lk1 : (Cond.fieldLink RX3 71 "ThriftLock$Sheet" "lost" "Z").before [.ref (tl_ad g 0), .int a1].toArray s = true := hts _ (List.mem_cons_of_mem _ (List.mem_append_left _ (List.mem_append_left _ (List.mem_append_left _ (List.mem_append_left _ (List.mem_of_getElem? (i := 1) rfl))))))
  have lk2 : (Cond.fieldLink RX3 79 "ThriftLock$Sheet" "size" "I").before [.ref (tl_ad g 0), .int a1].toArray s = true := hts _ (List.mem_cons_of_mem _ (List.mem_append_left _ (List.mem_append_left _ (List.mem_append_left _ (List.mem_append_left _ (List.mem_of_getElem? (i := 2) rfl))))))
  have lk3 : (Cond.fieldLink RX3 10 "ThriftLock" "water" "LThriftLock$Water;").before [.ref (tl_ad g 0), .int a1].toArray s = true := hts _ (List.mem_cons_of_mem _ (List.mem_append_left _ (List.mem_append_left _ (List.mem_append_left _ (List.mem_append_left _ (List.mem_of_getElem? (i := 3) rfl))))))
  have lk4 : (Cond.fieldLink RX3 48 "ThriftLock$Water" "basins" "I").before [.ref (tl_ad g 0), .int a1].toArray s = true := hts _ (List.mem_cons_of_mem _ (List.mem_append_left _ (List.mem_append_left _ (List.mem_append_left _ (List.mem_append_left _ (List.mem_of_getElem? (i := 4) rfl))))))
  have lk5 : (Cond.fieldLink RX3 82 "ThriftLock$Sheet" "items" "[I").before [.ref (tl_ad g 0), .int a1].toArray s = true := hts _ (List.mem_cons_of_mem _ (List.mem_append_left _ (List.mem_append_left _ (List.mem_append_left _ (List.mem_append_left _ (List.mem_of_getElem? (i := 5) rfl))))))
  unfold fX3_read at h
  refine lv_iload_n (pc := 0) hx hb dX3_read_0 rfl (lv_at hl 1 rfl) ?_
  obtain ⟨r1, er1, h⟩ := tl_nm h
  refine caX3_isSheet (pc := 1) C hts hP hS er1 gX3_read_X3_isSheet ⟨Nat.le_of_ble_eq_true rfl, Nat.le_of_ble_eq_true rfl⟩ hl.1 (Nat.le_of_ble_eq_true rfl) dX3_read_1 (fun H locs hP hS => ?_)
  refine lv_if_ne (pc := 4) (tgt := 10) hx hb dX3_read_4 (by decide) (fun c2 => ?_) (fun c2 => ?_)
  · replace h := (if_neg c2).symm.trans h
    refine lv_aload_n (pc := 10) hx hb dX3_read_10 rfl (lv_at hl 0 rfl) ?_
    refine tl_g0_3 (pc := 11) C hc3 hP lk0 dX3_read_11 ?_
    refine lv_iload_n (pc := 14) hx hb dX3_read_14 rfl (lv_at hl 1 rfl) ?_
    obtain ⟨g3, h⟩ := tl_gd h
    refine tl_aldS (pc := 15) C hP g3 dX3_read_15 ?_
    obtain ⟨o4, eo4, h⟩ := tl_nm h
    have io4 : tl_isS o4 := by rw [← eo4]; exact tl_sOf g3
    refine tl_tr (congrArg (tl_ad g) eo4) ?_
    refine lv_astore_n (pc := 16) (lv' := [(2, .ref (tl_ad g o4)), (0, .ref (tl_ad g 0)), (1, .int a1)]) hx hb dX3_read_16 rfl hl (by decide) rfl (fun ls hl => ?_)
    refine lv_aload_n (pc := 17) hx hb dX3_read_17 rfl (lv_at hl 0 rfl) ?_
    refine tl_gS_0 (pc := 18) C hc1 hP io4 lk1 dX3_read_18 ?_
    refine lv_if_eq (pc := 21) (tgt := 30) hx hb dX3_read_21 (by decide) (fun c5 => ?_) (fun c5 => ?_)
    · replace h := (if_pos c5).symm.trans h
      refine lv_iconst (pc := 30) (v := 0) hx hb dX3_read_30 (by decide) ?_
      refine lv_istore_n (pc := 31) (lv' := [(3, .int 0), (2, .ref (tl_ad g o4)), (0, .ref (tl_ad g 0)), (1, .int a1)]) hx hb dX3_read_31 rfl hl (by decide) rfl (fun ls hl => ?_)
      refine lv_iconst (pc := 32) (v := 0) hx hb dX3_read_32 (by decide) ?_
      refine lv_istore (pc := 33) (lv' := [(4, .int 0), (3, .int 0), (2, .ref (tl_ad g o4)), (0, .ref (tl_ad g 0)), (1, .int a1)]) hx hb dX3_read_33 hl (by decide) rfl (fun ls hl => ?_)
      obtain ⟨k8, ek8, h⟩ := tl_j2 h
      have hZ8 : ∀ (σ6 : tl_St) (x7 : Int32) (H : Heap) (locs : List Loc) (ls : Array Slot), k8 σ6 x7 = some (ro, σo) → va_P g.1 vwCl (tl_W g σ6) H → va_S (tl_A g) s.heap H locs → lv_has ls 5 [(3, .int x7)] → W p l e rX3_read s m [.ref (tl_ad g 0), .int a1].toArray below meth c H locs 0 0 (MQ below (tl_Qi g ro σo) [.ref (tl_ad g 0), .int a1].toArray s 0 0 (tl_A g)) (F0 m 132 ls []) := by
        intro σ6 x7 H locs ls h hP hS hl
        replace h := (ek8 σ6 x7).trans h
        refine lv_iload_n (pc := 132) hx hb dX3_read_132 rfl (lv_at hl 0 rfl) ?_
        exact tl_Ripw (pc := 133) C h hP hS dX3_read_133
      have hL35 : ∀ (n : Nat) (σ9 : tl_St) (x10 : Int32) (x11 : Int32) (H : Heap) (locs : List Loc) (ls : Array Slot), fX3_read_L35 o4 k8 n σ9 x10 x11 = some (ro, σo) → va_P g.1 vwCl (tl_W g σ9) H → va_S (tl_A g) s.heap H locs → lv_has ls 5 [(0, .ref (tl_ad g 0)), (2, .ref (tl_ad g o4)), (3, .int x10), (4, .int x11)] → W p l e rX3_read s m [.ref (tl_ad g 0), .int a1].toArray below meth c H locs 0 0 (MQ below (tl_Qi g ro σo) [.ref (tl_ad g 0), .int a1].toArray s 0 0 (tl_A g)) (F0 m 35 ls []) := by
        intro n
        induction n with
        | zero =>
          intro σ9 x10 x11 H locs ls h hP hS hl
          rw [fX3_read_L35] at h
          cases h
        | succ n ih =>
          intro σ9 x10 x11 H locs ls h hP hS hl
          rw [fX3_read_L35] at h
          refine lv_iload (pc := 35) hx hb dX3_read_35 (lv_at hl 3 rfl) ?_
          refine lv_iconst (pc := 37) (v := 2) hx hb dX3_read_37 (by decide) ?_
          refine lv_iadd (pc := 38) hx hb dX3_read_38 ?_
          refine lv_aload_n (pc := 39) hx hb dX3_read_39 rfl (lv_at hl 1 rfl) ?_
          refine tl_gS_2 (pc := 40) C hc1 hP io4 lk2 dX3_read_40 ?_
          refine lv_icmp_ge (pc := 43) (tgt := 132) hx hb dX3_read_43 (by decide) (fun c12 => ?_) (fun c12 => ?_)
          · replace h := (if_pos c12).symm.trans h
            exact hZ8 σ9 x10 _ _ _ h hP hS (lv_sub hl [2] rfl)
          · replace h := (if_neg c12).symm.trans h
            refine lv_aload_n (pc := 46) hx hb dX3_read_46 rfl (lv_at hl 0 rfl) ?_
            refine tl_g0_0 (pc := 47) C hc3 hP lk3 dX3_read_47 ?_
            refine tl_gW_2 (pc := 50) C hc2 hP tl_W1 lk4 dX3_read_50 ?_
            refine lv_iconst (pc := 53) (v := 4) hx hb dX3_read_53 (by decide) ?_
            refine lv_icmp_ge (pc := 54) (tgt := 132) hx hb dX3_read_54 (by decide) (fun c13 => ?_) (fun c13 => ?_)
            · replace h := (if_pos c13).symm.trans h
              exact hZ8 σ9 x10 _ _ _ h hP hS (lv_sub hl [2] rfl)
            · replace h := (if_neg c13).symm.trans h
              refine lv_aload_n (pc := 57) hx hb dX3_read_57 rfl (lv_at hl 1 rfl) ?_
              refine tl_gS_3 (pc := 58) C hc1 hP io4 lk5 dX3_read_58 ?_
              refine lv_iload (pc := 61) hx hb dX3_read_61 (lv_at hl 3 rfl) ?_
              obtain ⟨g14, h⟩ := tl_gd h
              refine tl_ald (pc := 63) C hP (tl_aS1 io4 g) g14 dX3_read_63 ?_
              refine lv_aload_n (pc := 64) hx hb dX3_read_64 rfl (lv_at hl 1 rfl) ?_
              refine tl_gS_3 (pc := 65) C hc1 hP io4 lk5 dX3_read_65 ?_
              refine lv_iload (pc := 68) hx hb dX3_read_68 (lv_at hl 3 rfl) ?_
              refine lv_iconst (pc := 70) (v := 1) hx hb dX3_read_70 (by decide) ?_
              refine lv_iadd (pc := 71) hx hb dX3_read_71 ?_
              obtain ⟨g15, h⟩ := tl_gd h
              refine tl_ald (pc := 72) C hP (tl_aS1 io4 g) g15 dX3_read_72 ?_
              refine lv_aload_n (pc := 73) hx hb dX3_read_73 rfl (lv_at hl 1 rfl) ?_
              refine tl_gS_3 (pc := 74) C hc1 hP io4 lk5 dX3_read_74 ?_
              refine lv_iload (pc := 77) hx hb dX3_read_77 (lv_at hl 3 rfl) ?_
              refine lv_iconst (pc := 79) (v := 2) hx hb dX3_read_79 (by decide) ?_
              refine lv_iadd (pc := 80) hx hb dX3_read_80 ?_
              obtain ⟨g16, h⟩ := tl_gd h
              refine tl_ald (pc := 81) C hP (tl_aS1 io4 g) g16 dX3_read_81 ?_
              obtain ⟨r17, er17, h⟩ := tl_nm h
              refine caX3_mayBeBasin (pc := 82) C hts hP hS er17 gX3_read_X3_mayBeBasin ⟨Nat.le_of_ble_eq_true rfl, Nat.le_of_ble_eq_true rfl⟩ hl.1 (Nat.le_of_ble_eq_true rfl) dX3_read_82 (fun H locs hP hS => ?_)
              refine lv_if_ne (pc := 85) (tgt := 91) hx hb dX3_read_85 (by decide) (fun c18 => ?_) (fun c18 => ?_)
              · replace h := (if_neg c18).symm.trans h
                refine lv_aload_n (pc := 91) hx hb dX3_read_91 rfl (lv_at hl 0 rfl) ?_
                refine tl_g0_0 (pc := 92) C hc3 hP lk3 dX3_read_92 ?_
                refine lv_aload_n (pc := 95) hx hb dX3_read_95 rfl (lv_at hl 1 rfl) ?_
                refine tl_gS_3 (pc := 96) C hc1 hP io4 lk5 dX3_read_96 ?_
                refine lv_iload (pc := 99) hx hb dX3_read_99 (lv_at hl 3 rfl) ?_
                obtain ⟨g19, h⟩ := tl_gd h
                refine tl_ald (pc := 101) C hP (tl_aS1 io4 g) g19 dX3_read_101 ?_
                refine lv_aload_n (pc := 102) hx hb dX3_read_102 rfl (lv_at hl 1 rfl) ?_
                refine tl_gS_3 (pc := 103) C hc1 hP io4 lk5 dX3_read_103 ?_
                refine lv_iload (pc := 106) hx hb dX3_read_106 (lv_at hl 3 rfl) ?_
                refine lv_iconst (pc := 108) (v := 1) hx hb dX3_read_108 (by decide) ?_
                refine lv_iadd (pc := 109) hx hb dX3_read_109 ?_
                obtain ⟨g20, h⟩ := tl_gd h
                refine tl_ald (pc := 110) C hP (tl_aS1 io4 g) g20 dX3_read_110 ?_
                refine lv_aload_n (pc := 111) hx hb dX3_read_111 rfl (lv_at hl 1 rfl) ?_
                refine tl_gS_3 (pc := 112) C hc1 hP io4 lk5 dX3_read_112 ?_
                refine lv_iload (pc := 115) hx hb dX3_read_115 (lv_at hl 3 rfl) ?_
                refine lv_iconst (pc := 117) (v := 2) hx hb dX3_read_117 (by decide) ?_
                refine lv_iadd (pc := 118) hx hb dX3_read_118 ?_
                obtain ⟨g21, h⟩ := tl_gd h
                refine tl_ald (pc := 119) C hP (tl_aS1 io4 g) g21 dX3_read_119 ?_
                obtain ⟨σ22, eσ22, h⟩ := tl_o1s h
                refine caX2_addBasin (pc := 120) C hts hP hS tl_W1 eσ22 gX3_read_X2_addBasin ⟨Nat.le_of_ble_eq_true rfl, Nat.le_of_ble_eq_true rfl⟩ hl.1 (Nat.le_of_ble_eq_true rfl) dX3_read_120 (fun H locs hP hS => ?_)
                obtain ⟨x23, ex23, h⟩ := tl_nm h
                refine lv_iinc (pc := 123) (v := x23) (lv' := [(3, .int x23), (0, .ref (tl_ad g 0)), (2, .ref (tl_ad g o4)), (4, .int x11)]) hx hb dX3_read_123 hl (k := 2) rfl ex23 (by decide) rfl (fun ls hl => ?_)
                obtain ⟨x24, ex24, h⟩ := tl_nm h
                refine lv_iinc (pc := 126) (v := x24) (lv' := [(4, .int x24), (3, .int x23), (0, .ref (tl_ad g 0)), (2, .ref (tl_ad g o4))]) hx hb dX3_read_126 hl (k := 3) rfl ex24 (by decide) rfl (fun ls hl => ?_)
                refine lv_goto (pc := 129) (tgt := 35) hx hb dX3_read_129 (by decide) ?_
                exact ih σ22 x23 x24 _ _ _ h hP hS (lv_sub hl [2, 3, 1, 0] rfl)
              · replace h := (if_pos c18).symm.trans h
                refine lv_goto (pc := 88) (tgt := 132) hx hb dX3_read_88 (by decide) ?_
                exact hZ8 σ9 x10 _ _ _ h hP hS (lv_sub hl [2] rfl)
      exact hL35 1000 σ 0 0 _ _ _ h hP hS (lv_sub hl [3, 2, 1, 0] rfl)
    · replace h := (if_neg c5).symm.trans h
      refine lv_aload_n (pc := 24) hx hb dX3_read_24 rfl (lv_at hl 1 rfl) ?_
      refine lv_iconst (pc := 25) (v := 1) hx hb dX3_read_25 (by decide) ?_
      obtain ⟨r25, σ26, er25, h⟩ := tl_nm2 h
      refine caX3_found (pc := 26) C hts hP hS er25 gX3_read_X3_found ⟨Nat.le_of_ble_eq_true rfl, Nat.le_of_ble_eq_true rfl⟩ hl.1 (Nat.le_of_ble_eq_true rfl) dX3_read_26 (fun H locs hP hS => ?_)
      exact tl_Ripw (pc := 29) C h hP hS dX3_read_29
  · replace h := (if_pos c2).symm.trans h
    refine lv_bipush (pc := 7) (v := (-2)) hx hb dX3_read_7 (by decide) ?_
    exact tl_Ripw (pc := 9) C h hP hS dX3_read_9
theorem caX3_read {p : Program} {l : Launch} {e : Env} {R : Room} {s : State} {m : MethodId} {args : Array Value} {below : List Frame} {meth : Method} {c : Code} {H : Heap} {locs : List Loc} {Q : State → Prop} {cc : ByteArray} {pc : Nat} {ls : Array Slot} {rest : List Value} {g : tl_G} {σ : tl_St} {H0 : Heap} {nL : Nat} {own : String} {ret : Option FieldType} {index : Nat} (C : tl_C p s m meth c cc nL own ret g) {Ts : List Cond} (hts : ∀ w ∈ Ts, w.before args s = true) (hP : va_P g.1 vwCl (tl_W g σ) H) (hS : va_S (tl_A g) H0 H locs) {a1 : Int32} {ro : Int32} {σo : tl_St} (h : fX3_read σ a1 = some (ro, σo)) (hG : GoodIn Ts (wsV own index RX3 yX3_read wsX3_read)) (hR : 2 + 1 ≤ R.frames ∧ 8 + (5 + 11) + 44 ≤ R.locals) (hls : ls.size = nL) (hrm : (rest.map fun v => v.category).sum ≤ 8) (hdg : decode cc pc = .ok (.invokevirtual index, 3)) (kk : ∀ (H1 : Heap) (locs1 : List Loc), va_P g.1 vwCl (tl_W g σo) H1 → va_S (tl_A g) H0 H1 locs1 → W p l e R s m args below meth c H1 locs1 0 0 Q (F0 m (pc + 3) ls (.int ro :: rest))) : W p l e R s m args below meth c H locs 0 0 Q (F0 m pc ls (.int a1 :: .ref (tl_ad g 0) :: rest)) :=
  tl_goi (tl_callV C hts hP (okX3_read l g C.2.2.2.2.2.2.2 σ a1 ro σo h) rfl rfl rfl (n := 1) (by decide +kernel) rfl (ci := 3) rfl (tl_k0 g σ) hG hR hls rfl hrm hdg) hS kk
abbrev rX3_info : Room := { frames := 1, cells := 0, slots := 0, locals := 22 }
set_option maxHeartbeats 4000000 in
set_option maxRecDepth 100000 in
theorem okX3_info (l : Launch) (g : tl_G) (hI : tl_I g) (σ : tl_St) (a1 : Int32) (a2 : Int32) (ro : Int32) (h : fX3_info σ a1 a2 = some ro) : Met l yX3_info wsX3_info rX3_info (va_Pc [.ref (tl_ad g 0), .int a1, .int a2] (tl_Pre g σ)) (tl_Qi g ro σ) 0 0 (tl_A g) := by
  refine tl_enter (cc := cX3_info) (maxL := 3) (ret := (some .int)) (own := RX3) hI (by decide) rfl rfl (Nat.le_of_ble_eq_true rfl) ?_
  intro p e s m below meth c C hts H locs hP hS ls hl
  have hx := C.1
  have hb := C.2.1
  have hl : lv_has ls 3 [(0, .ref (tl_ad g 0)), (1, .int a1), (2, .int a2)] := hl
  have hc2 : ∀ w ∈ u_ws RX2 TX2 14, w.before [.ref (tl_ad g 0), .int a1, .int a2].toArray s = true := fun w hw => hts w (List.mem_cons_of_mem _ (List.mem_append_right _ hw))
  have hc3 : ∀ w ∈ u_ws RX3 TX3 13, w.before [.ref (tl_ad g 0), .int a1, .int a2].toArray s = true := fun w hw => hts w (List.mem_cons_of_mem _ (List.mem_append_left _ (List.mem_append_right _ hw)))
  have lk0 : (Cond.fieldLink RX3 10 "ThriftLock" "water" "LThriftLock$Water;").before [.ref (tl_ad g 0), .int a1, .int a2].toArray s = true := hts _ (List.mem_cons_of_mem _ (List.mem_append_left _ (List.mem_append_left _ (List.mem_of_getElem? (i := 0) rfl))))
  have lk1 : (Cond.fieldLink RX3 85 "ThriftLock$Water" "bottom" "[I").before [.ref (tl_ad g 0), .int a1, .int a2].toArray s = true := hts _ (List.mem_cons_of_mem _ (List.mem_append_left _ (List.mem_append_left _ (List.mem_of_getElem? (i := 1) rfl))))
  have lk2 : (Cond.fieldLink RX3 88 "ThriftLock$Water" "room" "[I").before [.ref (tl_ad g 0), .int a1, .int a2].toArray s = true := hts _ (List.mem_cons_of_mem _ (List.mem_append_left _ (List.mem_append_left _ (List.mem_of_getElem? (i := 2) rfl))))
  have lk3 : (Cond.fieldLink RX3 91 "ThriftLock$Water" "wide" "[I").before [.ref (tl_ad g 0), .int a1, .int a2].toArray s = true := hts _ (List.mem_cons_of_mem _ (List.mem_append_left _ (List.mem_append_left _ (List.mem_of_getElem? (i := 3) rfl))))
  have lk4 : (Cond.fieldLink RX3 65 "ThriftLock$Water" "leaks" "[I").before [.ref (tl_ad g 0), .int a1, .int a2].toArray s = true := hts _ (List.mem_cons_of_mem _ (List.mem_append_left _ (List.mem_append_left _ (List.mem_of_getElem? (i := 4) rfl))))
  have lk5 : (Cond.fieldLink RX3 55 "ThriftLock$Water" "held" "[I").before [.ref (tl_ad g 0), .int a1, .int a2].toArray s = true := hts _ (List.mem_cons_of_mem _ (List.mem_append_left _ (List.mem_append_left _ (List.mem_of_getElem? (i := 5) rfl))))
  unfold fX3_info at h
  refine lv_aload_n (pc := 0) hx hb dX3_info_0 rfl (lv_at hl 0 rfl) ?_
  refine lv_iload_n (pc := 1) hx hb dX3_info_1 rfl (lv_at hl 1 rfl) ?_
  obtain ⟨r1, er1, h⟩ := tl_nm h
  refine caX3_isBasin (pc := 2) C hts hP hS er1 gX3_info_X3_isBasin ⟨Nat.le_of_ble_eq_true rfl, Nat.le_of_ble_eq_true rfl⟩ hl.1 (Nat.le_of_ble_eq_true rfl) dX3_info_2 (fun H locs hP hS => ?_)
  refine lv_if_ne (pc := 5) (tgt := 11) hx hb dX3_info_5 (by decide) (fun c2 => ?_) (fun c2 => ?_)
  · replace h := (if_neg c2).symm.trans h
    refine lv_iload_n (pc := 11) hx hb dX3_info_11 rfl (lv_at hl 2 rfl) ?_
    by_cases c3 : a2 = 0
    · replace h := (if_pos c3).symm.trans h
      refine tl_swIn (pc := 12) (tgt := 56) hx hb (kv := 0) c3 dX3_info_12 (by decide) (by decide) rfl (by decide) ?_
      refine lv_aload_n (pc := 56) hx hb dX3_info_56 rfl (lv_at hl 0 rfl) ?_
      refine tl_g0_0 (pc := 57) C hc3 hP lk0 dX3_info_57 ?_
      refine tl_gW_4 (pc := 60) C hc2 hP tl_W1 lk1 dX3_info_60 ?_
      refine lv_iload_n (pc := 63) hx hb dX3_info_63 rfl (lv_at hl 1 rfl) ?_
      obtain ⟨g4, h⟩ := tl_gd h
      refine tl_ald (pc := 64) C hP (tl_aW1 tl_W1 g) g4 dX3_info_64 ?_
      exact tl_Ripr (pc := 65) C h hP hS dX3_info_65
    · replace h := (if_neg c3).symm.trans h
      by_cases c5 : a2 = 1
      · replace h := (if_pos c5).symm.trans h
        refine tl_swIn (pc := 12) (tgt := 66) hx hb (kv := 1) c5 dX3_info_12 (by decide) (by decide) rfl (by decide) ?_
        refine lv_aload_n (pc := 66) hx hb dX3_info_66 rfl (lv_at hl 0 rfl) ?_
        refine tl_g0_0 (pc := 67) C hc3 hP lk0 dX3_info_67 ?_
        refine tl_gW_5 (pc := 70) C hc2 hP tl_W1 lk2 dX3_info_70 ?_
        refine lv_iload_n (pc := 73) hx hb dX3_info_73 rfl (lv_at hl 1 rfl) ?_
        obtain ⟨g6, h⟩ := tl_gd h
        refine tl_ald (pc := 74) C hP (tl_aW2 tl_W1 g) g6 dX3_info_74 ?_
        exact tl_Ripr (pc := 75) C h hP hS dX3_info_75
      · replace h := (if_neg c5).symm.trans h
        by_cases c7 : a2 = 2
        · replace h := (if_pos c7).symm.trans h
          refine tl_swIn (pc := 12) (tgt := 76) hx hb (kv := 2) c7 dX3_info_12 (by decide) (by decide) rfl (by decide) ?_
          refine lv_aload_n (pc := 76) hx hb dX3_info_76 rfl (lv_at hl 0 rfl) ?_
          refine tl_g0_0 (pc := 77) C hc3 hP lk0 dX3_info_77 ?_
          refine tl_gW_6 (pc := 80) C hc2 hP tl_W1 lk3 dX3_info_80 ?_
          refine lv_iload_n (pc := 83) hx hb dX3_info_83 rfl (lv_at hl 1 rfl) ?_
          obtain ⟨g8, h⟩ := tl_gd h
          refine tl_ald (pc := 84) C hP (tl_aW3 tl_W1 g) g8 dX3_info_84 ?_
          exact tl_Ripr (pc := 85) C h hP hS dX3_info_85
        · replace h := (if_neg c7).symm.trans h
          by_cases c9 : a2 = 3
          · replace h := (if_pos c9).symm.trans h
            refine tl_swIn (pc := 12) (tgt := 86) hx hb (kv := 3) c9 dX3_info_12 (by decide) (by decide) rfl (by decide) ?_
            refine lv_aload_n (pc := 86) hx hb dX3_info_86 rfl (lv_at hl 0 rfl) ?_
            refine tl_g0_0 (pc := 87) C hc3 hP lk0 dX3_info_87 ?_
            refine tl_gW_8 (pc := 90) C hc2 hP tl_W1 lk4 dX3_info_90 ?_
            refine lv_iload_n (pc := 93) hx hb dX3_info_93 rfl (lv_at hl 1 rfl) ?_
            obtain ⟨g10, h⟩ := tl_gd h
            refine tl_ald (pc := 94) C hP (tl_aW5 tl_W1 g) g10 dX3_info_94 ?_
            exact tl_Ripr (pc := 95) C h hP hS dX3_info_95
          · replace h := (if_neg c9).symm.trans h
            by_cases c11 : a2 = 4
            · replace h := (if_pos c11).symm.trans h
              refine tl_swIn (pc := 12) (tgt := 96) hx hb (kv := 4) c11 dX3_info_12 (by decide) (by decide) rfl (by decide) ?_
              refine lv_aload_n (pc := 96) hx hb dX3_info_96 rfl (lv_at hl 0 rfl) ?_
              refine tl_g0_0 (pc := 97) C hc3 hP lk0 dX3_info_97 ?_
              refine tl_gW_9 (pc := 100) C hc2 hP tl_W1 lk5 dX3_info_100 ?_
              refine lv_iload_n (pc := 103) hx hb dX3_info_103 rfl (lv_at hl 1 rfl) ?_
              obtain ⟨g12, h⟩ := tl_gd h
              refine tl_ald (pc := 104) C hP (tl_aW6 tl_W1 g) g12 dX3_info_104 ?_
              exact tl_Ripr (pc := 105) C h hP hS dX3_info_105
            · replace h := (if_neg c11).symm.trans h
              by_cases c13 : a2 = 5
              · replace h := (if_pos c13).symm.trans h
                refine tl_swIn (pc := 12) (tgt := 106) hx hb (kv := 5) c13 dX3_info_12 (by decide) (by decide) rfl (by decide) ?_
                refine lv_aload_n (pc := 106) hx hb dX3_info_106 rfl (lv_at hl 0 rfl) ?_
                refine tl_g0_0 (pc := 107) C hc3 hP lk0 dX3_info_107 ?_
                refine lv_iload_n (pc := 110) hx hb dX3_info_110 rfl (lv_at hl 1 rfl) ?_
                refine lv_aload_n (pc := 111) hx hb dX3_info_111 rfl (lv_at hl 0 rfl) ?_
                refine tl_g0_0 (pc := 112) C hc3 hP lk0 dX3_info_112 ?_
                refine tl_gW_9 (pc := 115) C hc2 hP tl_W1 lk5 dX3_info_115 ?_
                refine lv_iload_n (pc := 118) hx hb dX3_info_118 rfl (lv_at hl 1 rfl) ?_
                obtain ⟨g14, h⟩ := tl_gd h
                refine tl_ald (pc := 119) C hP (tl_aW6 tl_W1 g) g14 dX3_info_119 ?_
                obtain ⟨r15, er15, h⟩ := tl_o1s h
                refine caX2_levelHolding (pc := 120) C hts hP hS tl_W1 er15 gX3_info_X2_levelHolding ⟨Nat.le_of_ble_eq_true rfl, Nat.le_of_ble_eq_true rfl⟩ hl.1 (Nat.le_of_ble_eq_true rfl) dX3_info_120 (fun H locs hP hS => ?_)
                exact tl_Ripr (pc := 123) C h hP hS dX3_info_123
              · replace h := (if_neg c13).symm.trans h
                by_cases c16 : a2 = 6
                · replace h := (if_pos c16).symm.trans h
                  refine tl_swIn (pc := 12) (tgt := 124) hx hb (kv := 6) c16 dX3_info_12 (by decide) (by decide) rfl (by decide) ?_
                  refine lv_aload_n (pc := 124) hx hb dX3_info_124 rfl (lv_at hl 0 rfl) ?_
                  refine tl_g0_0 (pc := 125) C hc3 hP lk0 dX3_info_125 ?_
                  refine lv_iload_n (pc := 128) hx hb dX3_info_128 rfl (lv_at hl 1 rfl) ?_
                  obtain ⟨r17, er17, h⟩ := tl_nm h
                  refine caX2_isOut (pc := 129) C hts hP hS tl_W1 er17 gX3_info_X2_isOut ⟨Nat.le_of_ble_eq_true rfl, Nat.le_of_ble_eq_true rfl⟩ hl.1 (Nat.le_of_ble_eq_true rfl) dX3_info_129 (fun H locs hP hS => ?_)
                  refine lv_if_eq (pc := 132) (tgt := 139) hx hb dX3_info_132 (by decide) (fun c18 => ?_) (fun c18 => ?_)
                  · replace h := (if_pos c18).symm.trans h
                    refine lv_iconst (pc := 139) (v := 0) hx hb dX3_info_139 (by decide) ?_
                    exact tl_Ripr (pc := 140) C h hP hS dX3_info_140
                  · replace h := (if_neg c18).symm.trans h
                    refine lv_iconst (pc := 135) (v := 1) hx hb dX3_info_135 (by decide) ?_
                    refine lv_goto (pc := 136) (tgt := 140) hx hb dX3_info_136 (by decide) ?_
                    exact tl_Ripr (pc := 140) C h hP hS dX3_info_140
                · replace h := (if_neg c16).symm.trans h
                  have hsw : (a2).toInt < 0 ∨ 6 < (a2).toInt := by
                    have n0 := tl_ne (k := 0) c3 (by decide) (by decide)
                    have n1 := tl_ne (k := 1) c5 (by decide) (by decide)
                    have n2 := tl_ne (k := 2) c7 (by decide) (by decide)
                    have n3 := tl_ne (k := 3) c9 (by decide) (by decide)
                    have n4 := tl_ne (k := 4) c11 (by decide) (by decide)
                    have n5 := tl_ne (k := 5) c13 (by decide) (by decide)
                    have n6 := tl_ne (k := 6) c16 (by decide) (by decide)
                    omega
                  refine lv_tableOut (pc := 12) (tgt := 141) hx hb dX3_info_12 hsw (by decide) ?_
                  refine lv_bipush (pc := 141) (v := (-2)) hx hb dX3_info_141 (by decide) ?_
                  exact tl_Ripr (pc := 143) C h hP hS dX3_info_143
  · replace h := (if_pos c2).symm.trans h
    refine lv_bipush (pc := 8) (v := (-2)) hx hb dX3_info_8 (by decide) ?_
    exact tl_Ripr (pc := 10) C h hP hS dX3_info_10
theorem caX3_info {p : Program} {l : Launch} {e : Env} {R : Room} {s : State} {m : MethodId} {args : Array Value} {below : List Frame} {meth : Method} {c : Code} {H : Heap} {locs : List Loc} {Q : State → Prop} {cc : ByteArray} {pc : Nat} {ls : Array Slot} {rest : List Value} {g : tl_G} {σ : tl_St} {H0 : Heap} {nL : Nat} {own : String} {ret : Option FieldType} {index : Nat} (C : tl_C p s m meth c cc nL own ret g) {Ts : List Cond} (hts : ∀ w ∈ Ts, w.before args s = true) (hP : va_P g.1 vwCl (tl_W g σ) H) (hS : va_S (tl_A g) H0 H locs) {a1 : Int32} {a2 : Int32} {ro : Int32} (h : fX3_info σ a1 a2 = some ro) (hG : GoodIn Ts (wsV own index RX3 yX3_info wsX3_info)) (hR : 1 + 1 ≤ R.frames ∧ 8 + (3 + 11) + 22 ≤ R.locals) (hls : ls.size = nL) (hrm : (rest.map fun v => v.category).sum ≤ 8) (hdg : decode cc pc = .ok (.invokevirtual index, 3)) (kk : ∀ (H1 : Heap) (locs1 : List Loc), va_P g.1 vwCl (tl_W g σ) H1 → va_S (tl_A g) H0 H1 locs1 → W p l e R s m args below meth c H1 locs1 0 0 Q (F0 m (pc + 3) ls (.int ro :: rest))) : W p l e R s m args below meth c H locs 0 0 Q (F0 m pc ls (.int a2 :: .int a1 :: .ref (tl_ad g 0) :: rest)) :=
  tl_goi (tl_callV C hts hP (okX3_info l g C.2.2.2.2.2.2.2 σ a1 a2 ro h) rfl rfl rfl (n := 2) (by decide +kernel) rfl (ci := 3) rfl (tl_k0 g σ) hG hR hls rfl hrm hdg) hS kk
abbrev rX3_chamber : Room := { frames := 0, cells := 0, slots := 0, locals := 0 }
set_option maxHeartbeats 4000000 in
set_option maxRecDepth 100000 in
theorem okX3_chamber (l : Launch) (g : tl_G) (hI : tl_I g) (σ : tl_St) (a1 : Int32) (ro : Int32) (h : fX3_chamber σ a1 = ro) : Met l yX3_chamber wsX3_chamber rX3_chamber (va_Pc [.ref (tl_ad g 0), .int a1] (tl_Pre g σ)) (tl_Qi g ro σ) 0 0 (tl_A g) := by
  refine tl_enter (cc := cX3_chamber) (maxL := 2) (ret := (some .int)) (own := RX3) hI (by decide) rfl rfl (Nat.le_of_ble_eq_true rfl) ?_
  intro p e s m below meth c C hts H locs hP hS ls hl
  have hx := C.1
  have hb := C.2.1
  have hl : lv_has ls 2 [(0, .ref (tl_ad g 0)), (1, .int a1)] := hl
  have hc2 : ∀ w ∈ u_ws RX2 TX2 14, w.before [.ref (tl_ad g 0), .int a1].toArray s = true := fun w hw => hts w (List.mem_cons_of_mem _ (List.mem_append_right _ hw))
  have hc3 : ∀ w ∈ u_ws RX3 TX3 13, w.before [.ref (tl_ad g 0), .int a1].toArray s = true := fun w hw => hts w (List.mem_cons_of_mem _ (List.mem_append_left _ (List.mem_append_right _ hw)))
  have lk0 : (Cond.fieldLink RX3 10 "ThriftLock" "water" "LThriftLock$Water;").before [.ref (tl_ad g 0), .int a1].toArray s = true := hts _ (List.mem_cons_of_mem _ (List.mem_append_left _ (List.mem_append_left _ (List.mem_of_getElem? (i := 0) rfl))))
  have lk1 : (Cond.fieldLink RX3 37 "ThriftLock$Water" "inChamber" "I").before [.ref (tl_ad g 0), .int a1].toArray s = true := hts _ (List.mem_cons_of_mem _ (List.mem_append_left _ (List.mem_append_left _ (List.mem_of_getElem? (i := 1) rfl))))
  have lk2 : (Cond.fieldLink RX3 41 "ThriftLock$Water" "fullAt" "I").before [.ref (tl_ad g 0), .int a1].toArray s = true := hts _ (List.mem_cons_of_mem _ (List.mem_append_left _ (List.mem_append_left _ (List.mem_of_getElem? (i := 2) rfl))))
  unfold fX3_chamber at h
  refine lv_iload_n (pc := 0) hx hb dX3_chamber_0 rfl (lv_at hl 1 rfl) ?_
  by_cases c1 : a1 = 0
  · replace h := (if_pos c1).symm.trans h
    refine tl_swIn (pc := 1) (tgt := 28) hx hb (kv := 0) c1 dX3_chamber_1 (by decide) (by decide) rfl (by decide) ?_
    refine lv_aload_n (pc := 28) hx hb dX3_chamber_28 rfl (lv_at hl 0 rfl) ?_
    refine tl_g0_0 (pc := 29) C hc3 hP lk0 dX3_chamber_29 ?_
    refine tl_gW_1 (pc := 32) C hc2 hP tl_W1 lk1 dX3_chamber_32 ?_
    exact tl_Ritr (pc := 35) C h hP hS dX3_chamber_35
  · replace h := (if_neg c1).symm.trans h
    by_cases c2 : a1 = 1
    · replace h := (if_pos c2).symm.trans h
      refine tl_swIn (pc := 1) (tgt := 36) hx hb (kv := 1) c2 dX3_chamber_1 (by decide) (by decide) rfl (by decide) ?_
      refine lv_bipush (pc := 36) (v := 6) hx hb dX3_chamber_36 (by decide) ?_
      refine lv_aload_n (pc := 38) hx hb dX3_chamber_38 rfl (lv_at hl 0 rfl) ?_
      refine tl_g0_0 (pc := 39) C hc3 hP lk0 dX3_chamber_39 ?_
      refine tl_gW_1 (pc := 42) C hc2 hP tl_W1 lk1 dX3_chamber_42 ?_
      refine lv_imul (pc := 45) hx hb dX3_chamber_45 ?_
      exact tl_Ritr (pc := 46) C h hP hS dX3_chamber_46
    · replace h := (if_neg c2).symm.trans h
      by_cases c3 : a1 = 2
      · replace h := (if_pos c3).symm.trans h
        refine tl_swIn (pc := 1) (tgt := 47) hx hb (kv := 2) c3 dX3_chamber_1 (by decide) (by decide) rfl (by decide) ?_
        refine lv_aload_n (pc := 47) hx hb dX3_chamber_47 rfl (lv_at hl 0 rfl) ?_
        refine tl_g0_0 (pc := 48) C hc3 hP lk0 dX3_chamber_48 ?_
        refine tl_gW_0 (pc := 51) C hc2 hP tl_W1 lk2 dX3_chamber_51 ?_
        exact tl_Ritr (pc := 54) C h hP hS dX3_chamber_54
      · replace h := (if_neg c3).symm.trans h
        have hsw : (a1).toInt < 0 ∨ 2 < (a1).toInt := by
          have n0 := tl_ne (k := 0) c1 (by decide) (by decide)
          have n1 := tl_ne (k := 1) c2 (by decide) (by decide)
          have n2 := tl_ne (k := 2) c3 (by decide) (by decide)
          omega
        refine lv_tableOut (pc := 1) (tgt := 55) hx hb dX3_chamber_1 hsw (by decide) ?_
        refine lv_bipush (pc := 55) (v := (-2)) hx hb dX3_chamber_55 (by decide) ?_
        exact tl_Ritr (pc := 57) C h hP hS dX3_chamber_57
theorem caX3_chamber {p : Program} {l : Launch} {e : Env} {R : Room} {s : State} {m : MethodId} {args : Array Value} {below : List Frame} {meth : Method} {c : Code} {H : Heap} {locs : List Loc} {Q : State → Prop} {cc : ByteArray} {pc : Nat} {ls : Array Slot} {rest : List Value} {g : tl_G} {σ : tl_St} {H0 : Heap} {nL : Nat} {own : String} {ret : Option FieldType} {index : Nat} (C : tl_C p s m meth c cc nL own ret g) {Ts : List Cond} (hts : ∀ w ∈ Ts, w.before args s = true) (hP : va_P g.1 vwCl (tl_W g σ) H) (hS : va_S (tl_A g) H0 H locs) {a1 : Int32} {ro : Int32} (h : fX3_chamber σ a1 = ro) (hG : GoodIn Ts (wsV own index RX3 yX3_chamber wsX3_chamber)) (hR : 0 + 1 ≤ R.frames ∧ 8 + (2 + 11) + 0 ≤ R.locals) (hls : ls.size = nL) (hrm : (rest.map fun v => v.category).sum ≤ 8) (hdg : decode cc pc = .ok (.invokevirtual index, 3)) (kk : ∀ (H1 : Heap) (locs1 : List Loc), va_P g.1 vwCl (tl_W g σ) H1 → va_S (tl_A g) H0 H1 locs1 → W p l e R s m args below meth c H1 locs1 0 0 Q (F0 m (pc + 3) ls (.int ro :: rest))) : W p l e R s m args below meth c H locs 0 0 Q (F0 m pc ls (.int a1 :: .ref (tl_ad g 0) :: rest)) :=
  tl_goi (tl_callV C hts hP (okX3_chamber l g C.2.2.2.2.2.2.2 σ a1 ro h) rfl rfl rfl (n := 1) (by decide +kernel) rfl (ci := 3) rfl (tl_k0 g σ) hG hR hls rfl hrm hdg) hS kk
abbrev rX3_isWay : Room := { frames := 0, cells := 0, slots := 0, locals := 0 }
set_option maxHeartbeats 4000000 in
set_option maxRecDepth 100000 in
theorem okX3_isWay (l : Launch) (g : tl_G) (hI : tl_I g) (σ : tl_St) (a1 : Int32) (ro : Int32) (h : fX3_isWay σ a1 = ro) : Met l yX3_isWay wsX3_isWay rX3_isWay (va_Pc [.int a1] (tl_Pre g σ)) (tl_Qi g ro σ) 0 0 (tl_A g) := by
  refine tl_enter (cc := cX3_isWay) (maxL := 1) (ret := (some .boolean)) (own := RX3) hI (by decide) rfl rfl (Nat.le_of_ble_eq_true rfl) ?_
  intro p e s m below meth c C hts H locs hP hS ls hl
  have hx := C.1
  have hb := C.2.1
  have hl : lv_has ls 1 [(0, .int a1)] := hl
  unfold fX3_isWay at h
  refine lv_iload_n (pc := 0) hx hb dX3_isWay_0 rfl (lv_at hl 0 rfl) ?_
  obtain ⟨k1, ek1, h⟩ := tl_j0 h
  have hJ1 : ∀ (H : Heap) (locs : List Loc) (ls : Array Slot), k1 = ro → va_P g.1 vwCl (tl_W g σ) H → va_S (tl_A g) s.heap H locs → lv_has ls 1 [] → W p l e rX3_isWay s m [.int a1].toArray below meth c H locs 0 0 (MQ below (tl_Qi g ro σ) [.int a1].toArray s 0 0 (tl_A g)) (F0 m 9 ls []) := by
    intro H locs ls h hP hS hl
    replace h := ek1.trans h
    refine lv_iconst (pc := 9) (v := 1) hx hb dX3_isWay_9 (by decide) ?_
    refine lv_goto (pc := 10) (tgt := 14) hx hb dX3_isWay_10 (by decide) ?_
    exact tl_Rztr (pc := 14) C h hP hS (Or.inr rfl) dX3_isWay_14
  refine lv_if_eq (pc := 1) (tgt := 9) hx hb dX3_isWay_1 (by decide) (fun c2 => ?_) (fun c2 => ?_)
  · replace h := (if_pos c2).symm.trans h
    exact hJ1 _ _ _ h hP hS (lv_sub hl [] rfl)
  · replace h := (if_neg c2).symm.trans h
    refine lv_iload_n (pc := 4) hx hb dX3_isWay_4 rfl (lv_at hl 0 rfl) ?_
    refine lv_iconst (pc := 5) (v := 1) hx hb dX3_isWay_5 (by decide) ?_
    refine lv_icmp_ne (pc := 6) (tgt := 13) hx hb dX3_isWay_6 (by decide) (fun c3 => ?_) (fun c3 => ?_)
    · replace h := (if_neg c3).symm.trans h
      refine lv_iconst (pc := 13) (v := 0) hx hb dX3_isWay_13 (by decide) ?_
      exact tl_Rztr (pc := 14) C h hP hS (Or.inl rfl) dX3_isWay_14
    · replace h := (if_pos c3).symm.trans h
      exact hJ1 _ _ _ h hP hS (lv_sub hl [] rfl)
theorem caX3_isWay {p : Program} {l : Launch} {e : Env} {R : Room} {s : State} {m : MethodId} {args : Array Value} {below : List Frame} {meth : Method} {c : Code} {H : Heap} {locs : List Loc} {Q : State → Prop} {cc : ByteArray} {pc : Nat} {ls : Array Slot} {rest : List Value} {g : tl_G} {σ : tl_St} {H0 : Heap} {nL : Nat} {own : String} {ret : Option FieldType} {index : Nat} (C : tl_C p s m meth c cc nL own ret g) {Ts : List Cond} (hts : ∀ w ∈ Ts, w.before args s = true) (hP : va_P g.1 vwCl (tl_W g σ) H) (hS : va_S (tl_A g) H0 H locs) {a1 : Int32} {ro : Int32} (h : fX3_isWay σ a1 = ro) (hG : GoodIn Ts (va_wsS own index yX3_isWay wsX3_isWay)) (hR : 0 + 1 ≤ R.frames ∧ 8 + (1 + 11) + 0 ≤ R.locals) (hls : ls.size = nL) (hrm : (rest.map fun v => v.category).sum ≤ 8) (hdg : decode cc pc = .ok (.invokestatic index, 3)) (kk : ∀ (H1 : Heap) (locs1 : List Loc), va_P g.1 vwCl (tl_W g σ) H1 → va_S (tl_A g) H0 H1 locs1 → W p l e R s m args below meth c H1 locs1 0 0 Q (F0 m (pc + 3) ls (.int ro :: rest))) : W p l e R s m args below meth c H locs 0 0 Q (F0 m pc ls (.int a1 :: rest)) :=
  tl_goi (tl_callS C hts hP (okX3_isWay l g C.2.2.2.2.2.2.2 σ a1 ro h) rfl rfl rfl (n := 1) (by decide +kernel) rfl hG hR hls rfl hrm hdg) hS kk
abbrev rX3_boat : Room := { frames := 1, cells := 0, slots := 0, locals := 21 }
set_option maxHeartbeats 4000000 in
set_option maxRecDepth 100000 in
theorem okX3_boat (l : Launch) (g : tl_G) (hI : tl_I g) (σ : tl_St) (a1 : Int32) (ro : Int32) (σo : tl_St) (h : fX3_boat σ a1 = some (ro, σo)) : Met l yX3_boat wsX3_boat rX3_boat (va_Pc [.ref (tl_ad g 0), .int a1] (tl_Pre g σ)) (tl_Qi g ro σo) 0 0 (tl_A g) := by
  refine tl_enter (cc := cX3_boat) (maxL := 3) (ret := (some .int)) (own := RX3) hI (by decide) rfl rfl (Nat.le_of_ble_eq_true rfl) ?_
  intro p e s m below meth c C hts H locs hP hS ls hl
  have hx := C.1
  have hb := C.2.1
  have hl : lv_has ls 3 [(0, .ref (tl_ad g 0)), (1, .int a1)] := hl
  have hc0 : ∀ w ∈ u_ws RX0 TX0 2, w.before [.ref (tl_ad g 0), .int a1].toArray s = true := fun w hw => hts w (List.mem_cons_of_mem _ (List.mem_append_right _ hw))
  have hc3 : ∀ w ∈ u_ws RX3 TX3 13, w.before [.ref (tl_ad g 0), .int a1].toArray s = true := fun w hw => hts w (List.mem_cons_of_mem _ (List.mem_append_left _ (List.mem_append_right _ hw)))
  have lk0 : (Cond.fieldLink RX3 21 "ThriftLock" "queues" "[LThriftLock$Queue;").before [.ref (tl_ad g 0), .int a1].toArray s = true := hts _ (List.mem_cons_of_mem _ (List.mem_append_left _ (List.mem_append_left _ (List.mem_of_getElem? (i := 0) rfl))))
  have lk1 : (Cond.fieldLink RX3 104 "ThriftLock$Queue" "size" "I").before [.ref (tl_ad g 0), .int a1].toArray s = true := hts _ (List.mem_cons_of_mem _ (List.mem_append_left _ (List.mem_append_left _ (List.mem_of_getElem? (i := 1) rfl))))
  have lk2 : (Cond.fieldLink RX3 105 "ThriftLock" "boatsCame" "I").before [.ref (tl_ad g 0), .int a1].toArray s = true := hts _ (List.mem_cons_of_mem _ (List.mem_append_left _ (List.mem_append_left _ (List.mem_of_getElem? (i := 2) rfl))))
  unfold fX3_boat at h
  refine lv_iload_n (pc := 0) hx hb dX3_boat_0 rfl (lv_at hl 1 rfl) ?_
  obtain ⟨r1, er1, h⟩ := tl_nm h
  refine caX3_isWay (pc := 1) C hts hP hS er1 gX3_boat_X3_isWay ⟨Nat.le_of_ble_eq_true rfl, Nat.le_of_ble_eq_true rfl⟩ hl.1 (Nat.le_of_ble_eq_true rfl) dX3_boat_1 (fun H locs hP hS => ?_)
  refine lv_if_ne (pc := 4) (tgt := 10) hx hb dX3_boat_4 (by decide) (fun c2 => ?_) (fun c2 => ?_)
  · replace h := (if_neg c2).symm.trans h
    refine lv_aload_n (pc := 10) hx hb dX3_boat_10 rfl (lv_at hl 0 rfl) ?_
    refine tl_g0_2 (pc := 11) C hc3 hP lk0 dX3_boat_11 ?_
    refine lv_iload_n (pc := 14) hx hb dX3_boat_14 rfl (lv_at hl 1 rfl) ?_
    obtain ⟨g3, h⟩ := tl_gd h
    refine tl_aldQ (pc := 15) C hP g3 dX3_boat_15 ?_
    obtain ⟨o4, eo4, h⟩ := tl_nm h
    have io4 : tl_isQ o4 := by rw [← eo4]; exact tl_qOf g3
    refine tl_tr (congrArg (tl_ad g) eo4) ?_
    refine tl_gQ_1 (pc := 16) C hc0 hP io4 lk1 dX3_boat_16 ?_
    refine lv_bipush (pc := 19) (v := 16) hx hb dX3_boat_19 (by decide) ?_
    refine lv_icmp_ge (pc := 21) (tgt := 33) hx hb dX3_boat_21 (by decide) (fun c5 => ?_) (fun c5 => ?_)
    · replace h := (if_pos c5).symm.trans h
      refine lv_bipush (pc := 33) (v := (-4)) hx hb dX3_boat_33 (by decide) ?_
      exact tl_Ripw (pc := 35) C h hP hS dX3_boat_35
    · replace h := (if_neg c5).symm.trans h
      refine lv_aload_n (pc := 24) hx hb dX3_boat_24 rfl (lv_at hl 0 rfl) ?_
      refine tl_g0_10 (pc := 25) C hc3 hP lk2 dX3_boat_25 ?_
      refine lv_bipush (pc := 28) (v := 100) hx hb dX3_boat_28 (by decide) ?_
      refine lv_icmp_lt (pc := 30) (tgt := 36) hx hb dX3_boat_30 (by decide) (fun c6 => ?_) (fun c6 => ?_)
      · replace h := (if_pos c6).symm.trans h
        refine lv_aload_n (pc := 36) hx hb dX3_boat_36 rfl (lv_at hl 0 rfl) ?_
        refine tl_g0_10 (pc := 37) C hc3 hP lk2 dX3_boat_37 ?_
        obtain ⟨x7, ex7, h⟩ := tl_nm h
        refine tl_ti ex7 ?_
        refine lv_istore_n (pc := 40) (lv' := [(2, .int x7), (0, .ref (tl_ad g 0)), (1, .int a1)]) hx hb dX3_boat_40 rfl hl (by decide) rfl (fun ls hl => ?_)
        refine lv_aload_n (pc := 41) hx hb dX3_boat_41 rfl (lv_at hl 1 rfl) ?_
        refine tl_g0_2 (pc := 42) C hc3 hP lk0 dX3_boat_42 ?_
        refine lv_iload_n (pc := 45) hx hb dX3_boat_45 rfl (lv_at hl 2 rfl) ?_
        obtain ⟨g8, h⟩ := tl_gd h
        refine tl_aldQ (pc := 46) C hP g8 dX3_boat_46 ?_
        obtain ⟨o9, eo9, h⟩ := tl_nm h
        have io9 : tl_isQ o9 := by rw [← eo9]; exact tl_qOf g8
        refine tl_tr (congrArg (tl_ad g) eo9) ?_
        refine lv_iload_n (pc := 47) hx hb dX3_boat_47 rfl (lv_at hl 0 rfl) ?_
        obtain ⟨σ10, eσ10, h⟩ := tl_o1s h
        refine caX0_append (pc := 48) C hts hP hS io9 eσ10 gX3_boat_X0_append ⟨Nat.le_of_ble_eq_true rfl, Nat.le_of_ble_eq_true rfl⟩ hl.1 (Nat.le_of_ble_eq_true rfl) dX3_boat_48 (fun H locs hP hS => ?_)
        refine lv_aload_n (pc := 51) hx hb dX3_boat_51 rfl (lv_at hl 1 rfl) ?_
        refine lv_dup (pc := 52) hx hb dX3_boat_52 rfl ?_
        refine tl_g0_10 (pc := 53) C hc3 hP lk2 dX3_boat_53 ?_
        refine lv_iconst (pc := 56) (v := 1) hx hb dX3_boat_56 (by decide) ?_
        refine lv_iadd (pc := 57) hx hb dX3_boat_57 ?_
        obtain ⟨σ11, eσ11, h⟩ := tl_nm h
        refine tl_s0_10 (pc := 58) C hc3 hP hS eσ11 lk2 dX3_boat_58 (fun H locs hP hS => ?_)
        refine lv_iload_n (pc := 61) hx hb dX3_boat_61 rfl (lv_at hl 0 rfl) ?_
        exact tl_Ripw (pc := 62) C h hP hS dX3_boat_62
      · replace h := (if_neg c6).symm.trans h
        refine lv_bipush (pc := 33) (v := (-4)) hx hb dX3_boat_33 (by decide) ?_
        exact tl_Ripw (pc := 35) C h hP hS dX3_boat_35
  · replace h := (if_pos c2).symm.trans h
    refine lv_bipush (pc := 7) (v := (-2)) hx hb dX3_boat_7 (by decide) ?_
    exact tl_Ripw (pc := 9) C h hP hS dX3_boat_9
theorem caX3_boat {p : Program} {l : Launch} {e : Env} {R : Room} {s : State} {m : MethodId} {args : Array Value} {below : List Frame} {meth : Method} {c : Code} {H : Heap} {locs : List Loc} {Q : State → Prop} {cc : ByteArray} {pc : Nat} {ls : Array Slot} {rest : List Value} {g : tl_G} {σ : tl_St} {H0 : Heap} {nL : Nat} {own : String} {ret : Option FieldType} {index : Nat} (C : tl_C p s m meth c cc nL own ret g) {Ts : List Cond} (hts : ∀ w ∈ Ts, w.before args s = true) (hP : va_P g.1 vwCl (tl_W g σ) H) (hS : va_S (tl_A g) H0 H locs) {a1 : Int32} {ro : Int32} {σo : tl_St} (h : fX3_boat σ a1 = some (ro, σo)) (hG : GoodIn Ts (wsV own index RX3 yX3_boat wsX3_boat)) (hR : 1 + 1 ≤ R.frames ∧ 8 + (3 + 11) + 21 ≤ R.locals) (hls : ls.size = nL) (hrm : (rest.map fun v => v.category).sum ≤ 8) (hdg : decode cc pc = .ok (.invokevirtual index, 3)) (kk : ∀ (H1 : Heap) (locs1 : List Loc), va_P g.1 vwCl (tl_W g σo) H1 → va_S (tl_A g) H0 H1 locs1 → W p l e R s m args below meth c H1 locs1 0 0 Q (F0 m (pc + 3) ls (.int ro :: rest))) : W p l e R s m args below meth c H locs 0 0 Q (F0 m pc ls (.int a1 :: .ref (tl_ad g 0) :: rest)) :=
  tl_goi (tl_callV C hts hP (okX3_boat l g C.2.2.2.2.2.2.2 σ a1 ro σo h) rfl rfl rfl (n := 1) (by decide +kernel) rfl (ci := 3) rfl (tl_k0 g σ) hG hR hls rfl hrm hdg) hS kk

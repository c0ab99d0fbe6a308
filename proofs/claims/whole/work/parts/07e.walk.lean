abbrev rX3_foldBoats : Room := { frames := 3, cells := 0, slots := 0, locals := 65 }
set_option maxHeartbeats 4000000 in
set_option maxRecDepth 100000 in
theorem okX3_foldBoats (l : Launch) (g : tl_G) (hI : tl_I g) (σ : tl_St) (a1 : Int64) (ro : Int64) (h : fX3_foldBoats σ a1 = some ro) : Met l yX3_foldBoats wsX3_foldBoats rX3_foldBoats (va_Pc [.ref (tl_ad g 0), .long a1] (tl_Pre g σ)) (tl_Ql g ro σ) 0 0 (tl_A g) := by
  refine tl_enter (cc := cX3_foldBoats) (maxL := 6) (ret := (some .long)) (own := RX3) hI (by decide) rfl rfl (Nat.le_of_ble_eq_true rfl) ?_
  intro p e s m below meth c C hts H locs hP hS ls hl
  have hx := C.1
  have hb := C.2.1
  have hl : lv_has ls 6 [(0, .ref (tl_ad g 0)), (1, .long a1)] := hl
  unfold fX3_foldBoats at h
  refine lv_lload_n (pc := 0) hx hb dX3_foldBoats_0 rfl (lv_at hl 1 rfl) ?_
  refine lv_lstore_n (pc := 1) (lv' := [(3, .long a1), (0, .ref (tl_ad g 0)), (1, .long a1)]) hx hb dX3_foldBoats_1 rfl hl (by decide) rfl (fun ls hl => ?_)
  refine lv_iconst (pc := 2) (v := 0) hx hb dX3_foldBoats_2 (by decide) ?_
  refine lv_istore (pc := 3) (lv' := [(5, .int 0), (3, .long a1), (0, .ref (tl_ad g 0)), (1, .long a1)]) hx hb dX3_foldBoats_3 hl (by decide) rfl (fun ls hl => ?_)
  obtain ⟨k2, ek2, h⟩ := tl_j1 h
  have hZ2 : ∀ (x1 : Int64) (H : Heap) (locs : List Loc) (ls : Array Slot), k2 x1 = some ro → va_P g.1 vwCl (tl_W g σ) H → va_S (tl_A g) s.heap H locs → lv_has ls 6 [(0, .ref (tl_ad g 0)), (3, .long x1)] → W p l e rX3_foldBoats s m [.ref (tl_ad g 0), .long a1].toArray below meth c H locs 0 0 (MQ below (tl_Ql g ro σ) [.ref (tl_ad g 0), .long a1].toArray s 0 0 (tl_A g)) (F0 m 53 ls []) := by
    intro x1 H locs ls h hP hS hl
    replace h := (ek2 x1).trans h
    refine lv_lload_n (pc := 53) hx hb dX3_foldBoats_53 rfl (lv_at hl 1 rfl) ?_
    refine lv_aload_n (pc := 54) hx hb dX3_foldBoats_54 rfl (lv_at hl 0 rfl) ?_
    refine lv_iconst (pc := 55) (v := 0) hx hb dX3_foldBoats_55 (by decide) ?_
    obtain ⟨r3, er3, h⟩ := tl_o1s h
    refine caX3_next (pc := 56) C hts hP hS er3 gX3_foldBoats_X3_next ⟨Nat.le_of_ble_eq_true rfl, Nat.le_of_ble_eq_true rfl⟩ hl.1 (Nat.le_of_ble_eq_true rfl) dX3_foldBoats_56 (fun H locs hP hS => ?_)
    obtain ⟨r4, er4, h⟩ := tl_nm h
    refine caX3_fold (pc := 59) C hts hP hS er4 gX3_foldBoats_X3_fold ⟨Nat.le_of_ble_eq_true rfl, Nat.le_of_ble_eq_true rfl⟩ hl.1 (Nat.le_of_ble_eq_true rfl) dX3_foldBoats_59 (fun H locs hP hS => ?_)
    refine lv_lstore_n (pc := 62) (lv' := [(3, .long r4), (0, .ref (tl_ad g 0))]) hx hb dX3_foldBoats_62 rfl hl (by decide) rfl (fun ls hl => ?_)
    refine lv_lload_n (pc := 63) hx hb dX3_foldBoats_63 rfl (lv_at hl 0 rfl) ?_
    refine lv_aload_n (pc := 64) hx hb dX3_foldBoats_64 rfl (lv_at hl 1 rfl) ?_
    refine lv_iconst (pc := 65) (v := 1) hx hb dX3_foldBoats_65 (by decide) ?_
    obtain ⟨r5, er5, h⟩ := tl_o1s h
    refine caX3_next (pc := 66) C hts hP hS er5 gX3_foldBoats_X3_next ⟨Nat.le_of_ble_eq_true rfl, Nat.le_of_ble_eq_true rfl⟩ hl.1 (Nat.le_of_ble_eq_true rfl) dX3_foldBoats_66 (fun H locs hP hS => ?_)
    obtain ⟨r6, er6, h⟩ := tl_nm h
    refine caX3_fold (pc := 69) C hts hP hS er6 gX3_foldBoats_X3_fold ⟨Nat.le_of_ble_eq_true rfl, Nat.le_of_ble_eq_true rfl⟩ hl.1 (Nat.le_of_ble_eq_true rfl) dX3_foldBoats_69 (fun H locs hP hS => ?_)
    exact tl_Rlpr (pc := 72) C h hP hS dX3_foldBoats_72
  have hL5 : ∀ (n : Nat) (x7 : Int64) (x8 : Int32) (H : Heap) (locs : List Loc) (ls : Array Slot), fX3_foldBoats_L5 σ k2 n x7 x8 = some ro → va_P g.1 vwCl (tl_W g σ) H → va_S (tl_A g) s.heap H locs → lv_has ls 6 [(0, .ref (tl_ad g 0)), (3, .long x7), (5, .int x8)] → W p l e rX3_foldBoats s m [.ref (tl_ad g 0), .long a1].toArray below meth c H locs 0 0 (MQ below (tl_Ql g ro σ) [.ref (tl_ad g 0), .long a1].toArray s 0 0 (tl_A g)) (F0 m 5 ls []) := by
    intro n
    induction n with
    | zero =>
      intro x7 x8 H locs ls h hP hS hl
      rw [fX3_foldBoats_L5] at h
      cases h
    | succ n ih =>
      intro x7 x8 H locs ls h hP hS hl
      rw [fX3_foldBoats_L5] at h
      refine lv_iload (pc := 5) hx hb dX3_foldBoats_5 (lv_at hl 2 rfl) ?_
      refine lv_iconst (pc := 7) (v := 1) hx hb dX3_foldBoats_7 (by decide) ?_
      refine lv_icmp_gt (pc := 8) (tgt := 53) hx hb dX3_foldBoats_8 (by decide) (fun c9 => ?_) (fun c9 => ?_)
      · replace h := (if_pos c9).symm.trans h
        exact hZ2 x7 _ _ _ h hP hS (lv_sub hl [0, 1] rfl)
      · replace h := (if_neg c9).symm.trans h
        refine lv_lload_n (pc := 11) hx hb dX3_foldBoats_11 rfl (lv_at hl 1 rfl) ?_
        refine lv_aload_n (pc := 12) hx hb dX3_foldBoats_12 rfl (lv_at hl 0 rfl) ?_
        refine lv_iload (pc := 13) hx hb dX3_foldBoats_13 (lv_at hl 2 rfl) ?_
        refine lv_iconst (pc := 15) (v := (-1)) hx hb dX3_foldBoats_15 (by decide) ?_
        obtain ⟨r10, er10, h⟩ := tl_o1s h
        refine caX3_waits (pc := 16) C hts hP hS er10 gX3_foldBoats_X3_waits ⟨Nat.le_of_ble_eq_true rfl, Nat.le_of_ble_eq_true rfl⟩ hl.1 (Nat.le_of_ble_eq_true rfl) dX3_foldBoats_16 (fun H locs hP hS => ?_)
        obtain ⟨r11, er11, h⟩ := tl_nm h
        refine caX3_fold (pc := 19) C hts hP hS er11 gX3_foldBoats_X3_fold ⟨Nat.le_of_ble_eq_true rfl, Nat.le_of_ble_eq_true rfl⟩ hl.1 (Nat.le_of_ble_eq_true rfl) dX3_foldBoats_19 (fun H locs hP hS => ?_)
        refine lv_lstore_n (pc := 22) (lv' := [(3, .long r11), (0, .ref (tl_ad g 0)), (5, .int x8)]) hx hb dX3_foldBoats_22 rfl hl (by decide) rfl (fun ls hl => ?_)
        refine lv_lload_n (pc := 23) hx hb dX3_foldBoats_23 rfl (lv_at hl 0 rfl) ?_
        refine lv_aload_n (pc := 24) hx hb dX3_foldBoats_24 rfl (lv_at hl 1 rfl) ?_
        refine lv_iload (pc := 25) hx hb dX3_foldBoats_25 (lv_at hl 2 rfl) ?_
        refine lv_iconst (pc := 27) (v := 0) hx hb dX3_foldBoats_27 (by decide) ?_
        obtain ⟨r12, er12, h⟩ := tl_o1s h
        refine caX3_waits (pc := 28) C hts hP hS er12 gX3_foldBoats_X3_waits ⟨Nat.le_of_ble_eq_true rfl, Nat.le_of_ble_eq_true rfl⟩ hl.1 (Nat.le_of_ble_eq_true rfl) dX3_foldBoats_28 (fun H locs hP hS => ?_)
        obtain ⟨r13, er13, h⟩ := tl_nm h
        refine caX3_fold (pc := 31) C hts hP hS er13 gX3_foldBoats_X3_fold ⟨Nat.le_of_ble_eq_true rfl, Nat.le_of_ble_eq_true rfl⟩ hl.1 (Nat.le_of_ble_eq_true rfl) dX3_foldBoats_31 (fun H locs hP hS => ?_)
        refine lv_lstore_n (pc := 34) (lv' := [(3, .long r13), (0, .ref (tl_ad g 0)), (5, .int x8)]) hx hb dX3_foldBoats_34 rfl hl (by decide) rfl (fun ls hl => ?_)
        refine lv_lload_n (pc := 35) hx hb dX3_foldBoats_35 rfl (lv_at hl 0 rfl) ?_
        refine lv_aload_n (pc := 36) hx hb dX3_foldBoats_36 rfl (lv_at hl 1 rfl) ?_
        refine lv_iload (pc := 37) hx hb dX3_foldBoats_37 (lv_at hl 2 rfl) ?_
        refine lv_iconst (pc := 39) (v := 3) hx hb dX3_foldBoats_39 (by decide) ?_
        obtain ⟨r14, er14, h⟩ := tl_o1s h
        refine caX3_waits (pc := 40) C hts hP hS er14 gX3_foldBoats_X3_waits ⟨Nat.le_of_ble_eq_true rfl, Nat.le_of_ble_eq_true rfl⟩ hl.1 (Nat.le_of_ble_eq_true rfl) dX3_foldBoats_40 (fun H locs hP hS => ?_)
        obtain ⟨r15, er15, h⟩ := tl_nm h
        refine caX3_fold (pc := 43) C hts hP hS er15 gX3_foldBoats_X3_fold ⟨Nat.le_of_ble_eq_true rfl, Nat.le_of_ble_eq_true rfl⟩ hl.1 (Nat.le_of_ble_eq_true rfl) dX3_foldBoats_43 (fun H locs hP hS => ?_)
        refine lv_lstore_n (pc := 46) (lv' := [(3, .long r15), (0, .ref (tl_ad g 0)), (5, .int x8)]) hx hb dX3_foldBoats_46 rfl hl (by decide) rfl (fun ls hl => ?_)
        obtain ⟨x16, ex16, h⟩ := tl_nm h
        refine lv_iinc (pc := 47) (v := x16) (lv' := [(5, .int x16), (3, .long r15), (0, .ref (tl_ad g 0))]) hx hb dX3_foldBoats_47 hl (k := 2) rfl ex16 (by decide) rfl (fun ls hl => ?_)
        refine lv_goto (pc := 50) (tgt := 5) hx hb dX3_foldBoats_50 (by decide) ?_
        exact ih r15 x16 _ _ _ h hP hS (lv_sub hl [2, 1, 0] rfl)
  exact hL5 1000 a1 0 _ _ _ h hP hS (lv_sub hl [2, 1, 0] rfl)
theorem caX3_foldBoats {p : Program} {l : Launch} {e : Env} {R : Room} {s : State} {m : MethodId} {args : Array Value} {below : List Frame} {meth : Method} {c : Code} {H : Heap} {locs : List Loc} {Q : State → Prop} {cc : ByteArray} {pc : Nat} {ls : Array Slot} {rest : List Value} {g : tl_G} {σ : tl_St} {H0 : Heap} {nL : Nat} {own : String} {ret : Option FieldType} {index : Nat} (C : tl_C p s m meth c cc nL own ret g) {Ts : List Cond} (hts : ∀ w ∈ Ts, w.before args s = true) (hP : va_P g.1 vwCl (tl_W g σ) H) (hS : va_S (tl_A g) H0 H locs) {a1 : Int64} {ro : Int64} (h : fX3_foldBoats σ a1 = some ro) (hG : GoodIn Ts (wsV own index RX3 yX3_foldBoats wsX3_foldBoats)) (hR : 3 + 1 ≤ R.frames ∧ 8 + (6 + 11) + 65 ≤ R.locals) (hls : ls.size = nL) (hrm : (rest.map fun v => v.category).sum ≤ 8) (hdg : decode cc pc = .ok (.invokevirtual index, 3)) (kk : ∀ (H1 : Heap) (locs1 : List Loc), va_P g.1 vwCl (tl_W g σ) H1 → va_S (tl_A g) H0 H1 locs1 → W p l e R s m args below meth c H1 locs1 0 0 Q (F0 m (pc + 3) ls (.long ro :: rest))) : W p l e R s m args below meth c H locs 0 0 Q (F0 m pc ls (.long a1 :: .ref (tl_ad g 0) :: rest)) :=
  tl_gol (tl_callV C hts hP (okX3_foldBoats l g C.2.2.2.2.2.2.2 σ a1 ro h) rfl rfl rfl (n := 1) (by decide +kernel) rfl (ci := 3) rfl (tl_k0 g σ) hG hR hls rfl hrm hdg) hS kk
abbrev rX3_foldTurns : Room := { frames := 2, cells := 0, slots := 0, locals := 43 }
set_option maxHeartbeats 4000000 in
set_option maxRecDepth 100000 in
theorem okX3_foldTurns (l : Launch) (g : tl_G) (hI : tl_I g) (σ : tl_St) (a1 : Int64) (ro : Int64) (h : fX3_foldTurns σ a1 = some ro) : Met l yX3_foldTurns wsX3_foldTurns rX3_foldTurns (va_Pc [.ref (tl_ad g 0), .long a1] (tl_Pre g σ)) (tl_Ql g ro σ) 0 0 (tl_A g) := by
  refine tl_enter (cc := cX3_foldTurns) (maxL := 7) (ret := (some .long)) (own := RX3) hI (by decide) rfl rfl (Nat.le_of_ble_eq_true rfl) ?_
  intro p e s m below meth c C hts H locs hP hS ls hl
  have hx := C.1
  have hb := C.2.1
  have hl : lv_has ls 7 [(0, .ref (tl_ad g 0)), (1, .long a1)] := hl
  have hc3 : ∀ w ∈ u_ws RX3 TX3 13, w.before [.ref (tl_ad g 0), .long a1].toArray s = true := fun w hw => hts w (List.mem_cons_of_mem _ (List.mem_append_left _ (List.mem_append_right _ hw)))
  have lk0 : (Cond.fieldLink RX3 131 "ThriftLock" "turnsKept" "I").before [.ref (tl_ad g 0), .long a1].toArray s = true := hts _ (List.mem_cons_of_mem _ (List.mem_append_left _ (List.mem_append_left _ (List.mem_append_left _ (List.mem_of_getElem? (i := 0) rfl)))))
  unfold fX3_foldTurns at h
  refine lv_lload_n (pc := 0) hx hb dX3_foldTurns_0 rfl (lv_at hl 1 rfl) ?_
  refine lv_lstore_n (pc := 1) (lv' := [(3, .long a1), (0, .ref (tl_ad g 0)), (1, .long a1)]) hx hb dX3_foldTurns_1 rfl hl (by decide) rfl (fun ls hl => ?_)
  refine lv_iconst (pc := 2) (v := 0) hx hb dX3_foldTurns_2 (by decide) ?_
  refine lv_istore (pc := 3) (lv' := [(5, .int 0), (3, .long a1), (0, .ref (tl_ad g 0)), (1, .long a1)]) hx hb dX3_foldTurns_3 hl (by decide) rfl (fun ls hl => ?_)
  obtain ⟨k2, ek2, h⟩ := tl_j1 h
  have hZ2 : ∀ (x1 : Int64) (H : Heap) (locs : List Loc) (ls : Array Slot), k2 x1 = some ro → va_P g.1 vwCl (tl_W g σ) H → va_S (tl_A g) s.heap H locs → lv_has ls 7 [(0, .ref (tl_ad g 0)), (3, .long x1)] → W p l e rX3_foldTurns s m [.ref (tl_ad g 0), .long a1].toArray below meth c H locs 0 0 (MQ below (tl_Ql g ro σ) [.ref (tl_ad g 0), .long a1].toArray s 0 0 (tl_A g)) (F0 m 49 ls []) := by
    intro x1 H locs ls h hP hS hl
    replace h := (ek2 x1).trans h
    refine lv_iconst (pc := 49) (v := 0) hx hb dX3_foldTurns_49 (by decide) ?_
    refine lv_istore (pc := 50) (lv' := [(5, .int 0), (0, .ref (tl_ad g 0)), (3, .long x1)]) hx hb dX3_foldTurns_50 hl (by decide) rfl (fun ls hl => ?_)
    obtain ⟨k4, ek4, h⟩ := tl_j1 h
    have hZ4 : ∀ (x3 : Int64) (H : Heap) (locs : List Loc) (ls : Array Slot), k4 x3 = some ro → va_P g.1 vwCl (tl_W g σ) H → va_S (tl_A g) s.heap H locs → lv_has ls 7 [(3, .long x3)] → W p l e rX3_foldTurns s m [.ref (tl_ad g 0), .long a1].toArray below meth c H locs 0 0 (MQ below (tl_Ql g ro σ) [.ref (tl_ad g 0), .long a1].toArray s 0 0 (tl_A g)) (F0 m 75 ls []) := by
      intro x3 H locs ls h hP hS hl
      replace h := (ek4 x3).trans h
      refine lv_lload_n (pc := 75) hx hb dX3_foldTurns_75 rfl (lv_at hl 0 rfl) ?_
      exact tl_Rlpr (pc := 76) C h hP hS dX3_foldTurns_76
    have hL52 : ∀ (n : Nat) (x5 : Int64) (x6 : Int32) (H : Heap) (locs : List Loc) (ls : Array Slot), fX3_foldTurns_L52 σ k4 n x5 x6 = some ro → va_P g.1 vwCl (tl_W g σ) H → va_S (tl_A g) s.heap H locs → lv_has ls 7 [(0, .ref (tl_ad g 0)), (3, .long x5), (5, .int x6)] → W p l e rX3_foldTurns s m [.ref (tl_ad g 0), .long a1].toArray below meth c H locs 0 0 (MQ below (tl_Ql g ro σ) [.ref (tl_ad g 0), .long a1].toArray s 0 0 (tl_A g)) (F0 m 52 ls []) := by
      intro n
      induction n with
      | zero =>
        intro x5 x6 H locs ls h hP hS hl
        rw [fX3_foldTurns_L52] at h
        cases h
      | succ n ih =>
        intro x5 x6 H locs ls h hP hS hl
        rw [fX3_foldTurns_L52] at h
        refine lv_iload (pc := 52) hx hb dX3_foldTurns_52 (lv_at hl 2 rfl) ?_
        refine lv_iconst (pc := 54) (v := 4) hx hb dX3_foldTurns_54 (by decide) ?_
        refine lv_icmp_gt (pc := 55) (tgt := 75) hx hb dX3_foldTurns_55 (by decide) (fun c7 => ?_) (fun c7 => ?_)
        · replace h := (if_pos c7).symm.trans h
          exact hZ4 x5 _ _ _ h hP hS (lv_sub hl [1] rfl)
        · replace h := (if_neg c7).symm.trans h
          refine lv_lload_n (pc := 58) hx hb dX3_foldTurns_58 rfl (lv_at hl 1 rfl) ?_
          refine lv_aload_n (pc := 59) hx hb dX3_foldTurns_59 rfl (lv_at hl 0 rfl) ?_
          refine lv_iload (pc := 60) hx hb dX3_foldTurns_60 (lv_at hl 2 rfl) ?_
          obtain ⟨r8, er8, h⟩ := tl_o1s h
          refine caX3_total (pc := 62) C hts hP hS er8 gX3_foldTurns_X3_total ⟨Nat.le_of_ble_eq_true rfl, Nat.le_of_ble_eq_true rfl⟩ hl.1 (Nat.le_of_ble_eq_true rfl) dX3_foldTurns_62 (fun H locs hP hS => ?_)
          obtain ⟨r9, er9, h⟩ := tl_nm h
          refine caX3_fold (pc := 65) C hts hP hS er9 gX3_foldTurns_X3_fold ⟨Nat.le_of_ble_eq_true rfl, Nat.le_of_ble_eq_true rfl⟩ hl.1 (Nat.le_of_ble_eq_true rfl) dX3_foldTurns_65 (fun H locs hP hS => ?_)
          refine lv_lstore_n (pc := 68) (lv' := [(3, .long r9), (0, .ref (tl_ad g 0)), (5, .int x6)]) hx hb dX3_foldTurns_68 rfl hl (by decide) rfl (fun ls hl => ?_)
          obtain ⟨x10, ex10, h⟩ := tl_nm h
          refine lv_iinc (pc := 69) (v := x10) (lv' := [(5, .int x10), (3, .long r9), (0, .ref (tl_ad g 0))]) hx hb dX3_foldTurns_69 hl (k := 2) rfl ex10 (by decide) rfl (fun ls hl => ?_)
          refine lv_goto (pc := 72) (tgt := 52) hx hb dX3_foldTurns_72 (by decide) ?_
          exact ih r9 x10 _ _ _ h hP hS (lv_sub hl [2, 1, 0] rfl)
    exact hL52 1000 x1 0 _ _ _ h hP hS (lv_sub hl [1, 2, 0] rfl)
  have hL5 : ∀ (n : Nat) (x11 : Int64) (x12 : Int32) (H : Heap) (locs : List Loc) (ls : Array Slot), fX3_foldTurns_L5 σ k2 n x11 x12 = some ro → va_P g.1 vwCl (tl_W g σ) H → va_S (tl_A g) s.heap H locs → lv_has ls 7 [(0, .ref (tl_ad g 0)), (3, .long x11), (5, .int x12)] → W p l e rX3_foldTurns s m [.ref (tl_ad g 0), .long a1].toArray below meth c H locs 0 0 (MQ below (tl_Ql g ro σ) [.ref (tl_ad g 0), .long a1].toArray s 0 0 (tl_A g)) (F0 m 5 ls []) := by
    intro n
    induction n with
    | zero =>
      intro x11 x12 H locs ls h hP hS hl
      rw [fX3_foldTurns_L5] at h
      cases h
    | succ n ih =>
      intro x11 x12 H locs ls h hP hS hl
      rw [fX3_foldTurns_L5] at h
      refine lv_iload (pc := 5) hx hb dX3_foldTurns_5 (lv_at hl 2 rfl) ?_
      refine lv_aload_n (pc := 7) hx hb dX3_foldTurns_7 rfl (lv_at hl 0 rfl) ?_
      refine tl_g0_5 (pc := 8) C hc3 hP lk0 dX3_foldTurns_8 ?_
      refine lv_icmp_ge (pc := 11) (tgt := 49) hx hb dX3_foldTurns_11 (by decide) (fun c13 => ?_) (fun c13 => ?_)
      · replace h := (if_pos c13).symm.trans h
        exact hZ2 x11 _ _ _ h hP hS (lv_sub hl [0, 1] rfl)
      · replace h := (if_neg c13).symm.trans h
        refine lv_iconst (pc := 14) (v := 0) hx hb dX3_foldTurns_14 (by decide) ?_
        refine lv_istore (pc := 15) (lv' := [(6, .int 0), (0, .ref (tl_ad g 0)), (3, .long x11), (5, .int x12)]) hx hb dX3_foldTurns_15 hl (by decide) rfl (fun ls hl => ?_)
        obtain ⟨k15, ek15, h⟩ := tl_j1 h
        have hZ15 : ∀ (x14 : Int64) (H : Heap) (locs : List Loc) (ls : Array Slot), k15 x14 = some ro → va_P g.1 vwCl (tl_W g σ) H → va_S (tl_A g) s.heap H locs → lv_has ls 7 [(0, .ref (tl_ad g 0)), (3, .long x14), (5, .int x12)] → W p l e rX3_foldTurns s m [.ref (tl_ad g 0), .long a1].toArray below meth c H locs 0 0 (MQ below (tl_Ql g ro σ) [.ref (tl_ad g 0), .long a1].toArray s 0 0 (tl_A g)) (F0 m 43 ls []) := by
          intro x14 H locs ls h hP hS hl
          replace h := (ek15 x14).trans h
          obtain ⟨x16, ex16, h⟩ := tl_nm h
          refine lv_iinc (pc := 43) (v := x16) (lv' := [(5, .int x16), (0, .ref (tl_ad g 0)), (3, .long x14)]) hx hb dX3_foldTurns_43 hl (k := 2) rfl ex16 (by decide) rfl (fun ls hl => ?_)
          refine lv_goto (pc := 46) (tgt := 5) hx hb dX3_foldTurns_46 (by decide) ?_
          exact ih x14 x16 _ _ _ h hP hS (lv_sub hl [1, 2, 0] rfl)
        have hL17 : ∀ (n : Nat) (x17 : Int64) (x18 : Int32) (H : Heap) (locs : List Loc) (ls : Array Slot), fX3_foldTurns_L17 σ x12 k15 n x17 x18 = some ro → va_P g.1 vwCl (tl_W g σ) H → va_S (tl_A g) s.heap H locs → lv_has ls 7 [(0, .ref (tl_ad g 0)), (3, .long x17), (5, .int x12), (6, .int x18)] → W p l e rX3_foldTurns s m [.ref (tl_ad g 0), .long a1].toArray below meth c H locs 0 0 (MQ below (tl_Ql g ro σ) [.ref (tl_ad g 0), .long a1].toArray s 0 0 (tl_A g)) (F0 m 17 ls []) := by
          intro n
          induction n with
          | zero =>
            intro x17 x18 H locs ls h hP hS hl
            rw [fX3_foldTurns_L17] at h
            cases h
          | succ n ih =>
            intro x17 x18 H locs ls h hP hS hl
            rw [fX3_foldTurns_L17] at h
            refine lv_iload (pc := 17) hx hb dX3_foldTurns_17 (lv_at hl 3 rfl) ?_
            refine lv_bipush (pc := 19) (v := 9) hx hb dX3_foldTurns_19 (by decide) ?_
            refine lv_icmp_ge (pc := 21) (tgt := 43) hx hb dX3_foldTurns_21 (by decide) (fun c19 => ?_) (fun c19 => ?_)
            · replace h := (if_pos c19).symm.trans h
              exact hZ15 x17 _ _ _ h hP hS (lv_sub hl [0, 1, 2] rfl)
            · replace h := (if_neg c19).symm.trans h
              refine lv_lload_n (pc := 24) hx hb dX3_foldTurns_24 rfl (lv_at hl 1 rfl) ?_
              refine lv_aload_n (pc := 25) hx hb dX3_foldTurns_25 rfl (lv_at hl 0 rfl) ?_
              refine lv_iload (pc := 26) hx hb dX3_foldTurns_26 (lv_at hl 2 rfl) ?_
              refine lv_iload (pc := 28) hx hb dX3_foldTurns_28 (lv_at hl 3 rfl) ?_
              obtain ⟨r20, er20, h⟩ := tl_o1s h
              refine caX3_ledger (pc := 30) C hts hP hS er20 gX3_foldTurns_X3_ledger ⟨Nat.le_of_ble_eq_true rfl, Nat.le_of_ble_eq_true rfl⟩ hl.1 (Nat.le_of_ble_eq_true rfl) dX3_foldTurns_30 (fun H locs hP hS => ?_)
              obtain ⟨r21, er21, h⟩ := tl_nm h
              refine caX3_fold (pc := 33) C hts hP hS er21 gX3_foldTurns_X3_fold ⟨Nat.le_of_ble_eq_true rfl, Nat.le_of_ble_eq_true rfl⟩ hl.1 (Nat.le_of_ble_eq_true rfl) dX3_foldTurns_33 (fun H locs hP hS => ?_)
              refine lv_lstore_n (pc := 36) (lv' := [(3, .long r21), (0, .ref (tl_ad g 0)), (5, .int x12), (6, .int x18)]) hx hb dX3_foldTurns_36 rfl hl (by decide) rfl (fun ls hl => ?_)
              obtain ⟨x22, ex22, h⟩ := tl_nm h
              refine lv_iinc (pc := 37) (v := x22) (lv' := [(6, .int x22), (3, .long r21), (0, .ref (tl_ad g 0)), (5, .int x12)]) hx hb dX3_foldTurns_37 hl (k := 3) rfl ex22 (by decide) rfl (fun ls hl => ?_)
              refine lv_goto (pc := 40) (tgt := 17) hx hb dX3_foldTurns_40 (by decide) ?_
              exact ih r21 x22 _ _ _ h hP hS (lv_sub hl [2, 1, 3, 0] rfl)
        exact hL17 1000 x11 0 _ _ _ h hP hS (lv_sub hl [1, 2, 3, 0] rfl)
  exact hL5 1000 a1 0 _ _ _ h hP hS (lv_sub hl [2, 1, 0] rfl)
theorem caX3_foldTurns {p : Program} {l : Launch} {e : Env} {R : Room} {s : State} {m : MethodId} {args : Array Value} {below : List Frame} {meth : Method} {c : Code} {H : Heap} {locs : List Loc} {Q : State → Prop} {cc : ByteArray} {pc : Nat} {ls : Array Slot} {rest : List Value} {g : tl_G} {σ : tl_St} {H0 : Heap} {nL : Nat} {own : String} {ret : Option FieldType} {index : Nat} (C : tl_C p s m meth c cc nL own ret g) {Ts : List Cond} (hts : ∀ w ∈ Ts, w.before args s = true) (hP : va_P g.1 vwCl (tl_W g σ) H) (hS : va_S (tl_A g) H0 H locs) {a1 : Int64} {ro : Int64} (h : fX3_foldTurns σ a1 = some ro) (hG : GoodIn Ts (wsV own index RX3 yX3_foldTurns wsX3_foldTurns)) (hR : 2 + 1 ≤ R.frames ∧ 8 + (7 + 11) + 43 ≤ R.locals) (hls : ls.size = nL) (hrm : (rest.map fun v => v.category).sum ≤ 8) (hdg : decode cc pc = .ok (.invokevirtual index, 3)) (kk : ∀ (H1 : Heap) (locs1 : List Loc), va_P g.1 vwCl (tl_W g σ) H1 → va_S (tl_A g) H0 H1 locs1 → W p l e R s m args below meth c H1 locs1 0 0 Q (F0 m (pc + 3) ls (.long ro :: rest))) : W p l e R s m args below meth c H locs 0 0 Q (F0 m pc ls (.long a1 :: .ref (tl_ad g 0) :: rest)) :=
  tl_gol (tl_callV C hts hP (okX3_foldTurns l g C.2.2.2.2.2.2.2 σ a1 ro h) rfl rfl rfl (n := 1) (by decide +kernel) rfl (ci := 3) rfl (tl_k0 g σ) hG hR hls rfl hrm hdg) hS kk
abbrev rX3_foldWhatWouldBe : Room := { frames := 5, cells := 0, slots := 0, locals := 120 }
set_option maxHeartbeats 4000000 in
set_option maxRecDepth 100000 in
theorem okX3_foldWhatWouldBe (l : Launch) (g : tl_G) (hI : tl_I g) (σ : tl_St) (a1 : Int64) (ro : Int64) (σo : tl_St) (h : fX3_foldWhatWouldBe σ a1 = some (ro, σo)) : Met l yX3_foldWhatWouldBe wsX3_foldWhatWouldBe rX3_foldWhatWouldBe (va_Pc [.ref (tl_ad g 0), .long a1] (tl_Pre g σ)) (tl_Ql g ro σo) 0 0 (tl_A g) := by
  refine tl_enter (cc := cX3_foldWhatWouldBe) (maxL := 6) (ret := (some .long)) (own := RX3) hI (by decide) rfl rfl (Nat.le_of_ble_eq_true rfl) ?_
  intro p e s m below meth c C hts H locs hP hS ls hl
  have hx := C.1
  have hb := C.2.1
  have hl : lv_has ls 6 [(0, .ref (tl_ad g 0)), (1, .long a1)] := hl
  have hc2 : ∀ w ∈ u_ws RX2 TX2 14, w.before [.ref (tl_ad g 0), .long a1].toArray s = true := fun w hw => hts w (List.mem_cons_of_mem _ (List.mem_append_right _ hw))
  have hc3 : ∀ w ∈ u_ws RX3 TX3 13, w.before [.ref (tl_ad g 0), .long a1].toArray s = true := fun w hw => hts w (List.mem_cons_of_mem _ (List.mem_append_left _ (List.mem_append_right _ hw)))
  have lk0 : (Cond.fieldLink RX3 10 "ThriftLock" "water" "LThriftLock$Water;").before [.ref (tl_ad g 0), .long a1].toArray s = true := hts _ (List.mem_cons_of_mem _ (List.mem_append_left _ (List.mem_append_left _ (List.mem_append_left _ (List.mem_of_getElem? (i := 0) rfl)))))
  have lk1 : (Cond.fieldLink RX3 41 "ThriftLock$Water" "fullAt" "I").before [.ref (tl_ad g 0), .long a1].toArray s = true := hts _ (List.mem_cons_of_mem _ (List.mem_append_left _ (List.mem_append_left _ (List.mem_append_left _ (List.mem_of_getElem? (i := 1) rfl)))))
  have lk2 : (Cond.fieldLink RX3 16 "ThriftLock" "trial" "LThriftLock$Water;").before [.ref (tl_ad g 0), .long a1].toArray s = true := hts _ (List.mem_cons_of_mem _ (List.mem_append_left _ (List.mem_append_left _ (List.mem_append_left _ (List.mem_of_getElem? (i := 2) rfl)))))
  have lk3 : (Cond.fieldLink RX3 174 "ThriftLock$Water" "steps" "[I").before [.ref (tl_ad g 0), .long a1].toArray s = true := hts _ (List.mem_cons_of_mem _ (List.mem_append_left _ (List.mem_append_left _ (List.mem_append_left _ (List.mem_of_getElem? (i := 3) rfl)))))
  unfold fX3_foldWhatWouldBe at h
  refine lv_lload_n (pc := 0) hx hb dX3_foldWhatWouldBe_0 rfl (lv_at hl 1 rfl) ?_
  refine lv_aload_n (pc := 1) hx hb dX3_foldWhatWouldBe_1 rfl (lv_at hl 0 rfl) ?_
  refine tl_g0_0 (pc := 2) C hc3 hP lk0 dX3_foldWhatWouldBe_2 ?_
  refine tl_gW_0 (pc := 5) C hc2 hP tl_W1 lk1 dX3_foldWhatWouldBe_5 ?_
  obtain ⟨r1, er1, h⟩ := tl_nm h
  refine caX3_fold (pc := 8) C hts hP hS er1 gX3_foldWhatWouldBe_X3_fold ⟨Nat.le_of_ble_eq_true rfl, Nat.le_of_ble_eq_true rfl⟩ hl.1 (Nat.le_of_ble_eq_true rfl) dX3_foldWhatWouldBe_8 (fun H locs hP hS => ?_)
  refine lv_lstore_n (pc := 11) (lv' := [(3, .long r1), (0, .ref (tl_ad g 0)), (1, .long a1)]) hx hb dX3_foldWhatWouldBe_11 rfl hl (by decide) rfl (fun ls hl => ?_)
  refine lv_aload_n (pc := 12) hx hb dX3_foldWhatWouldBe_12 rfl (lv_at hl 1 rfl) ?_
  obtain ⟨σ2, eσ2, h⟩ := tl_o1s h
  refine caX3_tryTurn (pc := 13) C hts hP hS eσ2 gX3_foldWhatWouldBe_X3_tryTurn ⟨Nat.le_of_ble_eq_true rfl, Nat.le_of_ble_eq_true rfl⟩ hl.1 (Nat.le_of_ble_eq_true rfl) dX3_foldWhatWouldBe_13 (fun H locs hP hS => ?_)
  refine lv_iconst (pc := 16) (v := 0) hx hb dX3_foldWhatWouldBe_16 (by decide) ?_
  refine lv_istore (pc := 17) (lv' := [(5, .int 0), (3, .long r1), (0, .ref (tl_ad g 0)), (1, .long a1)]) hx hb dX3_foldWhatWouldBe_17 hl (by decide) rfl (fun ls hl => ?_)
  obtain ⟨k4, ek4, h⟩ := tl_j1 h
  have hZ4 : ∀ (x3 : Int64) (H : Heap) (locs : List Loc) (ls : Array Slot), k4 x3 = some (ro, σo) → va_P g.1 vwCl (tl_W g σ2) H → va_S (tl_A g) s.heap H locs → lv_has ls 6 [(0, .ref (tl_ad g 0)), (3, .long x3)] → W p l e rX3_foldWhatWouldBe s m [.ref (tl_ad g 0), .long a1].toArray below meth c H locs 0 0 (MQ below (tl_Ql g ro σo) [.ref (tl_ad g 0), .long a1].toArray s 0 0 (tl_A g)) (F0 m 63 ls []) := by
    intro x3 H locs ls h hP hS hl
    replace h := (ek4 x3).trans h
    refine lv_lload_n (pc := 63) hx hb dX3_foldWhatWouldBe_63 rfl (lv_at hl 1 rfl) ?_
    refine lv_aload_n (pc := 64) hx hb dX3_foldWhatWouldBe_64 rfl (lv_at hl 0 rfl) ?_
    refine lv_iconst (pc := 65) (v := 1) hx hb dX3_foldWhatWouldBe_65 (by decide) ?_
    obtain ⟨r5, σ6, er5, h⟩ := tl_o2s h
    refine caX3_ahead (pc := 66) C hts hP hS er5 gX3_foldWhatWouldBe_X3_ahead ⟨Nat.le_of_ble_eq_true rfl, Nat.le_of_ble_eq_true rfl⟩ hl.1 (Nat.le_of_ble_eq_true rfl) dX3_foldWhatWouldBe_66 (fun H locs hP hS => ?_)
    obtain ⟨r7, er7, h⟩ := tl_nm h
    refine caX3_fold (pc := 69) C hts hP hS er7 gX3_foldWhatWouldBe_X3_fold ⟨Nat.le_of_ble_eq_true rfl, Nat.le_of_ble_eq_true rfl⟩ hl.1 (Nat.le_of_ble_eq_true rfl) dX3_foldWhatWouldBe_69 (fun H locs hP hS => ?_)
    refine lv_lstore_n (pc := 72) (lv' := [(3, .long r7), (0, .ref (tl_ad g 0))]) hx hb dX3_foldWhatWouldBe_72 rfl hl (by decide) rfl (fun ls hl => ?_)
    refine lv_lload_n (pc := 73) hx hb dX3_foldWhatWouldBe_73 rfl (lv_at hl 0 rfl) ?_
    refine lv_aload_n (pc := 74) hx hb dX3_foldWhatWouldBe_74 rfl (lv_at hl 1 rfl) ?_
    refine lv_iconst (pc := 75) (v := 2) hx hb dX3_foldWhatWouldBe_75 (by decide) ?_
    obtain ⟨r8, σ9, er8, h⟩ := tl_o2s h
    refine caX3_ahead (pc := 76) C hts hP hS er8 gX3_foldWhatWouldBe_X3_ahead ⟨Nat.le_of_ble_eq_true rfl, Nat.le_of_ble_eq_true rfl⟩ hl.1 (Nat.le_of_ble_eq_true rfl) dX3_foldWhatWouldBe_76 (fun H locs hP hS => ?_)
    obtain ⟨r10, er10, h⟩ := tl_nm h
    refine caX3_fold (pc := 79) C hts hP hS er10 gX3_foldWhatWouldBe_X3_fold ⟨Nat.le_of_ble_eq_true rfl, Nat.le_of_ble_eq_true rfl⟩ hl.1 (Nat.le_of_ble_eq_true rfl) dX3_foldWhatWouldBe_79 (fun H locs hP hS => ?_)
    refine lv_lstore_n (pc := 82) (lv' := [(3, .long r10), (0, .ref (tl_ad g 0))]) hx hb dX3_foldWhatWouldBe_82 rfl hl (by decide) rfl (fun ls hl => ?_)
    refine lv_lload_n (pc := 83) hx hb dX3_foldWhatWouldBe_83 rfl (lv_at hl 0 rfl) ?_
    refine lv_aload_n (pc := 84) hx hb dX3_foldWhatWouldBe_84 rfl (lv_at hl 1 rfl) ?_
    refine lv_bipush (pc := 85) (v := 10) hx hb dX3_foldWhatWouldBe_85 (by decide) ?_
    obtain ⟨r11, σ12, er11, h⟩ := tl_o2s h
    refine caX3_ahead (pc := 87) C hts hP hS er11 gX3_foldWhatWouldBe_X3_ahead ⟨Nat.le_of_ble_eq_true rfl, Nat.le_of_ble_eq_true rfl⟩ hl.1 (Nat.le_of_ble_eq_true rfl) dX3_foldWhatWouldBe_87 (fun H locs hP hS => ?_)
    obtain ⟨r13, er13, h⟩ := tl_nm h
    refine caX3_fold (pc := 90) C hts hP hS er13 gX3_foldWhatWouldBe_X3_fold ⟨Nat.le_of_ble_eq_true rfl, Nat.le_of_ble_eq_true rfl⟩ hl.1 (Nat.le_of_ble_eq_true rfl) dX3_foldWhatWouldBe_90 (fun H locs hP hS => ?_)
    refine lv_lstore_n (pc := 93) (lv' := [(3, .long r13), (0, .ref (tl_ad g 0))]) hx hb dX3_foldWhatWouldBe_93 rfl hl (by decide) rfl (fun ls hl => ?_)
    refine lv_aload_n (pc := 94) hx hb dX3_foldWhatWouldBe_94 rfl (lv_at hl 1 rfl) ?_
    obtain ⟨r14, σ15, er14, h⟩ := tl_o2s h
    refine caX3_leastNeeded (pc := 95) C hts hP hS er14 gX3_foldWhatWouldBe_X3_leastNeeded ⟨Nat.le_of_ble_eq_true rfl, Nat.le_of_ble_eq_true rfl⟩ hl.1 (Nat.le_of_ble_eq_true rfl) dX3_foldWhatWouldBe_95 (fun H locs hP hS => ?_)
    refine lv_istore (pc := 98) (lv' := [(5, .int r14), (3, .long r13), (0, .ref (tl_ad g 0))]) hx hb dX3_foldWhatWouldBe_98 hl (by decide) rfl (fun ls hl => ?_)
    refine lv_lload_n (pc := 100) hx hb dX3_foldWhatWouldBe_100 rfl (lv_at hl 1 rfl) ?_
    refine lv_iload (pc := 101) hx hb dX3_foldWhatWouldBe_101 (lv_at hl 0 rfl) ?_
    refine lv_iconst (pc := 103) (v := 0) hx hb dX3_foldWhatWouldBe_103 (by decide) ?_
    obtain ⟨r16, er16, h⟩ := tl_nm h
    refine caX3_partOfChoice (pc := 104) C hts hP hS er16 gX3_foldWhatWouldBe_X3_partOfChoice ⟨Nat.le_of_ble_eq_true rfl, Nat.le_of_ble_eq_true rfl⟩ hl.1 (Nat.le_of_ble_eq_true rfl) dX3_foldWhatWouldBe_104 (fun H locs hP hS => ?_)
    obtain ⟨r17, er17, h⟩ := tl_nm h
    refine caX3_fold (pc := 107) C hts hP hS er17 gX3_foldWhatWouldBe_X3_fold ⟨Nat.le_of_ble_eq_true rfl, Nat.le_of_ble_eq_true rfl⟩ hl.1 (Nat.le_of_ble_eq_true rfl) dX3_foldWhatWouldBe_107 (fun H locs hP hS => ?_)
    refine lv_lstore_n (pc := 110) (lv' := [(3, .long r17), (5, .int r14), (0, .ref (tl_ad g 0))]) hx hb dX3_foldWhatWouldBe_110 rfl hl (by decide) rfl (fun ls hl => ?_)
    refine lv_lload_n (pc := 111) hx hb dX3_foldWhatWouldBe_111 rfl (lv_at hl 0 rfl) ?_
    refine lv_iload (pc := 112) hx hb dX3_foldWhatWouldBe_112 (lv_at hl 1 rfl) ?_
    refine lv_iconst (pc := 114) (v := 1) hx hb dX3_foldWhatWouldBe_114 (by decide) ?_
    obtain ⟨r18, er18, h⟩ := tl_nm h
    refine caX3_partOfChoice (pc := 115) C hts hP hS er18 gX3_foldWhatWouldBe_X3_partOfChoice ⟨Nat.le_of_ble_eq_true rfl, Nat.le_of_ble_eq_true rfl⟩ hl.1 (Nat.le_of_ble_eq_true rfl) dX3_foldWhatWouldBe_115 (fun H locs hP hS => ?_)
    obtain ⟨r19, er19, h⟩ := tl_nm h
    refine caX3_fold (pc := 118) C hts hP hS er19 gX3_foldWhatWouldBe_X3_fold ⟨Nat.le_of_ble_eq_true rfl, Nat.le_of_ble_eq_true rfl⟩ hl.1 (Nat.le_of_ble_eq_true rfl) dX3_foldWhatWouldBe_118 (fun H locs hP hS => ?_)
    exact tl_Rlpw (pc := 121) C h hP hS dX3_foldWhatWouldBe_121
  have hL19 : ∀ (n : Nat) (x20 : Int64) (x21 : Int32) (H : Heap) (locs : List Loc) (ls : Array Slot), fX3_foldWhatWouldBe_L19 σ2 k4 n x20 x21 = some (ro, σo) → va_P g.1 vwCl (tl_W g σ2) H → va_S (tl_A g) s.heap H locs → lv_has ls 6 [(0, .ref (tl_ad g 0)), (3, .long x20), (5, .int x21)] → W p l e rX3_foldWhatWouldBe s m [.ref (tl_ad g 0), .long a1].toArray below meth c H locs 0 0 (MQ below (tl_Ql g ro σo) [.ref (tl_ad g 0), .long a1].toArray s 0 0 (tl_A g)) (F0 m 19 ls []) := by
    intro n
    induction n with
    | zero =>
      intro x20 x21 H locs ls h hP hS hl
      rw [fX3_foldWhatWouldBe_L19] at h
      cases h
    | succ n ih =>
      intro x20 x21 H locs ls h hP hS hl
      rw [fX3_foldWhatWouldBe_L19] at h
      refine lv_iload (pc := 19) hx hb dX3_foldWhatWouldBe_19 (lv_at hl 2 rfl) ?_
      refine lv_bipush (pc := 21) (v := 40) hx hb dX3_foldWhatWouldBe_21 (by decide) ?_
      refine lv_icmp_gt (pc := 23) (tgt := 63) hx hb dX3_foldWhatWouldBe_23 (by decide) (fun c22 => ?_) (fun c22 => ?_)
      · replace h := (if_pos c22).symm.trans h
        exact hZ4 x20 _ _ _ h hP hS (lv_sub hl [0, 1] rfl)
      · replace h := (if_neg c22).symm.trans h
        refine lv_lload_n (pc := 26) hx hb dX3_foldWhatWouldBe_26 rfl (lv_at hl 1 rfl) ?_
        refine lv_iload (pc := 27) hx hb dX3_foldWhatWouldBe_27 (lv_at hl 2 rfl) ?_
        refine lv_aload_n (pc := 29) hx hb dX3_foldWhatWouldBe_29 rfl (lv_at hl 0 rfl) ?_
        refine tl_g0_0 (pc := 30) C hc3 hP lk0 dX3_foldWhatWouldBe_30 ?_
        refine tl_gW_0 (pc := 33) C hc2 hP tl_W1 lk1 dX3_foldWhatWouldBe_33 ?_
        obtain ⟨k24, ek24, h⟩ := tl_j1 h
        have hJ24 : ∀ (x23 : Int32) (H : Heap) (locs : List Loc) (ls : Array Slot), k24 x23 = some (ro, σo) → va_P g.1 vwCl (tl_W g σ2) H → va_S (tl_A g) s.heap H locs → lv_has ls 6 [(0, .ref (tl_ad g 0)), (5, .int x21)] → W p l e rX3_foldWhatWouldBe s m [.ref (tl_ad g 0), .long a1].toArray below meth c H locs 0 0 (MQ below (tl_Ql g ro σo) [.ref (tl_ad g 0), .long a1].toArray s 0 0 (tl_A g)) (F0 m 53 ls [.int x23, .long x20]) := by
          intro x23 H locs ls h hP hS hl
          replace h := (ek24 x23).trans h
          obtain ⟨r25, er25, h⟩ := tl_nm h
          refine caX3_fold (pc := 53) C hts hP hS er25 gX3_foldWhatWouldBe_X3_fold ⟨Nat.le_of_ble_eq_true rfl, Nat.le_of_ble_eq_true rfl⟩ hl.1 (Nat.le_of_ble_eq_true rfl) dX3_foldWhatWouldBe_53 (fun H locs hP hS => ?_)
          refine lv_lstore_n (pc := 56) (lv' := [(3, .long r25), (0, .ref (tl_ad g 0)), (5, .int x21)]) hx hb dX3_foldWhatWouldBe_56 rfl hl (by decide) rfl (fun ls hl => ?_)
          obtain ⟨x26, ex26, h⟩ := tl_nm h
          refine lv_iinc (pc := 57) (v := x26) (lv' := [(5, .int x26), (3, .long r25), (0, .ref (tl_ad g 0))]) hx hb dX3_foldWhatWouldBe_57 hl (k := 2) rfl ex26 (by decide) rfl (fun ls hl => ?_)
          refine lv_goto (pc := 60) (tgt := 19) hx hb dX3_foldWhatWouldBe_60 (by decide) ?_
          exact ih r25 x26 _ _ _ h hP hS (lv_sub hl [2, 1, 0] rfl)
        refine lv_icmp_ge (pc := 36) (tgt := 52) hx hb dX3_foldWhatWouldBe_36 (by decide) (fun c27 => ?_) (fun c27 => ?_)
        · replace h := (if_pos c27).symm.trans h
          refine lv_iconst (pc := 52) (v := (-1)) hx hb dX3_foldWhatWouldBe_52 (by decide) ?_
          exact hJ24 (-1) _ _ _ h hP hS (lv_sub hl [0, 2] rfl)
        · replace h := (if_neg c27).symm.trans h
          refine lv_aload_n (pc := 39) hx hb dX3_foldWhatWouldBe_39 rfl (lv_at hl 0 rfl) ?_
          refine tl_g0_1 (pc := 40) C hc3 hP lk2 dX3_foldWhatWouldBe_40 ?_
          refine tl_gW_10 (pc := 43) C hc2 hP tl_W10 lk3 dX3_foldWhatWouldBe_43 ?_
          refine lv_iload (pc := 46) hx hb dX3_foldWhatWouldBe_46 (lv_at hl 2 rfl) ?_
          obtain ⟨g28, h⟩ := tl_gd h
          refine tl_ald (pc := 48) C hP (tl_aW7 tl_W10 g) g28 dX3_foldWhatWouldBe_48 ?_
          refine lv_goto (pc := 49) (tgt := 53) hx hb dX3_foldWhatWouldBe_49 (by decide) ?_
          exact hJ24 (σ2 (10 + 7) x21.toNatClampNeg) _ _ _ h hP hS (lv_sub hl [0, 2] rfl)
  exact hL19 1000 r1 0 _ _ _ h hP hS (lv_sub hl [2, 1, 0] rfl)
theorem caX3_foldWhatWouldBe {p : Program} {l : Launch} {e : Env} {R : Room} {s : State} {m : MethodId} {args : Array Value} {below : List Frame} {meth : Method} {c : Code} {H : Heap} {locs : List Loc} {Q : State → Prop} {cc : ByteArray} {pc : Nat} {ls : Array Slot} {rest : List Value} {g : tl_G} {σ : tl_St} {H0 : Heap} {nL : Nat} {own : String} {ret : Option FieldType} {index : Nat} (C : tl_C p s m meth c cc nL own ret g) {Ts : List Cond} (hts : ∀ w ∈ Ts, w.before args s = true) (hP : va_P g.1 vwCl (tl_W g σ) H) (hS : va_S (tl_A g) H0 H locs) {a1 : Int64} {ro : Int64} {σo : tl_St} (h : fX3_foldWhatWouldBe σ a1 = some (ro, σo)) (hG : GoodIn Ts (wsV own index RX3 yX3_foldWhatWouldBe wsX3_foldWhatWouldBe)) (hR : 5 + 1 ≤ R.frames ∧ 8 + (6 + 11) + 120 ≤ R.locals) (hls : ls.size = nL) (hrm : (rest.map fun v => v.category).sum ≤ 8) (hdg : decode cc pc = .ok (.invokevirtual index, 3)) (kk : ∀ (H1 : Heap) (locs1 : List Loc), va_P g.1 vwCl (tl_W g σo) H1 → va_S (tl_A g) H0 H1 locs1 → W p l e R s m args below meth c H1 locs1 0 0 Q (F0 m (pc + 3) ls (.long ro :: rest))) : W p l e R s m args below meth c H locs 0 0 Q (F0 m pc ls (.long a1 :: .ref (tl_ad g 0) :: rest)) :=
  tl_gol (tl_callV C hts hP (okX3_foldWhatWouldBe l g C.2.2.2.2.2.2.2 σ a1 ro σo h) rfl rfl rfl (n := 1) (by decide +kernel) rfl (ci := 3) rfl (tl_k0 g σ) hG hR hls rfl hrm hdg) hS kk
abbrev rX3_digest : Room := { frames := 6, cells := 0, slots := 0, locals := 147 }
set_option maxHeartbeats 4000000 in
set_option maxRecDepth 100000 in
theorem okX3_digest (l : Launch) (g : tl_G) (hI : tl_I g) (σ : tl_St) (ro : Int64) (σo : tl_St) (h : fX3_digest σ = some (ro, σo)) : Met l yX3_digest wsX3_digest rX3_digest (va_Pc [.ref (tl_ad g 0)] (tl_Pre g σ)) (tl_Ql g ro σo) 0 0 (tl_A g) := by
  refine tl_enter (cc := cX3_digest) (maxL := 4) (ret := (some .long)) (own := RX3) hI (by decide) rfl rfl (Nat.le_of_ble_eq_true rfl) ?_
  intro p e s m below meth c C hts H locs hP hS ls hl
  have hx := C.1
  have hb := C.2.1
  have hl : lv_has ls 4 [(0, .ref (tl_ad g 0))] := hl
  have lk0 : (Cond.constantLong RX3 232 (17)).before [.ref (tl_ad g 0)].toArray s = true := hts _ (List.mem_cons_of_mem _ (List.mem_append_left _ (List.mem_append_left _ (List.mem_append_left _ (List.mem_append_left _ (List.mem_of_getElem? (i := 0) rfl))))))
  unfold fX3_digest at h
  refine lv_ldc2 (pc := 0) (v := 17) hx hb C.2.2.2.1 lk0 dX3_digest_0 ?_
  refine lv_lstore_n (pc := 3) (lv' := [(1, .long 17), (0, .ref (tl_ad g 0))]) hx hb dX3_digest_3 rfl hl (by decide) rfl (fun ls hl => ?_)
  refine lv_iconst (pc := 4) (v := 0) hx hb dX3_digest_4 (by decide) ?_
  refine lv_istore_n (pc := 5) (lv' := [(3, .int 0), (1, .long 17), (0, .ref (tl_ad g 0))]) hx hb dX3_digest_5 rfl hl (by decide) rfl (fun ls hl => ?_)
  obtain ⟨k2, ek2, h⟩ := tl_j1 h
  have hZ2 : ∀ (x1 : Int64) (H : Heap) (locs : List Loc) (ls : Array Slot), k2 x1 = some (ro, σo) → va_P g.1 vwCl (tl_W g σ) H → va_S (tl_A g) s.heap H locs → lv_has ls 4 [(0, .ref (tl_ad g 0)), (1, .long x1)] → W p l e rX3_digest s m [.ref (tl_ad g 0)].toArray below meth c H locs 0 0 (MQ below (tl_Ql g ro σo) [.ref (tl_ad g 0)].toArray s 0 0 (tl_A g)) (F0 m 28 ls []) := by
    intro x1 H locs ls h hP hS hl
    replace h := (ek2 x1).trans h
    refine lv_aload_n (pc := 28) hx hb dX3_digest_28 rfl (lv_at hl 0 rfl) ?_
    refine lv_lload_n (pc := 29) hx hb dX3_digest_29 rfl (lv_at hl 1 rfl) ?_
    obtain ⟨r3, σ4, er3, h⟩ := tl_o2s h
    refine caX3_foldBasins (pc := 30) C hts hP hS er3 gX3_digest_X3_foldBasins ⟨Nat.le_of_ble_eq_true rfl, Nat.le_of_ble_eq_true rfl⟩ hl.1 (Nat.le_of_ble_eq_true rfl) dX3_digest_30 (fun H locs hP hS => ?_)
    refine lv_lstore_n (pc := 33) (lv' := [(1, .long r3), (0, .ref (tl_ad g 0))]) hx hb dX3_digest_33 rfl hl (by decide) rfl (fun ls hl => ?_)
    refine lv_aload_n (pc := 34) hx hb dX3_digest_34 rfl (lv_at hl 1 rfl) ?_
    refine lv_lload_n (pc := 35) hx hb dX3_digest_35 rfl (lv_at hl 0 rfl) ?_
    obtain ⟨r5, er5, h⟩ := tl_o1s h
    refine caX3_foldBoats (pc := 36) C hts hP hS er5 gX3_digest_X3_foldBoats ⟨Nat.le_of_ble_eq_true rfl, Nat.le_of_ble_eq_true rfl⟩ hl.1 (Nat.le_of_ble_eq_true rfl) dX3_digest_36 (fun H locs hP hS => ?_)
    refine lv_lstore_n (pc := 39) (lv' := [(1, .long r5), (0, .ref (tl_ad g 0))]) hx hb dX3_digest_39 rfl hl (by decide) rfl (fun ls hl => ?_)
    refine lv_aload_n (pc := 40) hx hb dX3_digest_40 rfl (lv_at hl 1 rfl) ?_
    refine lv_lload_n (pc := 41) hx hb dX3_digest_41 rfl (lv_at hl 0 rfl) ?_
    obtain ⟨r6, er6, h⟩ := tl_o1s h
    refine caX3_foldTurns (pc := 42) C hts hP hS er6 gX3_digest_X3_foldTurns ⟨Nat.le_of_ble_eq_true rfl, Nat.le_of_ble_eq_true rfl⟩ hl.1 (Nat.le_of_ble_eq_true rfl) dX3_digest_42 (fun H locs hP hS => ?_)
    refine lv_lstore_n (pc := 45) (lv' := [(1, .long r6), (0, .ref (tl_ad g 0))]) hx hb dX3_digest_45 rfl hl (by decide) rfl (fun ls hl => ?_)
    refine lv_aload_n (pc := 46) hx hb dX3_digest_46 rfl (lv_at hl 1 rfl) ?_
    refine lv_lload_n (pc := 47) hx hb dX3_digest_47 rfl (lv_at hl 0 rfl) ?_
    obtain ⟨r7, σ8, er7, h⟩ := tl_o2s h
    refine caX3_foldWhatWouldBe (pc := 48) C hts hP hS er7 gX3_digest_X3_foldWhatWouldBe ⟨Nat.le_of_ble_eq_true rfl, Nat.le_of_ble_eq_true rfl⟩ hl.1 (Nat.le_of_ble_eq_true rfl) dX3_digest_48 (fun H locs hP hS => ?_)
    exact tl_Rlpw (pc := 51) C h hP hS dX3_digest_51
  have hL6 : ∀ (n : Nat) (x9 : Int64) (x10 : Int32) (H : Heap) (locs : List Loc) (ls : Array Slot), fX3_digest_L6 σ k2 n x9 x10 = some (ro, σo) → va_P g.1 vwCl (tl_W g σ) H → va_S (tl_A g) s.heap H locs → lv_has ls 4 [(0, .ref (tl_ad g 0)), (1, .long x9), (3, .int x10)] → W p l e rX3_digest s m [.ref (tl_ad g 0)].toArray below meth c H locs 0 0 (MQ below (tl_Ql g ro σo) [.ref (tl_ad g 0)].toArray s 0 0 (tl_A g)) (F0 m 6 ls []) := by
    intro n
    induction n with
    | zero =>
      intro x9 x10 H locs ls h hP hS hl
      rw [fX3_digest_L6] at h
      cases h
    | succ n ih =>
      intro x9 x10 H locs ls h hP hS hl
      rw [fX3_digest_L6] at h
      refine lv_iload_n (pc := 6) hx hb dX3_digest_6 rfl (lv_at hl 2 rfl) ?_
      refine lv_bipush (pc := 7) (v := 7) hx hb dX3_digest_7 (by decide) ?_
      refine lv_icmp_gt (pc := 9) (tgt := 28) hx hb dX3_digest_9 (by decide) (fun c11 => ?_) (fun c11 => ?_)
      · replace h := (if_pos c11).symm.trans h
        exact hZ2 x9 _ _ _ h hP hS (lv_sub hl [0, 1] rfl)
      · replace h := (if_neg c11).symm.trans h
        refine lv_lload_n (pc := 12) hx hb dX3_digest_12 rfl (lv_at hl 1 rfl) ?_
        refine lv_aload_n (pc := 13) hx hb dX3_digest_13 rfl (lv_at hl 0 rfl) ?_
        refine lv_iload_n (pc := 14) hx hb dX3_digest_14 rfl (lv_at hl 2 rfl) ?_
        obtain ⟨r12, er12, h⟩ := tl_o1s h
        refine caX3_count (pc := 15) C hts hP hS er12 gX3_digest_X3_count ⟨Nat.le_of_ble_eq_true rfl, Nat.le_of_ble_eq_true rfl⟩ hl.1 (Nat.le_of_ble_eq_true rfl) dX3_digest_15 (fun H locs hP hS => ?_)
        obtain ⟨r13, er13, h⟩ := tl_nm h
        refine caX3_fold (pc := 18) C hts hP hS er13 gX3_digest_X3_fold ⟨Nat.le_of_ble_eq_true rfl, Nat.le_of_ble_eq_true rfl⟩ hl.1 (Nat.le_of_ble_eq_true rfl) dX3_digest_18 (fun H locs hP hS => ?_)
        refine lv_lstore_n (pc := 21) (lv' := [(1, .long r13), (0, .ref (tl_ad g 0)), (3, .int x10)]) hx hb dX3_digest_21 rfl hl (by decide) rfl (fun ls hl => ?_)
        obtain ⟨x14, ex14, h⟩ := tl_nm h
        refine lv_iinc (pc := 22) (v := x14) (lv' := [(3, .int x14), (1, .long r13), (0, .ref (tl_ad g 0))]) hx hb dX3_digest_22 hl (k := 2) rfl ex14 (by decide) rfl (fun ls hl => ?_)
        refine lv_goto (pc := 25) (tgt := 6) hx hb dX3_digest_25 (by decide) ?_
        exact ih r13 x14 _ _ _ h hP hS (lv_sub hl [2, 1, 0] rfl)
  exact hL6 1000 17 0 _ _ _ h hP hS (lv_sub hl [2, 1, 0] rfl)
theorem caX3_digest {p : Program} {l : Launch} {e : Env} {R : Room} {s : State} {m : MethodId} {args : Array Value} {below : List Frame} {meth : Method} {c : Code} {H : Heap} {locs : List Loc} {Q : State → Prop} {cc : ByteArray} {pc : Nat} {ls : Array Slot} {rest : List Value} {g : tl_G} {σ : tl_St} {H0 : Heap} {nL : Nat} {own : String} {ret : Option FieldType} {index : Nat} (C : tl_C p s m meth c cc nL own ret g) {Ts : List Cond} (hts : ∀ w ∈ Ts, w.before args s = true) (hP : va_P g.1 vwCl (tl_W g σ) H) (hS : va_S (tl_A g) H0 H locs) {ro : Int64} {σo : tl_St} (h : fX3_digest σ = some (ro, σo)) (hG : GoodIn Ts (wsV own index RX3 yX3_digest wsX3_digest)) (hR : 6 + 1 ≤ R.frames ∧ 8 + (4 + 11) + 147 ≤ R.locals) (hls : ls.size = nL) (hrm : (rest.map fun v => v.category).sum ≤ 8) (hdg : decode cc pc = .ok (.invokevirtual index, 3)) (kk : ∀ (H1 : Heap) (locs1 : List Loc), va_P g.1 vwCl (tl_W g σo) H1 → va_S (tl_A g) H0 H1 locs1 → W p l e R s m args below meth c H1 locs1 0 0 Q (F0 m (pc + 3) ls (.long ro :: rest))) : W p l e R s m args below meth c H locs 0 0 Q (F0 m pc ls (.ref (tl_ad g 0) :: rest)) :=
  tl_gol (tl_callV C hts hP (okX3_digest l g C.2.2.2.2.2.2.2 σ ro σo h) rfl rfl rfl (n := 0) (by decide +kernel) rfl (ci := 3) rfl (tl_k0 g σ) hG hR hls rfl hrm hdg) hS kk
abbrev rX4_in : Room := { frames := 0, cells := 0, slots := 0, locals := 0 }
set_option maxHeartbeats 4000000 in
set_option maxRecDepth 100000 in
theorem okX4_in (l : Launch) (g : tl_G) (hI : tl_I g) (σ : tl_St) (a1 : Int64) (a2 : Int64) (a3 : Int64) (ro : Int32) (h : fX4_in σ a1 a2 a3 = ro) : Met l yX4_in wsX4_in rX4_in (va_Pc [.long a1, .long a2, .long a3] (tl_Pre g σ)) (tl_Qi g ro σ) 0 0 (tl_A g) := by
  refine tl_enter (cc := cX4_in) (maxL := 6) (ret := (some .boolean)) (own := RX4) hI (by decide) rfl rfl (Nat.le_of_ble_eq_true rfl) ?_
  intro p e s m below meth c C hts H locs hP hS ls hl
  have hx := C.1
  have hb := C.2.1
  have hl : lv_has ls 6 [(0, .long a1), (2, .long a2), (4, .long a3)] := hl
  unfold fX4_in at h
  refine lv_lload_n (pc := 0) hx hb dX4_in_0 rfl (lv_at hl 0 rfl) ?_
  refine lv_lload_n (pc := 1) hx hb dX4_in_1 rfl (lv_at hl 1 rfl) ?_
  refine W.lcmp (pc := 2) hx hb dX4_in_2 ?_
  obtain ⟨k1, ek1, h⟩ := tl_j0 h
  have hJ1 : ∀ (H : Heap) (locs : List Loc) (ls : Array Slot), k1 = ro → va_P g.1 vwCl (tl_W g σ) H → va_S (tl_A g) s.heap H locs → lv_has ls 6 [] → W p l e rX4_in s m [.long a1, .long a2, .long a3].toArray below meth c H locs 0 0 (MQ below (tl_Qi g ro σ) [.long a1, .long a2, .long a3].toArray s 0 0 (tl_A g)) (F0 m 17 ls []) := by
    intro H locs ls h hP hS hl
    replace h := ek1.trans h
    refine lv_iconst (pc := 17) (v := 0) hx hb dX4_in_17 (by decide) ?_
    exact tl_Rztr (pc := 18) C h hP hS (Or.inl rfl) dX4_in_18
  refine lv_if_lt (pc := 3) (tgt := 17) hx hb dX4_in_3 (by decide) (fun c2 => ?_) (fun c2 => ?_)
  · replace h := (if_pos c2).symm.trans h
    exact hJ1 _ _ _ h hP hS (lv_sub hl [] rfl)
  · replace h := (if_neg c2).symm.trans h
    refine lv_lload_n (pc := 6) hx hb dX4_in_6 rfl (lv_at hl 0 rfl) ?_
    refine lv_lload (pc := 7) hx hb dX4_in_7 (lv_at hl 2 rfl) ?_
    refine W.lcmp (pc := 9) hx hb dX4_in_9 ?_
    refine lv_if_gt (pc := 10) (tgt := 17) hx hb dX4_in_10 (by decide) (fun c3 => ?_) (fun c3 => ?_)
    · replace h := (if_pos c3).symm.trans h
      exact hJ1 _ _ _ h hP hS (lv_sub hl [] rfl)
    · replace h := (if_neg c3).symm.trans h
      refine lv_iconst (pc := 13) (v := 1) hx hb dX4_in_13 (by decide) ?_
      refine lv_goto (pc := 14) (tgt := 18) hx hb dX4_in_14 (by decide) ?_
      exact tl_Rztr (pc := 18) C h hP hS (Or.inr rfl) dX4_in_18
theorem caX4_in {p : Program} {l : Launch} {e : Env} {R : Room} {s : State} {m : MethodId} {args : Array Value} {below : List Frame} {meth : Method} {c : Code} {H : Heap} {locs : List Loc} {Q : State → Prop} {cc : ByteArray} {pc : Nat} {ls : Array Slot} {rest : List Value} {g : tl_G} {σ : tl_St} {H0 : Heap} {nL : Nat} {own : String} {ret : Option FieldType} {index : Nat} (C : tl_C p s m meth c cc nL own ret g) {Ts : List Cond} (hts : ∀ w ∈ Ts, w.before args s = true) (hP : va_P g.1 vwCl (tl_W g σ) H) (hS : va_S (tl_A g) H0 H locs) {a1 : Int64} {a2 : Int64} {a3 : Int64} {ro : Int32} (h : fX4_in σ a1 a2 a3 = ro) (hG : GoodIn Ts (va_wsS own index yX4_in wsX4_in)) (hR : 0 + 1 ≤ R.frames ∧ 8 + (6 + 11) + 0 ≤ R.locals) (hls : ls.size = nL) (hrm : (rest.map fun v => v.category).sum ≤ 8) (hdg : decode cc pc = .ok (.invokestatic index, 3)) (kk : ∀ (H1 : Heap) (locs1 : List Loc), va_P g.1 vwCl (tl_W g σ) H1 → va_S (tl_A g) H0 H1 locs1 → W p l e R s m args below meth c H1 locs1 0 0 Q (F0 m (pc + 3) ls (.int ro :: rest))) : W p l e R s m args below meth c H locs 0 0 Q (F0 m pc ls (.long a3 :: .long a2 :: .long a1 :: rest)) :=
  tl_goi (tl_callS C hts hP (okX4_in l g C.2.2.2.2.2.2.2 σ a1 a2 a3 ro h) rfl rfl rfl (n := 3) (by decide +kernel) rfl hG hR hls rfl hrm hdg) hS kk
abbrev rX4_isTwo : Room := { frames := 1, cells := 0, slots := 0, locals := 25 }
set_option maxHeartbeats 4000000 in
set_option maxRecDepth 100000 in
theorem okX4_isTwo (l : Launch) (g : tl_G) (hI : tl_I g) (σ : tl_St) (a1 : Int32) (ro : Int32) (h : fX4_isTwo σ a1 = ro) : Met l yX4_isTwo wsX4_isTwo rX4_isTwo (va_Pc [.int a1] (tl_Pre g σ)) (tl_Qi g ro σ) 0 0 (tl_A g) := by
  refine tl_enter (cc := cX4_isTwo) (maxL := 1) (ret := (some .boolean)) (own := RX4) hI (by decide) rfl rfl (Nat.le_of_ble_eq_true rfl) ?_
  intro p e s m below meth c C hts H locs hP hS ls hl
  have hx := C.1
  have hb := C.2.1
  have hl : lv_has ls 1 [(0, .int a1)] := hl
  unfold fX4_isTwo at h
  refine lv_iload_n (pc := 0) hx hb dX4_isTwo_0 rfl (lv_at hl 0 rfl) ?_
  refine lv_i2l (pc := 1) hx hb dX4_isTwo_1 rfl ?_
  refine lv_lconst (pc := 2) (v := 0) hx hb dX4_isTwo_2 (by decide) ?_
  refine lv_lconst (pc := 3) (v := 1) hx hb dX4_isTwo_3 (by decide) ?_
  obtain ⟨r1, er1, h⟩ := tl_nm h
  refine caX4_in (pc := 4) C hts hP hS er1 gX4_isTwo_X4_in ⟨Nat.le_of_ble_eq_true rfl, Nat.le_of_ble_eq_true rfl⟩ hl.1 (Nat.le_of_ble_eq_true rfl) dX4_isTwo_4 (fun H locs hP hS => ?_)
  exact tl_Rztr (pc := 7) C h hP hS (by rw [← er1]; exact bX4_in σ (a1.toInt64) 0 1) dX4_isTwo_7
theorem caX4_isTwo {p : Program} {l : Launch} {e : Env} {R : Room} {s : State} {m : MethodId} {args : Array Value} {below : List Frame} {meth : Method} {c : Code} {H : Heap} {locs : List Loc} {Q : State → Prop} {cc : ByteArray} {pc : Nat} {ls : Array Slot} {rest : List Value} {g : tl_G} {σ : tl_St} {H0 : Heap} {nL : Nat} {own : String} {ret : Option FieldType} {index : Nat} (C : tl_C p s m meth c cc nL own ret g) {Ts : List Cond} (hts : ∀ w ∈ Ts, w.before args s = true) (hP : va_P g.1 vwCl (tl_W g σ) H) (hS : va_S (tl_A g) H0 H locs) {a1 : Int32} {ro : Int32} (h : fX4_isTwo σ a1 = ro) (hG : GoodIn Ts (va_wsS own index yX4_isTwo wsX4_isTwo)) (hR : 1 + 1 ≤ R.frames ∧ 8 + (1 + 11) + 25 ≤ R.locals) (hls : ls.size = nL) (hrm : (rest.map fun v => v.category).sum ≤ 8) (hdg : decode cc pc = .ok (.invokestatic index, 3)) (kk : ∀ (H1 : Heap) (locs1 : List Loc), va_P g.1 vwCl (tl_W g σ) H1 → va_S (tl_A g) H0 H1 locs1 → W p l e R s m args below meth c H1 locs1 0 0 Q (F0 m (pc + 3) ls (.int ro :: rest))) : W p l e R s m args below meth c H locs 0 0 Q (F0 m pc ls (.int a1 :: rest)) :=
  tl_goi (tl_callS C hts hP (okX4_isTwo l g C.2.2.2.2.2.2.2 σ a1 ro h) rfl rfl rfl (n := 1) (by decide +kernel) rfl hG hR hls rfl hrm hdg) hS kk
abbrev rX4_isIn : Room := { frames := 0, cells := 0, slots := 0, locals := 0 }
set_option maxHeartbeats 4000000 in
set_option maxRecDepth 100000 in
theorem okX4_isIn (l : Launch) (g : tl_G) (hI : tl_I g) (σ : tl_St) (a1 : Int32) (a2 : Int32) (ro : Int32) (h : fX4_isIn σ a1 a2 = ro) : Met l yX4_isIn wsX4_isIn rX4_isIn (va_Pc [.int a1, .int a2] (tl_Pre g σ)) (tl_Qi g ro σ) 0 0 (tl_A g) := by
  refine tl_enter (cc := cX4_isIn) (maxL := 2) (ret := (some .boolean)) (own := RX4) hI (by decide) rfl rfl (Nat.le_of_ble_eq_true rfl) ?_
  intro p e s m below meth c C hts H locs hP hS ls hl
  have hx := C.1
  have hb := C.2.1
  have hl : lv_has ls 2 [(0, .int a1), (1, .int a2)] := hl
  unfold fX4_isIn at h
  refine lv_iload_n (pc := 0) hx hb dX4_isIn_0 rfl (lv_at hl 0 rfl) ?_
  refine lv_iload_n (pc := 1) hx hb dX4_isIn_1 rfl (lv_at hl 1 rfl) ?_
  refine lv_ishr (pc := 2) hx hb dX4_isIn_2 ?_
  refine lv_iconst (pc := 3) (v := 1) hx hb dX4_isIn_3 (by decide) ?_
  refine lv_iand (pc := 4) hx hb dX4_isIn_4 ?_
  refine lv_iconst (pc := 5) (v := 1) hx hb dX4_isIn_5 (by decide) ?_
  refine lv_icmp_ne (pc := 6) (tgt := 13) hx hb dX4_isIn_6 (by decide) (fun c1 => ?_) (fun c1 => ?_)
  · replace h := (if_neg c1).symm.trans h
    refine lv_iconst (pc := 13) (v := 0) hx hb dX4_isIn_13 (by decide) ?_
    exact tl_Rztr (pc := 14) C h hP hS (Or.inl rfl) dX4_isIn_14
  · replace h := (if_pos c1).symm.trans h
    refine lv_iconst (pc := 9) (v := 1) hx hb dX4_isIn_9 (by decide) ?_
    refine lv_goto (pc := 10) (tgt := 14) hx hb dX4_isIn_10 (by decide) ?_
    exact tl_Rztr (pc := 14) C h hP hS (Or.inr rfl) dX4_isIn_14
theorem caX4_isIn {p : Program} {l : Launch} {e : Env} {R : Room} {s : State} {m : MethodId} {args : Array Value} {below : List Frame} {meth : Method} {c : Code} {H : Heap} {locs : List Loc} {Q : State → Prop} {cc : ByteArray} {pc : Nat} {ls : Array Slot} {rest : List Value} {g : tl_G} {σ : tl_St} {H0 : Heap} {nL : Nat} {own : String} {ret : Option FieldType} {index : Nat} (C : tl_C p s m meth c cc nL own ret g) {Ts : List Cond} (hts : ∀ w ∈ Ts, w.before args s = true) (hP : va_P g.1 vwCl (tl_W g σ) H) (hS : va_S (tl_A g) H0 H locs) {a1 : Int32} {a2 : Int32} {ro : Int32} (h : fX4_isIn σ a1 a2 = ro) (hG : GoodIn Ts (va_wsS own index yX4_isIn wsX4_isIn)) (hR : 0 + 1 ≤ R.frames ∧ 8 + (2 + 11) + 0 ≤ R.locals) (hls : ls.size = nL) (hrm : (rest.map fun v => v.category).sum ≤ 8) (hdg : decode cc pc = .ok (.invokestatic index, 3)) (kk : ∀ (H1 : Heap) (locs1 : List Loc), va_P g.1 vwCl (tl_W g σ) H1 → va_S (tl_A g) H0 H1 locs1 → W p l e R s m args below meth c H1 locs1 0 0 Q (F0 m (pc + 3) ls (.int ro :: rest))) : W p l e R s m args below meth c H locs 0 0 Q (F0 m pc ls (.int a2 :: .int a1 :: rest)) :=
  tl_goi (tl_callS C hts hP (okX4_isIn l g C.2.2.2.2.2.2.2 σ a1 a2 ro h) rfl rfl rfl (n := 2) (by decide +kernel) rfl hG hR hls rfl hrm hdg) hS kk
abbrev rX4_lesser : Room := { frames := 0, cells := 0, slots := 0, locals := 0 }
set_option maxHeartbeats 4000000 in
set_option maxRecDepth 100000 in
theorem okX4_lesser (l : Launch) (g : tl_G) (hI : tl_I g) (σ : tl_St) (a1 : Int32) (a2 : Int32) (ro : Int32) (h : fX4_lesser σ a1 a2 = ro) : Met l yX4_lesser wsX4_lesser rX4_lesser (va_Pc [.int a1, .int a2] (tl_Pre g σ)) (tl_Qi g ro σ) 0 0 (tl_A g) := by
  refine tl_enter (cc := cX4_lesser) (maxL := 2) (ret := (some .int)) (own := RX4) hI (by decide) rfl rfl (Nat.le_of_ble_eq_true rfl) ?_
  intro p e s m below meth c C hts H locs hP hS ls hl
  have hx := C.1
  have hb := C.2.1
  have hl : lv_has ls 2 [(0, .int a1), (1, .int a2)] := hl
  unfold fX4_lesser at h
  refine lv_iload_n (pc := 0) hx hb dX4_lesser_0 rfl (lv_at hl 0 rfl) ?_
  refine lv_iload_n (pc := 1) hx hb dX4_lesser_1 rfl (lv_at hl 1 rfl) ?_
  refine lv_icmp_ge (pc := 2) (tgt := 9) hx hb dX4_lesser_2 (by decide) (fun c1 => ?_) (fun c1 => ?_)
  · replace h := (if_pos c1).symm.trans h
    refine lv_iload_n (pc := 9) hx hb dX4_lesser_9 rfl (lv_at hl 1 rfl) ?_
    exact tl_Ritr (pc := 10) C h hP hS dX4_lesser_10
  · replace h := (if_neg c1).symm.trans h
    refine lv_iload_n (pc := 5) hx hb dX4_lesser_5 rfl (lv_at hl 0 rfl) ?_
    refine lv_goto (pc := 6) (tgt := 10) hx hb dX4_lesser_6 (by decide) ?_
    exact tl_Ritr (pc := 10) C h hP hS dX4_lesser_10
theorem caX4_lesser {p : Program} {l : Launch} {e : Env} {R : Room} {s : State} {m : MethodId} {args : Array Value} {below : List Frame} {meth : Method} {c : Code} {H : Heap} {locs : List Loc} {Q : State → Prop} {cc : ByteArray} {pc : Nat} {ls : Array Slot} {rest : List Value} {g : tl_G} {σ : tl_St} {H0 : Heap} {nL : Nat} {own : String} {ret : Option FieldType} {index : Nat} (C : tl_C p s m meth c cc nL own ret g) {Ts : List Cond} (hts : ∀ w ∈ Ts, w.before args s = true) (hP : va_P g.1 vwCl (tl_W g σ) H) (hS : va_S (tl_A g) H0 H locs) {a1 : Int32} {a2 : Int32} {ro : Int32} (h : fX4_lesser σ a1 a2 = ro) (hG : GoodIn Ts (va_wsS own index yX4_lesser wsX4_lesser)) (hR : 0 + 1 ≤ R.frames ∧ 8 + (2 + 11) + 0 ≤ R.locals) (hls : ls.size = nL) (hrm : (rest.map fun v => v.category).sum ≤ 8) (hdg : decode cc pc = .ok (.invokestatic index, 3)) (kk : ∀ (H1 : Heap) (locs1 : List Loc), va_P g.1 vwCl (tl_W g σ) H1 → va_S (tl_A g) H0 H1 locs1 → W p l e R s m args below meth c H1 locs1 0 0 Q (F0 m (pc + 3) ls (.int ro :: rest))) : W p l e R s m args below meth c H locs 0 0 Q (F0 m pc ls (.int a2 :: .int a1 :: rest)) :=
  tl_goi (tl_callS C hts hP (okX4_lesser l g C.2.2.2.2.2.2.2 σ a1 a2 ro h) rfl rfl rfl (n := 2) (by decide +kernel) rfl hG hR hls rfl hrm hdg) hS kk
abbrev rX4_greater : Room := { frames := 0, cells := 0, slots := 0, locals := 0 }
set_option maxHeartbeats 4000000 in
set_option maxRecDepth 100000 in
theorem okX4_greater (l : Launch) (g : tl_G) (hI : tl_I g) (σ : tl_St) (a1 : Int32) (a2 : Int32) (ro : Int32) (h : fX4_greater σ a1 a2 = ro) : Met l yX4_greater wsX4_greater rX4_greater (va_Pc [.int a1, .int a2] (tl_Pre g σ)) (tl_Qi g ro σ) 0 0 (tl_A g) := by
  refine tl_enter (cc := cX4_greater) (maxL := 2) (ret := (some .int)) (own := RX4) hI (by decide) rfl rfl (Nat.le_of_ble_eq_true rfl) ?_
  intro p e s m below meth c C hts H locs hP hS ls hl
  have hx := C.1
  have hb := C.2.1
  have hl : lv_has ls 2 [(0, .int a1), (1, .int a2)] := hl
  unfold fX4_greater at h
  refine lv_iload_n (pc := 0) hx hb dX4_greater_0 rfl (lv_at hl 0 rfl) ?_
  refine lv_iload_n (pc := 1) hx hb dX4_greater_1 rfl (lv_at hl 1 rfl) ?_
  refine lv_icmp_le (pc := 2) (tgt := 9) hx hb dX4_greater_2 (by decide) (fun c1 => ?_) (fun c1 => ?_)
  · replace h := (if_pos c1).symm.trans h
    refine lv_iload_n (pc := 9) hx hb dX4_greater_9 rfl (lv_at hl 1 rfl) ?_
    exact tl_Ritr (pc := 10) C h hP hS dX4_greater_10
  · replace h := (if_neg c1).symm.trans h
    refine lv_iload_n (pc := 5) hx hb dX4_greater_5 rfl (lv_at hl 0 rfl) ?_
    refine lv_goto (pc := 6) (tgt := 10) hx hb dX4_greater_6 (by decide) ?_
    exact tl_Ritr (pc := 10) C h hP hS dX4_greater_10
theorem caX4_greater {p : Program} {l : Launch} {e : Env} {R : Room} {s : State} {m : MethodId} {args : Array Value} {below : List Frame} {meth : Method} {c : Code} {H : Heap} {locs : List Loc} {Q : State → Prop} {cc : ByteArray} {pc : Nat} {ls : Array Slot} {rest : List Value} {g : tl_G} {σ : tl_St} {H0 : Heap} {nL : Nat} {own : String} {ret : Option FieldType} {index : Nat} (C : tl_C p s m meth c cc nL own ret g) {Ts : List Cond} (hts : ∀ w ∈ Ts, w.before args s = true) (hP : va_P g.1 vwCl (tl_W g σ) H) (hS : va_S (tl_A g) H0 H locs) {a1 : Int32} {a2 : Int32} {ro : Int32} (h : fX4_greater σ a1 a2 = ro) (hG : GoodIn Ts (va_wsS own index yX4_greater wsX4_greater)) (hR : 0 + 1 ≤ R.frames ∧ 8 + (2 + 11) + 0 ≤ R.locals) (hls : ls.size = nL) (hrm : (rest.map fun v => v.category).sum ≤ 8) (hdg : decode cc pc = .ok (.invokestatic index, 3)) (kk : ∀ (H1 : Heap) (locs1 : List Loc), va_P g.1 vwCl (tl_W g σ) H1 → va_S (tl_A g) H0 H1 locs1 → W p l e R s m args below meth c H1 locs1 0 0 Q (F0 m (pc + 3) ls (.int ro :: rest))) : W p l e R s m args below meth c H locs 0 0 Q (F0 m pc ls (.int a2 :: .int a1 :: rest)) :=
  tl_goi (tl_callS C hts hP (okX4_greater l g C.2.2.2.2.2.2.2 σ a1 a2 ro h) rfl rfl rfl (n := 2) (by decide +kernel) rfl hG hR hls rfl hrm hdg) hS kk
abbrev rX4_finds : Room := { frames := 0, cells := 0, slots := 0, locals := 0 }
set_option maxHeartbeats 4000000 in
set_option maxRecDepth 100000 in
theorem okX4_finds (l : Launch) (g : tl_G) (hI : tl_I g) (σ : tl_St) (a1 : Int32) (ro : Int32) (σo : tl_St) (h : fX4_finds σ a1 = (ro, σo)) : Met l yX4_finds wsX4_finds rX4_finds (va_Pc [.ref (tl_ad g 34), .int a1] (tl_Pre g σ)) (tl_Qi g ro σo) 0 0 (tl_A g) := by
  refine tl_enter (cc := cX4_finds) (maxL := 2) (ret := (some .int)) (own := RX4) hI (by decide) rfl rfl (Nat.le_of_ble_eq_true rfl) ?_
  intro p e s m below meth c C hts H locs hP hS ls hl
  have hx := C.1
  have hb := C.2.1
  have hl : lv_has ls 2 [(0, .ref (tl_ad g 34)), (1, .int a1)] := hl
  have hc4 : ∀ w ∈ u_ws RX4 TX4 30, w.before [.ref (tl_ad g 34), .int a1].toArray s = true := fun w hw => hts w (List.mem_cons_of_mem _ (List.mem_append_right _ hw))
  have lk0 : (Cond.fieldLink RX4 64 "ThriftLockModel" "latest" "I").before [.ref (tl_ad g 34), .int a1].toArray s = true := hts _ (List.mem_cons_of_mem _ (List.mem_append_left _ (List.mem_of_getElem? (i := 0) rfl)))
  unfold fX4_finds at h
  refine lv_aload_n (pc := 0) hx hb dX4_finds_0 rfl (lv_at hl 0 rfl) ?_
  refine lv_iload_n (pc := 1) hx hb dX4_finds_1 rfl (lv_at hl 1 rfl) ?_
  obtain ⟨σ1, eσ1, h⟩ := tl_nm h
  refine tl_sM_4 (pc := 2) C hc4 hP hS eσ1 lk0 dX4_finds_2 (fun H locs hP hS => ?_)
  refine lv_bipush (pc := 5) (v := (-10)) hx hb dX4_finds_5 (by decide) ?_
  refine lv_iload_n (pc := 7) hx hb dX4_finds_7 rfl (lv_at hl 1 rfl) ?_
  refine lv_isub (pc := 8) hx hb dX4_finds_8 ?_
  exact tl_Ritw (pc := 9) C h hP hS dX4_finds_9
theorem caX4_finds {p : Program} {l : Launch} {e : Env} {R : Room} {s : State} {m : MethodId} {args : Array Value} {below : List Frame} {meth : Method} {c : Code} {H : Heap} {locs : List Loc} {Q : State → Prop} {cc : ByteArray} {pc : Nat} {ls : Array Slot} {rest : List Value} {g : tl_G} {σ : tl_St} {H0 : Heap} {nL : Nat} {own : String} {ret : Option FieldType} {index : Nat} (C : tl_C p s m meth c cc nL own ret g) {Ts : List Cond} (hts : ∀ w ∈ Ts, w.before args s = true) (hP : va_P g.1 vwCl (tl_W g σ) H) (hS : va_S (tl_A g) H0 H locs) {a1 : Int32} {ro : Int32} {σo : tl_St} (h : fX4_finds σ a1 = (ro, σo)) (hG : GoodIn Ts (wsV own index RX4 yX4_finds wsX4_finds)) (hR : 0 + 1 ≤ R.frames ∧ 8 + (2 + 11) + 0 ≤ R.locals) (hls : ls.size = nL) (hrm : (rest.map fun v => v.category).sum ≤ 8) (hdg : decode cc pc = .ok (.invokevirtual index, 3)) (kk : ∀ (H1 : Heap) (locs1 : List Loc), va_P g.1 vwCl (tl_W g σo) H1 → va_S (tl_A g) H0 H1 locs1 → W p l e R s m args below meth c H1 locs1 0 0 Q (F0 m (pc + 3) ls (.int ro :: rest))) : W p l e R s m args below meth c H locs 0 0 Q (F0 m pc ls (.int a1 :: .ref (tl_ad g 34) :: rest)) :=
  tl_goi (tl_callV C hts hP (okX4_finds l g C.2.2.2.2.2.2.2 σ a1 ro σo h) rfl rfl rfl (n := 1) (by decide +kernel) rfl (ci := 4) rfl (tl_kM g σ) hG hR hls rfl hrm hdg) hS kk
abbrev rX4_isSheet : Room := { frames := 1, cells := 0, slots := 0, locals := 25 }
set_option maxHeartbeats 4000000 in
set_option maxRecDepth 100000 in
theorem okX4_isSheet (l : Launch) (g : tl_G) (hI : tl_I g) (σ : tl_St) (a1 : Int32) (ro : Int32) (h : fX4_isSheet σ a1 = ro) : Met l yX4_isSheet wsX4_isSheet rX4_isSheet (va_Pc [.int a1] (tl_Pre g σ)) (tl_Qi g ro σ) 0 0 (tl_A g) := by
  refine tl_enter (cc := cX4_isSheet) (maxL := 1) (ret := (some .boolean)) (own := RX4) hI (by decide) rfl rfl (Nat.le_of_ble_eq_true rfl) ?_
  intro p e s m below meth c C hts H locs hP hS ls hl
  have hx := C.1
  have hb := C.2.1
  have hl : lv_has ls 1 [(0, .int a1)] := hl
  have lk0 : (Cond.constantLong RX4 67 (3)).before [.int a1].toArray s = true := hts _ (List.mem_cons_of_mem _ (List.mem_of_getElem? (i := 0) rfl))
  unfold fX4_isSheet at h
  refine lv_iload_n (pc := 0) hx hb dX4_isSheet_0 rfl (lv_at hl 0 rfl) ?_
  refine lv_i2l (pc := 1) hx hb dX4_isSheet_1 rfl ?_
  refine lv_lconst (pc := 2) (v := 0) hx hb dX4_isSheet_2 (by decide) ?_
  refine lv_ldc2 (pc := 3) (v := 3) hx hb C.2.2.2.1 lk0 dX4_isSheet_3 ?_
  obtain ⟨r1, er1, h⟩ := tl_nm h
  refine caX4_in (pc := 6) C hts hP hS er1 gX4_isSheet_X4_in ⟨Nat.le_of_ble_eq_true rfl, Nat.le_of_ble_eq_true rfl⟩ hl.1 (Nat.le_of_ble_eq_true rfl) dX4_isSheet_6 (fun H locs hP hS => ?_)
  exact tl_Rztr (pc := 9) C h hP hS (by rw [← er1]; exact bX4_in σ (a1.toInt64) 0 3) dX4_isSheet_9
theorem caX4_isSheet {p : Program} {l : Launch} {e : Env} {R : Room} {s : State} {m : MethodId} {args : Array Value} {below : List Frame} {meth : Method} {c : Code} {H : Heap} {locs : List Loc} {Q : State → Prop} {cc : ByteArray} {pc : Nat} {ls : Array Slot} {rest : List Value} {g : tl_G} {σ : tl_St} {H0 : Heap} {nL : Nat} {own : String} {ret : Option FieldType} {index : Nat} (C : tl_C p s m meth c cc nL own ret g) {Ts : List Cond} (hts : ∀ w ∈ Ts, w.before args s = true) (hP : va_P g.1 vwCl (tl_W g σ) H) (hS : va_S (tl_A g) H0 H locs) {a1 : Int32} {ro : Int32} (h : fX4_isSheet σ a1 = ro) (hG : GoodIn Ts (va_wsS own index yX4_isSheet wsX4_isSheet)) (hR : 1 + 1 ≤ R.frames ∧ 8 + (1 + 11) + 25 ≤ R.locals) (hls : ls.size = nL) (hrm : (rest.map fun v => v.category).sum ≤ 8) (hdg : decode cc pc = .ok (.invokestatic index, 3)) (kk : ∀ (H1 : Heap) (locs1 : List Loc), va_P g.1 vwCl (tl_W g σ) H1 → va_S (tl_A g) H0 H1 locs1 → W p l e R s m args below meth c H1 locs1 0 0 Q (F0 m (pc + 3) ls (.int ro :: rest))) : W p l e R s m args below meth c H locs 0 0 Q (F0 m pc ls (.int a1 :: rest)) :=
  tl_goi (tl_callS C hts hP (okX4_isSheet l g C.2.2.2.2.2.2.2 σ a1 ro h) rfl rfl rfl (n := 1) (by decide +kernel) rfl hG hR hls rfl hrm hdg) hS kk
abbrev rX4_sheet : Room := { frames := 2, cells := 0, slots := 0, locals := 45 }
set_option maxHeartbeats 4000000 in
set_option maxRecDepth 100000 in
theorem okX4_sheet (l : Launch) (g : tl_G) (hI : tl_I g) (σ : tl_St) (a1 : Int32) (a2 : Int32) (a3 : Int32) (ro : Int32) (σo : tl_St) (h : fX4_sheet σ a1 a2 a3 = some (ro, σo)) : Met l yX4_sheet wsX4_sheet rX4_sheet (va_Pc [.ref (tl_ad g 34), .int a1, .int a2, .int a3] (tl_Pre g σ)) (tl_Qi g ro σo) 0 0 (tl_A g) := by
  refine tl_enter (cc := cX4_sheet) (maxL := 5) (ret := (some .int)) (own := RX4) hI (by decide) rfl rfl (Nat.le_of_ble_eq_true rfl) ?_
  intro p e s m below meth c C hts H locs hP hS ls hl
  have hx := C.1
  have hb := C.2.1
  have hl : lv_has ls 5 [(0, .ref (tl_ad g 34)), (1, .int a1), (2, .int a2), (3, .int a3)] := hl
  have hc4 : ∀ w ∈ u_ws RX4 TX4 30, w.before [.ref (tl_ad g 34), .int a1, .int a2, .int a3].toArray s = true := fun w hw => hts w (List.mem_cons_of_mem _ (List.mem_append_right _ hw))
  have lk0 : (Cond.constantLong RX4 73 (2)).before [.ref (tl_ad g 34), .int a1, .int a2, .int a3].toArray s = true := hts _ (List.mem_cons_of_mem _ (List.mem_append_left _ (List.mem_of_getElem? (i := 0) rfl)))
  have lk1 : (Cond.fieldLink RX4 7 "ThriftLockModel" "forms" "[I").before [.ref (tl_ad g 34), .int a1, .int a2, .int a3].toArray s = true := hts _ (List.mem_cons_of_mem _ (List.mem_append_left _ (List.mem_of_getElem? (i := 1) rfl)))
  have lk2 : (Cond.fieldLink RX4 13 "ThriftLockModel" "sizes" "[I").before [.ref (tl_ad g 34), .int a1, .int a2, .int a3].toArray s = true := hts _ (List.mem_cons_of_mem _ (List.mem_append_left _ (List.mem_of_getElem? (i := 2) rfl)))
  have lk3 : (Cond.fieldLink RX4 16 "ThriftLockModel" "items" "[I").before [.ref (tl_ad g 34), .int a1, .int a2, .int a3].toArray s = true := hts _ (List.mem_cons_of_mem _ (List.mem_append_left _ (List.mem_of_getElem? (i := 3) rfl)))
  unfold fX4_sheet at h
  refine lv_iload_n (pc := 0) hx hb dX4_sheet_0 rfl (lv_at hl 1 rfl) ?_
  obtain ⟨r1, er1, h⟩ := tl_nm h
  refine caX4_isSheet (pc := 1) C hts hP hS er1 gX4_sheet_X4_isSheet ⟨Nat.le_of_ble_eq_true rfl, Nat.le_of_ble_eq_true rfl⟩ hl.1 (Nat.le_of_ble_eq_true rfl) dX4_sheet_1 (fun H locs hP hS => ?_)
  refine lv_if_eq (pc := 4) (tgt := 25) hx hb dX4_sheet_4 (by decide) (fun c2 => ?_) (fun c2 => ?_)
  · replace h := (if_pos c2).symm.trans h
    refine lv_bipush (pc := 25) (v := (-2)) hx hb dX4_sheet_25 (by decide) ?_
    exact tl_Ripw (pc := 27) C h hP hS dX4_sheet_27
  · replace h := (if_neg c2).symm.trans h
    refine lv_iload_n (pc := 7) hx hb dX4_sheet_7 rfl (lv_at hl 2 rfl) ?_
    refine lv_i2l (pc := 8) hx hb dX4_sheet_8 rfl ?_
    refine lv_lconst (pc := 9) (v := 0) hx hb dX4_sheet_9 (by decide) ?_
    refine lv_ldc2 (pc := 10) (v := 2) hx hb C.2.2.2.1 lk0 dX4_sheet_10 ?_
    obtain ⟨r3, er3, h⟩ := tl_nm h
    refine caX4_in (pc := 13) C hts hP hS er3 gX4_sheet_X4_in ⟨Nat.le_of_ble_eq_true rfl, Nat.le_of_ble_eq_true rfl⟩ hl.1 (Nat.le_of_ble_eq_true rfl) dX4_sheet_13 (fun H locs hP hS => ?_)
    refine lv_if_eq (pc := 16) (tgt := 25) hx hb dX4_sheet_16 (by decide) (fun c4 => ?_) (fun c4 => ?_)
    · replace h := (if_pos c4).symm.trans h
      refine lv_bipush (pc := 25) (v := (-2)) hx hb dX4_sheet_25 (by decide) ?_
      exact tl_Ripw (pc := 27) C h hP hS dX4_sheet_27
    · replace h := (if_neg c4).symm.trans h
      refine lv_iload_n (pc := 19) hx hb dX4_sheet_19 rfl (lv_at hl 3 rfl) ?_
      refine lv_bipush (pc := 20) (v := 60) hx hb dX4_sheet_20 (by decide) ?_
      refine lv_icmp_le (pc := 22) (tgt := 28) hx hb dX4_sheet_22 (by decide) (fun c5 => ?_) (fun c5 => ?_)
      · replace h := (if_pos c5).symm.trans h
        refine lv_iload_n (pc := 28) hx hb dX4_sheet_28 rfl (lv_at hl 3 rfl) ?_
        refine lv_if_ge (pc := 29) (tgt := 38) hx hb dX4_sheet_29 (by decide) (fun c6 => ?_) (fun c6 => ?_)
        · replace h := (if_pos c6).symm.trans h
          refine lv_aload_n (pc := 38) hx hb dX4_sheet_38 rfl (lv_at hl 0 rfl) ?_
          refine tl_gM_0 (pc := 39) C hc4 hP lk1 dX4_sheet_39 ?_
          refine lv_iload_n (pc := 42) hx hb dX4_sheet_42 rfl (lv_at hl 1 rfl) ?_
          refine lv_iload_n (pc := 43) hx hb dX4_sheet_43 rfl (lv_at hl 2 rfl) ?_
          obtain ⟨g7, h⟩ := tl_gd h
          obtain ⟨σ8, eσ8, h⟩ := tl_nm h
          refine tl_ast (pc := 44) C hP hS (tl_a35 g) g7 eσ8 dX4_sheet_44 (fun H locs hP hS => ?_)
          refine lv_aload_n (pc := 45) hx hb dX4_sheet_45 rfl (lv_at hl 0 rfl) ?_
          refine tl_gM_1 (pc := 46) C hc4 hP lk2 dX4_sheet_46 ?_
          refine lv_iload_n (pc := 49) hx hb dX4_sheet_49 rfl (lv_at hl 1 rfl) ?_
          refine lv_iload_n (pc := 50) hx hb dX4_sheet_50 rfl (lv_at hl 3 rfl) ?_
          obtain ⟨g9, h⟩ := tl_gd h
          obtain ⟨σ10, eσ10, h⟩ := tl_nm h
          refine tl_ast (pc := 51) C hP hS (tl_a36 g) g9 eσ10 dX4_sheet_51 (fun H locs hP hS => ?_)
          refine lv_iconst (pc := 52) (v := 0) hx hb dX4_sheet_52 (by decide) ?_
          refine lv_istore (pc := 53) (lv' := [(4, .int 0), (0, .ref (tl_ad g 34)), (1, .int a1), (2, .int a2), (3, .int a3)]) hx hb dX4_sheet_53 hl (by decide) rfl (fun ls hl => ?_)
          obtain ⟨k12, ek12, h⟩ := tl_j1 h
          have hZ12 : ∀ (σ11 : tl_St) (H : Heap) (locs : List Loc) (ls : Array Slot), k12 σ11 = some (ro, σo) → va_P g.1 vwCl (tl_W g σ11) H → va_S (tl_A g) s.heap H locs → lv_has ls 5 [(3, .int a3)] → W p l e rX4_sheet s m [.ref (tl_ad g 34), .int a1, .int a2, .int a3].toArray below meth c H locs 0 0 (MQ below (tl_Qi g ro σo) [.ref (tl_ad g 34), .int a1, .int a2, .int a3].toArray s 0 0 (tl_A g)) (F0 m 80 ls []) := by
            intro σ11 H locs ls h hP hS hl
            replace h := (ek12 σ11).trans h
            refine lv_iload_n (pc := 80) hx hb dX4_sheet_80 rfl (lv_at hl 0 rfl) ?_
            exact tl_Ripw (pc := 81) C h hP hS dX4_sheet_81
          have hL55 : ∀ (n : Nat) (σ13 : tl_St) (x14 : Int32) (H : Heap) (locs : List Loc) (ls : Array Slot), fX4_sheet_L55 a1 a3 k12 n σ13 x14 = some (ro, σo) → va_P g.1 vwCl (tl_W g σ13) H → va_S (tl_A g) s.heap H locs → lv_has ls 5 [(0, .ref (tl_ad g 34)), (1, .int a1), (3, .int a3), (4, .int x14)] → W p l e rX4_sheet s m [.ref (tl_ad g 34), .int a1, .int a2, .int a3].toArray below meth c H locs 0 0 (MQ below (tl_Qi g ro σo) [.ref (tl_ad g 34), .int a1, .int a2, .int a3].toArray s 0 0 (tl_A g)) (F0 m 55 ls []) := by
            intro n
            induction n with
            | zero =>
              intro σ13 x14 H locs ls h hP hS hl
              rw [fX4_sheet_L55] at h
              cases h
            | succ n ih =>
              intro σ13 x14 H locs ls h hP hS hl
              rw [fX4_sheet_L55] at h
              refine lv_iload (pc := 55) hx hb dX4_sheet_55 (lv_at hl 3 rfl) ?_
              refine lv_iload_n (pc := 57) hx hb dX4_sheet_57 rfl (lv_at hl 2 rfl) ?_
              refine lv_icmp_ge (pc := 58) (tgt := 80) hx hb dX4_sheet_58 (by decide) (fun c15 => ?_) (fun c15 => ?_)
              · replace h := (if_pos c15).symm.trans h
                exact hZ12 σ13 _ _ _ h hP hS (lv_sub hl [2] rfl)
              · replace h := (if_neg c15).symm.trans h
                refine lv_aload_n (pc := 61) hx hb dX4_sheet_61 rfl (lv_at hl 0 rfl) ?_
                refine tl_gM_2 (pc := 62) C hc4 hP lk3 dX4_sheet_62 ?_
                refine lv_bipush (pc := 65) (v := 60) hx hb dX4_sheet_65 (by decide) ?_
                refine lv_iload_n (pc := 67) hx hb dX4_sheet_67 rfl (lv_at hl 1 rfl) ?_
                refine lv_imul (pc := 68) hx hb dX4_sheet_68 ?_
                refine lv_iload (pc := 69) hx hb dX4_sheet_69 (lv_at hl 3 rfl) ?_
                refine lv_iadd (pc := 71) hx hb dX4_sheet_71 ?_
                refine lv_iconst (pc := 72) (v := 0) hx hb dX4_sheet_72 (by decide) ?_
                obtain ⟨g16, h⟩ := tl_gd h
                obtain ⟨σ17, eσ17, h⟩ := tl_nm h
                refine tl_ast (pc := 73) C hP hS (tl_a37 g) g16 eσ17 dX4_sheet_73 (fun H locs hP hS => ?_)
                obtain ⟨x18, ex18, h⟩ := tl_nm h
                refine lv_iinc (pc := 74) (v := x18) (lv' := [(4, .int x18), (0, .ref (tl_ad g 34)), (1, .int a1), (3, .int a3)]) hx hb dX4_sheet_74 hl (k := 3) rfl ex18 (by decide) rfl (fun ls hl => ?_)
                refine lv_goto (pc := 77) (tgt := 55) hx hb dX4_sheet_77 (by decide) ?_
                exact ih σ17 x18 _ _ _ h hP hS (lv_sub hl [1, 2, 3, 0] rfl)
          exact hL55 1000 σ10 0 _ _ _ h hP hS (lv_sub hl [1, 2, 4, 0] rfl)
        · replace h := (if_neg c6).symm.trans h
          refine lv_aload_n (pc := 32) hx hb dX4_sheet_32 rfl (lv_at hl 0 rfl) ?_
          refine lv_iconst (pc := 33) (v := 5) hx hb dX4_sheet_33 (by decide) ?_
          obtain ⟨r19, σ20, er19, h⟩ := tl_nm2 h
          refine caX4_finds (pc := 34) C hts hP hS er19 gX4_sheet_X4_finds ⟨Nat.le_of_ble_eq_true rfl, Nat.le_of_ble_eq_true rfl⟩ hl.1 (Nat.le_of_ble_eq_true rfl) dX4_sheet_34 (fun H locs hP hS => ?_)
          exact tl_Ripw (pc := 37) C h hP hS dX4_sheet_37
      · replace h := (if_neg c5).symm.trans h
        refine lv_bipush (pc := 25) (v := (-2)) hx hb dX4_sheet_25 (by decide) ?_
        exact tl_Ripw (pc := 27) C h hP hS dX4_sheet_27
theorem caX4_sheet {p : Program} {l : Launch} {e : Env} {R : Room} {s : State} {m : MethodId} {args : Array Value} {below : List Frame} {meth : Method} {c : Code} {H : Heap} {locs : List Loc} {Q : State → Prop} {cc : ByteArray} {pc : Nat} {ls : Array Slot} {rest : List Value} {g : tl_G} {σ : tl_St} {H0 : Heap} {nL : Nat} {own : String} {ret : Option FieldType} {index : Nat} (C : tl_C p s m meth c cc nL own ret g) {Ts : List Cond} (hts : ∀ w ∈ Ts, w.before args s = true) (hP : va_P g.1 vwCl (tl_W g σ) H) (hS : va_S (tl_A g) H0 H locs) {a1 : Int32} {a2 : Int32} {a3 : Int32} {ro : Int32} {σo : tl_St} (h : fX4_sheet σ a1 a2 a3 = some (ro, σo)) (hG : GoodIn Ts (wsV own index RX4 yX4_sheet wsX4_sheet)) (hR : 2 + 1 ≤ R.frames ∧ 8 + (5 + 11) + 45 ≤ R.locals) (hls : ls.size = nL) (hrm : (rest.map fun v => v.category).sum ≤ 8) (hdg : decode cc pc = .ok (.invokevirtual index, 3)) (kk : ∀ (H1 : Heap) (locs1 : List Loc), va_P g.1 vwCl (tl_W g σo) H1 → va_S (tl_A g) H0 H1 locs1 → W p l e R s m args below meth c H1 locs1 0 0 Q (F0 m (pc + 3) ls (.int ro :: rest))) : W p l e R s m args below meth c H locs 0 0 Q (F0 m pc ls (.int a3 :: .int a2 :: .int a1 :: .ref (tl_ad g 34) :: rest)) :=
  tl_goi (tl_callV C hts hP (okX4_sheet l g C.2.2.2.2.2.2.2 σ a1 a2 a3 ro σo h) rfl rfl rfl (n := 3) (by decide +kernel) rfl (ci := 4) rfl (tl_kM g σ) hG hR hls rfl hrm hdg) hS kk
abbrev rX4_lose : Room := { frames := 2, cells := 0, slots := 0, locals := 45 }
set_option maxHeartbeats 4000000 in
set_option maxRecDepth 100000 in
theorem okX4_lose (l : Launch) (g : tl_G) (hI : tl_I g) (σ : tl_St) (a1 : Int32) (ro : Int32) (σo : tl_St) (h : fX4_lose σ a1 = some (ro, σo)) : Met l yX4_lose wsX4_lose rX4_lose (va_Pc [.ref (tl_ad g 34), .int a1] (tl_Pre g σ)) (tl_Qi g ro σo) 0 0 (tl_A g) := by
  refine tl_enter (cc := cX4_lose) (maxL := 2) (ret := (some .int)) (own := RX4) hI (by decide) rfl rfl (Nat.le_of_ble_eq_true rfl) ?_
  intro p e s m below meth c C hts H locs hP hS ls hl
  have hx := C.1
  have hb := C.2.1
  have hl : lv_has ls 2 [(0, .ref (tl_ad g 34)), (1, .int a1)] := hl
  have hc4 : ∀ w ∈ u_ws RX4 TX4 30, w.before [.ref (tl_ad g 34), .int a1].toArray s = true := fun w hw => hts w (List.mem_cons_of_mem _ (List.mem_append_right _ hw))
  have lk0 : (Cond.fieldLink RX4 7 "ThriftLockModel" "forms" "[I").before [.ref (tl_ad g 34), .int a1].toArray s = true := hts _ (List.mem_cons_of_mem _ (List.mem_append_left _ (List.mem_of_getElem? (i := 0) rfl)))
  have lk1 : (Cond.fieldLink RX4 13 "ThriftLockModel" "sizes" "[I").before [.ref (tl_ad g 34), .int a1].toArray s = true := hts _ (List.mem_cons_of_mem _ (List.mem_append_left _ (List.mem_of_getElem? (i := 1) rfl)))
  unfold fX4_lose at h
  refine lv_iload_n (pc := 0) hx hb dX4_lose_0 rfl (lv_at hl 1 rfl) ?_
  obtain ⟨r1, er1, h⟩ := tl_nm h
  refine caX4_isSheet (pc := 1) C hts hP hS er1 gX4_lose_X4_isSheet ⟨Nat.le_of_ble_eq_true rfl, Nat.le_of_ble_eq_true rfl⟩ hl.1 (Nat.le_of_ble_eq_true rfl) dX4_lose_1 (fun H locs hP hS => ?_)
  refine lv_if_ne (pc := 4) (tgt := 10) hx hb dX4_lose_4 (by decide) (fun c2 => ?_) (fun c2 => ?_)
  · replace h := (if_neg c2).symm.trans h
    refine lv_aload_n (pc := 10) hx hb dX4_lose_10 rfl (lv_at hl 0 rfl) ?_
    refine tl_gM_0 (pc := 11) C hc4 hP lk0 dX4_lose_11 ?_
    refine lv_iload_n (pc := 14) hx hb dX4_lose_14 rfl (lv_at hl 1 rfl) ?_
    obtain ⟨g3, h⟩ := tl_gd h
    refine tl_ald (pc := 15) C hP (tl_a35 g) g3 dX4_lose_15 ?_
    refine lv_if_ge (pc := 16) (tgt := 25) hx hb dX4_lose_16 (by decide) (fun c4 => ?_) (fun c4 => ?_)
    · replace h := (if_pos c4).symm.trans h
      refine lv_aload_n (pc := 25) hx hb dX4_lose_25 rfl (lv_at hl 0 rfl) ?_
      refine tl_gM_0 (pc := 26) C hc4 hP lk0 dX4_lose_26 ?_
      refine lv_iload_n (pc := 29) hx hb dX4_lose_29 rfl (lv_at hl 1 rfl) ?_
      refine lv_iconst (pc := 30) (v := (-1)) hx hb dX4_lose_30 (by decide) ?_
      obtain ⟨g5, h⟩ := tl_gd h
      obtain ⟨σ6, eσ6, h⟩ := tl_nm h
      refine tl_ast (pc := 31) C hP hS (tl_a35 g) g5 eσ6 dX4_lose_31 (fun H locs hP hS => ?_)
      refine lv_aload_n (pc := 32) hx hb dX4_lose_32 rfl (lv_at hl 0 rfl) ?_
      refine tl_gM_1 (pc := 33) C hc4 hP lk1 dX4_lose_33 ?_
      refine lv_iload_n (pc := 36) hx hb dX4_lose_36 rfl (lv_at hl 1 rfl) ?_
      obtain ⟨g7, h⟩ := tl_gd h
      refine tl_ald (pc := 37) C hP (tl_a36 g) g7 dX4_lose_37 ?_
      exact tl_Ripw (pc := 38) C h hP hS dX4_lose_38
    · replace h := (if_neg c4).symm.trans h
      refine lv_aload_n (pc := 19) hx hb dX4_lose_19 rfl (lv_at hl 0 rfl) ?_
      refine lv_iconst (pc := 20) (v := 1) hx hb dX4_lose_20 (by decide) ?_
      obtain ⟨r8, σ9, er8, h⟩ := tl_nm2 h
      refine caX4_finds (pc := 21) C hts hP hS er8 gX4_lose_X4_finds ⟨Nat.le_of_ble_eq_true rfl, Nat.le_of_ble_eq_true rfl⟩ hl.1 (Nat.le_of_ble_eq_true rfl) dX4_lose_21 (fun H locs hP hS => ?_)
      exact tl_Ripw (pc := 24) C h hP hS dX4_lose_24
  · replace h := (if_pos c2).symm.trans h
    refine lv_bipush (pc := 7) (v := (-2)) hx hb dX4_lose_7 (by decide) ?_
    exact tl_Ripw (pc := 9) C h hP hS dX4_lose_9
theorem caX4_lose {p : Program} {l : Launch} {e : Env} {R : Room} {s : State} {m : MethodId} {args : Array Value} {below : List Frame} {meth : Method} {c : Code} {H : Heap} {locs : List Loc} {Q : State → Prop} {cc : ByteArray} {pc : Nat} {ls : Array Slot} {rest : List Value} {g : tl_G} {σ : tl_St} {H0 : Heap} {nL : Nat} {own : String} {ret : Option FieldType} {index : Nat} (C : tl_C p s m meth c cc nL own ret g) {Ts : List Cond} (hts : ∀ w ∈ Ts, w.before args s = true) (hP : va_P g.1 vwCl (tl_W g σ) H) (hS : va_S (tl_A g) H0 H locs) {a1 : Int32} {ro : Int32} {σo : tl_St} (h : fX4_lose σ a1 = some (ro, σo)) (hG : GoodIn Ts (wsV own index RX4 yX4_lose wsX4_lose)) (hR : 2 + 1 ≤ R.frames ∧ 8 + (2 + 11) + 45 ≤ R.locals) (hls : ls.size = nL) (hrm : (rest.map fun v => v.category).sum ≤ 8) (hdg : decode cc pc = .ok (.invokevirtual index, 3)) (kk : ∀ (H1 : Heap) (locs1 : List Loc), va_P g.1 vwCl (tl_W g σo) H1 → va_S (tl_A g) H0 H1 locs1 → W p l e R s m args below meth c H1 locs1 0 0 Q (F0 m (pc + 3) ls (.int ro :: rest))) : W p l e R s m args below meth c H locs 0 0 Q (F0 m pc ls (.int a1 :: .ref (tl_ad g 34) :: rest)) :=
  tl_goi (tl_callV C hts hP (okX4_lose l g C.2.2.2.2.2.2.2 σ a1 ro σo h) rfl rfl rfl (n := 1) (by decide +kernel) rfl (ci := 4) rfl (tl_kM g σ) hG hR hls rfl hrm hdg) hS kk
abbrev rX4_lacks : Room := { frames := 1, cells := 0, slots := 0, locals := 25 }
set_option maxHeartbeats 4000000 in
set_option maxRecDepth 100000 in
theorem okX4_lacks (l : Launch) (g : tl_G) (hI : tl_I g) (σ : tl_St) (a1 : Int32) (a2 : Int32) (a3 : Int32) (ro : Int32) (σo : tl_St) (h : fX4_lacks σ a1 a2 a3 = some (ro, σo)) : Met l yX4_lacks wsX4_lacks rX4_lacks (va_Pc [.ref (tl_ad g 34), .int a1, .int a2, .int a3] (tl_Pre g σ)) (tl_Qi g ro σo) 0 0 (tl_A g) := by
  refine tl_enter (cc := cX4_lacks) (maxL := 4) (ret := (some .int)) (own := RX4) hI (by decide) rfl rfl (Nat.le_of_ble_eq_true rfl) ?_
  intro p e s m below meth c C hts H locs hP hS ls hl
  have hx := C.1
  have hb := C.2.1
  have hl : lv_has ls 4 [(0, .ref (tl_ad g 34)), (1, .int a1), (2, .int a2), (3, .int a3)] := hl
  have hc4 : ∀ w ∈ u_ws RX4 TX4 30, w.before [.ref (tl_ad g 34), .int a1, .int a2, .int a3].toArray s = true := fun w hw => hts w (List.mem_cons_of_mem _ (List.mem_append_right _ hw))
  have lk0 : (Cond.fieldLink RX4 7 "ThriftLockModel" "forms" "[I").before [.ref (tl_ad g 34), .int a1, .int a2, .int a3].toArray s = true := hts _ (List.mem_cons_of_mem _ (List.mem_append_left _ (List.mem_of_getElem? (i := 0) rfl)))
  have lk1 : (Cond.fieldLink RX4 13 "ThriftLockModel" "sizes" "[I").before [.ref (tl_ad g 34), .int a1, .int a2, .int a3].toArray s = true := hts _ (List.mem_cons_of_mem _ (List.mem_append_left _ (List.mem_of_getElem? (i := 1) rfl)))
  unfold fX4_lacks at h
  refine lv_aload_n (pc := 0) hx hb dX4_lacks_0 rfl (lv_at hl 0 rfl) ?_
  refine tl_gM_0 (pc := 1) C hc4 hP lk0 dX4_lacks_1 ?_
  refine lv_iload_n (pc := 4) hx hb dX4_lacks_4 rfl (lv_at hl 1 rfl) ?_
  obtain ⟨g1, h⟩ := tl_gd h
  refine tl_ald (pc := 5) C hP (tl_a35 g) g1 dX4_lacks_5 ?_
  refine lv_if_ge (pc := 6) (tgt := 15) hx hb dX4_lacks_6 (by decide) (fun c2 => ?_) (fun c2 => ?_)
  · replace h := (if_pos c2).symm.trans h
    refine lv_aload_n (pc := 15) hx hb dX4_lacks_15 rfl (lv_at hl 0 rfl) ?_
    refine tl_gM_0 (pc := 16) C hc4 hP lk0 dX4_lacks_16 ?_
    refine lv_iload_n (pc := 19) hx hb dX4_lacks_19 rfl (lv_at hl 1 rfl) ?_
    obtain ⟨g3, h⟩ := tl_gd h
    refine tl_ald (pc := 20) C hP (tl_a35 g) g3 dX4_lacks_20 ?_
    refine lv_iload_n (pc := 21) hx hb dX4_lacks_21 rfl (lv_at hl 2 rfl) ?_
    refine lv_icmp_eq (pc := 22) (tgt := 31) hx hb dX4_lacks_22 (by decide) (fun c4 => ?_) (fun c4 => ?_)
    · replace h := (if_pos c4).symm.trans h
      refine lv_iload_n (pc := 31) hx hb dX4_lacks_31 rfl (lv_at hl 3 rfl) ?_
      refine lv_i2l (pc := 32) hx hb dX4_lacks_32 rfl ?_
      refine lv_lconst (pc := 33) (v := 0) hx hb dX4_lacks_33 (by decide) ?_
      refine lv_aload_n (pc := 34) hx hb dX4_lacks_34 rfl (lv_at hl 0 rfl) ?_
      refine tl_gM_1 (pc := 35) C hc4 hP lk1 dX4_lacks_35 ?_
      refine lv_iload_n (pc := 38) hx hb dX4_lacks_38 rfl (lv_at hl 1 rfl) ?_
      obtain ⟨g5, h⟩ := tl_gd h
      refine tl_ald (pc := 39) C hP (tl_a36 g) g5 dX4_lacks_39 ?_
      refine lv_iconst (pc := 40) (v := 1) hx hb dX4_lacks_40 (by decide) ?_
      refine lv_isub (pc := 41) hx hb dX4_lacks_41 ?_
      refine lv_i2l (pc := 42) hx hb dX4_lacks_42 rfl ?_
      obtain ⟨r6, er6, h⟩ := tl_nm h
      refine caX4_in (pc := 43) C hts hP hS er6 gX4_lacks_X4_in ⟨Nat.le_of_ble_eq_true rfl, Nat.le_of_ble_eq_true rfl⟩ hl.1 (Nat.le_of_ble_eq_true rfl) dX4_lacks_43 (fun H locs hP hS => ?_)
      refine lv_if_eq (pc := 46) (tgt := 53) hx hb dX4_lacks_46 (by decide) (fun c7 => ?_) (fun c7 => ?_)
      · replace h := (if_pos c7).symm.trans h
        refine lv_aload_n (pc := 53) hx hb dX4_lacks_53 rfl (lv_at hl 0 rfl) ?_
        refine lv_iconst (pc := 54) (v := 2) hx hb dX4_lacks_54 (by decide) ?_
        obtain ⟨r8, σ9, er8, h⟩ := tl_nm2 h
        refine caX4_finds (pc := 55) C hts hP hS er8 gX4_lacks_X4_finds ⟨Nat.le_of_ble_eq_true rfl, Nat.le_of_ble_eq_true rfl⟩ hl.1 (Nat.le_of_ble_eq_true rfl) dX4_lacks_55 (fun H locs hP hS => ?_)
        exact tl_Ripw (pc := 58) C h hP hS dX4_lacks_58
      · replace h := (if_neg c7).symm.trans h
        refine lv_iconst (pc := 49) (v := 0) hx hb dX4_lacks_49 (by decide) ?_
        refine lv_goto (pc := 50) (tgt := 58) hx hb dX4_lacks_50 (by decide) ?_
        exact tl_Ripw (pc := 58) C h hP hS dX4_lacks_58
    · replace h := (if_neg c4).symm.trans h
      refine lv_aload_n (pc := 25) hx hb dX4_lacks_25 rfl (lv_at hl 0 rfl) ?_
      refine lv_iconst (pc := 26) (v := 3) hx hb dX4_lacks_26 (by decide) ?_
      obtain ⟨r10, σ11, er10, h⟩ := tl_nm2 h
      refine caX4_finds (pc := 27) C hts hP hS er10 gX4_lacks_X4_finds ⟨Nat.le_of_ble_eq_true rfl, Nat.le_of_ble_eq_true rfl⟩ hl.1 (Nat.le_of_ble_eq_true rfl) dX4_lacks_27 (fun H locs hP hS => ?_)
      exact tl_Ripw (pc := 30) C h hP hS dX4_lacks_30
  · replace h := (if_neg c2).symm.trans h
    refine lv_aload_n (pc := 9) hx hb dX4_lacks_9 rfl (lv_at hl 0 rfl) ?_
    refine lv_iconst (pc := 10) (v := 1) hx hb dX4_lacks_10 (by decide) ?_
    obtain ⟨r12, σ13, er12, h⟩ := tl_nm2 h
    refine caX4_finds (pc := 11) C hts hP hS er12 gX4_lacks_X4_finds ⟨Nat.le_of_ble_eq_true rfl, Nat.le_of_ble_eq_true rfl⟩ hl.1 (Nat.le_of_ble_eq_true rfl) dX4_lacks_11 (fun H locs hP hS => ?_)
    exact tl_Ripw (pc := 14) C h hP hS dX4_lacks_14
theorem caX4_lacks {p : Program} {l : Launch} {e : Env} {R : Room} {s : State} {m : MethodId} {args : Array Value} {below : List Frame} {meth : Method} {c : Code} {H : Heap} {locs : List Loc} {Q : State → Prop} {cc : ByteArray} {pc : Nat} {ls : Array Slot} {rest : List Value} {g : tl_G} {σ : tl_St} {H0 : Heap} {nL : Nat} {own : String} {ret : Option FieldType} {index : Nat} (C : tl_C p s m meth c cc nL own ret g) {Ts : List Cond} (hts : ∀ w ∈ Ts, w.before args s = true) (hP : va_P g.1 vwCl (tl_W g σ) H) (hS : va_S (tl_A g) H0 H locs) {a1 : Int32} {a2 : Int32} {a3 : Int32} {ro : Int32} {σo : tl_St} (h : fX4_lacks σ a1 a2 a3 = some (ro, σo)) (hG : GoodIn Ts (wsV own index RX4 yX4_lacks wsX4_lacks)) (hR : 1 + 1 ≤ R.frames ∧ 8 + (4 + 11) + 25 ≤ R.locals) (hls : ls.size = nL) (hrm : (rest.map fun v => v.category).sum ≤ 8) (hdg : decode cc pc = .ok (.invokevirtual index, 3)) (kk : ∀ (H1 : Heap) (locs1 : List Loc), va_P g.1 vwCl (tl_W g σo) H1 → va_S (tl_A g) H0 H1 locs1 → W p l e R s m args below meth c H1 locs1 0 0 Q (F0 m (pc + 3) ls (.int ro :: rest))) : W p l e R s m args below meth c H locs 0 0 Q (F0 m pc ls (.int a3 :: .int a2 :: .int a1 :: .ref (tl_ad g 34) :: rest)) :=
  tl_goi (tl_callV C hts hP (okX4_lacks l g C.2.2.2.2.2.2.2 σ a1 a2 a3 ro σo h) rfl rfl rfl (n := 3) (by decide +kernel) rfl (ci := 4) rfl (tl_kM g σ) hG hR hls rfl hrm hdg) hS kk
abbrev rX4_cut : Room := { frames := 0, cells := 0, slots := 0, locals := 0 }
set_option maxHeartbeats 4000000 in
set_option maxRecDepth 100000 in
theorem okX4_cut (l : Launch) (g : tl_G) (hI : tl_I g) (σ : tl_St) (a1 : Int32) (a2 : Int32) (ro : Int32) (h : fX4_cut σ a1 a2 = ro) : Met l yX4_cut wsX4_cut rX4_cut (va_Pc [.int a1, .int a2] (tl_Pre g σ)) (tl_Qi g ro σ) 0 0 (tl_A g) := by
  refine tl_enter (cc := cX4_cut) (maxL := 2) (ret := (some .int)) (own := RX4) hI (by decide) rfl rfl (Nat.le_of_ble_eq_true rfl) ?_
  intro p e s m below meth c C hts H locs hP hS ls hl
  have hx := C.1
  have hb := C.2.1
  have hl : lv_has ls 2 [(0, .int a1), (1, .int a2)] := hl
  unfold fX4_cut at h
  refine lv_iload_n (pc := 0) hx hb dX4_cut_0 rfl (lv_at hl 0 rfl) ?_
  refine lv_if_ne (pc := 1) (tgt := 9) hx hb dX4_cut_1 (by decide) (fun c1 => ?_) (fun c1 => ?_)
  · replace h := (if_neg c1).symm.trans h
    refine lv_iload_n (pc := 9) hx hb dX4_cut_9 rfl (lv_at hl 0 rfl) ?_
    refine lv_iconst (pc := 10) (v := 1) hx hb dX4_cut_10 (by decide) ?_
    refine lv_icmp_ne (pc := 11) (tgt := 19) hx hb dX4_cut_11 (by decide) (fun c2 => ?_) (fun c2 => ?_)
    · replace h := (if_neg c2).symm.trans h
      refine lv_iload_n (pc := 19) hx hb dX4_cut_19 rfl (lv_at hl 1 rfl) ?_
      exact tl_Ritr (pc := 20) C h hP hS dX4_cut_20
    · replace h := (if_pos c2).symm.trans h
      refine lv_iload_n (pc := 14) hx hb dX4_cut_14 rfl (lv_at hl 1 rfl) ?_
      refine lv_i2s (pc := 15) hx hb dX4_cut_15 rfl ?_
      refine lv_goto (pc := 16) (tgt := 20) hx hb dX4_cut_16 (by decide) ?_
      exact tl_Ritr (pc := 20) C h hP hS dX4_cut_20
  · replace h := (if_pos c1).symm.trans h
    refine lv_iload_n (pc := 4) hx hb dX4_cut_4 rfl (lv_at hl 1 rfl) ?_
    refine lv_i2b (pc := 5) hx hb dX4_cut_5 rfl ?_
    refine lv_goto (pc := 6) (tgt := 20) hx hb dX4_cut_6 (by decide) ?_
    exact tl_Ritr (pc := 20) C h hP hS dX4_cut_20
theorem caX4_cut {p : Program} {l : Launch} {e : Env} {R : Room} {s : State} {m : MethodId} {args : Array Value} {below : List Frame} {meth : Method} {c : Code} {H : Heap} {locs : List Loc} {Q : State → Prop} {cc : ByteArray} {pc : Nat} {ls : Array Slot} {rest : List Value} {g : tl_G} {σ : tl_St} {H0 : Heap} {nL : Nat} {own : String} {ret : Option FieldType} {index : Nat} (C : tl_C p s m meth c cc nL own ret g) {Ts : List Cond} (hts : ∀ w ∈ Ts, w.before args s = true) (hP : va_P g.1 vwCl (tl_W g σ) H) (hS : va_S (tl_A g) H0 H locs) {a1 : Int32} {a2 : Int32} {ro : Int32} (h : fX4_cut σ a1 a2 = ro) (hG : GoodIn Ts (va_wsS own index yX4_cut wsX4_cut)) (hR : 0 + 1 ≤ R.frames ∧ 8 + (2 + 11) + 0 ≤ R.locals) (hls : ls.size = nL) (hrm : (rest.map fun v => v.category).sum ≤ 8) (hdg : decode cc pc = .ok (.invokestatic index, 3)) (kk : ∀ (H1 : Heap) (locs1 : List Loc), va_P g.1 vwCl (tl_W g σ) H1 → va_S (tl_A g) H0 H1 locs1 → W p l e R s m args below meth c H1 locs1 0 0 Q (F0 m (pc + 3) ls (.int ro :: rest))) : W p l e R s m args below meth c H locs 0 0 Q (F0 m pc ls (.int a2 :: .int a1 :: rest)) :=
  tl_goi (tl_callS C hts hP (okX4_cut l g C.2.2.2.2.2.2.2 σ a1 a2 ro h) rfl rfl rfl (n := 2) (by decide +kernel) rfl hG hR hls rfl hrm hdg) hS kk
abbrev rX4_lay : Room := { frames := 2, cells := 0, slots := 0, locals := 48 }
set_option maxHeartbeats 4000000 in
set_option maxRecDepth 100000 in
theorem okX4_lay (l : Launch) (g : tl_G) (hI : tl_I g) (σ : tl_St) (a1 : Int32) (a2 : Int32) (a3 : Int32) (a4 : Int32) (ro : Int32) (σo : tl_St) (h : fX4_lay σ a1 a2 a3 a4 = some (ro, σo)) : Met l yX4_lay wsX4_lay rX4_lay (va_Pc [.ref (tl_ad g 34), .int a1, .int a2, .int a3, .int a4] (tl_Pre g σ)) (tl_Qi g ro σo) 0 0 (tl_A g) := by
  refine tl_enter (cc := cX4_lay) (maxL := 6) (ret := (some .int)) (own := RX4) hI (by decide) rfl rfl (Nat.le_of_ble_eq_true rfl) ?_
  intro p e s m below meth c C hts H locs hP hS ls hl
  have hx := C.1
  have hb := C.2.1
  have hl : lv_has ls 6 [(0, .ref (tl_ad g 34)), (1, .int a1), (2, .int a2), (3, .int a3), (4, .int a4)] := hl
  have hc4 : ∀ w ∈ u_ws RX4 TX4 30, w.before [.ref (tl_ad g 34), .int a1, .int a2, .int a3, .int a4].toArray s = true := fun w hw => hts w (List.mem_cons_of_mem _ (List.mem_append_right _ hw))
  have lk0 : (Cond.constantLong RX4 73 (2)).before [.ref (tl_ad g 34), .int a1, .int a2, .int a3, .int a4].toArray s = true := hts _ (List.mem_cons_of_mem _ (List.mem_append_left _ (List.mem_of_getElem? (i := 0) rfl)))
  have lk1 : (Cond.fieldLink RX4 16 "ThriftLockModel" "items" "[I").before [.ref (tl_ad g 34), .int a1, .int a2, .int a3, .int a4].toArray s = true := hts _ (List.mem_cons_of_mem _ (List.mem_append_left _ (List.mem_of_getElem? (i := 1) rfl)))
  unfold fX4_lay at h
  refine lv_iload_n (pc := 0) hx hb dX4_lay_0 rfl (lv_at hl 1 rfl) ?_
  obtain ⟨r1, er1, h⟩ := tl_nm h
  refine caX4_isSheet (pc := 1) C hts hP hS er1 gX4_lay_X4_isSheet ⟨Nat.le_of_ble_eq_true rfl, Nat.le_of_ble_eq_true rfl⟩ hl.1 (Nat.le_of_ble_eq_true rfl) dX4_lay_1 (fun H locs hP hS => ?_)
  refine lv_if_eq (pc := 4) (tgt := 19) hx hb dX4_lay_4 (by decide) (fun c2 => ?_) (fun c2 => ?_)
  · replace h := (if_pos c2).symm.trans h
    refine lv_bipush (pc := 19) (v := (-2)) hx hb dX4_lay_19 (by decide) ?_
    exact tl_Ripw (pc := 21) C h hP hS dX4_lay_21
  · replace h := (if_neg c2).symm.trans h
    refine lv_iload_n (pc := 7) hx hb dX4_lay_7 rfl (lv_at hl 2 rfl) ?_
    refine lv_i2l (pc := 8) hx hb dX4_lay_8 rfl ?_
    refine lv_lconst (pc := 9) (v := 0) hx hb dX4_lay_9 (by decide) ?_
    refine lv_ldc2 (pc := 10) (v := 2) hx hb C.2.2.2.1 lk0 dX4_lay_10 ?_
    obtain ⟨r3, er3, h⟩ := tl_nm h
    refine caX4_in (pc := 13) C hts hP hS er3 gX4_lay_X4_in ⟨Nat.le_of_ble_eq_true rfl, Nat.le_of_ble_eq_true rfl⟩ hl.1 (Nat.le_of_ble_eq_true rfl) dX4_lay_13 (fun H locs hP hS => ?_)
    refine lv_if_ne (pc := 16) (tgt := 22) hx hb dX4_lay_16 (by decide) (fun c4 => ?_) (fun c4 => ?_)
    · replace h := (if_neg c4).symm.trans h
      refine lv_aload_n (pc := 22) hx hb dX4_lay_22 rfl (lv_at hl 0 rfl) ?_
      refine lv_iload_n (pc := 23) hx hb dX4_lay_23 rfl (lv_at hl 1 rfl) ?_
      refine lv_iload_n (pc := 24) hx hb dX4_lay_24 rfl (lv_at hl 2 rfl) ?_
      refine lv_iload_n (pc := 25) hx hb dX4_lay_25 rfl (lv_at hl 3 rfl) ?_
      obtain ⟨r5, σ6, er5, h⟩ := tl_o2s h
      refine caX4_lacks (pc := 26) C hts hP hS er5 gX4_lay_X4_lacks ⟨Nat.le_of_ble_eq_true rfl, Nat.le_of_ble_eq_true rfl⟩ hl.1 (Nat.le_of_ble_eq_true rfl) dX4_lay_26 (fun H locs hP hS => ?_)
      refine lv_istore (pc := 29) (lv' := [(5, .int r5), (0, .ref (tl_ad g 34)), (1, .int a1), (2, .int a2), (3, .int a3), (4, .int a4)]) hx hb dX4_lay_29 hl (by decide) rfl (fun ls hl => ?_)
      refine lv_iload (pc := 31) hx hb dX4_lay_31 (lv_at hl 0 rfl) ?_
      refine lv_if_eq (pc := 33) (tgt := 39) hx hb dX4_lay_33 (by decide) (fun c7 => ?_) (fun c7 => ?_)
      · replace h := (if_pos c7).symm.trans h
        refine lv_aload_n (pc := 39) hx hb dX4_lay_39 rfl (lv_at hl 1 rfl) ?_
        refine tl_gM_2 (pc := 40) C hc4 hP lk1 dX4_lay_40 ?_
        refine lv_bipush (pc := 43) (v := 60) hx hb dX4_lay_43 (by decide) ?_
        refine lv_iload_n (pc := 45) hx hb dX4_lay_45 rfl (lv_at hl 2 rfl) ?_
        refine lv_imul (pc := 46) hx hb dX4_lay_46 ?_
        refine lv_iload_n (pc := 47) hx hb dX4_lay_47 rfl (lv_at hl 4 rfl) ?_
        refine lv_iadd (pc := 48) hx hb dX4_lay_48 ?_
        refine lv_iload_n (pc := 49) hx hb dX4_lay_49 rfl (lv_at hl 3 rfl) ?_
        refine lv_iload (pc := 50) hx hb dX4_lay_50 (lv_at hl 5 rfl) ?_
        obtain ⟨r8, er8, h⟩ := tl_nm h
        refine caX4_cut (pc := 52) C hts hP hS er8 gX4_lay_X4_cut ⟨Nat.le_of_ble_eq_true rfl, Nat.le_of_ble_eq_true rfl⟩ hl.1 (Nat.le_of_ble_eq_true rfl) dX4_lay_52 (fun H locs hP hS => ?_)
        obtain ⟨g9, h⟩ := tl_gd h
        obtain ⟨σ10, eσ10, h⟩ := tl_nm h
        refine tl_ast (pc := 55) C hP hS (tl_a37 g) g9 eσ10 dX4_lay_55 (fun H locs hP hS => ?_)
        refine lv_iconst (pc := 56) (v := 1) hx hb dX4_lay_56 (by decide) ?_
        exact tl_Ripw (pc := 57) C h hP hS dX4_lay_57
      · replace h := (if_neg c7).symm.trans h
        refine lv_iload (pc := 36) hx hb dX4_lay_36 (lv_at hl 0 rfl) ?_
        exact tl_Ripw (pc := 38) C h hP hS dX4_lay_38
    · replace h := (if_pos c4).symm.trans h
      refine lv_bipush (pc := 19) (v := (-2)) hx hb dX4_lay_19 (by decide) ?_
      exact tl_Ripw (pc := 21) C h hP hS dX4_lay_21
theorem caX4_lay {p : Program} {l : Launch} {e : Env} {R : Room} {s : State} {m : MethodId} {args : Array Value} {below : List Frame} {meth : Method} {c : Code} {H : Heap} {locs : List Loc} {Q : State → Prop} {cc : ByteArray} {pc : Nat} {ls : Array Slot} {rest : List Value} {g : tl_G} {σ : tl_St} {H0 : Heap} {nL : Nat} {own : String} {ret : Option FieldType} {index : Nat} (C : tl_C p s m meth c cc nL own ret g) {Ts : List Cond} (hts : ∀ w ∈ Ts, w.before args s = true) (hP : va_P g.1 vwCl (tl_W g σ) H) (hS : va_S (tl_A g) H0 H locs) {a1 : Int32} {a2 : Int32} {a3 : Int32} {a4 : Int32} {ro : Int32} {σo : tl_St} (h : fX4_lay σ a1 a2 a3 a4 = some (ro, σo)) (hG : GoodIn Ts (wsV own index RX4 yX4_lay wsX4_lay)) (hR : 2 + 1 ≤ R.frames ∧ 8 + (6 + 11) + 48 ≤ R.locals) (hls : ls.size = nL) (hrm : (rest.map fun v => v.category).sum ≤ 8) (hdg : decode cc pc = .ok (.invokevirtual index, 3)) (kk : ∀ (H1 : Heap) (locs1 : List Loc), va_P g.1 vwCl (tl_W g σo) H1 → va_S (tl_A g) H0 H1 locs1 → W p l e R s m args below meth c H1 locs1 0 0 Q (F0 m (pc + 3) ls (.int ro :: rest))) : W p l e R s m args below meth c H locs 0 0 Q (F0 m pc ls (.int a4 :: .int a3 :: .int a2 :: .int a1 :: .ref (tl_ad g 34) :: rest)) :=
  tl_goi (tl_callV C hts hP (okX4_lay l g C.2.2.2.2.2.2.2 σ a1 a2 a3 a4 ro σo h) rfl rfl rfl (n := 4) (by decide +kernel) rfl (ci := 4) rfl (tl_kM g σ) hG hR hls rfl hrm hdg) hS kk
abbrev rX4_get : Room := { frames := 2, cells := 0, slots := 0, locals := 48 }
set_option maxHeartbeats 4000000 in
set_option maxRecDepth 100000 in
theorem okX4_get (l : Launch) (g : tl_G) (hI : tl_I g) (σ : tl_St) (a1 : Int32) (a2 : Int32) (a3 : Int32) (ro : Int32) (σo : tl_St) (h : fX4_get σ a1 a2 a3 = some (ro, σo)) : Met l yX4_get wsX4_get rX4_get (va_Pc [.ref (tl_ad g 34), .int a1, .int a2, .int a3] (tl_Pre g σ)) (tl_Qi g ro σo) 0 0 (tl_A g) := by
  refine tl_enter (cc := cX4_get) (maxL := 4) (ret := (some .int)) (own := RX4) hI (by decide) rfl rfl (Nat.le_of_ble_eq_true rfl) ?_
  intro p e s m below meth c C hts H locs hP hS ls hl
  have hx := C.1
  have hb := C.2.1
  have hl : lv_has ls 4 [(0, .ref (tl_ad g 34)), (1, .int a1), (2, .int a2), (3, .int a3)] := hl
  have hc4 : ∀ w ∈ u_ws RX4 TX4 30, w.before [.ref (tl_ad g 34), .int a1, .int a2, .int a3].toArray s = true := fun w hw => hts w (List.mem_cons_of_mem _ (List.mem_append_right _ hw))
  have lk0 : (Cond.constant RX4 87 (-2147483648)).before [.ref (tl_ad g 34), .int a1, .int a2, .int a3].toArray s = true := hts _ (List.mem_cons_of_mem _ (List.mem_append_left _ (List.mem_of_getElem? (i := 1) rfl)))
  have lk1 : (Cond.constantLong RX4 73 (2)).before [.ref (tl_ad g 34), .int a1, .int a2, .int a3].toArray s = true := hts _ (List.mem_cons_of_mem _ (List.mem_append_left _ (List.mem_of_getElem? (i := 0) rfl)))
  have lk2 : (Cond.fieldLink RX4 16 "ThriftLockModel" "items" "[I").before [.ref (tl_ad g 34), .int a1, .int a2, .int a3].toArray s = true := hts _ (List.mem_cons_of_mem _ (List.mem_append_left _ (List.mem_of_getElem? (i := 2) rfl)))
  unfold fX4_get at h
  refine lv_iload_n (pc := 0) hx hb dX4_get_0 rfl (lv_at hl 1 rfl) ?_
  obtain ⟨r1, er1, h⟩ := tl_nm h
  refine caX4_isSheet (pc := 1) C hts hP hS er1 gX4_get_X4_isSheet ⟨Nat.le_of_ble_eq_true rfl, Nat.le_of_ble_eq_true rfl⟩ hl.1 (Nat.le_of_ble_eq_true rfl) dX4_get_1 (fun H locs hP hS => ?_)
  refine lv_if_eq (pc := 4) (tgt := 29) hx hb dX4_get_4 (by decide) (fun c2 => ?_) (fun c2 => ?_)
  · replace h := (if_pos c2).symm.trans h
    refine lv_ldc (pc := 29) (v := (-2147483648)) hx hb C.2.2.2.1 lk0 dX4_get_29 ?_
    exact tl_Ripw (pc := 31) C h hP hS dX4_get_31
  · replace h := (if_neg c2).symm.trans h
    refine lv_iload_n (pc := 7) hx hb dX4_get_7 rfl (lv_at hl 2 rfl) ?_
    refine lv_i2l (pc := 8) hx hb dX4_get_8 rfl ?_
    refine lv_lconst (pc := 9) (v := 0) hx hb dX4_get_9 (by decide) ?_
    refine lv_ldc2 (pc := 10) (v := 2) hx hb C.2.2.2.1 lk1 dX4_get_10 ?_
    obtain ⟨r3, er3, h⟩ := tl_nm h
    refine caX4_in (pc := 13) C hts hP hS er3 gX4_get_X4_in ⟨Nat.le_of_ble_eq_true rfl, Nat.le_of_ble_eq_true rfl⟩ hl.1 (Nat.le_of_ble_eq_true rfl) dX4_get_13 (fun H locs hP hS => ?_)
    refine lv_if_eq (pc := 16) (tgt := 29) hx hb dX4_get_16 (by decide) (fun c4 => ?_) (fun c4 => ?_)
    · replace h := (if_pos c4).symm.trans h
      refine lv_ldc (pc := 29) (v := (-2147483648)) hx hb C.2.2.2.1 lk0 dX4_get_29 ?_
      exact tl_Ripw (pc := 31) C h hP hS dX4_get_31
    · replace h := (if_neg c4).symm.trans h
      refine lv_aload_n (pc := 19) hx hb dX4_get_19 rfl (lv_at hl 0 rfl) ?_
      refine lv_iload_n (pc := 20) hx hb dX4_get_20 rfl (lv_at hl 1 rfl) ?_
      refine lv_iload_n (pc := 21) hx hb dX4_get_21 rfl (lv_at hl 2 rfl) ?_
      refine lv_iload_n (pc := 22) hx hb dX4_get_22 rfl (lv_at hl 3 rfl) ?_
      obtain ⟨r5, σ6, er5, h⟩ := tl_o2s h
      refine caX4_lacks (pc := 23) C hts hP hS er5 gX4_get_X4_lacks ⟨Nat.le_of_ble_eq_true rfl, Nat.le_of_ble_eq_true rfl⟩ hl.1 (Nat.le_of_ble_eq_true rfl) dX4_get_23 (fun H locs hP hS => ?_)
      refine lv_if_eq (pc := 26) (tgt := 32) hx hb dX4_get_26 (by decide) (fun c7 => ?_) (fun c7 => ?_)
      · replace h := (if_pos c7).symm.trans h
        refine lv_aload_n (pc := 32) hx hb dX4_get_32 rfl (lv_at hl 0 rfl) ?_
        refine tl_gM_2 (pc := 33) C hc4 hP lk2 dX4_get_33 ?_
        refine lv_bipush (pc := 36) (v := 60) hx hb dX4_get_36 (by decide) ?_
        refine lv_iload_n (pc := 38) hx hb dX4_get_38 rfl (lv_at hl 1 rfl) ?_
        refine lv_imul (pc := 39) hx hb dX4_get_39 ?_
        refine lv_iload_n (pc := 40) hx hb dX4_get_40 rfl (lv_at hl 3 rfl) ?_
        refine lv_iadd (pc := 41) hx hb dX4_get_41 ?_
        obtain ⟨g8, h⟩ := tl_gd h
        refine tl_ald (pc := 42) C hP (tl_a37 g) g8 dX4_get_42 ?_
        exact tl_Ripw (pc := 43) C h hP hS dX4_get_43
      · replace h := (if_neg c7).symm.trans h
        refine lv_ldc (pc := 29) (v := (-2147483648)) hx hb C.2.2.2.1 lk0 dX4_get_29 ?_
        exact tl_Ripw (pc := 31) C h hP hS dX4_get_31
theorem caX4_get {p : Program} {l : Launch} {e : Env} {R : Room} {s : State} {m : MethodId} {args : Array Value} {below : List Frame} {meth : Method} {c : Code} {H : Heap} {locs : List Loc} {Q : State → Prop} {cc : ByteArray} {pc : Nat} {ls : Array Slot} {rest : List Value} {g : tl_G} {σ : tl_St} {H0 : Heap} {nL : Nat} {own : String} {ret : Option FieldType} {index : Nat} (C : tl_C p s m meth c cc nL own ret g) {Ts : List Cond} (hts : ∀ w ∈ Ts, w.before args s = true) (hP : va_P g.1 vwCl (tl_W g σ) H) (hS : va_S (tl_A g) H0 H locs) {a1 : Int32} {a2 : Int32} {a3 : Int32} {ro : Int32} {σo : tl_St} (h : fX4_get σ a1 a2 a3 = some (ro, σo)) (hG : GoodIn Ts (wsV own index RX4 yX4_get wsX4_get)) (hR : 2 + 1 ≤ R.frames ∧ 8 + (4 + 11) + 48 ≤ R.locals) (hls : ls.size = nL) (hrm : (rest.map fun v => v.category).sum ≤ 8) (hdg : decode cc pc = .ok (.invokevirtual index, 3)) (kk : ∀ (H1 : Heap) (locs1 : List Loc), va_P g.1 vwCl (tl_W g σo) H1 → va_S (tl_A g) H0 H1 locs1 → W p l e R s m args below meth c H1 locs1 0 0 Q (F0 m (pc + 3) ls (.int ro :: rest))) : W p l e R s m args below meth c H locs 0 0 Q (F0 m pc ls (.int a3 :: .int a2 :: .int a1 :: .ref (tl_ad g 34) :: rest)) :=
  tl_goi (tl_callV C hts hP (okX4_get l g C.2.2.2.2.2.2.2 σ a1 a2 a3 ro σo h) rfl rfl rfl (n := 3) (by decide +kernel) rfl (ci := 4) rfl (tl_kM g σ) hG hR hls rfl hrm hdg) hS kk
abbrev rX4_copy : Room := { frames := 2, cells := 0, slots := 0, locals := 45 }
set_option maxHeartbeats 4000000 in
set_option maxRecDepth 100000 in
theorem okX4_copy (l : Launch) (g : tl_G) (hI : tl_I g) (σ : tl_St) (a1 : Int32) (a2 : Int32) (a3 : Int32) (a4 : Int32) (a5 : Int32) (ro : Int32) (σo : tl_St) (h : fX4_copy σ a1 a2 a3 a4 a5 = some (ro, σo)) : Met l yX4_copy wsX4_copy rX4_copy (va_Pc [.ref (tl_ad g 34), .int a1, .int a2, .int a3, .int a4, .int a5] (tl_Pre g σ)) (tl_Qi g ro σo) 0 0 (tl_A g) := by
  refine tl_enter (cc := cX4_copy) (maxL := 7) (ret := (some .int)) (own := RX4) hI (by decide) rfl rfl (Nat.le_of_ble_eq_true rfl) ?_
  intro p e s m below meth c C hts H locs hP hS ls hl
  have hx := C.1
  have hb := C.2.1
  have hl : lv_has ls 7 [(0, .ref (tl_ad g 34)), (1, .int a1), (2, .int a2), (3, .int a3), (4, .int a4), (5, .int a5)] := hl
  have hc4 : ∀ w ∈ u_ws RX4 TX4 30, w.before [.ref (tl_ad g 34), .int a1, .int a2, .int a3, .int a4, .int a5].toArray s = true := fun w hw => hts w (List.mem_cons_of_mem _ (List.mem_append_right _ hw))
  have lk0 : (Cond.fieldLink RX4 7 "ThriftLockModel" "forms" "[I").before [.ref (tl_ad g 34), .int a1, .int a2, .int a3, .int a4, .int a5].toArray s = true := hts _ (List.mem_cons_of_mem _ (List.mem_append_left _ (List.mem_of_getElem? (i := 0) rfl)))
  have lk1 : (Cond.fieldLink RX4 13 "ThriftLockModel" "sizes" "[I").before [.ref (tl_ad g 34), .int a1, .int a2, .int a3, .int a4, .int a5].toArray s = true := hts _ (List.mem_cons_of_mem _ (List.mem_append_left _ (List.mem_of_getElem? (i := 1) rfl)))
  have lk2 : (Cond.fieldLink RX4 16 "ThriftLockModel" "items" "[I").before [.ref (tl_ad g 34), .int a1, .int a2, .int a3, .int a4, .int a5].toArray s = true := hts _ (List.mem_cons_of_mem _ (List.mem_append_left _ (List.mem_of_getElem? (i := 3) rfl)))
  have lk3 : (Cond.fieldLink RX4 19 "ThriftLockModel" "moved" "[I").before [.ref (tl_ad g 34), .int a1, .int a2, .int a3, .int a4, .int a5].toArray s = true := hts _ (List.mem_cons_of_mem _ (List.mem_append_left _ (List.mem_of_getElem? (i := 2) rfl)))
  unfold fX4_copy at h
  refine lv_iload_n (pc := 0) hx hb dX4_copy_0 rfl (lv_at hl 1 rfl) ?_
  obtain ⟨r1, er1, h⟩ := tl_nm h
  refine caX4_isSheet (pc := 1) C hts hP hS er1 gX4_copy_X4_isSheet ⟨Nat.le_of_ble_eq_true rfl, Nat.le_of_ble_eq_true rfl⟩ hl.1 (Nat.le_of_ble_eq_true rfl) dX4_copy_1 (fun H locs hP hS => ?_)
  refine lv_if_eq (pc := 4) (tgt := 14) hx hb dX4_copy_4 (by decide) (fun c2 => ?_) (fun c2 => ?_)
  · replace h := (if_pos c2).symm.trans h
    refine lv_bipush (pc := 14) (v := (-2)) hx hb dX4_copy_14 (by decide) ?_
    exact tl_Ripw (pc := 16) C h hP hS dX4_copy_16
  · replace h := (if_neg c2).symm.trans h
    refine lv_iload_n (pc := 7) hx hb dX4_copy_7 rfl (lv_at hl 3 rfl) ?_
    obtain ⟨r3, er3, h⟩ := tl_nm h
    refine caX4_isSheet (pc := 8) C hts hP hS er3 gX4_copy_X4_isSheet ⟨Nat.le_of_ble_eq_true rfl, Nat.le_of_ble_eq_true rfl⟩ hl.1 (Nat.le_of_ble_eq_true rfl) dX4_copy_8 (fun H locs hP hS => ?_)
    refine lv_if_ne (pc := 11) (tgt := 17) hx hb dX4_copy_11 (by decide) (fun c4 => ?_) (fun c4 => ?_)
    · replace h := (if_neg c4).symm.trans h
      refine lv_aload_n (pc := 17) hx hb dX4_copy_17 rfl (lv_at hl 0 rfl) ?_
      refine tl_gM_0 (pc := 18) C hc4 hP lk0 dX4_copy_18 ?_
      refine lv_iload_n (pc := 21) hx hb dX4_copy_21 rfl (lv_at hl 1 rfl) ?_
      obtain ⟨g5, h⟩ := tl_gd h
      refine tl_ald (pc := 22) C hP (tl_a35 g) g5 dX4_copy_22 ?_
      obtain ⟨k6, ek6, h⟩ := tl_j0 h
      have hJ6 : ∀ (H : Heap) (locs : List Loc) (ls : Array Slot), k6 = some (ro, σo) → va_P g.1 vwCl (tl_W g σ) H → va_S (tl_A g) s.heap H locs → lv_has ls 7 [(0, .ref (tl_ad g 34))] → W p l e rX4_copy s m [.ref (tl_ad g 34), .int a1, .int a2, .int a3, .int a4, .int a5].toArray below meth c H locs 0 0 (MQ below (tl_Qi g ro σo) [.ref (tl_ad g 34), .int a1, .int a2, .int a3, .int a4, .int a5].toArray s 0 0 (tl_A g)) (F0 m 35 ls []) := by
        intro H locs ls h hP hS hl
        replace h := ek6.trans h
        refine lv_aload_n (pc := 35) hx hb dX4_copy_35 rfl (lv_at hl 0 rfl) ?_
        refine lv_iconst (pc := 36) (v := 1) hx hb dX4_copy_36 (by decide) ?_
        obtain ⟨r7, σ8, er7, h⟩ := tl_nm2 h
        refine caX4_finds (pc := 37) C hts hP hS er7 gX4_copy_X4_finds ⟨Nat.le_of_ble_eq_true rfl, Nat.le_of_ble_eq_true rfl⟩ hl.1 (Nat.le_of_ble_eq_true rfl) dX4_copy_37 (fun H locs hP hS => ?_)
        exact tl_Ripw (pc := 40) C h hP hS dX4_copy_40
      refine lv_if_lt (pc := 23) (tgt := 35) hx hb dX4_copy_23 (by decide) (fun c9 => ?_) (fun c9 => ?_)
      · replace h := (if_pos c9).symm.trans h
        exact hJ6 _ _ _ h hP hS (lv_sub hl [0] rfl)
      · replace h := (if_neg c9).symm.trans h
        refine lv_aload_n (pc := 26) hx hb dX4_copy_26 rfl (lv_at hl 0 rfl) ?_
        refine tl_gM_0 (pc := 27) C hc4 hP lk0 dX4_copy_27 ?_
        refine lv_iload_n (pc := 30) hx hb dX4_copy_30 rfl (lv_at hl 3 rfl) ?_
        obtain ⟨g10, h⟩ := tl_gd h
        refine tl_ald (pc := 31) C hP (tl_a35 g) g10 dX4_copy_31 ?_
        refine lv_if_ge (pc := 32) (tgt := 41) hx hb dX4_copy_32 (by decide) (fun c11 => ?_) (fun c11 => ?_)
        · replace h := (if_pos c11).symm.trans h
          refine lv_aload_n (pc := 41) hx hb dX4_copy_41 rfl (lv_at hl 0 rfl) ?_
          refine tl_gM_0 (pc := 42) C hc4 hP lk0 dX4_copy_42 ?_
          refine lv_iload_n (pc := 45) hx hb dX4_copy_45 rfl (lv_at hl 1 rfl) ?_
          obtain ⟨g12, h⟩ := tl_gd h
          refine tl_ald (pc := 46) C hP (tl_a35 g) g12 dX4_copy_46 ?_
          refine lv_aload_n (pc := 47) hx hb dX4_copy_47 rfl (lv_at hl 0 rfl) ?_
          refine tl_gM_0 (pc := 48) C hc4 hP lk0 dX4_copy_48 ?_
          refine lv_iload_n (pc := 51) hx hb dX4_copy_51 rfl (lv_at hl 3 rfl) ?_
          obtain ⟨g13, h⟩ := tl_gd h
          refine tl_ald (pc := 52) C hP (tl_a35 g) g13 dX4_copy_52 ?_
          refine lv_icmp_eq (pc := 53) (tgt := 62) hx hb dX4_copy_53 (by decide) (fun c14 => ?_) (fun c14 => ?_)
          · replace h := (if_pos c14).symm.trans h
            refine lv_iload_n (pc := 62) hx hb dX4_copy_62 rfl (lv_at hl 2 rfl) ?_
            obtain ⟨k15, ek15, h⟩ := tl_j0 h
            have hJ15 : ∀ (H : Heap) (locs : List Loc) (ls : Array Slot), k15 = some (ro, σo) → va_P g.1 vwCl (tl_W g σ) H → va_S (tl_A g) s.heap H locs → lv_has ls 7 [(0, .ref (tl_ad g 34))] → W p l e rX4_copy s m [.ref (tl_ad g 34), .int a1, .int a2, .int a3, .int a4, .int a5].toArray below meth c H locs 0 0 (MQ below (tl_Qi g ro σo) [.ref (tl_ad g 34), .int a1, .int a2, .int a3, .int a4, .int a5].toArray s 0 0 (tl_A g)) (F0 m 111 ls []) := by
              intro H locs ls h hP hS hl
              replace h := ek15.trans h
              refine lv_aload_n (pc := 111) hx hb dX4_copy_111 rfl (lv_at hl 0 rfl) ?_
              refine lv_iconst (pc := 112) (v := 2) hx hb dX4_copy_112 (by decide) ?_
              obtain ⟨r16, σ17, er16, h⟩ := tl_nm2 h
              refine caX4_finds (pc := 113) C hts hP hS er16 gX4_copy_X4_finds ⟨Nat.le_of_ble_eq_true rfl, Nat.le_of_ble_eq_true rfl⟩ hl.1 (Nat.le_of_ble_eq_true rfl) dX4_copy_113 (fun H locs hP hS => ?_)
              exact tl_Ripw (pc := 116) C h hP hS dX4_copy_116
            refine lv_if_lt (pc := 63) (tgt := 111) hx hb dX4_copy_63 (by decide) (fun c18 => ?_) (fun c18 => ?_)
            · replace h := (if_pos c18).symm.trans h
              exact hJ15 _ _ _ h hP hS (lv_sub hl [0] rfl)
            · replace h := (if_neg c18).symm.trans h
              refine lv_iload (pc := 66) hx hb dX4_copy_66 (lv_at hl 4 rfl) ?_
              refine lv_if_lt (pc := 68) (tgt := 111) hx hb dX4_copy_68 (by decide) (fun c19 => ?_) (fun c19 => ?_)
              · replace h := (if_pos c19).symm.trans h
                exact hJ15 _ _ _ h hP hS (lv_sub hl [0] rfl)
              · replace h := (if_neg c19).symm.trans h
                refine lv_iload (pc := 71) hx hb dX4_copy_71 (lv_at hl 5 rfl) ?_
                refine lv_if_lt (pc := 73) (tgt := 111) hx hb dX4_copy_73 (by decide) (fun c20 => ?_) (fun c20 => ?_)
                · replace h := (if_pos c20).symm.trans h
                  exact hJ15 _ _ _ h hP hS (lv_sub hl [0] rfl)
                · replace h := (if_neg c20).symm.trans h
                  refine lv_iload_n (pc := 76) hx hb dX4_copy_76 rfl (lv_at hl 2 rfl) ?_
                  refine lv_i2l (pc := 77) hx hb dX4_copy_77 rfl ?_
                  refine lv_iload (pc := 78) hx hb dX4_copy_78 (lv_at hl 5 rfl) ?_
                  refine lv_i2l (pc := 80) hx hb dX4_copy_80 rfl ?_
                  refine lv_ladd (pc := 81) hx hb dX4_copy_81 ?_
                  refine lv_aload_n (pc := 82) hx hb dX4_copy_82 rfl (lv_at hl 0 rfl) ?_
                  refine tl_gM_1 (pc := 83) C hc4 hP lk1 dX4_copy_83 ?_
                  refine lv_iload_n (pc := 86) hx hb dX4_copy_86 rfl (lv_at hl 1 rfl) ?_
                  obtain ⟨g21, h⟩ := tl_gd h
                  refine tl_ald (pc := 87) C hP (tl_a36 g) g21 dX4_copy_87 ?_
                  refine lv_i2l (pc := 88) hx hb dX4_copy_88 rfl ?_
                  refine W.lcmp (pc := 89) hx hb dX4_copy_89 ?_
                  refine lv_if_gt (pc := 90) (tgt := 111) hx hb dX4_copy_90 (by decide) (fun c22 => ?_) (fun c22 => ?_)
                  · replace h := (if_pos c22).symm.trans h
                    exact hJ15 _ _ _ h hP hS (lv_sub hl [0] rfl)
                  · replace h := (if_neg c22).symm.trans h
                    refine lv_iload (pc := 93) hx hb dX4_copy_93 (lv_at hl 4 rfl) ?_
                    refine lv_i2l (pc := 95) hx hb dX4_copy_95 rfl ?_
                    refine lv_iload (pc := 96) hx hb dX4_copy_96 (lv_at hl 5 rfl) ?_
                    refine lv_i2l (pc := 98) hx hb dX4_copy_98 rfl ?_
                    refine lv_ladd (pc := 99) hx hb dX4_copy_99 ?_
                    refine lv_aload_n (pc := 100) hx hb dX4_copy_100 rfl (lv_at hl 0 rfl) ?_
                    refine tl_gM_1 (pc := 101) C hc4 hP lk1 dX4_copy_101 ?_
                    refine lv_iload_n (pc := 104) hx hb dX4_copy_104 rfl (lv_at hl 3 rfl) ?_
                    obtain ⟨g23, h⟩ := tl_gd h
                    refine tl_ald (pc := 105) C hP (tl_a36 g) g23 dX4_copy_105 ?_
                    refine lv_i2l (pc := 106) hx hb dX4_copy_106 rfl ?_
                    refine W.lcmp (pc := 107) hx hb dX4_copy_107 ?_
                    refine lv_if_le (pc := 108) (tgt := 117) hx hb dX4_copy_108 (by decide) (fun c24 => ?_) (fun c24 => ?_)
                    · replace h := (if_pos c24).symm.trans h
                      refine lv_iconst (pc := 117) (v := 0) hx hb dX4_copy_117 (by decide) ?_
                      refine lv_istore (pc := 118) (lv' := [(6, .int 0), (0, .ref (tl_ad g 34)), (1, .int a1), (2, .int a2), (3, .int a3), (4, .int a4), (5, .int a5)]) hx hb dX4_copy_118 hl (by decide) rfl (fun ls hl => ?_)
                      obtain ⟨k26, ek26, h⟩ := tl_j1 h
                      have hZ26 : ∀ (σ25 : tl_St) (H : Heap) (locs : List Loc) (ls : Array Slot), k26 σ25 = some (ro, σo) → va_P g.1 vwCl (tl_W g σ25) H → va_S (tl_A g) s.heap H locs → lv_has ls 7 [(0, .ref (tl_ad g 34)), (3, .int a3), (4, .int a4), (5, .int a5)] → W p l e rX4_copy s m [.ref (tl_ad g 34), .int a1, .int a2, .int a3, .int a4, .int a5].toArray below meth c H locs 0 0 (MQ below (tl_Qi g ro σo) [.ref (tl_ad g 34), .int a1, .int a2, .int a3, .int a4, .int a5].toArray s 0 0 (tl_A g)) (F0 m 154 ls []) := by
                        intro σ25 H locs ls h hP hS hl
                        replace h := (ek26 σ25).trans h
                        refine lv_iconst (pc := 154) (v := 0) hx hb dX4_copy_154 (by decide) ?_
                        refine lv_istore (pc := 155) (lv' := [(6, .int 0), (0, .ref (tl_ad g 34)), (3, .int a3), (4, .int a4), (5, .int a5)]) hx hb dX4_copy_155 hl (by decide) rfl (fun ls hl => ?_)
                        obtain ⟨k28, ek28, h⟩ := tl_j1 h
                        have hZ28 : ∀ (σ27 : tl_St) (H : Heap) (locs : List Loc) (ls : Array Slot), k28 σ27 = some (ro, σo) → va_P g.1 vwCl (tl_W g σ27) H → va_S (tl_A g) s.heap H locs → lv_has ls 7 [] → W p l e rX4_copy s m [.ref (tl_ad g 34), .int a1, .int a2, .int a3, .int a4, .int a5].toArray below meth c H locs 0 0 (MQ below (tl_Qi g ro σo) [.ref (tl_ad g 34), .int a1, .int a2, .int a3, .int a4, .int a5].toArray s 0 0 (tl_A g)) (F0 m 192 ls []) := by
                          intro σ27 H locs ls h hP hS hl
                          replace h := (ek28 σ27).trans h
                          refine lv_iconst (pc := 192) (v := 1) hx hb dX4_copy_192 (by decide) ?_
                          exact tl_Ripw (pc := 193) C h hP hS dX4_copy_193
                        have hL157 : ∀ (n : Nat) (σ29 : tl_St) (x30 : Int32) (H : Heap) (locs : List Loc) (ls : Array Slot), fX4_copy_L157 a3 a4 a5 k28 n σ29 x30 = some (ro, σo) → va_P g.1 vwCl (tl_W g σ29) H → va_S (tl_A g) s.heap H locs → lv_has ls 7 [(0, .ref (tl_ad g 34)), (3, .int a3), (4, .int a4), (5, .int a5), (6, .int x30)] → W p l e rX4_copy s m [.ref (tl_ad g 34), .int a1, .int a2, .int a3, .int a4, .int a5].toArray below meth c H locs 0 0 (MQ below (tl_Qi g ro σo) [.ref (tl_ad g 34), .int a1, .int a2, .int a3, .int a4, .int a5].toArray s 0 0 (tl_A g)) (F0 m 157 ls []) := by
                          intro n
                          induction n with
                          | zero =>
                            intro σ29 x30 H locs ls h hP hS hl
                            rw [fX4_copy_L157] at h
                            cases h
                          | succ n ih =>
                            intro σ29 x30 H locs ls h hP hS hl
                            rw [fX4_copy_L157] at h
                            refine lv_iload (pc := 157) hx hb dX4_copy_157 (lv_at hl 4 rfl) ?_
                            refine lv_iload (pc := 159) hx hb dX4_copy_159 (lv_at hl 3 rfl) ?_
                            refine lv_icmp_ge (pc := 161) (tgt := 192) hx hb dX4_copy_161 (by decide) (fun c31 => ?_) (fun c31 => ?_)
                            · replace h := (if_pos c31).symm.trans h
                              exact hZ28 σ29 _ _ _ h hP hS (lv_sub hl [] rfl)
                            · replace h := (if_neg c31).symm.trans h
                              refine lv_aload_n (pc := 164) hx hb dX4_copy_164 rfl (lv_at hl 0 rfl) ?_
                              refine tl_gM_2 (pc := 165) C hc4 hP lk2 dX4_copy_165 ?_
                              refine lv_bipush (pc := 168) (v := 60) hx hb dX4_copy_168 (by decide) ?_
                              refine lv_iload_n (pc := 170) hx hb dX4_copy_170 rfl (lv_at hl 1 rfl) ?_
                              refine lv_imul (pc := 171) hx hb dX4_copy_171 ?_
                              refine lv_iload (pc := 172) hx hb dX4_copy_172 (lv_at hl 2 rfl) ?_
                              refine lv_iadd (pc := 174) hx hb dX4_copy_174 ?_
                              refine lv_iload (pc := 175) hx hb dX4_copy_175 (lv_at hl 4 rfl) ?_
                              refine lv_iadd (pc := 177) hx hb dX4_copy_177 ?_
                              refine lv_aload_n (pc := 178) hx hb dX4_copy_178 rfl (lv_at hl 0 rfl) ?_
                              refine tl_gM_3 (pc := 179) C hc4 hP lk3 dX4_copy_179 ?_
                              refine lv_iload (pc := 182) hx hb dX4_copy_182 (lv_at hl 4 rfl) ?_
                              obtain ⟨g32, h⟩ := tl_gd h
                              refine tl_ald (pc := 184) C hP (tl_a38 g) g32 dX4_copy_184 ?_
                              obtain ⟨g33, h⟩ := tl_gd h
                              obtain ⟨σ34, eσ34, h⟩ := tl_nm h
                              refine tl_ast (pc := 185) C hP hS (tl_a37 g) g33 eσ34 dX4_copy_185 (fun H locs hP hS => ?_)
                              obtain ⟨x35, ex35, h⟩ := tl_nm h
                              refine lv_iinc (pc := 186) (v := x35) (lv' := [(6, .int x35), (0, .ref (tl_ad g 34)), (3, .int a3), (4, .int a4), (5, .int a5)]) hx hb dX4_copy_186 hl (k := 4) rfl ex35 (by decide) rfl (fun ls hl => ?_)
                              refine lv_goto (pc := 189) (tgt := 157) hx hb dX4_copy_189 (by decide) ?_
                              exact ih σ34 x35 _ _ _ h hP hS (lv_sub hl [1, 2, 3, 4, 0] rfl)
                        exact hL157 1000 σ25 0 _ _ _ h hP hS (lv_sub hl [1, 2, 3, 4, 0] rfl)
                      have hL120 : ∀ (n : Nat) (σ36 : tl_St) (x37 : Int32) (H : Heap) (locs : List Loc) (ls : Array Slot), fX4_copy_L120 a1 a2 a5 k26 n σ36 x37 = some (ro, σo) → va_P g.1 vwCl (tl_W g σ36) H → va_S (tl_A g) s.heap H locs → lv_has ls 7 [(0, .ref (tl_ad g 34)), (1, .int a1), (2, .int a2), (3, .int a3), (4, .int a4), (5, .int a5), (6, .int x37)] → W p l e rX4_copy s m [.ref (tl_ad g 34), .int a1, .int a2, .int a3, .int a4, .int a5].toArray below meth c H locs 0 0 (MQ below (tl_Qi g ro σo) [.ref (tl_ad g 34), .int a1, .int a2, .int a3, .int a4, .int a5].toArray s 0 0 (tl_A g)) (F0 m 120 ls []) := by
                        intro n
                        induction n with
                        | zero =>
                          intro σ36 x37 H locs ls h hP hS hl
                          rw [fX4_copy_L120] at h
                          cases h
                        | succ n ih =>
                          intro σ36 x37 H locs ls h hP hS hl
                          rw [fX4_copy_L120] at h
                          refine lv_iload (pc := 120) hx hb dX4_copy_120 (lv_at hl 6 rfl) ?_
                          refine lv_iload (pc := 122) hx hb dX4_copy_122 (lv_at hl 5 rfl) ?_
                          refine lv_icmp_ge (pc := 124) (tgt := 154) hx hb dX4_copy_124 (by decide) (fun c38 => ?_) (fun c38 => ?_)
                          · replace h := (if_pos c38).symm.trans h
                            exact hZ26 σ36 _ _ _ h hP hS (lv_sub hl [0, 3, 4, 5] rfl)
                          · replace h := (if_neg c38).symm.trans h
                            refine lv_aload_n (pc := 127) hx hb dX4_copy_127 rfl (lv_at hl 0 rfl) ?_
                            refine tl_gM_3 (pc := 128) C hc4 hP lk3 dX4_copy_128 ?_
                            refine lv_iload (pc := 131) hx hb dX4_copy_131 (lv_at hl 6 rfl) ?_
                            refine lv_aload_n (pc := 133) hx hb dX4_copy_133 rfl (lv_at hl 0 rfl) ?_
                            refine tl_gM_2 (pc := 134) C hc4 hP lk2 dX4_copy_134 ?_
                            refine lv_bipush (pc := 137) (v := 60) hx hb dX4_copy_137 (by decide) ?_
                            refine lv_iload_n (pc := 139) hx hb dX4_copy_139 rfl (lv_at hl 1 rfl) ?_
                            refine lv_imul (pc := 140) hx hb dX4_copy_140 ?_
                            refine lv_iload_n (pc := 141) hx hb dX4_copy_141 rfl (lv_at hl 2 rfl) ?_
                            refine lv_iadd (pc := 142) hx hb dX4_copy_142 ?_
                            refine lv_iload (pc := 143) hx hb dX4_copy_143 (lv_at hl 6 rfl) ?_
                            refine lv_iadd (pc := 145) hx hb dX4_copy_145 ?_
                            obtain ⟨g39, h⟩ := tl_gd h
                            refine tl_ald (pc := 146) C hP (tl_a37 g) g39 dX4_copy_146 ?_
                            obtain ⟨g40, h⟩ := tl_gd h
                            obtain ⟨σ41, eσ41, h⟩ := tl_nm h
                            refine tl_ast (pc := 147) C hP hS (tl_a38 g) g40 eσ41 dX4_copy_147 (fun H locs hP hS => ?_)
                            obtain ⟨x42, ex42, h⟩ := tl_nm h
                            refine lv_iinc (pc := 148) (v := x42) (lv' := [(6, .int x42), (0, .ref (tl_ad g 34)), (1, .int a1), (2, .int a2), (3, .int a3), (4, .int a4), (5, .int a5)]) hx hb dX4_copy_148 hl (k := 6) rfl ex42 (by decide) rfl (fun ls hl => ?_)
                            refine lv_goto (pc := 151) (tgt := 120) hx hb dX4_copy_151 (by decide) ?_
                            exact ih σ41 x42 _ _ _ h hP hS (lv_sub hl [1, 2, 3, 4, 5, 6, 0] rfl)
                      exact hL120 1000 σ 0 _ _ _ h hP hS (lv_sub hl [1, 2, 3, 4, 5, 6, 0] rfl)
                    · replace h := (if_neg c24).symm.trans h
                      exact hJ15 _ _ _ h hP hS (lv_sub hl [0] rfl)
          · replace h := (if_neg c14).symm.trans h
            refine lv_aload_n (pc := 56) hx hb dX4_copy_56 rfl (lv_at hl 0 rfl) ?_
            refine lv_iconst (pc := 57) (v := 4) hx hb dX4_copy_57 (by decide) ?_
            obtain ⟨r43, σ44, er43, h⟩ := tl_nm2 h
            refine caX4_finds (pc := 58) C hts hP hS er43 gX4_copy_X4_finds ⟨Nat.le_of_ble_eq_true rfl, Nat.le_of_ble_eq_true rfl⟩ hl.1 (Nat.le_of_ble_eq_true rfl) dX4_copy_58 (fun H locs hP hS => ?_)
            exact tl_Ripw (pc := 61) C h hP hS dX4_copy_61
        · replace h := (if_neg c11).symm.trans h
          exact hJ6 _ _ _ h hP hS (lv_sub hl [0] rfl)
    · replace h := (if_pos c4).symm.trans h
      refine lv_bipush (pc := 14) (v := (-2)) hx hb dX4_copy_14 (by decide) ?_
      exact tl_Ripw (pc := 16) C h hP hS dX4_copy_16
theorem caX4_copy {p : Program} {l : Launch} {e : Env} {R : Room} {s : State} {m : MethodId} {args : Array Value} {below : List Frame} {meth : Method} {c : Code} {H : Heap} {locs : List Loc} {Q : State → Prop} {cc : ByteArray} {pc : Nat} {ls : Array Slot} {rest : List Value} {g : tl_G} {σ : tl_St} {H0 : Heap} {nL : Nat} {own : String} {ret : Option FieldType} {index : Nat} (C : tl_C p s m meth c cc nL own ret g) {Ts : List Cond} (hts : ∀ w ∈ Ts, w.before args s = true) (hP : va_P g.1 vwCl (tl_W g σ) H) (hS : va_S (tl_A g) H0 H locs) {a1 : Int32} {a2 : Int32} {a3 : Int32} {a4 : Int32} {a5 : Int32} {ro : Int32} {σo : tl_St} (h : fX4_copy σ a1 a2 a3 a4 a5 = some (ro, σo)) (hG : GoodIn Ts (wsV own index RX4 yX4_copy wsX4_copy)) (hR : 2 + 1 ≤ R.frames ∧ 8 + (7 + 11) + 45 ≤ R.locals) (hls : ls.size = nL) (hrm : (rest.map fun v => v.category).sum ≤ 8) (hdg : decode cc pc = .ok (.invokevirtual index, 3)) (kk : ∀ (H1 : Heap) (locs1 : List Loc), va_P g.1 vwCl (tl_W g σo) H1 → va_S (tl_A g) H0 H1 locs1 → W p l e R s m args below meth c H1 locs1 0 0 Q (F0 m (pc + 3) ls (.int ro :: rest))) : W p l e R s m args below meth c H locs 0 0 Q (F0 m pc ls (.int a5 :: .int a4 :: .int a3 :: .int a2 :: .int a1 :: .ref (tl_ad g 34) :: rest)) :=
  tl_goi (tl_callV C hts hP (okX4_copy l g C.2.2.2.2.2.2.2 σ a1 a2 a3 a4 a5 ro σo h) rfl rfl rfl (n := 5) (by decide +kernel) rfl (ci := 4) rfl (tl_kM g σ) hG hR hls rfl hrm hdg) hS kk

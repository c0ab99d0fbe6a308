section
variable {p : Program} {l : Launch} {e : Env} {R : Room} {s : State} {m : MethodId} {args : Array Value} {below : List Frame} {meth : Method} {c : Code} {H : Heap} {locs : List Loc} {Q : State → Prop} {cc : ByteArray} {pc : Nat} {ls : Array Slot} {rest : List Value} {g : tl_G} {σ σo : tl_St} {nL : Nat} {own : String}
theorem tl_ti {x y : Int32} (h : x = y) (k : W p l e R s m args below meth c H locs 0 0 Q (F0 m pc ls (.int y :: rest))) : W p l e R s m args below meth c H locs 0 0 Q (F0 m pc ls (.int x :: rest)) := by subst h; exact k
theorem tl_tl {x y : Int64} (h : x = y) (k : W p l e R s m args below meth c H locs 0 0 Q (F0 m pc ls (.long y :: rest))) : W p l e R s m args below meth c H locs 0 0 Q (F0 m pc ls (.long x :: rest)) := by subst h; exact k
theorem tl_tr {a b : Nat} (h : a = b) (k : W p l e R s m args below meth c H locs 0 0 Q (F0 m pc ls (.ref b :: rest))) : W p l e R s m args below meth c H locs 0 0 Q (F0 m pc ls (.ref a :: rest)) := by subst h; exact k
theorem tl_swIn (hx : p.tables.exec = Jvm.exec) (hb : c.code = cc) {dflt lo hi : Int} {offs : Array Int} {len : Nat} {x kv : Int32} {off : Int} {tgt : Nat} (hc : x = kv) (hdg : decode cc pc = .ok (.tableswitch dflt lo hi offs, len)) (h1 : ¬ kv.toInt < lo) (h2 : ¬ hi < kv.toInt) (ho : offs[(kv.toInt - lo).toNat]? = some off) (ht : (pc : Int) + off = (tgt : Int)) (k : W p l e R s m args below meth c H locs 0 0 Q (F0 m tgt ls rest)) : W p l e R s m args below meth c H locs 0 0 Q (F0 m pc ls (.int x :: rest)) := by
  subst hc; exact lv_tableIn hx hb hdg h1 h2 ho ht k
theorem tl_swL (hx : p.tables.exec = Jvm.exec) (hb : c.code = cc) {dflt : Int} {ps : Array (Int × Int)} {len : Nat} {x kv : Int32} {off : Int} {tgt : Nat} (hc : x = kv) (hdg : decode cc pc = .ok (.lookupswitch dflt ps, len)) (hp : (ps.toList.zip (ps.toList.drop 1)).all (fun (a, next) => a.1 < next.1) = true) (ho : Op.lookupswitch.offset ps.toList dflt kv.toInt = off) (ht : (pc : Int) + off = (tgt : Int)) (k : W p l e R s m args below meth c H locs 0 0 Q (F0 m tgt ls rest)) : W p l e R s m args below meth c H locs 0 0 Q (F0 m pc ls (.int x :: rest)) := by
  subst hc; exact lv_lookup hx hb hdg hp ho ht k
theorem tl_Ritr (C : tl_C p s m meth c cc nL own (some .int) g) {v ro : Int32} (h : v = ro) (hP : va_P g.1 vwCl (tl_W g σ) H) (hS : va_S (tl_A g) s.heap H locs) (hdg : decode cc pc = .ok (.ireturn, 1)) : W p l e R s m args below meth c H locs 0 0 (MQ below (tl_Qi g ro σ) args s 0 0 (tl_A g)) (F0 m pc ls [.int v]) := by
  cases h; exact tl_reti C hP hS hdg
theorem tl_Ritw (C : tl_C p s m meth c cc nL own (some .int) g) {v ro : Int32} (h : (v, σ) = (ro, σo)) (hP : va_P g.1 vwCl (tl_W g σ) H) (hS : va_S (tl_A g) s.heap H locs) (hdg : decode cc pc = .ok (.ireturn, 1)) : W p l e R s m args below meth c H locs 0 0 (MQ below (tl_Qi g ro σo) args s 0 0 (tl_A g)) (F0 m pc ls [.int v]) := by
  cases h; exact tl_reti C hP hS hdg
theorem tl_Ripr (C : tl_C p s m meth c cc nL own (some .int) g) {v ro : Int32} (h : some v = some ro) (hP : va_P g.1 vwCl (tl_W g σ) H) (hS : va_S (tl_A g) s.heap H locs) (hdg : decode cc pc = .ok (.ireturn, 1)) : W p l e R s m args below meth c H locs 0 0 (MQ below (tl_Qi g ro σ) args s 0 0 (tl_A g)) (F0 m pc ls [.int v]) := by
  cases h; exact tl_reti C hP hS hdg
theorem tl_Ripw (C : tl_C p s m meth c cc nL own (some .int) g) {v ro : Int32} (h : some (v, σ) = some (ro, σo)) (hP : va_P g.1 vwCl (tl_W g σ) H) (hS : va_S (tl_A g) s.heap H locs) (hdg : decode cc pc = .ok (.ireturn, 1)) : W p l e R s m args below meth c H locs 0 0 (MQ below (tl_Qi g ro σo) args s 0 0 (tl_A g)) (F0 m pc ls [.int v]) := by
  cases h; exact tl_reti C hP hS hdg
theorem tl_Rztr (C : tl_C p s m meth c cc nL own (some .boolean) g) {v ro : Int32} (h : v = ro) (hP : va_P g.1 vwCl (tl_W g σ) H) (hS : va_S (tl_A g) s.heap H locs) (hB : tl_isb v) (hdg : decode cc pc = .ok (.ireturn, 1)) : W p l e R s m args below meth c H locs 0 0 (MQ below (tl_Qi g ro σ) args s 0 0 (tl_A g)) (F0 m pc ls [.int v]) := by
  cases h; exact tl_retz C hP hS hB hdg
theorem tl_Rztw (C : tl_C p s m meth c cc nL own (some .boolean) g) {v ro : Int32} (h : (v, σ) = (ro, σo)) (hP : va_P g.1 vwCl (tl_W g σ) H) (hS : va_S (tl_A g) s.heap H locs) (hB : tl_isb v) (hdg : decode cc pc = .ok (.ireturn, 1)) : W p l e R s m args below meth c H locs 0 0 (MQ below (tl_Qi g ro σo) args s 0 0 (tl_A g)) (F0 m pc ls [.int v]) := by
  cases h; exact tl_retz C hP hS hB hdg
theorem tl_Rzpr (C : tl_C p s m meth c cc nL own (some .boolean) g) {v ro : Int32} (h : some v = some ro) (hP : va_P g.1 vwCl (tl_W g σ) H) (hS : va_S (tl_A g) s.heap H locs) (hB : tl_isb v) (hdg : decode cc pc = .ok (.ireturn, 1)) : W p l e R s m args below meth c H locs 0 0 (MQ below (tl_Qi g ro σ) args s 0 0 (tl_A g)) (F0 m pc ls [.int v]) := by
  cases h; exact tl_retz C hP hS hB hdg
theorem tl_Rzpw (C : tl_C p s m meth c cc nL own (some .boolean) g) {v ro : Int32} (h : some (v, σ) = some (ro, σo)) (hP : va_P g.1 vwCl (tl_W g σ) H) (hS : va_S (tl_A g) s.heap H locs) (hB : tl_isb v) (hdg : decode cc pc = .ok (.ireturn, 1)) : W p l e R s m args below meth c H locs 0 0 (MQ below (tl_Qi g ro σo) args s 0 0 (tl_A g)) (F0 m pc ls [.int v]) := by
  cases h; exact tl_retz C hP hS hB hdg
theorem tl_Rltr (C : tl_C p s m meth c cc nL own (some .long) g) {v ro : Int64} (h : v = ro) (hP : va_P g.1 vwCl (tl_W g σ) H) (hS : va_S (tl_A g) s.heap H locs) (hdg : decode cc pc = .ok (.lreturn, 1)) : W p l e R s m args below meth c H locs 0 0 (MQ below (tl_Ql g ro σ) args s 0 0 (tl_A g)) (F0 m pc ls [.long v]) := by
  cases h; exact tl_retl C hP hS hdg
theorem tl_Rltw (C : tl_C p s m meth c cc nL own (some .long) g) {v ro : Int64} (h : (v, σ) = (ro, σo)) (hP : va_P g.1 vwCl (tl_W g σ) H) (hS : va_S (tl_A g) s.heap H locs) (hdg : decode cc pc = .ok (.lreturn, 1)) : W p l e R s m args below meth c H locs 0 0 (MQ below (tl_Ql g ro σo) args s 0 0 (tl_A g)) (F0 m pc ls [.long v]) := by
  cases h; exact tl_retl C hP hS hdg
theorem tl_Rlpr (C : tl_C p s m meth c cc nL own (some .long) g) {v ro : Int64} (h : some v = some ro) (hP : va_P g.1 vwCl (tl_W g σ) H) (hS : va_S (tl_A g) s.heap H locs) (hdg : decode cc pc = .ok (.lreturn, 1)) : W p l e R s m args below meth c H locs 0 0 (MQ below (tl_Ql g ro σ) args s 0 0 (tl_A g)) (F0 m pc ls [.long v]) := by
  cases h; exact tl_retl C hP hS hdg
theorem tl_Rlpw (C : tl_C p s m meth c cc nL own (some .long) g) {v ro : Int64} (h : some (v, σ) = some (ro, σo)) (hP : va_P g.1 vwCl (tl_W g σ) H) (hS : va_S (tl_A g) s.heap H locs) (hdg : decode cc pc = .ok (.lreturn, 1)) : W p l e R s m args below meth c H locs 0 0 (MQ below (tl_Ql g ro σo) args s 0 0 (tl_A g)) (F0 m pc ls [.long v]) := by
  cases h; exact tl_retl C hP hS hdg
theorem tl_Rvtw (C : tl_C p s m meth c cc nL own none g) (h : σ = σo) (hP : va_P g.1 vwCl (tl_W g σ) H) (hS : va_S (tl_A g) s.heap H locs) (hdg : decode cc pc = .ok (.return_, 1)) : W p l e R s m args below meth c H locs 0 0 (MQ below (tl_Qv g σo) args s 0 0 (tl_A g)) (F0 m pc ls []) := by
  cases h; exact tl_retv C hP hS hdg
theorem tl_Rvpw (C : tl_C p s m meth c cc nL own none g) (h : some σ = some σo) (hP : va_P g.1 vwCl (tl_W g σ) H) (hS : va_S (tl_A g) s.heap H locs) (hdg : decode cc pc = .ok (.return_, 1)) : W p l e R s m args below meth c H locs 0 0 (MQ below (tl_Qv g σo) args s 0 0 (tl_A g)) (F0 m pc ls []) := by
  cases h; exact tl_retv C hP hS hdg
end
abbrev rX0_boatAt : Room := { frames := 0, cells := 0, slots := 0, locals := 0 }
set_option maxHeartbeats 4000000 in
set_option maxRecDepth 100000 in
theorem okX0_boatAt (l : Launch) (g : tl_G) (hI : tl_I g) (σ : tl_St) (o : Nat) (a1 : Int32) (ho : tl_isQ o) (ro : Int32) (h : fX0_boatAt σ o a1 = some ro) : Met l yX0_boatAt wsX0_boatAt rX0_boatAt (va_Pc [.ref (tl_ad g o), .int a1] (tl_Pre g σ)) (tl_Qi g ro σ) 0 0 (tl_A g) := by
  refine tl_enter (cc := cX0_boatAt) (maxL := 2) (ret := (some .int)) (own := RX0) hI (by decide) rfl rfl (Nat.le_of_ble_eq_true rfl) ?_
  intro p e s m below meth c C hts H locs hP hS ls hl
  have hx := C.1
  have hb := C.2.1
  have hl : lv_has ls 2 [(0, .ref (tl_ad g o)), (1, .int a1)] := hl
  have hc0 : ∀ w ∈ u_ws RX0 TX0 2, w.before [.ref (tl_ad g o), .int a1].toArray s = true := fun w hw => hts w (List.mem_cons_of_mem _ (List.mem_append_right _ hw))
  have lk0 : (Cond.fieldLink RX0 15 "ThriftLock$Queue" "size" "I").before [.ref (tl_ad g o), .int a1].toArray s = true := hts _ (List.mem_cons_of_mem _ (List.mem_append_left _ (List.mem_of_getElem? (i := 0) rfl)))
  have lk1 : (Cond.fieldLink RX0 9 "ThriftLock$Queue" "boats" "[I").before [.ref (tl_ad g o), .int a1].toArray s = true := hts _ (List.mem_cons_of_mem _ (List.mem_append_left _ (List.mem_of_getElem? (i := 1) rfl)))
  unfold fX0_boatAt at h
  refine lv_iload_n (pc := 0) hx hb dX0_boatAt_0 rfl (lv_at hl 1 rfl) ?_
  obtain ⟨k1, ek1, h⟩ := tl_j0 h
  have hJ1 : ∀ (H : Heap) (locs : List Loc) (ls : Array Slot), k1 = some ro → va_P g.1 vwCl (tl_W g σ) H → va_S (tl_A g) s.heap H locs → lv_has ls 2 [] → W p l e rX0_boatAt s m [.ref (tl_ad g o), .int a1].toArray below meth c H locs 0 0 (MQ below (tl_Qi g ro σ) [.ref (tl_ad g o), .int a1].toArray s 0 0 (tl_A g)) (F0 m 21 ls []) := by
    intro H locs ls h hP hS hl
    replace h := ek1.trans h
    refine lv_iconst (pc := 21) (v := (-1)) hx hb dX0_boatAt_21 (by decide) ?_
    exact tl_Ripr (pc := 22) C h hP hS dX0_boatAt_22
  refine lv_if_lt (pc := 1) (tgt := 21) hx hb dX0_boatAt_1 (by decide) (fun c2 => ?_) (fun c2 => ?_)
  · replace h := (if_pos c2).symm.trans h
    exact hJ1 _ _ _ h hP hS (lv_sub hl [] rfl)
  · replace h := (if_neg c2).symm.trans h
    refine lv_iload_n (pc := 4) hx hb dX0_boatAt_4 rfl (lv_at hl 1 rfl) ?_
    refine lv_aload_n (pc := 5) hx hb dX0_boatAt_5 rfl (lv_at hl 0 rfl) ?_
    refine tl_gQ_1 (pc := 6) C hc0 hP ho lk0 dX0_boatAt_6 ?_
    refine lv_icmp_ge (pc := 9) (tgt := 21) hx hb dX0_boatAt_9 (by decide) (fun c3 => ?_) (fun c3 => ?_)
    · replace h := (if_pos c3).symm.trans h
      exact hJ1 _ _ _ h hP hS (lv_sub hl [] rfl)
    · replace h := (if_neg c3).symm.trans h
      refine lv_aload_n (pc := 12) hx hb dX0_boatAt_12 rfl (lv_at hl 0 rfl) ?_
      refine tl_gQ_0 (pc := 13) C hc0 hP ho lk1 dX0_boatAt_13 ?_
      refine lv_iload_n (pc := 16) hx hb dX0_boatAt_16 rfl (lv_at hl 1 rfl) ?_
      obtain ⟨g4, h⟩ := tl_gd h
      refine tl_ald (pc := 17) C hP (tl_aQ1 ho g) g4 dX0_boatAt_17 ?_
      refine lv_goto (pc := 18) (tgt := 22) hx hb dX0_boatAt_18 (by decide) ?_
      exact tl_Ripr (pc := 22) C h hP hS dX0_boatAt_22
theorem caX0_boatAt {p : Program} {l : Launch} {e : Env} {R : Room} {s : State} {m : MethodId} {args : Array Value} {below : List Frame} {meth : Method} {c : Code} {H : Heap} {locs : List Loc} {Q : State → Prop} {cc : ByteArray} {pc : Nat} {ls : Array Slot} {rest : List Value} {g : tl_G} {σ : tl_St} {H0 : Heap} {nL : Nat} {own : String} {ret : Option FieldType} {index : Nat} (C : tl_C p s m meth c cc nL own ret g) {Ts : List Cond} (hts : ∀ w ∈ Ts, w.before args s = true) (hP : va_P g.1 vwCl (tl_W g σ) H) (hS : va_S (tl_A g) H0 H locs) {o : Nat} {a1 : Int32} (ho : tl_isQ o) {ro : Int32} (h : fX0_boatAt σ o a1 = some ro) (hG : GoodIn Ts (wsV own index RX0 yX0_boatAt wsX0_boatAt)) (hR : 0 + 1 ≤ R.frames ∧ 8 + (2 + 11) + 0 ≤ R.locals) (hls : ls.size = nL) (hrm : (rest.map fun v => v.category).sum ≤ 8) (hdg : decode cc pc = .ok (.invokevirtual index, 3)) (kk : ∀ (H1 : Heap) (locs1 : List Loc), va_P g.1 vwCl (tl_W g σ) H1 → va_S (tl_A g) H0 H1 locs1 → W p l e R s m args below meth c H1 locs1 0 0 Q (F0 m (pc + 3) ls (.int ro :: rest))) : W p l e R s m args below meth c H locs 0 0 Q (F0 m pc ls (.int a1 :: .ref (tl_ad g o) :: rest)) :=
  tl_goi (tl_callV C hts hP (okX0_boatAt l g C.2.2.2.2.2.2.2 σ o a1 ho ro h) rfl rfl rfl (n := 1) (by decide +kernel) rfl (ci := 0) rfl (tl_kQ ho g σ) hG hR hls rfl hrm hdg) hS kk
abbrev rX0_append : Room := { frames := 0, cells := 0, slots := 0, locals := 0 }
set_option maxHeartbeats 4000000 in
set_option maxRecDepth 100000 in
theorem okX0_append (l : Launch) (g : tl_G) (hI : tl_I g) (σ : tl_St) (o : Nat) (a1 : Int32) (ho : tl_isQ o) (σo : tl_St) (h : fX0_append σ o a1 = some σo) : Met l yX0_append wsX0_append rX0_append (va_Pc [.ref (tl_ad g o), .int a1] (tl_Pre g σ)) (tl_Qv g σo) 0 0 (tl_A g) := by
  refine tl_enter (cc := cX0_append) (maxL := 2) (ret := none) (own := RX0) hI (by decide) rfl rfl (Nat.le_of_ble_eq_true rfl) ?_
  intro p e s m below meth c C hts H locs hP hS ls hl
  have hx := C.1
  have hb := C.2.1
  have hl : lv_has ls 2 [(0, .ref (tl_ad g o)), (1, .int a1)] := hl
  have hc0 : ∀ w ∈ u_ws RX0 TX0 2, w.before [.ref (tl_ad g o), .int a1].toArray s = true := fun w hw => hts w (List.mem_cons_of_mem _ (List.mem_append_right _ hw))
  have lk0 : (Cond.fieldLink RX0 15 "ThriftLock$Queue" "size" "I").before [.ref (tl_ad g o), .int a1].toArray s = true := hts _ (List.mem_cons_of_mem _ (List.mem_append_left _ (List.mem_of_getElem? (i := 0) rfl)))
  have lk1 : (Cond.fieldLink RX0 9 "ThriftLock$Queue" "boats" "[I").before [.ref (tl_ad g o), .int a1].toArray s = true := hts _ (List.mem_cons_of_mem _ (List.mem_append_left _ (List.mem_of_getElem? (i := 1) rfl)))
  unfold fX0_append at h
  refine lv_aload_n (pc := 0) hx hb dX0_append_0 rfl (lv_at hl 0 rfl) ?_
  refine tl_gQ_1 (pc := 1) C hc0 hP ho lk0 dX0_append_1 ?_
  refine lv_bipush (pc := 4) (v := 16) hx hb dX0_append_4 (by decide) ?_
  refine lv_icmp_ge (pc := 6) (tgt := 29) hx hb dX0_append_6 (by decide) (fun c1 => ?_) (fun c1 => ?_)
  · replace h := (if_pos c1).symm.trans h
    exact tl_Rvpw (pc := 29) C h hP hS dX0_append_29
  · replace h := (if_neg c1).symm.trans h
    refine lv_aload_n (pc := 9) hx hb dX0_append_9 rfl (lv_at hl 0 rfl) ?_
    refine tl_gQ_0 (pc := 10) C hc0 hP ho lk1 dX0_append_10 ?_
    refine lv_aload_n (pc := 13) hx hb dX0_append_13 rfl (lv_at hl 0 rfl) ?_
    refine tl_gQ_1 (pc := 14) C hc0 hP ho lk0 dX0_append_14 ?_
    refine lv_iload_n (pc := 17) hx hb dX0_append_17 rfl (lv_at hl 1 rfl) ?_
    obtain ⟨g2, h⟩ := tl_gd h
    obtain ⟨σ3, eσ3, h⟩ := tl_nm h
    refine tl_ast (pc := 18) C hP hS (tl_aQ1 ho g) g2 eσ3 dX0_append_18 (fun H locs hP hS => ?_)
    refine lv_aload_n (pc := 19) hx hb dX0_append_19 rfl (lv_at hl 0 rfl) ?_
    refine lv_dup (pc := 20) hx hb dX0_append_20 rfl ?_
    refine tl_gQ_1 (pc := 21) C hc0 hP ho lk0 dX0_append_21 ?_
    refine lv_iconst (pc := 24) (v := 1) hx hb dX0_append_24 (by decide) ?_
    refine lv_iadd (pc := 25) hx hb dX0_append_25 ?_
    obtain ⟨σ4, eσ4, h⟩ := tl_nm h
    refine tl_sQ_1 (pc := 26) C hc0 hP hS ho eσ4 lk0 dX0_append_26 (fun H locs hP hS => ?_)
    exact tl_Rvpw (pc := 29) C h hP hS dX0_append_29
theorem caX0_append {p : Program} {l : Launch} {e : Env} {R : Room} {s : State} {m : MethodId} {args : Array Value} {below : List Frame} {meth : Method} {c : Code} {H : Heap} {locs : List Loc} {Q : State → Prop} {cc : ByteArray} {pc : Nat} {ls : Array Slot} {rest : List Value} {g : tl_G} {σ : tl_St} {H0 : Heap} {nL : Nat} {own : String} {ret : Option FieldType} {index : Nat} (C : tl_C p s m meth c cc nL own ret g) {Ts : List Cond} (hts : ∀ w ∈ Ts, w.before args s = true) (hP : va_P g.1 vwCl (tl_W g σ) H) (hS : va_S (tl_A g) H0 H locs) {o : Nat} {a1 : Int32} (ho : tl_isQ o) {σo : tl_St} (h : fX0_append σ o a1 = some σo) (hG : GoodIn Ts (wsV own index RX0 yX0_append wsX0_append)) (hR : 0 + 1 ≤ R.frames ∧ 8 + (2 + 11) + 0 ≤ R.locals) (hls : ls.size = nL) (hrm : (rest.map fun v => v.category).sum ≤ 8) (hdg : decode cc pc = .ok (.invokevirtual index, 3)) (kk : ∀ (H1 : Heap) (locs1 : List Loc), va_P g.1 vwCl (tl_W g σo) H1 → va_S (tl_A g) H0 H1 locs1 → W p l e R s m args below meth c H1 locs1 0 0 Q (F0 m (pc + 3) ls (rest))) : W p l e R s m args below meth c H locs 0 0 Q (F0 m pc ls (.int a1 :: .ref (tl_ad g o) :: rest)) :=
  tl_gov (tl_callV C hts hP (okX0_append l g C.2.2.2.2.2.2.2 σ o a1 ho σo h) rfl rfl rfl (n := 1) (by decide +kernel) rfl (ci := 0) rfl (tl_kQ ho g σ) hG hR hls rfl hrm hdg) hS kk
abbrev rX0_placeOf : Room := { frames := 0, cells := 0, slots := 0, locals := 0 }
set_option maxHeartbeats 4000000 in
set_option maxRecDepth 100000 in
theorem okX0_placeOf (l : Launch) (g : tl_G) (hI : tl_I g) (σ : tl_St) (o : Nat) (a1 : Int32) (ho : tl_isQ o) (ro : Int32) (h : fX0_placeOf σ o a1 = some ro) : Met l yX0_placeOf wsX0_placeOf rX0_placeOf (va_Pc [.ref (tl_ad g o), .int a1] (tl_Pre g σ)) (tl_Qi g ro σ) 0 0 (tl_A g) := by
  refine tl_enter (cc := cX0_placeOf) (maxL := 3) (ret := (some .int)) (own := RX0) hI (by decide) rfl rfl (Nat.le_of_ble_eq_true rfl) ?_
  intro p e s m below meth c C hts H locs hP hS ls hl
  have hx := C.1
  have hb := C.2.1
  have hl : lv_has ls 3 [(0, .ref (tl_ad g o)), (1, .int a1)] := hl
  have hc0 : ∀ w ∈ u_ws RX0 TX0 2, w.before [.ref (tl_ad g o), .int a1].toArray s = true := fun w hw => hts w (List.mem_cons_of_mem _ (List.mem_append_right _ hw))
  have lk0 : (Cond.fieldLink RX0 15 "ThriftLock$Queue" "size" "I").before [.ref (tl_ad g o), .int a1].toArray s = true := hts _ (List.mem_cons_of_mem _ (List.mem_append_left _ (List.mem_of_getElem? (i := 0) rfl)))
  have lk1 : (Cond.fieldLink RX0 9 "ThriftLock$Queue" "boats" "[I").before [.ref (tl_ad g o), .int a1].toArray s = true := hts _ (List.mem_cons_of_mem _ (List.mem_append_left _ (List.mem_of_getElem? (i := 1) rfl)))
  unfold fX0_placeOf at h
  refine lv_iconst (pc := 0) (v := 0) hx hb dX0_placeOf_0 (by decide) ?_
  refine lv_istore_n (pc := 1) (lv' := [(2, .int 0), (0, .ref (tl_ad g o)), (1, .int a1)]) hx hb dX0_placeOf_1 rfl hl (by decide) rfl (fun ls hl => ?_)
  obtain ⟨k1, ek1, h⟩ := tl_j0 h
  have hZ1 : ∀ (H : Heap) (locs : List Loc) (ls : Array Slot), k1 = some ro → va_P g.1 vwCl (tl_W g σ) H → va_S (tl_A g) s.heap H locs → lv_has ls 3 [] → W p l e rX0_placeOf s m [.ref (tl_ad g o), .int a1].toArray below meth c H locs 0 0 (MQ below (tl_Qi g ro σ) [.ref (tl_ad g o), .int a1].toArray s 0 0 (tl_A g)) (F0 m 28 ls []) := by
    intro H locs ls h hP hS hl
    replace h := ek1.trans h
    refine lv_iconst (pc := 28) (v := (-1)) hx hb dX0_placeOf_28 (by decide) ?_
    exact tl_Ripr (pc := 29) C h hP hS dX0_placeOf_29
  have hL2 : ∀ (n : Nat) (x2 : Int32) (H : Heap) (locs : List Loc) (ls : Array Slot), fX0_placeOf_L2 σ o a1 k1 n x2 = some ro → va_P g.1 vwCl (tl_W g σ) H → va_S (tl_A g) s.heap H locs → lv_has ls 3 [(0, .ref (tl_ad g o)), (1, .int a1), (2, .int x2)] → W p l e rX0_placeOf s m [.ref (tl_ad g o), .int a1].toArray below meth c H locs 0 0 (MQ below (tl_Qi g ro σ) [.ref (tl_ad g o), .int a1].toArray s 0 0 (tl_A g)) (F0 m 2 ls []) := by
    intro n
    induction n with
    | zero =>
      intro x2 H locs ls h hP hS hl
      rw [fX0_placeOf_L2] at h
      cases h
    | succ n ih =>
      intro x2 H locs ls h hP hS hl
      rw [fX0_placeOf_L2] at h
      refine lv_iload_n (pc := 2) hx hb dX0_placeOf_2 rfl (lv_at hl 2 rfl) ?_
      refine lv_aload_n (pc := 3) hx hb dX0_placeOf_3 rfl (lv_at hl 0 rfl) ?_
      refine tl_gQ_1 (pc := 4) C hc0 hP ho lk0 dX0_placeOf_4 ?_
      refine lv_icmp_ge (pc := 7) (tgt := 28) hx hb dX0_placeOf_7 (by decide) (fun c3 => ?_) (fun c3 => ?_)
      · replace h := (if_pos c3).symm.trans h
        exact hZ1 _ _ _ h hP hS (lv_sub hl [] rfl)
      · replace h := (if_neg c3).symm.trans h
        refine lv_aload_n (pc := 10) hx hb dX0_placeOf_10 rfl (lv_at hl 0 rfl) ?_
        refine tl_gQ_0 (pc := 11) C hc0 hP ho lk1 dX0_placeOf_11 ?_
        refine lv_iload_n (pc := 14) hx hb dX0_placeOf_14 rfl (lv_at hl 2 rfl) ?_
        obtain ⟨g4, h⟩ := tl_gd h
        refine tl_ald (pc := 15) C hP (tl_aQ1 ho g) g4 dX0_placeOf_15 ?_
        refine lv_iload_n (pc := 16) hx hb dX0_placeOf_16 rfl (lv_at hl 1 rfl) ?_
        refine lv_icmp_ne (pc := 17) (tgt := 22) hx hb dX0_placeOf_17 (by decide) (fun c5 => ?_) (fun c5 => ?_)
        · replace h := (if_neg c5).symm.trans h
          obtain ⟨x6, ex6, h⟩ := tl_nm h
          refine lv_iinc (pc := 22) (v := x6) (lv' := [(2, .int x6), (0, .ref (tl_ad g o)), (1, .int a1)]) hx hb dX0_placeOf_22 hl (k := 2) rfl ex6 (by decide) rfl (fun ls hl => ?_)
          refine lv_goto (pc := 25) (tgt := 2) hx hb dX0_placeOf_25 (by decide) ?_
          exact ih x6 _ _ _ h hP hS (lv_sub hl [1, 2, 0] rfl)
        · replace h := (if_pos c5).symm.trans h
          refine lv_iload_n (pc := 20) hx hb dX0_placeOf_20 rfl (lv_at hl 2 rfl) ?_
          exact tl_Ripr (pc := 21) C h hP hS dX0_placeOf_21
  exact hL2 1000 0 _ _ _ h hP hS (lv_sub hl [1, 2, 0] rfl)
theorem caX0_placeOf {p : Program} {l : Launch} {e : Env} {R : Room} {s : State} {m : MethodId} {args : Array Value} {below : List Frame} {meth : Method} {c : Code} {H : Heap} {locs : List Loc} {Q : State → Prop} {cc : ByteArray} {pc : Nat} {ls : Array Slot} {rest : List Value} {g : tl_G} {σ : tl_St} {H0 : Heap} {nL : Nat} {own : String} {ret : Option FieldType} {index : Nat} (C : tl_C p s m meth c cc nL own ret g) {Ts : List Cond} (hts : ∀ w ∈ Ts, w.before args s = true) (hP : va_P g.1 vwCl (tl_W g σ) H) (hS : va_S (tl_A g) H0 H locs) {o : Nat} {a1 : Int32} (ho : tl_isQ o) {ro : Int32} (h : fX0_placeOf σ o a1 = some ro) (hG : GoodIn Ts (wsV own index RX0 yX0_placeOf wsX0_placeOf)) (hR : 0 + 1 ≤ R.frames ∧ 8 + (3 + 11) + 0 ≤ R.locals) (hls : ls.size = nL) (hrm : (rest.map fun v => v.category).sum ≤ 8) (hdg : decode cc pc = .ok (.invokevirtual index, 3)) (kk : ∀ (H1 : Heap) (locs1 : List Loc), va_P g.1 vwCl (tl_W g σ) H1 → va_S (tl_A g) H0 H1 locs1 → W p l e R s m args below meth c H1 locs1 0 0 Q (F0 m (pc + 3) ls (.int ro :: rest))) : W p l e R s m args below meth c H locs 0 0 Q (F0 m pc ls (.int a1 :: .ref (tl_ad g o) :: rest)) :=
  tl_goi (tl_callV C hts hP (okX0_placeOf l g C.2.2.2.2.2.2.2 σ o a1 ho ro h) rfl rfl rfl (n := 1) (by decide +kernel) rfl (ci := 0) rfl (tl_kQ ho g σ) hG hR hls rfl hrm hdg) hS kk
abbrev rX0_removeAt : Room := { frames := 1, cells := 0, slots := 0, locals := 26 }
set_option maxHeartbeats 4000000 in
set_option maxRecDepth 100000 in
theorem okX0_removeAt (l : Launch) (g : tl_G) (hI : tl_I g) (σ : tl_St) (o : Nat) (a1 : Int32) (ho : tl_isQ o) (σo : tl_St) (h : fX0_removeAt σ o a1 = some σo) : Met l yX0_removeAt wsX0_removeAt rX0_removeAt (va_Pc [.ref (tl_ad g o), .int a1] (tl_Pre g σ)) (tl_Qv g σo) 0 0 (tl_A g) := by
  refine tl_enter (cc := cX0_removeAt) (maxL := 2) (ret := none) (own := RX0) hI (by decide) rfl rfl (Nat.le_of_ble_eq_true rfl) ?_
  intro p e s m below meth c C hts H locs hP hS ls hl
  have hx := C.1
  have hb := C.2.1
  have hl : lv_has ls 2 [(0, .ref (tl_ad g o)), (1, .int a1)] := hl
  have hc0 : ∀ w ∈ u_ws RX0 TX0 2, w.before [.ref (tl_ad g o), .int a1].toArray s = true := fun w hw => hts w (List.mem_cons_of_mem _ (List.mem_append_right _ hw))
  have lk0 : (Cond.fieldLink RX0 15 "ThriftLock$Queue" "size" "I").before [.ref (tl_ad g o), .int a1].toArray s = true := hts _ (List.mem_cons_of_mem _ (List.mem_append_left _ (List.mem_of_getElem? (i := 0) rfl)))
  have lk1 : (Cond.fieldLink RX0 9 "ThriftLock$Queue" "boats" "[I").before [.ref (tl_ad g o), .int a1].toArray s = true := hts _ (List.mem_cons_of_mem _ (List.mem_append_left _ (List.mem_of_getElem? (i := 1) rfl)))
  have lk2 : (Cond.methodLink RX0 19 arraycopyName).before [.ref (tl_ad g o), .int a1].toArray s = true := hts _ (List.mem_cons_of_mem _ (List.mem_append_left _ (List.mem_of_getElem? (i := 2) rfl)))
  have lk3 : (Cond.native arraycopyName).before [.ref (tl_ad g o), .int a1].toArray s = true := hts _ (List.mem_cons_of_mem _ (List.mem_append_left _ (List.mem_of_getElem? (i := 3) rfl)))
  have lk4 : (Cond.static arraycopyName).before [.ref (tl_ad g o), .int a1].toArray s = true := hts _ (List.mem_cons_of_mem _ (List.mem_append_left _ (List.mem_of_getElem? (i := 4) rfl)))
  have lk5 : (Cond.initialized "java/lang/System").before [.ref (tl_ad g o), .int a1].toArray s = true := hts _ (List.mem_cons_of_mem _ (List.mem_append_left _ (List.mem_of_getElem? (i := 5) rfl)))
  unfold fX0_removeAt at h
  refine lv_iload_n (pc := 0) hx hb dX0_removeAt_0 rfl (lv_at hl 1 rfl) ?_
  refine lv_if_lt (pc := 1) (tgt := 12) hx hb dX0_removeAt_1 (by decide) (fun c1 => ?_) (fun c1 => ?_)
  · replace h := (if_pos c1).symm.trans h
    exact tl_Rvpw (pc := 12) C h hP hS dX0_removeAt_12
  · replace h := (if_neg c1).symm.trans h
    refine lv_iload_n (pc := 4) hx hb dX0_removeAt_4 rfl (lv_at hl 1 rfl) ?_
    refine lv_aload_n (pc := 5) hx hb dX0_removeAt_5 rfl (lv_at hl 0 rfl) ?_
    refine tl_gQ_1 (pc := 6) C hc0 hP ho lk0 dX0_removeAt_6 ?_
    refine lv_icmp_lt (pc := 9) (tgt := 13) hx hb dX0_removeAt_9 (by decide) (fun c2 => ?_) (fun c2 => ?_)
    · replace h := (if_pos c2).symm.trans h
      refine lv_aload_n (pc := 13) hx hb dX0_removeAt_13 rfl (lv_at hl 0 rfl) ?_
      refine tl_gQ_0 (pc := 14) C hc0 hP ho lk1 dX0_removeAt_14 ?_
      refine lv_iload_n (pc := 17) hx hb dX0_removeAt_17 rfl (lv_at hl 1 rfl) ?_
      refine lv_iconst (pc := 18) (v := 1) hx hb dX0_removeAt_18 (by decide) ?_
      refine lv_iadd (pc := 19) hx hb dX0_removeAt_19 ?_
      refine lv_aload_n (pc := 20) hx hb dX0_removeAt_20 rfl (lv_at hl 0 rfl) ?_
      refine tl_gQ_0 (pc := 21) C hc0 hP ho lk1 dX0_removeAt_21 ?_
      refine lv_iload_n (pc := 24) hx hb dX0_removeAt_24 rfl (lv_at hl 1 rfl) ?_
      refine lv_aload_n (pc := 25) hx hb dX0_removeAt_25 rfl (lv_at hl 0 rfl) ?_
      refine tl_gQ_1 (pc := 26) C hc0 hP ho lk0 dX0_removeAt_26 ?_
      refine lv_iload_n (pc := 29) hx hb dX0_removeAt_29 rfl (lv_at hl 1 rfl) ?_
      refine lv_isub (pc := 30) hx hb dX0_removeAt_30 ?_
      refine lv_iconst (pc := 31) (v := 1) hx hb dX0_removeAt_31 (by decide) ?_
      refine lv_isub (pc := 32) hx hb dX0_removeAt_32 ?_
      obtain ⟨g3, h⟩ := tl_gd h
      obtain ⟨σ4, eσ4, h⟩ := tl_nm h
      refine tl_cpy (pc := 33) C hl.1 lk2 lk3 lk4 lk5 hP hS (tl_aQ1 ho g) (tl_aQ1 ho g) g3 (Nat.le_of_ble_eq_true rfl) (Nat.le_of_ble_eq_true rfl) eσ4 dX0_removeAt_33 (fun H locs hP hS => ?_)
      refine lv_aload_n (pc := 36) hx hb dX0_removeAt_36 rfl (lv_at hl 0 rfl) ?_
      refine lv_dup (pc := 37) hx hb dX0_removeAt_37 rfl ?_
      refine tl_gQ_1 (pc := 38) C hc0 hP ho lk0 dX0_removeAt_38 ?_
      refine lv_iconst (pc := 41) (v := 1) hx hb dX0_removeAt_41 (by decide) ?_
      refine lv_isub (pc := 42) hx hb dX0_removeAt_42 ?_
      obtain ⟨σ5, eσ5, h⟩ := tl_nm h
      refine tl_sQ_1 (pc := 43) C hc0 hP hS ho eσ5 lk0 dX0_removeAt_43 (fun H locs hP hS => ?_)
      exact tl_Rvpw (pc := 46) C h hP hS dX0_removeAt_46
    · replace h := (if_neg c2).symm.trans h
      exact tl_Rvpw (pc := 12) C h hP hS dX0_removeAt_12
theorem caX0_removeAt {p : Program} {l : Launch} {e : Env} {R : Room} {s : State} {m : MethodId} {args : Array Value} {below : List Frame} {meth : Method} {c : Code} {H : Heap} {locs : List Loc} {Q : State → Prop} {cc : ByteArray} {pc : Nat} {ls : Array Slot} {rest : List Value} {g : tl_G} {σ : tl_St} {H0 : Heap} {nL : Nat} {own : String} {ret : Option FieldType} {index : Nat} (C : tl_C p s m meth c cc nL own ret g) {Ts : List Cond} (hts : ∀ w ∈ Ts, w.before args s = true) (hP : va_P g.1 vwCl (tl_W g σ) H) (hS : va_S (tl_A g) H0 H locs) {o : Nat} {a1 : Int32} (ho : tl_isQ o) {σo : tl_St} (h : fX0_removeAt σ o a1 = some σo) (hG : GoodIn Ts (wsV own index RX0 yX0_removeAt wsX0_removeAt)) (hR : 1 + 1 ≤ R.frames ∧ 8 + (2 + 11) + 26 ≤ R.locals) (hls : ls.size = nL) (hrm : (rest.map fun v => v.category).sum ≤ 8) (hdg : decode cc pc = .ok (.invokevirtual index, 3)) (kk : ∀ (H1 : Heap) (locs1 : List Loc), va_P g.1 vwCl (tl_W g σo) H1 → va_S (tl_A g) H0 H1 locs1 → W p l e R s m args below meth c H1 locs1 0 0 Q (F0 m (pc + 3) ls (rest))) : W p l e R s m args below meth c H locs 0 0 Q (F0 m pc ls (.int a1 :: .ref (tl_ad g o) :: rest)) :=
  tl_gov (tl_callV C hts hP (okX0_removeAt l g C.2.2.2.2.2.2.2 σ o a1 ho σo h) rfl rfl rfl (n := 1) (by decide +kernel) rfl (ci := 0) rfl (tl_kQ ho g σ) hG hR hls rfl hrm hdg) hS kk
abbrev rJ7_fill_53178 : Room := { frames := 0, cells := 0, slots := 0, locals := 0 }
set_option maxHeartbeats 4000000 in
set_option maxRecDepth 100000 in
theorem okJ7_fill_53178 (l : Launch) (g : tl_G) (hI : tl_I g) (σ : tl_St) (a1 : Nat) (n1 : Nat) (a2 : Int32) (hA1 : tl_IA g a1 n1) (σo : tl_St) (h : fJ7_fill_53178 σ a1 n1 a2 = some σo) : Met l yJ7_fill_53178 wsJ7_fill_53178 rJ7_fill_53178 (va_Pc [.ref (tl_ad g a1), .int a2] (tl_Pre g σ)) (tl_Qv g σo) 0 0 (tl_A g) := by
  refine tl_enter (cc := cJ7_fill_53178) (maxL := 4) (ret := none) (own := RJ7) hI (by decide) rfl rfl (Nat.le_of_ble_eq_true rfl) ?_
  intro p e s m below meth c C hts H locs hP hS ls hl
  have hx := C.1
  have hb := C.2.1
  have hl : lv_has ls 4 [(0, .ref (tl_ad g a1)), (1, .int a2)] := hl
  unfold fJ7_fill_53178 at h
  refine lv_iconst (pc := 0) (v := 0) hx hb dJ7_fill_53178_0 (by decide) ?_
  refine lv_istore_n (pc := 1) (lv' := [(2, .int 0), (0, .ref (tl_ad g a1)), (1, .int a2)]) hx hb dJ7_fill_53178_1 rfl hl (by decide) rfl (fun ls hl => ?_)
  refine lv_aload_n (pc := 2) hx hb dJ7_fill_53178_2 rfl (lv_at hl 1 rfl) ?_
  refine tl_alen (pc := 3) C hP hA1 (v := (Int32.ofNat n1)) rfl dJ7_fill_53178_3 ?_
  obtain ⟨x1, ex1, h⟩ := tl_nm h
  refine tl_ti ex1 ?_
  refine lv_istore_n (pc := 4) (lv' := [(3, .int x1), (2, .int 0), (0, .ref (tl_ad g a1)), (1, .int a2)]) hx hb dJ7_fill_53178_4 rfl hl (by decide) rfl (fun ls hl => ?_)
  obtain ⟨k3, ek3, h⟩ := tl_j1 h
  have hZ3 : ∀ (σ2 : tl_St) (H : Heap) (locs : List Loc) (ls : Array Slot), k3 σ2 = some σo → va_P g.1 vwCl (tl_W g σ2) H → va_S (tl_A g) s.heap H locs → lv_has ls 4 [] → W p l e rJ7_fill_53178 s m [.ref (tl_ad g a1), .int a2].toArray below meth c H locs 0 0 (MQ below (tl_Qv g σo) [.ref (tl_ad g a1), .int a2].toArray s 0 0 (tl_A g)) (F0 m 20 ls []) := by
    intro σ2 H locs ls h hP hS hl
    replace h := (ek3 σ2).trans h
    exact tl_Rvpw (pc := 20) C h hP hS dJ7_fill_53178_20
  have hL5 : ∀ (n : Nat) (σ4 : tl_St) (x5 : Int32) (H : Heap) (locs : List Loc) (ls : Array Slot), fJ7_fill_53178_L5 a1 n1 a2 x1 k3 n σ4 x5 = some σo → va_P g.1 vwCl (tl_W g σ4) H → va_S (tl_A g) s.heap H locs → lv_has ls 4 [(0, .ref (tl_ad g a1)), (1, .int a2), (2, .int x5), (3, .int x1)] → W p l e rJ7_fill_53178 s m [.ref (tl_ad g a1), .int a2].toArray below meth c H locs 0 0 (MQ below (tl_Qv g σo) [.ref (tl_ad g a1), .int a2].toArray s 0 0 (tl_A g)) (F0 m 5 ls []) := by
    intro n
    induction n with
    | zero =>
      intro σ4 x5 H locs ls h hP hS hl
      rw [fJ7_fill_53178_L5] at h
      cases h
    | succ n ih =>
      intro σ4 x5 H locs ls h hP hS hl
      rw [fJ7_fill_53178_L5] at h
      refine lv_iload_n (pc := 5) hx hb dJ7_fill_53178_5 rfl (lv_at hl 2 rfl) ?_
      refine lv_iload_n (pc := 6) hx hb dJ7_fill_53178_6 rfl (lv_at hl 3 rfl) ?_
      refine lv_icmp_ge (pc := 7) (tgt := 20) hx hb dJ7_fill_53178_7 (by decide) (fun c6 => ?_) (fun c6 => ?_)
      · replace h := (if_pos c6).symm.trans h
        exact hZ3 σ4 _ _ _ h hP hS (lv_sub hl [] rfl)
      · replace h := (if_neg c6).symm.trans h
        refine lv_aload_n (pc := 10) hx hb dJ7_fill_53178_10 rfl (lv_at hl 0 rfl) ?_
        refine lv_iload_n (pc := 11) hx hb dJ7_fill_53178_11 rfl (lv_at hl 2 rfl) ?_
        refine lv_iload_n (pc := 12) hx hb dJ7_fill_53178_12 rfl (lv_at hl 1 rfl) ?_
        obtain ⟨g7, h⟩ := tl_gd h
        obtain ⟨σ8, eσ8, h⟩ := tl_nm h
        refine tl_ast (pc := 13) C hP hS hA1 g7 eσ8 dJ7_fill_53178_13 (fun H locs hP hS => ?_)
        obtain ⟨x9, ex9, h⟩ := tl_nm h
        refine lv_iinc (pc := 14) (v := x9) (lv' := [(2, .int x9), (0, .ref (tl_ad g a1)), (1, .int a2), (3, .int x1)]) hx hb dJ7_fill_53178_14 hl (k := 2) rfl ex9 (by decide) rfl (fun ls hl => ?_)
        refine lv_goto (pc := 17) (tgt := 5) hx hb dJ7_fill_53178_17 (by decide) ?_
        exact ih σ8 x9 _ _ _ h hP hS (lv_sub hl [1, 2, 0, 3] rfl)
  exact hL5 1000 σ 0 _ _ _ h hP hS (lv_sub hl [2, 3, 1, 0] rfl)
theorem caJ7_fill_53178 {p : Program} {l : Launch} {e : Env} {R : Room} {s : State} {m : MethodId} {args : Array Value} {below : List Frame} {meth : Method} {c : Code} {H : Heap} {locs : List Loc} {Q : State → Prop} {cc : ByteArray} {pc : Nat} {ls : Array Slot} {rest : List Value} {g : tl_G} {σ : tl_St} {H0 : Heap} {nL : Nat} {own : String} {ret : Option FieldType} {index : Nat} (C : tl_C p s m meth c cc nL own ret g) {Ts : List Cond} (hts : ∀ w ∈ Ts, w.before args s = true) (hP : va_P g.1 vwCl (tl_W g σ) H) (hS : va_S (tl_A g) H0 H locs) {a1 : Nat} {n1 : Nat} {a2 : Int32} (hA1 : tl_IA g a1 n1) {σo : tl_St} (h : fJ7_fill_53178 σ a1 n1 a2 = some σo) (hG : GoodIn Ts (va_wsS own index yJ7_fill_53178 wsJ7_fill_53178)) (hR : 0 + 1 ≤ R.frames ∧ 8 + (4 + 11) + 0 ≤ R.locals) (hls : ls.size = nL) (hrm : (rest.map fun v => v.category).sum ≤ 8) (hdg : decode cc pc = .ok (.invokestatic index, 3)) (kk : ∀ (H1 : Heap) (locs1 : List Loc), va_P g.1 vwCl (tl_W g σo) H1 → va_S (tl_A g) H0 H1 locs1 → W p l e R s m args below meth c H1 locs1 0 0 Q (F0 m (pc + 3) ls (rest))) : W p l e R s m args below meth c H locs 0 0 Q (F0 m pc ls (.int a2 :: .ref (tl_ad g a1) :: rest)) :=
  tl_gov (tl_callS C hts hP (okJ7_fill_53178 l g C.2.2.2.2.2.2.2 σ a1 n1 a2 hA1 σo h) rfl rfl rfl (n := 2) (by decide +kernel) rfl hG hR hls rfl hrm hdg) hS kk
abbrev rX1_renew : Room := { frames := 1, cells := 0, slots := 0, locals := 23 }
set_option maxHeartbeats 4000000 in
set_option maxRecDepth 100000 in
theorem okX1_renew (l : Launch) (g : tl_G) (hI : tl_I g) (σ : tl_St) (o : Nat) (a1 : Int32) (a2 : Int32) (ho : tl_isS o) (σo : tl_St) (h : fX1_renew σ o a1 a2 = some σo) : Met l yX1_renew wsX1_renew rX1_renew (va_Pc [.ref (tl_ad g o), .int a1, .int a2] (tl_Pre g σ)) (tl_Qv g σo) 0 0 (tl_A g) := by
  refine tl_enter (cc := cX1_renew) (maxL := 3) (ret := none) (own := RX1) hI (by decide) rfl rfl (Nat.le_of_ble_eq_true rfl) ?_
  intro p e s m below meth c C hts H locs hP hS ls hl
  have hx := C.1
  have hb := C.2.1
  have hl : lv_has ls 3 [(0, .ref (tl_ad g o)), (1, .int a1), (2, .int a2)] := hl
  have hc1 : ∀ w ∈ u_ws RX1 TX1 4, w.before [.ref (tl_ad g o), .int a1, .int a2].toArray s = true := fun w hw => hts w (List.mem_cons_of_mem _ (List.mem_append_right _ hw))
  have lk0 : (Cond.fieldLink RX1 9 "ThriftLock$Sheet" "lost" "Z").before [.ref (tl_ad g o), .int a1, .int a2].toArray s = true := hts _ (List.mem_cons_of_mem _ (List.mem_append_left _ (List.mem_of_getElem? (i := 0) rfl)))
  have lk1 : (Cond.fieldLink RX1 19 "ThriftLock$Sheet" "form" "I").before [.ref (tl_ad g o), .int a1, .int a2].toArray s = true := hts _ (List.mem_cons_of_mem _ (List.mem_append_left _ (List.mem_of_getElem? (i := 1) rfl)))
  have lk2 : (Cond.fieldLink RX1 23 "ThriftLock$Sheet" "size" "I").before [.ref (tl_ad g o), .int a1, .int a2].toArray s = true := hts _ (List.mem_cons_of_mem _ (List.mem_append_left _ (List.mem_of_getElem? (i := 2) rfl)))
  have lk3 : (Cond.fieldLink RX1 15 "ThriftLock$Sheet" "items" "[I").before [.ref (tl_ad g o), .int a1, .int a2].toArray s = true := hts _ (List.mem_cons_of_mem _ (List.mem_append_left _ (List.mem_of_getElem? (i := 3) rfl)))
  unfold fX1_renew at h
  refine lv_aload_n (pc := 0) hx hb dX1_renew_0 rfl (lv_at hl 0 rfl) ?_
  refine lv_iconst (pc := 1) (v := 0) hx hb dX1_renew_1 (by decide) ?_
  obtain ⟨σ1, eσ1, h⟩ := tl_nm h
  refine tl_sS_0 (pc := 2) C hc1 hP hS ho (Or.inl rfl) eσ1 lk0 dX1_renew_2 (fun H locs hP hS => ?_)
  refine lv_aload_n (pc := 5) hx hb dX1_renew_5 rfl (lv_at hl 0 rfl) ?_
  refine lv_iload_n (pc := 6) hx hb dX1_renew_6 rfl (lv_at hl 1 rfl) ?_
  obtain ⟨σ2, eσ2, h⟩ := tl_nm h
  refine tl_sS_1 (pc := 7) C hc1 hP hS ho eσ2 lk1 dX1_renew_7 (fun H locs hP hS => ?_)
  refine lv_aload_n (pc := 10) hx hb dX1_renew_10 rfl (lv_at hl 0 rfl) ?_
  refine lv_iload_n (pc := 11) hx hb dX1_renew_11 rfl (lv_at hl 2 rfl) ?_
  obtain ⟨σ3, eσ3, h⟩ := tl_nm h
  refine tl_sS_2 (pc := 12) C hc1 hP hS ho eσ3 lk2 dX1_renew_12 (fun H locs hP hS => ?_)
  refine lv_aload_n (pc := 15) hx hb dX1_renew_15 rfl (lv_at hl 0 rfl) ?_
  refine tl_gS_3 (pc := 16) C hc1 hP ho lk3 dX1_renew_16 ?_
  refine lv_iconst (pc := 19) (v := 0) hx hb dX1_renew_19 (by decide) ?_
  obtain ⟨σ4, eσ4, h⟩ := tl_o1s h
  refine caJ7_fill_53178 (pc := 20) C hts hP hS (tl_aS1 ho g) eσ4 gX1_renew_J7_fill_53178 ⟨Nat.le_of_ble_eq_true rfl, Nat.le_of_ble_eq_true rfl⟩ hl.1 (Nat.le_of_ble_eq_true rfl) dX1_renew_20 (fun H locs hP hS => ?_)
  exact tl_Rvpw (pc := 23) C h hP hS dX1_renew_23
theorem caX1_renew {p : Program} {l : Launch} {e : Env} {R : Room} {s : State} {m : MethodId} {args : Array Value} {below : List Frame} {meth : Method} {c : Code} {H : Heap} {locs : List Loc} {Q : State → Prop} {cc : ByteArray} {pc : Nat} {ls : Array Slot} {rest : List Value} {g : tl_G} {σ : tl_St} {H0 : Heap} {nL : Nat} {own : String} {ret : Option FieldType} {index : Nat} (C : tl_C p s m meth c cc nL own ret g) {Ts : List Cond} (hts : ∀ w ∈ Ts, w.before args s = true) (hP : va_P g.1 vwCl (tl_W g σ) H) (hS : va_S (tl_A g) H0 H locs) {o : Nat} {a1 : Int32} {a2 : Int32} (ho : tl_isS o) {σo : tl_St} (h : fX1_renew σ o a1 a2 = some σo) (hG : GoodIn Ts (wsV own index RX1 yX1_renew wsX1_renew)) (hR : 1 + 1 ≤ R.frames ∧ 8 + (3 + 11) + 23 ≤ R.locals) (hls : ls.size = nL) (hrm : (rest.map fun v => v.category).sum ≤ 8) (hdg : decode cc pc = .ok (.invokevirtual index, 3)) (kk : ∀ (H1 : Heap) (locs1 : List Loc), va_P g.1 vwCl (tl_W g σo) H1 → va_S (tl_A g) H0 H1 locs1 → W p l e R s m args below meth c H1 locs1 0 0 Q (F0 m (pc + 3) ls (rest))) : W p l e R s m args below meth c H locs 0 0 Q (F0 m pc ls (.int a2 :: .int a1 :: .ref (tl_ad g o) :: rest)) :=
  tl_gov (tl_callV C hts hP (okX1_renew l g C.2.2.2.2.2.2.2 σ o a1 a2 ho σo h) rfl rfl rfl (n := 2) (by decide +kernel) rfl (ci := 1) rfl (tl_kS ho g σ) hG hR hls rfl hrm hdg) hS kk
abbrev rX1_faultAt : Room := { frames := 0, cells := 0, slots := 0, locals := 0 }
set_option maxHeartbeats 4000000 in
set_option maxRecDepth 100000 in
theorem okX1_faultAt (l : Launch) (g : tl_G) (hI : tl_I g) (σ : tl_St) (o : Nat) (a1 : Int32) (a2 : Int32) (ho : tl_isS o) (ro : Int32) (h : fX1_faultAt σ o a1 a2 = ro) : Met l yX1_faultAt wsX1_faultAt rX1_faultAt (va_Pc [.ref (tl_ad g o), .int a1, .int a2] (tl_Pre g σ)) (tl_Qi g ro σ) 0 0 (tl_A g) := by
  refine tl_enter (cc := cX1_faultAt) (maxL := 3) (ret := (some .int)) (own := RX1) hI (by decide) rfl rfl (Nat.le_of_ble_eq_true rfl) ?_
  intro p e s m below meth c C hts H locs hP hS ls hl
  have hx := C.1
  have hb := C.2.1
  have hl : lv_has ls 3 [(0, .ref (tl_ad g o)), (1, .int a1), (2, .int a2)] := hl
  have hc1 : ∀ w ∈ u_ws RX1 TX1 4, w.before [.ref (tl_ad g o), .int a1, .int a2].toArray s = true := fun w hw => hts w (List.mem_cons_of_mem _ (List.mem_append_right _ hw))
  have lk0 : (Cond.fieldLink RX1 9 "ThriftLock$Sheet" "lost" "Z").before [.ref (tl_ad g o), .int a1, .int a2].toArray s = true := hts _ (List.mem_cons_of_mem _ (List.mem_append_left _ (List.mem_of_getElem? (i := 0) rfl)))
  have lk1 : (Cond.fieldLink RX1 19 "ThriftLock$Sheet" "form" "I").before [.ref (tl_ad g o), .int a1, .int a2].toArray s = true := hts _ (List.mem_cons_of_mem _ (List.mem_append_left _ (List.mem_of_getElem? (i := 1) rfl)))
  have lk2 : (Cond.fieldLink RX1 23 "ThriftLock$Sheet" "size" "I").before [.ref (tl_ad g o), .int a1, .int a2].toArray s = true := hts _ (List.mem_cons_of_mem _ (List.mem_append_left _ (List.mem_of_getElem? (i := 2) rfl)))
  unfold fX1_faultAt at h
  refine lv_aload_n (pc := 0) hx hb dX1_faultAt_0 rfl (lv_at hl 0 rfl) ?_
  refine tl_gS_0 (pc := 1) C hc1 hP ho lk0 dX1_faultAt_1 ?_
  refine lv_if_eq (pc := 4) (tgt := 9) hx hb dX1_faultAt_4 (by decide) (fun c1 => ?_) (fun c1 => ?_)
  · replace h := (if_pos c1).symm.trans h
    refine lv_aload_n (pc := 9) hx hb dX1_faultAt_9 rfl (lv_at hl 0 rfl) ?_
    refine tl_gS_1 (pc := 10) C hc1 hP ho lk1 dX1_faultAt_10 ?_
    refine lv_iload_n (pc := 13) hx hb dX1_faultAt_13 rfl (lv_at hl 1 rfl) ?_
    refine lv_icmp_eq (pc := 14) (tgt := 19) hx hb dX1_faultAt_14 (by decide) (fun c2 => ?_) (fun c2 => ?_)
    · replace h := (if_pos c2).symm.trans h
      refine lv_iload_n (pc := 19) hx hb dX1_faultAt_19 rfl (lv_at hl 2 rfl) ?_
      obtain ⟨k3, ek3, h⟩ := tl_j0 h
      have hJ3 : ∀ (H : Heap) (locs : List Loc) (ls : Array Slot), k3 = ro → va_P g.1 vwCl (tl_W g σ) H → va_S (tl_A g) s.heap H locs → lv_has ls 3 [] → W p l e rX1_faultAt s m [.ref (tl_ad g o), .int a1, .int a2].toArray below meth c H locs 0 0 (MQ below (tl_Qi g ro σ) [.ref (tl_ad g o), .int a1, .int a2].toArray s 0 0 (tl_A g)) (F0 m 31 ls []) := by
        intro H locs ls h hP hS hl
        replace h := ek3.trans h
        refine lv_iconst (pc := 31) (v := 2) hx hb dX1_faultAt_31 (by decide) ?_
        refine lv_goto (pc := 32) (tgt := 36) hx hb dX1_faultAt_32 (by decide) ?_
        exact tl_Ritr (pc := 36) C h hP hS dX1_faultAt_36
      refine lv_if_lt (pc := 20) (tgt := 31) hx hb dX1_faultAt_20 (by decide) (fun c4 => ?_) (fun c4 => ?_)
      · replace h := (if_pos c4).symm.trans h
        exact hJ3 _ _ _ h hP hS (lv_sub hl [] rfl)
      · replace h := (if_neg c4).symm.trans h
        refine lv_iload_n (pc := 23) hx hb dX1_faultAt_23 rfl (lv_at hl 2 rfl) ?_
        refine lv_aload_n (pc := 24) hx hb dX1_faultAt_24 rfl (lv_at hl 0 rfl) ?_
        refine tl_gS_2 (pc := 25) C hc1 hP ho lk2 dX1_faultAt_25 ?_
        refine lv_icmp_lt (pc := 28) (tgt := 35) hx hb dX1_faultAt_28 (by decide) (fun c5 => ?_) (fun c5 => ?_)
        · replace h := (if_pos c5).symm.trans h
          refine lv_iconst (pc := 35) (v := 0) hx hb dX1_faultAt_35 (by decide) ?_
          exact tl_Ritr (pc := 36) C h hP hS dX1_faultAt_36
        · replace h := (if_neg c5).symm.trans h
          exact hJ3 _ _ _ h hP hS (lv_sub hl [] rfl)
    · replace h := (if_neg c2).symm.trans h
      refine lv_iconst (pc := 17) (v := 3) hx hb dX1_faultAt_17 (by decide) ?_
      exact tl_Ritr (pc := 18) C h hP hS dX1_faultAt_18
  · replace h := (if_neg c1).symm.trans h
    refine lv_iconst (pc := 7) (v := 1) hx hb dX1_faultAt_7 (by decide) ?_
    exact tl_Ritr (pc := 8) C h hP hS dX1_faultAt_8
theorem caX1_faultAt {p : Program} {l : Launch} {e : Env} {R : Room} {s : State} {m : MethodId} {args : Array Value} {below : List Frame} {meth : Method} {c : Code} {H : Heap} {locs : List Loc} {Q : State → Prop} {cc : ByteArray} {pc : Nat} {ls : Array Slot} {rest : List Value} {g : tl_G} {σ : tl_St} {H0 : Heap} {nL : Nat} {own : String} {ret : Option FieldType} {index : Nat} (C : tl_C p s m meth c cc nL own ret g) {Ts : List Cond} (hts : ∀ w ∈ Ts, w.before args s = true) (hP : va_P g.1 vwCl (tl_W g σ) H) (hS : va_S (tl_A g) H0 H locs) {o : Nat} {a1 : Int32} {a2 : Int32} (ho : tl_isS o) {ro : Int32} (h : fX1_faultAt σ o a1 a2 = ro) (hG : GoodIn Ts (wsV own index RX1 yX1_faultAt wsX1_faultAt)) (hR : 0 + 1 ≤ R.frames ∧ 8 + (3 + 11) + 0 ≤ R.locals) (hls : ls.size = nL) (hrm : (rest.map fun v => v.category).sum ≤ 8) (hdg : decode cc pc = .ok (.invokevirtual index, 3)) (kk : ∀ (H1 : Heap) (locs1 : List Loc), va_P g.1 vwCl (tl_W g σ) H1 → va_S (tl_A g) H0 H1 locs1 → W p l e R s m args below meth c H1 locs1 0 0 Q (F0 m (pc + 3) ls (.int ro :: rest))) : W p l e R s m args below meth c H locs 0 0 Q (F0 m pc ls (.int a2 :: .int a1 :: .ref (tl_ad g o) :: rest)) :=
  tl_goi (tl_callV C hts hP (okX1_faultAt l g C.2.2.2.2.2.2.2 σ o a1 a2 ho ro h) rfl rfl rfl (n := 2) (by decide +kernel) rfl (ci := 1) rfl (tl_kS ho g σ) hG hR hls rfl hrm hdg) hS kk
abbrev rX1_hasSpan : Room := { frames := 0, cells := 0, slots := 0, locals := 0 }
set_option maxHeartbeats 4000000 in
set_option maxRecDepth 100000 in
theorem okX1_hasSpan (l : Launch) (g : tl_G) (hI : tl_I g) (σ : tl_St) (o : Nat) (a1 : Int32) (a2 : Int32) (ho : tl_isS o) (ro : Int32) (h : fX1_hasSpan σ o a1 a2 = ro) : Met l yX1_hasSpan wsX1_hasSpan rX1_hasSpan (va_Pc [.ref (tl_ad g o), .int a1, .int a2] (tl_Pre g σ)) (tl_Qi g ro σ) 0 0 (tl_A g) := by
  refine tl_enter (cc := cX1_hasSpan) (maxL := 3) (ret := (some .boolean)) (own := RX1) hI (by decide) rfl rfl (Nat.le_of_ble_eq_true rfl) ?_
  intro p e s m below meth c C hts H locs hP hS ls hl
  have hx := C.1
  have hb := C.2.1
  have hl : lv_has ls 3 [(0, .ref (tl_ad g o)), (1, .int a1), (2, .int a2)] := hl
  have hc1 : ∀ w ∈ u_ws RX1 TX1 4, w.before [.ref (tl_ad g o), .int a1, .int a2].toArray s = true := fun w hw => hts w (List.mem_cons_of_mem _ (List.mem_append_right _ hw))
  have lk0 : (Cond.fieldLink RX1 23 "ThriftLock$Sheet" "size" "I").before [.ref (tl_ad g o), .int a1, .int a2].toArray s = true := hts _ (List.mem_cons_of_mem _ (List.mem_append_left _ (List.mem_of_getElem? (i := 0) rfl)))
  unfold fX1_hasSpan at h
  refine lv_iload_n (pc := 0) hx hb dX1_hasSpan_0 rfl (lv_at hl 1 rfl) ?_
  obtain ⟨k1, ek1, h⟩ := tl_j0 h
  have hJ1 : ∀ (H : Heap) (locs : List Loc) (ls : Array Slot), k1 = ro → va_P g.1 vwCl (tl_W g σ) H → va_S (tl_A g) s.heap H locs → lv_has ls 3 [] → W p l e rX1_hasSpan s m [.ref (tl_ad g o), .int a1, .int a2].toArray below meth c H locs 0 0 (MQ below (tl_Qi g ro σ) [.ref (tl_ad g o), .int a1, .int a2].toArray s 0 0 (tl_A g)) (F0 m 22 ls []) := by
    intro H locs ls h hP hS hl
    replace h := ek1.trans h
    refine lv_iconst (pc := 22) (v := 0) hx hb dX1_hasSpan_22 (by decide) ?_
    exact tl_Rztr (pc := 23) C h hP hS (Or.inl rfl) dX1_hasSpan_23
  refine lv_if_lt (pc := 1) (tgt := 22) hx hb dX1_hasSpan_1 (by decide) (fun c2 => ?_) (fun c2 => ?_)
  · replace h := (if_pos c2).symm.trans h
    exact hJ1 _ _ _ h hP hS (lv_sub hl [] rfl)
  · replace h := (if_neg c2).symm.trans h
    refine lv_iload_n (pc := 4) hx hb dX1_hasSpan_4 rfl (lv_at hl 2 rfl) ?_
    refine lv_if_lt (pc := 5) (tgt := 22) hx hb dX1_hasSpan_5 (by decide) (fun c3 => ?_) (fun c3 => ?_)
    · replace h := (if_pos c3).symm.trans h
      exact hJ1 _ _ _ h hP hS (lv_sub hl [] rfl)
    · replace h := (if_neg c3).symm.trans h
      refine lv_iload_n (pc := 8) hx hb dX1_hasSpan_8 rfl (lv_at hl 2 rfl) ?_
      refine lv_aload_n (pc := 9) hx hb dX1_hasSpan_9 rfl (lv_at hl 0 rfl) ?_
      refine tl_gS_2 (pc := 10) C hc1 hP ho lk0 dX1_hasSpan_10 ?_
      refine lv_iload_n (pc := 13) hx hb dX1_hasSpan_13 rfl (lv_at hl 1 rfl) ?_
      refine lv_isub (pc := 14) hx hb dX1_hasSpan_14 ?_
      refine lv_icmp_gt (pc := 15) (tgt := 22) hx hb dX1_hasSpan_15 (by decide) (fun c4 => ?_) (fun c4 => ?_)
      · replace h := (if_pos c4).symm.trans h
        exact hJ1 _ _ _ h hP hS (lv_sub hl [] rfl)
      · replace h := (if_neg c4).symm.trans h
        refine lv_iconst (pc := 18) (v := 1) hx hb dX1_hasSpan_18 (by decide) ?_
        refine lv_goto (pc := 19) (tgt := 23) hx hb dX1_hasSpan_19 (by decide) ?_
        exact tl_Rztr (pc := 23) C h hP hS (Or.inr rfl) dX1_hasSpan_23
theorem caX1_hasSpan {p : Program} {l : Launch} {e : Env} {R : Room} {s : State} {m : MethodId} {args : Array Value} {below : List Frame} {meth : Method} {c : Code} {H : Heap} {locs : List Loc} {Q : State → Prop} {cc : ByteArray} {pc : Nat} {ls : Array Slot} {rest : List Value} {g : tl_G} {σ : tl_St} {H0 : Heap} {nL : Nat} {own : String} {ret : Option FieldType} {index : Nat} (C : tl_C p s m meth c cc nL own ret g) {Ts : List Cond} (hts : ∀ w ∈ Ts, w.before args s = true) (hP : va_P g.1 vwCl (tl_W g σ) H) (hS : va_S (tl_A g) H0 H locs) {o : Nat} {a1 : Int32} {a2 : Int32} (ho : tl_isS o) {ro : Int32} (h : fX1_hasSpan σ o a1 a2 = ro) (hG : GoodIn Ts (wsV own index RX1 yX1_hasSpan wsX1_hasSpan)) (hR : 0 + 1 ≤ R.frames ∧ 8 + (3 + 11) + 0 ≤ R.locals) (hls : ls.size = nL) (hrm : (rest.map fun v => v.category).sum ≤ 8) (hdg : decode cc pc = .ok (.invokevirtual index, 3)) (kk : ∀ (H1 : Heap) (locs1 : List Loc), va_P g.1 vwCl (tl_W g σ) H1 → va_S (tl_A g) H0 H1 locs1 → W p l e R s m args below meth c H1 locs1 0 0 Q (F0 m (pc + 3) ls (.int ro :: rest))) : W p l e R s m args below meth c H locs 0 0 Q (F0 m pc ls (.int a2 :: .int a1 :: .ref (tl_ad g o) :: rest)) :=
  tl_goi (tl_callV C hts hP (okX1_hasSpan l g C.2.2.2.2.2.2.2 σ o a1 a2 ho ro h) rfl rfl rfl (n := 2) (by decide +kernel) rfl (ci := 1) rfl (tl_kS ho g σ) hG hR hls rfl hrm hdg) hS kk
abbrev rX1_put : Room := { frames := 0, cells := 0, slots := 0, locals := 0 }
set_option maxHeartbeats 4000000 in
set_option maxRecDepth 100000 in
theorem okX1_put (l : Launch) (g : tl_G) (hI : tl_I g) (σ : tl_St) (o : Nat) (a1 : Int32) (a2 : Int32) (ho : tl_isS o) (σo : tl_St) (h : fX1_put σ o a1 a2 = some σo) : Met l yX1_put wsX1_put rX1_put (va_Pc [.ref (tl_ad g o), .int a1, .int a2] (tl_Pre g σ)) (tl_Qv g σo) 0 0 (tl_A g) := by
  refine tl_enter (cc := cX1_put) (maxL := 3) (ret := none) (own := RX1) hI (by decide) rfl rfl (Nat.le_of_ble_eq_true rfl) ?_
  intro p e s m below meth c C hts H locs hP hS ls hl
  have hx := C.1
  have hb := C.2.1
  have hl : lv_has ls 3 [(0, .ref (tl_ad g o)), (1, .int a1), (2, .int a2)] := hl
  have hc1 : ∀ w ∈ u_ws RX1 TX1 4, w.before [.ref (tl_ad g o), .int a1, .int a2].toArray s = true := fun w hw => hts w (List.mem_cons_of_mem _ (List.mem_append_right _ hw))
  have lk0 : (Cond.fieldLink RX1 19 "ThriftLock$Sheet" "form" "I").before [.ref (tl_ad g o), .int a1, .int a2].toArray s = true := hts _ (List.mem_cons_of_mem _ (List.mem_append_left _ (List.mem_of_getElem? (i := 0) rfl)))
  have lk1 : (Cond.fieldLink RX1 15 "ThriftLock$Sheet" "items" "[I").before [.ref (tl_ad g o), .int a1, .int a2].toArray s = true := hts _ (List.mem_cons_of_mem _ (List.mem_append_left _ (List.mem_of_getElem? (i := 1) rfl)))
  unfold fX1_put at h
  refine lv_aload_n (pc := 0) hx hb dX1_put_0 rfl (lv_at hl 0 rfl) ?_
  refine tl_gS_1 (pc := 1) C hc1 hP ho lk0 dX1_put_1 ?_
  by_cases c1 : (σ o 1) = 0
  · replace h := (if_pos c1).symm.trans h
    refine tl_swL (pc := 4) (tgt := 32) hx hb (kv := 0) c1 dX1_put_4 (by decide) rfl (by decide) ?_
    refine lv_aload_n (pc := 32) hx hb dX1_put_32 rfl (lv_at hl 0 rfl) ?_
    refine tl_gS_3 (pc := 33) C hc1 hP ho lk1 dX1_put_33 ?_
    refine lv_iload_n (pc := 36) hx hb dX1_put_36 rfl (lv_at hl 1 rfl) ?_
    refine lv_iload_n (pc := 37) hx hb dX1_put_37 rfl (lv_at hl 2 rfl) ?_
    refine lv_i2b (pc := 38) hx hb dX1_put_38 rfl ?_
    obtain ⟨g2, h⟩ := tl_gd h
    obtain ⟨σ3, eσ3, h⟩ := tl_nm h
    refine tl_ast (pc := 39) C hP hS (tl_aS1 ho g) g2 eσ3 dX1_put_39 (fun H locs hP hS => ?_)
    refine lv_goto (pc := 40) (tgt := 61) hx hb dX1_put_40 (by decide) ?_
    exact tl_Rvpw (pc := 61) C h hP hS dX1_put_61
  · replace h := (if_neg c1).symm.trans h
    by_cases c4 : (σ o 1) = 1
    · replace h := (if_pos c4).symm.trans h
      refine tl_swL (pc := 4) (tgt := 43) hx hb (kv := 1) c4 dX1_put_4 (by decide) rfl (by decide) ?_
      refine lv_aload_n (pc := 43) hx hb dX1_put_43 rfl (lv_at hl 0 rfl) ?_
      refine tl_gS_3 (pc := 44) C hc1 hP ho lk1 dX1_put_44 ?_
      refine lv_iload_n (pc := 47) hx hb dX1_put_47 rfl (lv_at hl 1 rfl) ?_
      refine lv_iload_n (pc := 48) hx hb dX1_put_48 rfl (lv_at hl 2 rfl) ?_
      refine lv_i2s (pc := 49) hx hb dX1_put_49 rfl ?_
      obtain ⟨g5, h⟩ := tl_gd h
      obtain ⟨σ6, eσ6, h⟩ := tl_nm h
      refine tl_ast (pc := 50) C hP hS (tl_aS1 ho g) g5 eσ6 dX1_put_50 (fun H locs hP hS => ?_)
      refine lv_goto (pc := 51) (tgt := 61) hx hb dX1_put_51 (by decide) ?_
      exact tl_Rvpw (pc := 61) C h hP hS dX1_put_61
    · replace h := (if_neg c4).symm.trans h
      have hsw : Op.lookupswitch.offset [(0, 28), (1, 39)] 50 ((σ o 1)).toInt = 50 := by
        have n0 := tl_ne (k := 0) c1 (by decide) (by decide)
        have n1 := tl_ne (k := 1) c4 (by decide) (by decide)
        simp [Op.lookupswitch.offset, Ne.symm n0, n0, Ne.symm n1, n1]
      refine lv_lookup (pc := 4) (tgt := 54) hx hb dX1_put_4 (by decide) hsw (by decide) ?_
      refine lv_aload_n (pc := 54) hx hb dX1_put_54 rfl (lv_at hl 0 rfl) ?_
      refine tl_gS_3 (pc := 55) C hc1 hP ho lk1 dX1_put_55 ?_
      refine lv_iload_n (pc := 58) hx hb dX1_put_58 rfl (lv_at hl 1 rfl) ?_
      refine lv_iload_n (pc := 59) hx hb dX1_put_59 rfl (lv_at hl 2 rfl) ?_
      obtain ⟨g7, h⟩ := tl_gd h
      obtain ⟨σ8, eσ8, h⟩ := tl_nm h
      refine tl_ast (pc := 60) C hP hS (tl_aS1 ho g) g7 eσ8 dX1_put_60 (fun H locs hP hS => ?_)
      exact tl_Rvpw (pc := 61) C h hP hS dX1_put_61
theorem caX1_put {p : Program} {l : Launch} {e : Env} {R : Room} {s : State} {m : MethodId} {args : Array Value} {below : List Frame} {meth : Method} {c : Code} {H : Heap} {locs : List Loc} {Q : State → Prop} {cc : ByteArray} {pc : Nat} {ls : Array Slot} {rest : List Value} {g : tl_G} {σ : tl_St} {H0 : Heap} {nL : Nat} {own : String} {ret : Option FieldType} {index : Nat} (C : tl_C p s m meth c cc nL own ret g) {Ts : List Cond} (hts : ∀ w ∈ Ts, w.before args s = true) (hP : va_P g.1 vwCl (tl_W g σ) H) (hS : va_S (tl_A g) H0 H locs) {o : Nat} {a1 : Int32} {a2 : Int32} (ho : tl_isS o) {σo : tl_St} (h : fX1_put σ o a1 a2 = some σo) (hG : GoodIn Ts (wsV own index RX1 yX1_put wsX1_put)) (hR : 0 + 1 ≤ R.frames ∧ 8 + (3 + 11) + 0 ≤ R.locals) (hls : ls.size = nL) (hrm : (rest.map fun v => v.category).sum ≤ 8) (hdg : decode cc pc = .ok (.invokevirtual index, 3)) (kk : ∀ (H1 : Heap) (locs1 : List Loc), va_P g.1 vwCl (tl_W g σo) H1 → va_S (tl_A g) H0 H1 locs1 → W p l e R s m args below meth c H1 locs1 0 0 Q (F0 m (pc + 3) ls (rest))) : W p l e R s m args below meth c H locs 0 0 Q (F0 m pc ls (.int a2 :: .int a1 :: .ref (tl_ad g o) :: rest)) :=
  tl_gov (tl_callV C hts hP (okX1_put l g C.2.2.2.2.2.2.2 σ o a1 a2 ho σo h) rfl rfl rfl (n := 2) (by decide +kernel) rfl (ci := 1) rfl (tl_kS ho g σ) hG hR hls rfl hrm hdg) hS kk
abbrev rX2_becomeLike : Room := { frames := 1, cells := 0, slots := 0, locals := 26 }
set_option maxHeartbeats 4000000 in
set_option maxRecDepth 100000 in
theorem okX2_becomeLike (l : Launch) (g : tl_G) (hI : tl_I g) (σ : tl_St) (o : Nat) (a1 : Nat) (ho : tl_isW o) (ha1 : tl_isW a1) (σo : tl_St) (h : fX2_becomeLike σ o a1 = some σo) : Met l yX2_becomeLike wsX2_becomeLike rX2_becomeLike (va_Pc [.ref (tl_ad g o), .ref (tl_ad g a1)] (tl_Pre g σ)) (tl_Qv g σo) 0 0 (tl_A g) := by
  refine tl_enter (cc := cX2_becomeLike) (maxL := 2) (ret := none) (own := RX2) hI (by decide) rfl rfl (Nat.le_of_ble_eq_true rfl) ?_
  intro p e s m below meth c C hts H locs hP hS ls hl
  have hx := C.1
  have hb := C.2.1
  have hl : lv_has ls 2 [(0, .ref (tl_ad g o)), (1, .ref (tl_ad g a1))] := hl
  have hc2 : ∀ w ∈ u_ws RX2 TX2 14, w.before [.ref (tl_ad g o), .ref (tl_ad g a1)].toArray s = true := fun w hw => hts w (List.mem_cons_of_mem _ (List.mem_append_right _ hw))
  have lk0 : (Cond.fieldLink RX2 9 "ThriftLock$Water" "fullAt" "I").before [.ref (tl_ad g o), .ref (tl_ad g a1)].toArray s = true := hts _ (List.mem_cons_of_mem _ (List.mem_append_left _ (List.mem_of_getElem? (i := 0) rfl)))
  have lk1 : (Cond.fieldLink RX2 40 "ThriftLock$Water" "inChamber" "I").before [.ref (tl_ad g o), .ref (tl_ad g a1)].toArray s = true := hts _ (List.mem_cons_of_mem _ (List.mem_append_left _ (List.mem_of_getElem? (i := 1) rfl)))
  have lk2 : (Cond.fieldLink RX2 43 "ThriftLock$Water" "basins" "I").before [.ref (tl_ad g o), .ref (tl_ad g a1)].toArray s = true := hts _ (List.mem_cons_of_mem _ (List.mem_append_left _ (List.mem_of_getElem? (i := 2) rfl)))
  have lk3 : (Cond.fieldLink RX2 46 "ThriftLock$Water" "outBits" "I").before [.ref (tl_ad g o), .ref (tl_ad g a1)].toArray s = true := hts _ (List.mem_cons_of_mem _ (List.mem_append_left _ (List.mem_of_getElem? (i := 3) rfl)))
  have lk4 : (Cond.fieldLink RX2 15 "ThriftLock$Water" "bottom" "[I").before [.ref (tl_ad g o), .ref (tl_ad g a1)].toArray s = true := hts _ (List.mem_cons_of_mem _ (List.mem_append_left _ (List.mem_of_getElem? (i := 4) rfl)))
  have lk5 : (Cond.methodLink RX2 49 arraycopyName).before [.ref (tl_ad g o), .ref (tl_ad g a1)].toArray s = true := hts _ (List.mem_cons_of_mem _ (List.mem_append_left _ (List.mem_of_getElem? (i := 5) rfl)))
  have lk6 : (Cond.native arraycopyName).before [.ref (tl_ad g o), .ref (tl_ad g a1)].toArray s = true := hts _ (List.mem_cons_of_mem _ (List.mem_append_left _ (List.mem_of_getElem? (i := 6) rfl)))
  have lk7 : (Cond.static arraycopyName).before [.ref (tl_ad g o), .ref (tl_ad g a1)].toArray s = true := hts _ (List.mem_cons_of_mem _ (List.mem_append_left _ (List.mem_of_getElem? (i := 7) rfl)))
  have lk8 : (Cond.initialized "java/lang/System").before [.ref (tl_ad g o), .ref (tl_ad g a1)].toArray s = true := hts _ (List.mem_cons_of_mem _ (List.mem_append_left _ (List.mem_of_getElem? (i := 8) rfl)))
  have lk9 : (Cond.fieldLink RX2 19 "ThriftLock$Water" "room" "[I").before [.ref (tl_ad g o), .ref (tl_ad g a1)].toArray s = true := hts _ (List.mem_cons_of_mem _ (List.mem_append_left _ (List.mem_of_getElem? (i := 9) rfl)))
  have lk10 : (Cond.fieldLink RX2 22 "ThriftLock$Water" "wide" "[I").before [.ref (tl_ad g o), .ref (tl_ad g a1)].toArray s = true := hts _ (List.mem_cons_of_mem _ (List.mem_append_left _ (List.mem_of_getElem? (i := 10) rfl)))
  have lk11 : (Cond.fieldLink RX2 25 "ThriftLock$Water" "rise" "[I").before [.ref (tl_ad g o), .ref (tl_ad g a1)].toArray s = true := hts _ (List.mem_cons_of_mem _ (List.mem_append_left _ (List.mem_of_getElem? (i := 11) rfl)))
  have lk12 : (Cond.fieldLink RX2 28 "ThriftLock$Water" "leaks" "[I").before [.ref (tl_ad g o), .ref (tl_ad g a1)].toArray s = true := hts _ (List.mem_cons_of_mem _ (List.mem_append_left _ (List.mem_of_getElem? (i := 12) rfl)))
  have lk13 : (Cond.fieldLink RX2 31 "ThriftLock$Water" "held" "[I").before [.ref (tl_ad g o), .ref (tl_ad g a1)].toArray s = true := hts _ (List.mem_cons_of_mem _ (List.mem_append_left _ (List.mem_of_getElem? (i := 13) rfl)))
  unfold fX2_becomeLike at h
  refine lv_aload_n (pc := 0) hx hb dX2_becomeLike_0 rfl (lv_at hl 0 rfl) ?_
  refine lv_aload_n (pc := 1) hx hb dX2_becomeLike_1 rfl (lv_at hl 1 rfl) ?_
  refine tl_gW_0 (pc := 2) C hc2 hP ha1 lk0 dX2_becomeLike_2 ?_
  obtain ⟨σ1, eσ1, h⟩ := tl_nm h
  refine tl_sW_0 (pc := 5) C hc2 hP hS ho eσ1 lk0 dX2_becomeLike_5 (fun H locs hP hS => ?_)
  refine lv_aload_n (pc := 8) hx hb dX2_becomeLike_8 rfl (lv_at hl 0 rfl) ?_
  refine lv_aload_n (pc := 9) hx hb dX2_becomeLike_9 rfl (lv_at hl 1 rfl) ?_
  refine tl_gW_1 (pc := 10) C hc2 hP ha1 lk1 dX2_becomeLike_10 ?_
  obtain ⟨σ2, eσ2, h⟩ := tl_nm h
  refine tl_sW_1 (pc := 13) C hc2 hP hS ho eσ2 lk1 dX2_becomeLike_13 (fun H locs hP hS => ?_)
  refine lv_aload_n (pc := 16) hx hb dX2_becomeLike_16 rfl (lv_at hl 0 rfl) ?_
  refine lv_aload_n (pc := 17) hx hb dX2_becomeLike_17 rfl (lv_at hl 1 rfl) ?_
  refine tl_gW_2 (pc := 18) C hc2 hP ha1 lk2 dX2_becomeLike_18 ?_
  obtain ⟨σ3, eσ3, h⟩ := tl_nm h
  refine tl_sW_2 (pc := 21) C hc2 hP hS ho eσ3 lk2 dX2_becomeLike_21 (fun H locs hP hS => ?_)
  refine lv_aload_n (pc := 24) hx hb dX2_becomeLike_24 rfl (lv_at hl 0 rfl) ?_
  refine lv_aload_n (pc := 25) hx hb dX2_becomeLike_25 rfl (lv_at hl 1 rfl) ?_
  refine tl_gW_3 (pc := 26) C hc2 hP ha1 lk3 dX2_becomeLike_26 ?_
  obtain ⟨σ4, eσ4, h⟩ := tl_nm h
  refine tl_sW_3 (pc := 29) C hc2 hP hS ho eσ4 lk3 dX2_becomeLike_29 (fun H locs hP hS => ?_)
  refine lv_aload_n (pc := 32) hx hb dX2_becomeLike_32 rfl (lv_at hl 1 rfl) ?_
  refine tl_gW_4 (pc := 33) C hc2 hP ha1 lk4 dX2_becomeLike_33 ?_
  refine lv_iconst (pc := 36) (v := 0) hx hb dX2_becomeLike_36 (by decide) ?_
  refine lv_aload_n (pc := 37) hx hb dX2_becomeLike_37 rfl (lv_at hl 0 rfl) ?_
  refine tl_gW_4 (pc := 38) C hc2 hP ho lk4 dX2_becomeLike_38 ?_
  refine lv_iconst (pc := 41) (v := 0) hx hb dX2_becomeLike_41 (by decide) ?_
  refine lv_iconst (pc := 42) (v := 4) hx hb dX2_becomeLike_42 (by decide) ?_
  obtain ⟨σ5, eσ5, h⟩ := tl_nm h
  refine tl_cpy (pc := 43) C hl.1 lk5 lk6 lk7 lk8 hP hS (tl_aW1 ha1 g) (tl_aW1 ho g) (by decide) (Nat.le_of_ble_eq_true rfl) (Nat.le_of_ble_eq_true rfl) eσ5 dX2_becomeLike_43 (fun H locs hP hS => ?_)
  refine lv_aload_n (pc := 46) hx hb dX2_becomeLike_46 rfl (lv_at hl 1 rfl) ?_
  refine tl_gW_5 (pc := 47) C hc2 hP ha1 lk9 dX2_becomeLike_47 ?_
  refine lv_iconst (pc := 50) (v := 0) hx hb dX2_becomeLike_50 (by decide) ?_
  refine lv_aload_n (pc := 51) hx hb dX2_becomeLike_51 rfl (lv_at hl 0 rfl) ?_
  refine tl_gW_5 (pc := 52) C hc2 hP ho lk9 dX2_becomeLike_52 ?_
  refine lv_iconst (pc := 55) (v := 0) hx hb dX2_becomeLike_55 (by decide) ?_
  refine lv_iconst (pc := 56) (v := 4) hx hb dX2_becomeLike_56 (by decide) ?_
  obtain ⟨σ6, eσ6, h⟩ := tl_nm h
  refine tl_cpy (pc := 57) C hl.1 lk5 lk6 lk7 lk8 hP hS (tl_aW2 ha1 g) (tl_aW2 ho g) (by decide) (Nat.le_of_ble_eq_true rfl) (Nat.le_of_ble_eq_true rfl) eσ6 dX2_becomeLike_57 (fun H locs hP hS => ?_)
  refine lv_aload_n (pc := 60) hx hb dX2_becomeLike_60 rfl (lv_at hl 1 rfl) ?_
  refine tl_gW_6 (pc := 61) C hc2 hP ha1 lk10 dX2_becomeLike_61 ?_
  refine lv_iconst (pc := 64) (v := 0) hx hb dX2_becomeLike_64 (by decide) ?_
  refine lv_aload_n (pc := 65) hx hb dX2_becomeLike_65 rfl (lv_at hl 0 rfl) ?_
  refine tl_gW_6 (pc := 66) C hc2 hP ho lk10 dX2_becomeLike_66 ?_
  refine lv_iconst (pc := 69) (v := 0) hx hb dX2_becomeLike_69 (by decide) ?_
  refine lv_iconst (pc := 70) (v := 4) hx hb dX2_becomeLike_70 (by decide) ?_
  obtain ⟨σ7, eσ7, h⟩ := tl_nm h
  refine tl_cpy (pc := 71) C hl.1 lk5 lk6 lk7 lk8 hP hS (tl_aW3 ha1 g) (tl_aW3 ho g) (by decide) (Nat.le_of_ble_eq_true rfl) (Nat.le_of_ble_eq_true rfl) eσ7 dX2_becomeLike_71 (fun H locs hP hS => ?_)
  refine lv_aload_n (pc := 74) hx hb dX2_becomeLike_74 rfl (lv_at hl 1 rfl) ?_
  refine tl_gW_7 (pc := 75) C hc2 hP ha1 lk11 dX2_becomeLike_75 ?_
  refine lv_iconst (pc := 78) (v := 0) hx hb dX2_becomeLike_78 (by decide) ?_
  refine lv_aload_n (pc := 79) hx hb dX2_becomeLike_79 rfl (lv_at hl 0 rfl) ?_
  refine tl_gW_7 (pc := 80) C hc2 hP ho lk11 dX2_becomeLike_80 ?_
  refine lv_iconst (pc := 83) (v := 0) hx hb dX2_becomeLike_83 (by decide) ?_
  refine lv_iconst (pc := 84) (v := 4) hx hb dX2_becomeLike_84 (by decide) ?_
  obtain ⟨σ8, eσ8, h⟩ := tl_nm h
  refine tl_cpy (pc := 85) C hl.1 lk5 lk6 lk7 lk8 hP hS (tl_aW4 ha1 g) (tl_aW4 ho g) (by decide) (Nat.le_of_ble_eq_true rfl) (Nat.le_of_ble_eq_true rfl) eσ8 dX2_becomeLike_85 (fun H locs hP hS => ?_)
  refine lv_aload_n (pc := 88) hx hb dX2_becomeLike_88 rfl (lv_at hl 1 rfl) ?_
  refine tl_gW_8 (pc := 89) C hc2 hP ha1 lk12 dX2_becomeLike_89 ?_
  refine lv_iconst (pc := 92) (v := 0) hx hb dX2_becomeLike_92 (by decide) ?_
  refine lv_aload_n (pc := 93) hx hb dX2_becomeLike_93 rfl (lv_at hl 0 rfl) ?_
  refine tl_gW_8 (pc := 94) C hc2 hP ho lk12 dX2_becomeLike_94 ?_
  refine lv_iconst (pc := 97) (v := 0) hx hb dX2_becomeLike_97 (by decide) ?_
  refine lv_iconst (pc := 98) (v := 4) hx hb dX2_becomeLike_98 (by decide) ?_
  obtain ⟨σ9, eσ9, h⟩ := tl_nm h
  refine tl_cpy (pc := 99) C hl.1 lk5 lk6 lk7 lk8 hP hS (tl_aW5 ha1 g) (tl_aW5 ho g) (by decide) (Nat.le_of_ble_eq_true rfl) (Nat.le_of_ble_eq_true rfl) eσ9 dX2_becomeLike_99 (fun H locs hP hS => ?_)
  refine lv_aload_n (pc := 102) hx hb dX2_becomeLike_102 rfl (lv_at hl 1 rfl) ?_
  refine tl_gW_9 (pc := 103) C hc2 hP ha1 lk13 dX2_becomeLike_103 ?_
  refine lv_iconst (pc := 106) (v := 0) hx hb dX2_becomeLike_106 (by decide) ?_
  refine lv_aload_n (pc := 107) hx hb dX2_becomeLike_107 rfl (lv_at hl 0 rfl) ?_
  refine tl_gW_9 (pc := 108) C hc2 hP ho lk13 dX2_becomeLike_108 ?_
  refine lv_iconst (pc := 111) (v := 0) hx hb dX2_becomeLike_111 (by decide) ?_
  refine lv_iconst (pc := 112) (v := 4) hx hb dX2_becomeLike_112 (by decide) ?_
  obtain ⟨σ10, eσ10, h⟩ := tl_nm h
  refine tl_cpy (pc := 113) C hl.1 lk5 lk6 lk7 lk8 hP hS (tl_aW6 ha1 g) (tl_aW6 ho g) (by decide) (Nat.le_of_ble_eq_true rfl) (Nat.le_of_ble_eq_true rfl) eσ10 dX2_becomeLike_113 (fun H locs hP hS => ?_)
  exact tl_Rvpw (pc := 116) C h hP hS dX2_becomeLike_116
theorem caX2_becomeLike {p : Program} {l : Launch} {e : Env} {R : Room} {s : State} {m : MethodId} {args : Array Value} {below : List Frame} {meth : Method} {c : Code} {H : Heap} {locs : List Loc} {Q : State → Prop} {cc : ByteArray} {pc : Nat} {ls : Array Slot} {rest : List Value} {g : tl_G} {σ : tl_St} {H0 : Heap} {nL : Nat} {own : String} {ret : Option FieldType} {index : Nat} (C : tl_C p s m meth c cc nL own ret g) {Ts : List Cond} (hts : ∀ w ∈ Ts, w.before args s = true) (hP : va_P g.1 vwCl (tl_W g σ) H) (hS : va_S (tl_A g) H0 H locs) {o : Nat} {a1 : Nat} (ho : tl_isW o) (ha1 : tl_isW a1) {σo : tl_St} (h : fX2_becomeLike σ o a1 = some σo) (hG : GoodIn Ts (wsV own index RX2 yX2_becomeLike wsX2_becomeLike)) (hR : 1 + 1 ≤ R.frames ∧ 8 + (2 + 11) + 26 ≤ R.locals) (hls : ls.size = nL) (hrm : (rest.map fun v => v.category).sum ≤ 8) (hdg : decode cc pc = .ok (.invokevirtual index, 3)) (kk : ∀ (H1 : Heap) (locs1 : List Loc), va_P g.1 vwCl (tl_W g σo) H1 → va_S (tl_A g) H0 H1 locs1 → W p l e R s m args below meth c H1 locs1 0 0 Q (F0 m (pc + 3) ls (rest))) : W p l e R s m args below meth c H locs 0 0 Q (F0 m pc ls (.ref (tl_ad g a1) :: .ref (tl_ad g o) :: rest)) :=
  tl_gov (tl_callV C hts hP (okX2_becomeLike l g C.2.2.2.2.2.2.2 σ o a1 ho ha1 σo h) rfl rfl rfl (n := 1) (by decide +kernel) rfl (ci := 2) rfl (tl_kW ho g σ) hG hR hls rfl hrm hdg) hS kk
abbrev rX2_riseOf : Room := { frames := 0, cells := 0, slots := 0, locals := 0 }
set_option maxHeartbeats 4000000 in
set_option maxRecDepth 100000 in
theorem okX2_riseOf (l : Launch) (g : tl_G) (hI : tl_I g) (σ : tl_St) (a1 : Int32) (ro : Int32) (h : fX2_riseOf σ a1 = ro) : Met l yX2_riseOf wsX2_riseOf rX2_riseOf (va_Pc [.int a1] (tl_Pre g σ)) (tl_Qi g ro σ) 0 0 (tl_A g) := by
  refine tl_enter (cc := cX2_riseOf) (maxL := 1) (ret := (some .int)) (own := RX2) hI (by decide) rfl rfl (Nat.le_of_ble_eq_true rfl) ?_
  intro p e s m below meth c C hts H locs hP hS ls hl
  have hx := C.1
  have hb := C.2.1
  have hl : lv_has ls 1 [(0, .int a1)] := hl
  unfold fX2_riseOf at h
  refine lv_iload_n (pc := 0) hx hb dX2_riseOf_0 rfl (lv_at hl 0 rfl) ?_
  by_cases c1 : a1 = 1
  · replace h := (if_pos c1).symm.trans h
    refine tl_swL (pc := 1) (tgt := 28) hx hb (kv := 1) c1 dX2_riseOf_1 (by decide) rfl (by decide) ?_
    refine lv_bipush (pc := 28) (v := 6) hx hb dX2_riseOf_28 (by decide) ?_
    exact tl_Ritr (pc := 30) C h hP hS dX2_riseOf_30
  · replace h := (if_neg c1).symm.trans h
    by_cases c2 : a1 = 2
    · replace h := (if_pos c2).symm.trans h
      refine tl_swL (pc := 1) (tgt := 31) hx hb (kv := 2) c2 dX2_riseOf_1 (by decide) rfl (by decide) ?_
      refine lv_iconst (pc := 31) (v := 3) hx hb dX2_riseOf_31 (by decide) ?_
      exact tl_Ritr (pc := 32) C h hP hS dX2_riseOf_32
    · replace h := (if_neg c2).symm.trans h
      have hsw : Op.lookupswitch.offset [(1, 27), (2, 30)] 32 (a1).toInt = 32 := by
        have n0 := tl_ne (k := 1) c1 (by decide) (by decide)
        have n1 := tl_ne (k := 2) c2 (by decide) (by decide)
        simp [Op.lookupswitch.offset, Ne.symm n0, n0, Ne.symm n1, n1]
      refine lv_lookup (pc := 1) (tgt := 33) hx hb dX2_riseOf_1 (by decide) hsw (by decide) ?_
      refine lv_iconst (pc := 33) (v := 2) hx hb dX2_riseOf_33 (by decide) ?_
      exact tl_Ritr (pc := 34) C h hP hS dX2_riseOf_34
theorem caX2_riseOf {p : Program} {l : Launch} {e : Env} {R : Room} {s : State} {m : MethodId} {args : Array Value} {below : List Frame} {meth : Method} {c : Code} {H : Heap} {locs : List Loc} {Q : State → Prop} {cc : ByteArray} {pc : Nat} {ls : Array Slot} {rest : List Value} {g : tl_G} {σ : tl_St} {H0 : Heap} {nL : Nat} {own : String} {ret : Option FieldType} {index : Nat} (C : tl_C p s m meth c cc nL own ret g) {Ts : List Cond} (hts : ∀ w ∈ Ts, w.before args s = true) (hP : va_P g.1 vwCl (tl_W g σ) H) (hS : va_S (tl_A g) H0 H locs) {a1 : Int32} {ro : Int32} (h : fX2_riseOf σ a1 = ro) (hG : GoodIn Ts (va_wsS own index yX2_riseOf wsX2_riseOf)) (hR : 0 + 1 ≤ R.frames ∧ 8 + (1 + 11) + 0 ≤ R.locals) (hls : ls.size = nL) (hrm : (rest.map fun v => v.category).sum ≤ 8) (hdg : decode cc pc = .ok (.invokestatic index, 3)) (kk : ∀ (H1 : Heap) (locs1 : List Loc), va_P g.1 vwCl (tl_W g σ) H1 → va_S (tl_A g) H0 H1 locs1 → W p l e R s m args below meth c H1 locs1 0 0 Q (F0 m (pc + 3) ls (.int ro :: rest))) : W p l e R s m args below meth c H locs 0 0 Q (F0 m pc ls (.int a1 :: rest)) :=
  tl_goi (tl_callS C hts hP (okX2_riseOf l g C.2.2.2.2.2.2.2 σ a1 ro h) rfl rfl rfl (n := 1) (by decide +kernel) rfl hG hR hls rfl hrm hdg) hS kk
abbrev rX2_addBasin : Room := { frames := 1, cells := 0, slots := 0, locals := 20 }
set_option maxHeartbeats 4000000 in
set_option maxRecDepth 100000 in
theorem okX2_addBasin (l : Launch) (g : tl_G) (hI : tl_I g) (σ : tl_St) (o : Nat) (a1 : Int32) (a2 : Int32) (a3 : Int32) (ho : tl_isW o) (σo : tl_St) (h : fX2_addBasin σ o a1 a2 a3 = some σo) : Met l yX2_addBasin wsX2_addBasin rX2_addBasin (va_Pc [.ref (tl_ad g o), .int a1, .int a2, .int a3] (tl_Pre g σ)) (tl_Qv g σo) 0 0 (tl_A g) := by
  refine tl_enter (cc := cX2_addBasin) (maxL := 5) (ret := none) (own := RX2) hI (by decide) rfl rfl (Nat.le_of_ble_eq_true rfl) ?_
  intro p e s m below meth c C hts H locs hP hS ls hl
  have hx := C.1
  have hb := C.2.1
  have hl : lv_has ls 5 [(0, .ref (tl_ad g o)), (1, .int a1), (2, .int a2), (3, .int a3)] := hl
  have hc2 : ∀ w ∈ u_ws RX2 TX2 14, w.before [.ref (tl_ad g o), .int a1, .int a2, .int a3].toArray s = true := fun w hw => hts w (List.mem_cons_of_mem _ (List.mem_append_right _ hw))
  have lk0 : (Cond.fieldLink RX2 43 "ThriftLock$Water" "basins" "I").before [.ref (tl_ad g o), .int a1, .int a2, .int a3].toArray s = true := hts _ (List.mem_cons_of_mem _ (List.mem_append_left _ (List.mem_of_getElem? (i := 0) rfl)))
  have lk1 : (Cond.fieldLink RX2 15 "ThriftLock$Water" "bottom" "[I").before [.ref (tl_ad g o), .int a1, .int a2, .int a3].toArray s = true := hts _ (List.mem_cons_of_mem _ (List.mem_append_left _ (List.mem_of_getElem? (i := 1) rfl)))
  have lk2 : (Cond.fieldLink RX2 19 "ThriftLock$Water" "room" "[I").before [.ref (tl_ad g o), .int a1, .int a2, .int a3].toArray s = true := hts _ (List.mem_cons_of_mem _ (List.mem_append_left _ (List.mem_of_getElem? (i := 2) rfl)))
  have lk3 : (Cond.fieldLink RX2 22 "ThriftLock$Water" "wide" "[I").before [.ref (tl_ad g o), .int a1, .int a2, .int a3].toArray s = true := hts _ (List.mem_cons_of_mem _ (List.mem_append_left _ (List.mem_of_getElem? (i := 3) rfl)))
  have lk4 : (Cond.fieldLink RX2 25 "ThriftLock$Water" "rise" "[I").before [.ref (tl_ad g o), .int a1, .int a2, .int a3].toArray s = true := hts _ (List.mem_cons_of_mem _ (List.mem_append_left _ (List.mem_of_getElem? (i := 4) rfl)))
  have lk5 : (Cond.fieldLink RX2 28 "ThriftLock$Water" "leaks" "[I").before [.ref (tl_ad g o), .int a1, .int a2, .int a3].toArray s = true := hts _ (List.mem_cons_of_mem _ (List.mem_append_left _ (List.mem_of_getElem? (i := 5) rfl)))
  have lk6 : (Cond.fieldLink RX2 31 "ThriftLock$Water" "held" "[I").before [.ref (tl_ad g o), .int a1, .int a2, .int a3].toArray s = true := hts _ (List.mem_cons_of_mem _ (List.mem_append_left _ (List.mem_of_getElem? (i := 6) rfl)))
  unfold fX2_addBasin at h
  refine lv_aload_n (pc := 0) hx hb dX2_addBasin_0 rfl (lv_at hl 0 rfl) ?_
  refine tl_gW_2 (pc := 1) C hc2 hP ho lk0 dX2_addBasin_1 ?_
  obtain ⟨x1, ex1, h⟩ := tl_nm h
  refine tl_ti ex1 ?_
  refine lv_istore (pc := 4) (lv' := [(4, .int x1), (0, .ref (tl_ad g o)), (1, .int a1), (2, .int a2), (3, .int a3)]) hx hb dX2_addBasin_4 hl (by decide) rfl (fun ls hl => ?_)
  refine lv_iload (pc := 6) hx hb dX2_addBasin_6 (lv_at hl 0 rfl) ?_
  refine lv_iconst (pc := 8) (v := 4) hx hb dX2_addBasin_8 (by decide) ?_
  refine lv_icmp_lt (pc := 9) (tgt := 13) hx hb dX2_addBasin_9 (by decide) (fun c2 => ?_) (fun c2 => ?_)
  · replace h := (if_pos c2).symm.trans h
    refine lv_aload_n (pc := 13) hx hb dX2_addBasin_13 rfl (lv_at hl 1 rfl) ?_
    refine tl_gW_4 (pc := 14) C hc2 hP ho lk1 dX2_addBasin_14 ?_
    refine lv_iload (pc := 17) hx hb dX2_addBasin_17 (lv_at hl 0 rfl) ?_
    refine lv_iload_n (pc := 19) hx hb dX2_addBasin_19 rfl (lv_at hl 2 rfl) ?_
    obtain ⟨g3, h⟩ := tl_gd h
    obtain ⟨σ4, eσ4, h⟩ := tl_nm h
    refine tl_ast (pc := 20) C hP hS (tl_aW1 ho g) g3 eσ4 dX2_addBasin_20 (fun H locs hP hS => ?_)
    refine lv_aload_n (pc := 21) hx hb dX2_addBasin_21 rfl (lv_at hl 1 rfl) ?_
    refine tl_gW_5 (pc := 22) C hc2 hP ho lk2 dX2_addBasin_22 ?_
    refine lv_iload (pc := 25) hx hb dX2_addBasin_25 (lv_at hl 0 rfl) ?_
    refine lv_iload_n (pc := 27) hx hb dX2_addBasin_27 rfl (lv_at hl 3 rfl) ?_
    obtain ⟨g5, h⟩ := tl_gd h
    obtain ⟨σ6, eσ6, h⟩ := tl_nm h
    refine tl_ast (pc := 28) C hP hS (tl_aW2 ho g) g5 eσ6 dX2_addBasin_28 (fun H locs hP hS => ?_)
    refine lv_aload_n (pc := 29) hx hb dX2_addBasin_29 rfl (lv_at hl 1 rfl) ?_
    refine tl_gW_6 (pc := 30) C hc2 hP ho lk3 dX2_addBasin_30 ?_
    refine lv_iload (pc := 33) hx hb dX2_addBasin_33 (lv_at hl 0 rfl) ?_
    refine lv_iload_n (pc := 35) hx hb dX2_addBasin_35 rfl (lv_at hl 4 rfl) ?_
    obtain ⟨g7, h⟩ := tl_gd h
    obtain ⟨σ8, eσ8, h⟩ := tl_nm h
    refine tl_ast (pc := 36) C hP hS (tl_aW3 ho g) g7 eσ8 dX2_addBasin_36 (fun H locs hP hS => ?_)
    refine lv_aload_n (pc := 37) hx hb dX2_addBasin_37 rfl (lv_at hl 1 rfl) ?_
    refine tl_gW_7 (pc := 38) C hc2 hP ho lk4 dX2_addBasin_38 ?_
    refine lv_iload (pc := 41) hx hb dX2_addBasin_41 (lv_at hl 0 rfl) ?_
    refine lv_iload_n (pc := 43) hx hb dX2_addBasin_43 rfl (lv_at hl 4 rfl) ?_
    obtain ⟨r9, er9, h⟩ := tl_nm h
    refine caX2_riseOf (pc := 44) C hts hP hS er9 gX2_addBasin_X2_riseOf ⟨Nat.le_of_ble_eq_true rfl, Nat.le_of_ble_eq_true rfl⟩ hl.1 (Nat.le_of_ble_eq_true rfl) dX2_addBasin_44 (fun H locs hP hS => ?_)
    obtain ⟨g10, h⟩ := tl_gd h
    obtain ⟨σ11, eσ11, h⟩ := tl_nm h
    refine tl_ast (pc := 47) C hP hS (tl_aW4 ho g) g10 eσ11 dX2_addBasin_47 (fun H locs hP hS => ?_)
    refine lv_aload_n (pc := 48) hx hb dX2_addBasin_48 rfl (lv_at hl 1 rfl) ?_
    refine tl_gW_8 (pc := 49) C hc2 hP ho lk5 dX2_addBasin_49 ?_
    refine lv_iload (pc := 52) hx hb dX2_addBasin_52 (lv_at hl 0 rfl) ?_
    refine lv_iconst (pc := 54) (v := 0) hx hb dX2_addBasin_54 (by decide) ?_
    obtain ⟨g12, h⟩ := tl_gd h
    obtain ⟨σ13, eσ13, h⟩ := tl_nm h
    refine tl_ast (pc := 55) C hP hS (tl_aW5 ho g) g12 eσ13 dX2_addBasin_55 (fun H locs hP hS => ?_)
    refine lv_aload_n (pc := 56) hx hb dX2_addBasin_56 rfl (lv_at hl 1 rfl) ?_
    refine tl_gW_9 (pc := 57) C hc2 hP ho lk6 dX2_addBasin_57 ?_
    refine lv_iload (pc := 60) hx hb dX2_addBasin_60 (lv_at hl 0 rfl) ?_
    refine lv_iconst (pc := 62) (v := 0) hx hb dX2_addBasin_62 (by decide) ?_
    obtain ⟨g14, h⟩ := tl_gd h
    obtain ⟨σ15, eσ15, h⟩ := tl_nm h
    refine tl_ast (pc := 63) C hP hS (tl_aW6 ho g) g14 eσ15 dX2_addBasin_63 (fun H locs hP hS => ?_)
    refine lv_aload_n (pc := 64) hx hb dX2_addBasin_64 rfl (lv_at hl 1 rfl) ?_
    refine lv_dup (pc := 65) hx hb dX2_addBasin_65 rfl ?_
    refine tl_gW_2 (pc := 66) C hc2 hP ho lk0 dX2_addBasin_66 ?_
    refine lv_iconst (pc := 69) (v := 1) hx hb dX2_addBasin_69 (by decide) ?_
    refine lv_iadd (pc := 70) hx hb dX2_addBasin_70 ?_
    obtain ⟨σ16, eσ16, h⟩ := tl_nm h
    refine tl_sW_2 (pc := 71) C hc2 hP hS ho eσ16 lk0 dX2_addBasin_71 (fun H locs hP hS => ?_)
    exact tl_Rvpw (pc := 74) C h hP hS dX2_addBasin_74
  · replace h := (if_neg c2).symm.trans h
    exact tl_Rvpw (pc := 12) C h hP hS dX2_addBasin_12
theorem caX2_addBasin {p : Program} {l : Launch} {e : Env} {R : Room} {s : State} {m : MethodId} {args : Array Value} {below : List Frame} {meth : Method} {c : Code} {H : Heap} {locs : List Loc} {Q : State → Prop} {cc : ByteArray} {pc : Nat} {ls : Array Slot} {rest : List Value} {g : tl_G} {σ : tl_St} {H0 : Heap} {nL : Nat} {own : String} {ret : Option FieldType} {index : Nat} (C : tl_C p s m meth c cc nL own ret g) {Ts : List Cond} (hts : ∀ w ∈ Ts, w.before args s = true) (hP : va_P g.1 vwCl (tl_W g σ) H) (hS : va_S (tl_A g) H0 H locs) {o : Nat} {a1 : Int32} {a2 : Int32} {a3 : Int32} (ho : tl_isW o) {σo : tl_St} (h : fX2_addBasin σ o a1 a2 a3 = some σo) (hG : GoodIn Ts (wsV own index RX2 yX2_addBasin wsX2_addBasin)) (hR : 1 + 1 ≤ R.frames ∧ 8 + (5 + 11) + 20 ≤ R.locals) (hls : ls.size = nL) (hrm : (rest.map fun v => v.category).sum ≤ 8) (hdg : decode cc pc = .ok (.invokevirtual index, 3)) (kk : ∀ (H1 : Heap) (locs1 : List Loc), va_P g.1 vwCl (tl_W g σo) H1 → va_S (tl_A g) H0 H1 locs1 → W p l e R s m args below meth c H1 locs1 0 0 Q (F0 m (pc + 3) ls (rest))) : W p l e R s m args below meth c H locs 0 0 Q (F0 m pc ls (.int a3 :: .int a2 :: .int a1 :: .ref (tl_ad g o) :: rest)) :=
  tl_gov (tl_callV C hts hP (okX2_addBasin l g C.2.2.2.2.2.2.2 σ o a1 a2 a3 ho σo h) rfl rfl rfl (n := 3) (by decide +kernel) rfl (ci := 2) rfl (tl_kW ho g σ) hG hR hls rfl hrm hdg) hS kk
abbrev rX2_isOut : Room := { frames := 0, cells := 0, slots := 0, locals := 0 }
set_option maxHeartbeats 4000000 in
set_option maxRecDepth 100000 in
theorem okX2_isOut (l : Launch) (g : tl_G) (hI : tl_I g) (σ : tl_St) (o : Nat) (a1 : Int32) (ho : tl_isW o) (ro : Int32) (h : fX2_isOut σ o a1 = ro) : Met l yX2_isOut wsX2_isOut rX2_isOut (va_Pc [.ref (tl_ad g o), .int a1] (tl_Pre g σ)) (tl_Qi g ro σ) 0 0 (tl_A g) := by
  refine tl_enter (cc := cX2_isOut) (maxL := 2) (ret := (some .boolean)) (own := RX2) hI (by decide) rfl rfl (Nat.le_of_ble_eq_true rfl) ?_
  intro p e s m below meth c C hts H locs hP hS ls hl
  have hx := C.1
  have hb := C.2.1
  have hl : lv_has ls 2 [(0, .ref (tl_ad g o)), (1, .int a1)] := hl
  have hc2 : ∀ w ∈ u_ws RX2 TX2 14, w.before [.ref (tl_ad g o), .int a1].toArray s = true := fun w hw => hts w (List.mem_cons_of_mem _ (List.mem_append_right _ hw))
  have lk0 : (Cond.fieldLink RX2 46 "ThriftLock$Water" "outBits" "I").before [.ref (tl_ad g o), .int a1].toArray s = true := hts _ (List.mem_cons_of_mem _ (List.mem_append_left _ (List.mem_of_getElem? (i := 0) rfl)))
  unfold fX2_isOut at h
  refine lv_aload_n (pc := 0) hx hb dX2_isOut_0 rfl (lv_at hl 0 rfl) ?_
  refine tl_gW_3 (pc := 1) C hc2 hP ho lk0 dX2_isOut_1 ?_
  refine lv_iload_n (pc := 4) hx hb dX2_isOut_4 rfl (lv_at hl 1 rfl) ?_
  refine lv_ishr (pc := 5) hx hb dX2_isOut_5 ?_
  refine lv_iconst (pc := 6) (v := 1) hx hb dX2_isOut_6 (by decide) ?_
  refine lv_iand (pc := 7) hx hb dX2_isOut_7 ?_
  refine lv_if_eq (pc := 8) (tgt := 15) hx hb dX2_isOut_8 (by decide) (fun c1 => ?_) (fun c1 => ?_)
  · replace h := (if_pos c1).symm.trans h
    refine lv_iconst (pc := 15) (v := 0) hx hb dX2_isOut_15 (by decide) ?_
    exact tl_Rztr (pc := 16) C h hP hS (Or.inl rfl) dX2_isOut_16
  · replace h := (if_neg c1).symm.trans h
    refine lv_iconst (pc := 11) (v := 1) hx hb dX2_isOut_11 (by decide) ?_
    refine lv_goto (pc := 12) (tgt := 16) hx hb dX2_isOut_12 (by decide) ?_
    exact tl_Rztr (pc := 16) C h hP hS (Or.inr rfl) dX2_isOut_16
theorem caX2_isOut {p : Program} {l : Launch} {e : Env} {R : Room} {s : State} {m : MethodId} {args : Array Value} {below : List Frame} {meth : Method} {c : Code} {H : Heap} {locs : List Loc} {Q : State → Prop} {cc : ByteArray} {pc : Nat} {ls : Array Slot} {rest : List Value} {g : tl_G} {σ : tl_St} {H0 : Heap} {nL : Nat} {own : String} {ret : Option FieldType} {index : Nat} (C : tl_C p s m meth c cc nL own ret g) {Ts : List Cond} (hts : ∀ w ∈ Ts, w.before args s = true) (hP : va_P g.1 vwCl (tl_W g σ) H) (hS : va_S (tl_A g) H0 H locs) {o : Nat} {a1 : Int32} (ho : tl_isW o) {ro : Int32} (h : fX2_isOut σ o a1 = ro) (hG : GoodIn Ts (wsV own index RX2 yX2_isOut wsX2_isOut)) (hR : 0 + 1 ≤ R.frames ∧ 8 + (2 + 11) + 0 ≤ R.locals) (hls : ls.size = nL) (hrm : (rest.map fun v => v.category).sum ≤ 8) (hdg : decode cc pc = .ok (.invokevirtual index, 3)) (kk : ∀ (H1 : Heap) (locs1 : List Loc), va_P g.1 vwCl (tl_W g σ) H1 → va_S (tl_A g) H0 H1 locs1 → W p l e R s m args below meth c H1 locs1 0 0 Q (F0 m (pc + 3) ls (.int ro :: rest))) : W p l e R s m args below meth c H locs 0 0 Q (F0 m pc ls (.int a1 :: .ref (tl_ad g o) :: rest)) :=
  tl_goi (tl_callV C hts hP (okX2_isOut l g C.2.2.2.2.2.2.2 σ o a1 ho ro h) rfl rfl rfl (n := 1) (by decide +kernel) rfl (ci := 2) rfl (tl_kW ho g σ) hG hR hls rfl hrm hdg) hS kk
abbrev rX2_levelHolding : Room := { frames := 0, cells := 0, slots := 0, locals := 0 }
set_option maxHeartbeats 4000000 in
set_option maxRecDepth 100000 in
theorem okX2_levelHolding (l : Launch) (g : tl_G) (hI : tl_I g) (σ : tl_St) (o : Nat) (a1 : Int32) (a2 : Int32) (ho : tl_isW o) (ro : Int32) (h : fX2_levelHolding σ o a1 a2 = some ro) : Met l yX2_levelHolding wsX2_levelHolding rX2_levelHolding (va_Pc [.ref (tl_ad g o), .int a1, .int a2] (tl_Pre g σ)) (tl_Qi g ro σ) 0 0 (tl_A g) := by
  refine tl_enter (cc := cX2_levelHolding) (maxL := 3) (ret := (some .int)) (own := RX2) hI (by decide) rfl rfl (Nat.le_of_ble_eq_true rfl) ?_
  intro p e s m below meth c C hts H locs hP hS ls hl
  have hx := C.1
  have hb := C.2.1
  have hl : lv_has ls 3 [(0, .ref (tl_ad g o)), (1, .int a1), (2, .int a2)] := hl
  have hc2 : ∀ w ∈ u_ws RX2 TX2 14, w.before [.ref (tl_ad g o), .int a1, .int a2].toArray s = true := fun w hw => hts w (List.mem_cons_of_mem _ (List.mem_append_right _ hw))
  have lk0 : (Cond.fieldLink RX2 15 "ThriftLock$Water" "bottom" "[I").before [.ref (tl_ad g o), .int a1, .int a2].toArray s = true := hts _ (List.mem_cons_of_mem _ (List.mem_append_left _ (List.mem_of_getElem? (i := 0) rfl)))
  have lk1 : (Cond.fieldLink RX2 25 "ThriftLock$Water" "rise" "[I").before [.ref (tl_ad g o), .int a1, .int a2].toArray s = true := hts _ (List.mem_cons_of_mem _ (List.mem_append_left _ (List.mem_of_getElem? (i := 1) rfl)))
  unfold fX2_levelHolding at h
  refine lv_bipush (pc := 0) (v := 6) hx hb dX2_levelHolding_0 (by decide) ?_
  refine lv_aload_n (pc := 2) hx hb dX2_levelHolding_2 rfl (lv_at hl 0 rfl) ?_
  refine tl_gW_4 (pc := 3) C hc2 hP ho lk0 dX2_levelHolding_3 ?_
  refine lv_iload_n (pc := 6) hx hb dX2_levelHolding_6 rfl (lv_at hl 1 rfl) ?_
  obtain ⟨g1, h⟩ := tl_gd h
  refine tl_ald (pc := 7) C hP (tl_aW1 ho g) g1 dX2_levelHolding_7 ?_
  refine lv_imul (pc := 8) hx hb dX2_levelHolding_8 ?_
  refine lv_aload_n (pc := 9) hx hb dX2_levelHolding_9 rfl (lv_at hl 0 rfl) ?_
  refine tl_gW_7 (pc := 10) C hc2 hP ho lk1 dX2_levelHolding_10 ?_
  refine lv_iload_n (pc := 13) hx hb dX2_levelHolding_13 rfl (lv_at hl 1 rfl) ?_
  obtain ⟨g2, h⟩ := tl_gd h
  refine tl_ald (pc := 14) C hP (tl_aW4 ho g) g2 dX2_levelHolding_14 ?_
  refine lv_iload_n (pc := 15) hx hb dX2_levelHolding_15 rfl (lv_at hl 2 rfl) ?_
  refine lv_imul (pc := 16) hx hb dX2_levelHolding_16 ?_
  refine lv_iadd (pc := 17) hx hb dX2_levelHolding_17 ?_
  exact tl_Ripr (pc := 18) C h hP hS dX2_levelHolding_18
theorem caX2_levelHolding {p : Program} {l : Launch} {e : Env} {R : Room} {s : State} {m : MethodId} {args : Array Value} {below : List Frame} {meth : Method} {c : Code} {H : Heap} {locs : List Loc} {Q : State → Prop} {cc : ByteArray} {pc : Nat} {ls : Array Slot} {rest : List Value} {g : tl_G} {σ : tl_St} {H0 : Heap} {nL : Nat} {own : String} {ret : Option FieldType} {index : Nat} (C : tl_C p s m meth c cc nL own ret g) {Ts : List Cond} (hts : ∀ w ∈ Ts, w.before args s = true) (hP : va_P g.1 vwCl (tl_W g σ) H) (hS : va_S (tl_A g) H0 H locs) {o : Nat} {a1 : Int32} {a2 : Int32} (ho : tl_isW o) {ro : Int32} (h : fX2_levelHolding σ o a1 a2 = some ro) (hG : GoodIn Ts (wsV own index RX2 yX2_levelHolding wsX2_levelHolding)) (hR : 0 + 1 ≤ R.frames ∧ 8 + (3 + 11) + 0 ≤ R.locals) (hls : ls.size = nL) (hrm : (rest.map fun v => v.category).sum ≤ 8) (hdg : decode cc pc = .ok (.invokevirtual index, 3)) (kk : ∀ (H1 : Heap) (locs1 : List Loc), va_P g.1 vwCl (tl_W g σ) H1 → va_S (tl_A g) H0 H1 locs1 → W p l e R s m args below meth c H1 locs1 0 0 Q (F0 m (pc + 3) ls (.int ro :: rest))) : W p l e R s m args below meth c H locs 0 0 Q (F0 m pc ls (.int a2 :: .int a1 :: .ref (tl_ad g o) :: rest)) :=
  tl_goi (tl_callV C hts hP (okX2_levelHolding l g C.2.2.2.2.2.2.2 σ o a1 a2 ho ro h) rfl rfl rfl (n := 2) (by decide +kernel) rfl (ci := 2) rfl (tl_kW ho g σ) hG hR hls rfl hrm hdg) hS kk
abbrev rX2_heldInAll : Room := { frames := 0, cells := 0, slots := 0, locals := 0 }
set_option maxHeartbeats 4000000 in
set_option maxRecDepth 100000 in
theorem okX2_heldInAll (l : Launch) (g : tl_G) (hI : tl_I g) (σ : tl_St) (o : Nat) (ho : tl_isW o) (ro : Int32) (h : fX2_heldInAll σ o = some ro) : Met l yX2_heldInAll wsX2_heldInAll rX2_heldInAll (va_Pc [.ref (tl_ad g o)] (tl_Pre g σ)) (tl_Qi g ro σ) 0 0 (tl_A g) := by
  refine tl_enter (cc := cX2_heldInAll) (maxL := 3) (ret := (some .int)) (own := RX2) hI (by decide) rfl rfl (Nat.le_of_ble_eq_true rfl) ?_
  intro p e s m below meth c C hts H locs hP hS ls hl
  have hx := C.1
  have hb := C.2.1
  have hl : lv_has ls 3 [(0, .ref (tl_ad g o))] := hl
  have hc2 : ∀ w ∈ u_ws RX2 TX2 14, w.before [.ref (tl_ad g o)].toArray s = true := fun w hw => hts w (List.mem_cons_of_mem _ (List.mem_append_right _ hw))
  have lk0 : (Cond.fieldLink RX2 43 "ThriftLock$Water" "basins" "I").before [.ref (tl_ad g o)].toArray s = true := hts _ (List.mem_cons_of_mem _ (List.mem_append_left _ (List.mem_of_getElem? (i := 0) rfl)))
  have lk1 : (Cond.fieldLink RX2 31 "ThriftLock$Water" "held" "[I").before [.ref (tl_ad g o)].toArray s = true := hts _ (List.mem_cons_of_mem _ (List.mem_append_left _ (List.mem_of_getElem? (i := 1) rfl)))
  unfold fX2_heldInAll at h
  refine lv_iconst (pc := 0) (v := 0) hx hb dX2_heldInAll_0 (by decide) ?_
  refine lv_istore_n (pc := 1) (lv' := [(1, .int 0), (0, .ref (tl_ad g o))]) hx hb dX2_heldInAll_1 rfl hl (by decide) rfl (fun ls hl => ?_)
  refine lv_iconst (pc := 2) (v := 0) hx hb dX2_heldInAll_2 (by decide) ?_
  refine lv_istore_n (pc := 3) (lv' := [(2, .int 0), (1, .int 0), (0, .ref (tl_ad g o))]) hx hb dX2_heldInAll_3 rfl hl (by decide) rfl (fun ls hl => ?_)
  obtain ⟨k2, ek2, h⟩ := tl_j1 h
  have hZ2 : ∀ (x1 : Int32) (H : Heap) (locs : List Loc) (ls : Array Slot), k2 x1 = some ro → va_P g.1 vwCl (tl_W g σ) H → va_S (tl_A g) s.heap H locs → lv_has ls 3 [(1, .int x1)] → W p l e rX2_heldInAll s m [.ref (tl_ad g o)].toArray below meth c H locs 0 0 (MQ below (tl_Qi g ro σ) [.ref (tl_ad g o)].toArray s 0 0 (tl_A g)) (F0 m 27 ls []) := by
    intro x1 H locs ls h hP hS hl
    replace h := (ek2 x1).trans h
    refine lv_iload_n (pc := 27) hx hb dX2_heldInAll_27 rfl (lv_at hl 0 rfl) ?_
    exact tl_Ripr (pc := 28) C h hP hS dX2_heldInAll_28
  have hL4 : ∀ (n : Nat) (x3 : Int32) (x4 : Int32) (H : Heap) (locs : List Loc) (ls : Array Slot), fX2_heldInAll_L4 σ o k2 n x3 x4 = some ro → va_P g.1 vwCl (tl_W g σ) H → va_S (tl_A g) s.heap H locs → lv_has ls 3 [(0, .ref (tl_ad g o)), (1, .int x3), (2, .int x4)] → W p l e rX2_heldInAll s m [.ref (tl_ad g o)].toArray below meth c H locs 0 0 (MQ below (tl_Qi g ro σ) [.ref (tl_ad g o)].toArray s 0 0 (tl_A g)) (F0 m 4 ls []) := by
    intro n
    induction n with
    | zero =>
      intro x3 x4 H locs ls h hP hS hl
      rw [fX2_heldInAll_L4] at h
      cases h
    | succ n ih =>
      intro x3 x4 H locs ls h hP hS hl
      rw [fX2_heldInAll_L4] at h
      refine lv_iload_n (pc := 4) hx hb dX2_heldInAll_4 rfl (lv_at hl 2 rfl) ?_
      refine lv_aload_n (pc := 5) hx hb dX2_heldInAll_5 rfl (lv_at hl 0 rfl) ?_
      refine tl_gW_2 (pc := 6) C hc2 hP ho lk0 dX2_heldInAll_6 ?_
      refine lv_icmp_ge (pc := 9) (tgt := 27) hx hb dX2_heldInAll_9 (by decide) (fun c5 => ?_) (fun c5 => ?_)
      · replace h := (if_pos c5).symm.trans h
        exact hZ2 x3 _ _ _ h hP hS (lv_sub hl [1] rfl)
      · replace h := (if_neg c5).symm.trans h
        refine lv_iload_n (pc := 12) hx hb dX2_heldInAll_12 rfl (lv_at hl 1 rfl) ?_
        refine lv_aload_n (pc := 13) hx hb dX2_heldInAll_13 rfl (lv_at hl 0 rfl) ?_
        refine tl_gW_9 (pc := 14) C hc2 hP ho lk1 dX2_heldInAll_14 ?_
        refine lv_iload_n (pc := 17) hx hb dX2_heldInAll_17 rfl (lv_at hl 2 rfl) ?_
        obtain ⟨g6, h⟩ := tl_gd h
        refine tl_ald (pc := 18) C hP (tl_aW6 ho g) g6 dX2_heldInAll_18 ?_
        refine lv_iadd (pc := 19) hx hb dX2_heldInAll_19 ?_
        obtain ⟨x7, ex7, h⟩ := tl_nm h
        refine tl_ti ex7 ?_
        refine lv_istore_n (pc := 20) (lv' := [(1, .int x7), (0, .ref (tl_ad g o)), (2, .int x4)]) hx hb dX2_heldInAll_20 rfl hl (by decide) rfl (fun ls hl => ?_)
        obtain ⟨x8, ex8, h⟩ := tl_nm h
        refine lv_iinc (pc := 21) (v := x8) (lv' := [(2, .int x8), (1, .int x7), (0, .ref (tl_ad g o))]) hx hb dX2_heldInAll_21 hl (k := 2) rfl ex8 (by decide) rfl (fun ls hl => ?_)
        refine lv_goto (pc := 24) (tgt := 4) hx hb dX2_heldInAll_24 (by decide) ?_
        exact ih x7 x8 _ _ _ h hP hS (lv_sub hl [2, 1, 0] rfl)
  exact hL4 1000 0 0 _ _ _ h hP hS (lv_sub hl [2, 1, 0] rfl)
theorem caX2_heldInAll {p : Program} {l : Launch} {e : Env} {R : Room} {s : State} {m : MethodId} {args : Array Value} {below : List Frame} {meth : Method} {c : Code} {H : Heap} {locs : List Loc} {Q : State → Prop} {cc : ByteArray} {pc : Nat} {ls : Array Slot} {rest : List Value} {g : tl_G} {σ : tl_St} {H0 : Heap} {nL : Nat} {own : String} {ret : Option FieldType} {index : Nat} (C : tl_C p s m meth c cc nL own ret g) {Ts : List Cond} (hts : ∀ w ∈ Ts, w.before args s = true) (hP : va_P g.1 vwCl (tl_W g σ) H) (hS : va_S (tl_A g) H0 H locs) {o : Nat} (ho : tl_isW o) {ro : Int32} (h : fX2_heldInAll σ o = some ro) (hG : GoodIn Ts (wsV own index RX2 yX2_heldInAll wsX2_heldInAll)) (hR : 0 + 1 ≤ R.frames ∧ 8 + (3 + 11) + 0 ≤ R.locals) (hls : ls.size = nL) (hrm : (rest.map fun v => v.category).sum ≤ 8) (hdg : decode cc pc = .ok (.invokevirtual index, 3)) (kk : ∀ (H1 : Heap) (locs1 : List Loc), va_P g.1 vwCl (tl_W g σ) H1 → va_S (tl_A g) H0 H1 locs1 → W p l e R s m args below meth c H1 locs1 0 0 Q (F0 m (pc + 3) ls (.int ro :: rest))) : W p l e R s m args below meth c H locs 0 0 Q (F0 m pc ls (.ref (tl_ad g o) :: rest)) :=
  tl_goi (tl_callV C hts hP (okX2_heldInAll l g C.2.2.2.2.2.2.2 σ o ho ro h) rfl rfl rfl (n := 0) (by decide +kernel) rfl (ci := 2) rfl (tl_kW ho g σ) hG hR hls rfl hrm hdg) hS kk
abbrev rX2_basinToGive : Room := { frames := 1, cells := 0, slots := 0, locals := 22 }
set_option maxHeartbeats 4000000 in
set_option maxRecDepth 100000 in
theorem okX2_basinToGive (l : Launch) (g : tl_G) (hI : tl_I g) (σ : tl_St) (o : Nat) (a1 : Int32) (ho : tl_isW o) (ro : Int32) (h : fX2_basinToGive σ o a1 = some ro) : Met l yX2_basinToGive wsX2_basinToGive rX2_basinToGive (va_Pc [.ref (tl_ad g o), .int a1] (tl_Pre g σ)) (tl_Qi g ro σ) 0 0 (tl_A g) := by
  refine tl_enter (cc := cX2_basinToGive) (maxL := 6) (ret := (some .int)) (own := RX2) hI (by decide) rfl rfl (Nat.le_of_ble_eq_true rfl) ?_
  intro p e s m below meth c C hts H locs hP hS ls hl
  have hx := C.1
  have hb := C.2.1
  have hl : lv_has ls 6 [(0, .ref (tl_ad g o)), (1, .int a1)] := hl
  have hc2 : ∀ w ∈ u_ws RX2 TX2 14, w.before [.ref (tl_ad g o), .int a1].toArray s = true := fun w hw => hts w (List.mem_cons_of_mem _ (List.mem_append_right _ hw))
  have lk0 : (Cond.fieldLink RX2 43 "ThriftLock$Water" "basins" "I").before [.ref (tl_ad g o), .int a1].toArray s = true := hts _ (List.mem_cons_of_mem _ (List.mem_append_left _ (List.mem_of_getElem? (i := 0) rfl)))
  have lk1 : (Cond.fieldLink RX2 31 "ThriftLock$Water" "held" "[I").before [.ref (tl_ad g o), .int a1].toArray s = true := hts _ (List.mem_cons_of_mem _ (List.mem_append_left _ (List.mem_of_getElem? (i := 1) rfl)))
  unfold fX2_basinToGive at h
  refine lv_iconst (pc := 0) (v := (-1)) hx hb dX2_basinToGive_0 (by decide) ?_
  refine lv_istore_n (pc := 1) (lv' := [(2, .int (-1)), (0, .ref (tl_ad g o)), (1, .int a1)]) hx hb dX2_basinToGive_1 rfl hl (by decide) rfl (fun ls hl => ?_)
  refine lv_iconst (pc := 2) (v := 0) hx hb dX2_basinToGive_2 (by decide) ?_
  refine lv_istore_n (pc := 3) (lv' := [(3, .int 0), (2, .int (-1)), (0, .ref (tl_ad g o)), (1, .int a1)]) hx hb dX2_basinToGive_3 rfl hl (by decide) rfl (fun ls hl => ?_)
  refine lv_iconst (pc := 4) (v := 0) hx hb dX2_basinToGive_4 (by decide) ?_
  refine lv_istore (pc := 5) (lv' := [(4, .int 0), (3, .int 0), (2, .int (-1)), (0, .ref (tl_ad g o)), (1, .int a1)]) hx hb dX2_basinToGive_5 hl (by decide) rfl (fun ls hl => ?_)
  obtain ⟨k2, ek2, h⟩ := tl_j1 h
  have hZ2 : ∀ (x1 : Int32) (H : Heap) (locs : List Loc) (ls : Array Slot), k2 x1 = some ro → va_P g.1 vwCl (tl_W g σ) H → va_S (tl_A g) s.heap H locs → lv_has ls 6 [(2, .int x1)] → W p l e rX2_basinToGive s m [.ref (tl_ad g o), .int a1].toArray below meth c H locs 0 0 (MQ below (tl_Qi g ro σ) [.ref (tl_ad g o), .int a1].toArray s 0 0 (tl_A g)) (F0 m 85 ls []) := by
    intro x1 H locs ls h hP hS hl
    replace h := (ek2 x1).trans h
    refine lv_iload_n (pc := 85) hx hb dX2_basinToGive_85 rfl (lv_at hl 0 rfl) ?_
    exact tl_Ripr (pc := 86) C h hP hS dX2_basinToGive_86
  have hL7 : ∀ (n : Nat) (x3 : Int32) (x4 : Int32) (x5 : Int32) (H : Heap) (locs : List Loc) (ls : Array Slot), fX2_basinToGive_L7 σ o a1 k2 n x3 x4 x5 = some ro → va_P g.1 vwCl (tl_W g σ) H → va_S (tl_A g) s.heap H locs → lv_has ls 6 [(0, .ref (tl_ad g o)), (1, .int a1), (2, .int x3), (3, .int x4), (4, .int x5)] → W p l e rX2_basinToGive s m [.ref (tl_ad g o), .int a1].toArray below meth c H locs 0 0 (MQ below (tl_Qi g ro σ) [.ref (tl_ad g o), .int a1].toArray s 0 0 (tl_A g)) (F0 m 7 ls []) := by
    intro n
    induction n with
    | zero =>
      intro x3 x4 x5 H locs ls h hP hS hl
      rw [fX2_basinToGive_L7] at h
      cases h
    | succ n ih =>
      intro x3 x4 x5 H locs ls h hP hS hl
      rw [fX2_basinToGive_L7] at h
      refine lv_iload (pc := 7) hx hb dX2_basinToGive_7 (lv_at hl 4 rfl) ?_
      refine lv_aload_n (pc := 9) hx hb dX2_basinToGive_9 rfl (lv_at hl 0 rfl) ?_
      refine tl_gW_2 (pc := 10) C hc2 hP ho lk0 dX2_basinToGive_10 ?_
      refine lv_icmp_ge (pc := 13) (tgt := 85) hx hb dX2_basinToGive_13 (by decide) (fun c6 => ?_) (fun c6 => ?_)
      · replace h := (if_pos c6).symm.trans h
        exact hZ2 x3 _ _ _ h hP hS (lv_sub hl [2] rfl)
      · replace h := (if_neg c6).symm.trans h
        refine lv_aload_n (pc := 16) hx hb dX2_basinToGive_16 rfl (lv_at hl 0 rfl) ?_
        refine lv_iload (pc := 17) hx hb dX2_basinToGive_17 (lv_at hl 4 rfl) ?_
        obtain ⟨r7, er7, h⟩ := tl_nm h
        refine caX2_isOut (pc := 19) C hts hP hS ho er7 gX2_basinToGive_X2_isOut ⟨Nat.le_of_ble_eq_true rfl, Nat.le_of_ble_eq_true rfl⟩ hl.1 (Nat.le_of_ble_eq_true rfl) dX2_basinToGive_19 (fun H locs hP hS => ?_)
        refine lv_if_ne (pc := 22) (tgt := 79) hx hb dX2_basinToGive_22 (by decide) (fun c8 => ?_) (fun c8 => ?_)
        · replace h := (if_neg c8).symm.trans h
          obtain ⟨x9, ex9, h⟩ := tl_nm h
          refine lv_iinc (pc := 79) (v := x9) (lv' := [(4, .int x9), (0, .ref (tl_ad g o)), (1, .int a1), (2, .int x3), (3, .int x4)]) hx hb dX2_basinToGive_79 hl (k := 4) rfl ex9 (by decide) rfl (fun ls hl => ?_)
          refine lv_goto (pc := 82) (tgt := 7) hx hb dX2_basinToGive_82 (by decide) ?_
          exact ih x3 x4 x9 _ _ _ h hP hS (lv_sub hl [1, 2, 3, 4, 0] rfl)
        · replace h := (if_pos c8).symm.trans h
          refine lv_aload_n (pc := 25) hx hb dX2_basinToGive_25 rfl (lv_at hl 0 rfl) ?_
          refine tl_gW_9 (pc := 26) C hc2 hP ho lk1 dX2_basinToGive_26 ?_
          refine lv_iload (pc := 29) hx hb dX2_basinToGive_29 (lv_at hl 4 rfl) ?_
          obtain ⟨g10, h⟩ := tl_gd h
          refine tl_ald (pc := 31) C hP (tl_aW6 ho g) g10 dX2_basinToGive_31 ?_
          refine lv_iconst (pc := 32) (v := 1) hx hb dX2_basinToGive_32 (by decide) ?_
          refine lv_icmp_ge (pc := 33) (tgt := 39) hx hb dX2_basinToGive_33 (by decide) (fun c11 => ?_) (fun c11 => ?_)
          · replace h := (if_pos c11).symm.trans h
            refine lv_aload_n (pc := 39) hx hb dX2_basinToGive_39 rfl (lv_at hl 0 rfl) ?_
            refine lv_iload (pc := 40) hx hb dX2_basinToGive_40 (lv_at hl 4 rfl) ?_
            refine lv_aload_n (pc := 42) hx hb dX2_basinToGive_42 rfl (lv_at hl 0 rfl) ?_
            refine tl_gW_9 (pc := 43) C hc2 hP ho lk1 dX2_basinToGive_43 ?_
            refine lv_iload (pc := 46) hx hb dX2_basinToGive_46 (lv_at hl 4 rfl) ?_
            obtain ⟨g12, h⟩ := tl_gd h
            refine tl_ald (pc := 48) C hP (tl_aW6 ho g) g12 dX2_basinToGive_48 ?_
            refine lv_iconst (pc := 49) (v := 1) hx hb dX2_basinToGive_49 (by decide) ?_
            refine lv_isub (pc := 50) hx hb dX2_basinToGive_50 ?_
            obtain ⟨r13, er13, h⟩ := tl_o1s h
            refine caX2_levelHolding (pc := 51) C hts hP hS ho er13 gX2_basinToGive_X2_levelHolding ⟨Nat.le_of_ble_eq_true rfl, Nat.le_of_ble_eq_true rfl⟩ hl.1 (Nat.le_of_ble_eq_true rfl) dX2_basinToGive_51 (fun H locs hP hS => ?_)
            refine lv_istore (pc := 54) (lv' := [(5, .int r13), (0, .ref (tl_ad g o)), (1, .int a1), (2, .int x3), (3, .int x4), (4, .int x5)]) hx hb dX2_basinToGive_54 hl (by decide) rfl (fun ls hl => ?_)
            refine lv_iload (pc := 56) hx hb dX2_basinToGive_56 (lv_at hl 0 rfl) ?_
            refine lv_iload_n (pc := 58) hx hb dX2_basinToGive_58 rfl (lv_at hl 2 rfl) ?_
            refine lv_icmp_lt (pc := 59) (tgt := 79) hx hb dX2_basinToGive_59 (by decide) (fun c14 => ?_) (fun c14 => ?_)
            · replace h := (if_pos c14).symm.trans h
              obtain ⟨x15, ex15, h⟩ := tl_nm h
              refine lv_iinc (pc := 79) (v := x15) (lv' := [(4, .int x15), (5, .int r13), (0, .ref (tl_ad g o)), (1, .int a1), (2, .int x3), (3, .int x4)]) hx hb dX2_basinToGive_79 hl (k := 5) rfl ex15 (by decide) rfl (fun ls hl => ?_)
              refine lv_goto (pc := 82) (tgt := 7) hx hb dX2_basinToGive_82 (by decide) ?_
              exact ih x3 x4 x15 _ _ _ h hP hS (lv_sub hl [2, 3, 4, 5, 0] rfl)
            · replace h := (if_neg c14).symm.trans h
              refine lv_iload_n (pc := 62) hx hb dX2_basinToGive_62 rfl (lv_at hl 3 rfl) ?_
              refine lv_iconst (pc := 63) (v := (-1)) hx hb dX2_basinToGive_63 (by decide) ?_
              obtain ⟨k16, ek16, h⟩ := tl_j0 h
              have hJ16 : ∀ (H : Heap) (locs : List Loc) (ls : Array Slot), k16 = some ro → va_P g.1 vwCl (tl_W g σ) H → va_S (tl_A g) s.heap H locs → lv_has ls 6 [(0, .ref (tl_ad g o)), (1, .int a1), (4, .int x5), (5, .int r13)] → W p l e rX2_basinToGive s m [.ref (tl_ad g o), .int a1].toArray below meth c H locs 0 0 (MQ below (tl_Qi g ro σ) [.ref (tl_ad g o), .int a1].toArray s 0 0 (tl_A g)) (F0 m 73 ls []) := by
                intro H locs ls h hP hS hl
                replace h := ek16.trans h
                refine lv_iload (pc := 73) hx hb dX2_basinToGive_73 (lv_at hl 2 rfl) ?_
                refine lv_istore_n (pc := 75) (lv' := [(2, .int x5), (0, .ref (tl_ad g o)), (1, .int a1), (4, .int x5), (5, .int r13)]) hx hb dX2_basinToGive_75 rfl hl (by decide) rfl (fun ls hl => ?_)
                refine lv_iload (pc := 76) hx hb dX2_basinToGive_76 (lv_at hl 4 rfl) ?_
                refine lv_istore_n (pc := 78) (lv' := [(3, .int r13), (2, .int x5), (0, .ref (tl_ad g o)), (1, .int a1), (4, .int x5), (5, .int r13)]) hx hb dX2_basinToGive_78 rfl hl (by decide) rfl (fun ls hl => ?_)
                obtain ⟨x17, ex17, h⟩ := tl_nm h
                refine lv_iinc (pc := 79) (v := x17) (lv' := [(4, .int x17), (3, .int r13), (2, .int x5), (0, .ref (tl_ad g o)), (1, .int a1), (5, .int r13)]) hx hb dX2_basinToGive_79 hl (k := 4) rfl ex17 (by decide) rfl (fun ls hl => ?_)
                refine lv_goto (pc := 82) (tgt := 7) hx hb dX2_basinToGive_82 (by decide) ?_
                exact ih x5 r13 x17 _ _ _ h hP hS (lv_sub hl [3, 4, 2, 1, 0] rfl)
              refine lv_icmp_eq (pc := 64) (tgt := 73) hx hb dX2_basinToGive_64 (by decide) (fun c18 => ?_) (fun c18 => ?_)
              · replace h := (if_pos c18).symm.trans h
                exact hJ16 _ _ _ h hP hS (lv_sub hl [1, 2, 5, 0] rfl)
              · replace h := (if_neg c18).symm.trans h
                refine lv_iload (pc := 67) hx hb dX2_basinToGive_67 (lv_at hl 0 rfl) ?_
                refine lv_iload_n (pc := 69) hx hb dX2_basinToGive_69 rfl (lv_at hl 4 rfl) ?_
                refine lv_icmp_ge (pc := 70) (tgt := 79) hx hb dX2_basinToGive_70 (by decide) (fun c19 => ?_) (fun c19 => ?_)
                · replace h := (if_pos c19).symm.trans h
                  obtain ⟨x20, ex20, h⟩ := tl_nm h
                  refine lv_iinc (pc := 79) (v := x20) (lv' := [(4, .int x20), (5, .int r13), (0, .ref (tl_ad g o)), (1, .int a1), (2, .int x3), (3, .int x4)]) hx hb dX2_basinToGive_79 hl (k := 5) rfl ex20 (by decide) rfl (fun ls hl => ?_)
                  refine lv_goto (pc := 82) (tgt := 7) hx hb dX2_basinToGive_82 (by decide) ?_
                  exact ih x3 x4 x20 _ _ _ h hP hS (lv_sub hl [2, 3, 4, 5, 0] rfl)
                · replace h := (if_neg c19).symm.trans h
                  exact hJ16 _ _ _ h hP hS (lv_sub hl [1, 2, 5, 0] rfl)
          · replace h := (if_neg c11).symm.trans h
            refine lv_goto (pc := 36) (tgt := 79) hx hb dX2_basinToGive_36 (by decide) ?_
            obtain ⟨x21, ex21, h⟩ := tl_nm h
            refine lv_iinc (pc := 79) (v := x21) (lv' := [(4, .int x21), (0, .ref (tl_ad g o)), (1, .int a1), (2, .int x3), (3, .int x4)]) hx hb dX2_basinToGive_79 hl (k := 4) rfl ex21 (by decide) rfl (fun ls hl => ?_)
            refine lv_goto (pc := 82) (tgt := 7) hx hb dX2_basinToGive_82 (by decide) ?_
            exact ih x3 x4 x21 _ _ _ h hP hS (lv_sub hl [1, 2, 3, 4, 0] rfl)
  exact hL7 1000 (-1) 0 0 _ _ _ h hP hS (lv_sub hl [3, 4, 2, 1, 0] rfl)
theorem caX2_basinToGive {p : Program} {l : Launch} {e : Env} {R : Room} {s : State} {m : MethodId} {args : Array Value} {below : List Frame} {meth : Method} {c : Code} {H : Heap} {locs : List Loc} {Q : State → Prop} {cc : ByteArray} {pc : Nat} {ls : Array Slot} {rest : List Value} {g : tl_G} {σ : tl_St} {H0 : Heap} {nL : Nat} {own : String} {ret : Option FieldType} {index : Nat} (C : tl_C p s m meth c cc nL own ret g) {Ts : List Cond} (hts : ∀ w ∈ Ts, w.before args s = true) (hP : va_P g.1 vwCl (tl_W g σ) H) (hS : va_S (tl_A g) H0 H locs) {o : Nat} {a1 : Int32} (ho : tl_isW o) {ro : Int32} (h : fX2_basinToGive σ o a1 = some ro) (hG : GoodIn Ts (wsV own index RX2 yX2_basinToGive wsX2_basinToGive)) (hR : 1 + 1 ≤ R.frames ∧ 8 + (6 + 11) + 22 ≤ R.locals) (hls : ls.size = nL) (hrm : (rest.map fun v => v.category).sum ≤ 8) (hdg : decode cc pc = .ok (.invokevirtual index, 3)) (kk : ∀ (H1 : Heap) (locs1 : List Loc), va_P g.1 vwCl (tl_W g σ) H1 → va_S (tl_A g) H0 H1 locs1 → W p l e R s m args below meth c H1 locs1 0 0 Q (F0 m (pc + 3) ls (.int ro :: rest))) : W p l e R s m args below meth c H locs 0 0 Q (F0 m pc ls (.int a1 :: .ref (tl_ad g o) :: rest)) :=
  tl_goi (tl_callV C hts hP (okX2_basinToGive l g C.2.2.2.2.2.2.2 σ o a1 ho ro h) rfl rfl rfl (n := 1) (by decide +kernel) rfl (ci := 2) rfl (tl_kW ho g σ) hG hR hls rfl hrm hdg) hS kk
abbrev rX2_basinToTake : Room := { frames := 1, cells := 0, slots := 0, locals := 22 }
set_option maxHeartbeats 4000000 in
set_option maxRecDepth 100000 in
theorem okX2_basinToTake (l : Launch) (g : tl_G) (hI : tl_I g) (σ : tl_St) (o : Nat) (a1 : Int32) (ho : tl_isW o) (ro : Int32) (h : fX2_basinToTake σ o a1 = some ro) : Met l yX2_basinToTake wsX2_basinToTake rX2_basinToTake (va_Pc [.ref (tl_ad g o), .int a1] (tl_Pre g σ)) (tl_Qi g ro σ) 0 0 (tl_A g) := by
  refine tl_enter (cc := cX2_basinToTake) (maxL := 6) (ret := (some .int)) (own := RX2) hI (by decide) rfl rfl (Nat.le_of_ble_eq_true rfl) ?_
  intro p e s m below meth c C hts H locs hP hS ls hl
  have hx := C.1
  have hb := C.2.1
  have hl : lv_has ls 6 [(0, .ref (tl_ad g o)), (1, .int a1)] := hl
  have hc2 : ∀ w ∈ u_ws RX2 TX2 14, w.before [.ref (tl_ad g o), .int a1].toArray s = true := fun w hw => hts w (List.mem_cons_of_mem _ (List.mem_append_right _ hw))
  have lk0 : (Cond.fieldLink RX2 43 "ThriftLock$Water" "basins" "I").before [.ref (tl_ad g o), .int a1].toArray s = true := hts _ (List.mem_cons_of_mem _ (List.mem_append_left _ (List.mem_of_getElem? (i := 0) rfl)))
  have lk1 : (Cond.fieldLink RX2 31 "ThriftLock$Water" "held" "[I").before [.ref (tl_ad g o), .int a1].toArray s = true := hts _ (List.mem_cons_of_mem _ (List.mem_append_left _ (List.mem_of_getElem? (i := 1) rfl)))
  have lk2 : (Cond.fieldLink RX2 19 "ThriftLock$Water" "room" "[I").before [.ref (tl_ad g o), .int a1].toArray s = true := hts _ (List.mem_cons_of_mem _ (List.mem_append_left _ (List.mem_of_getElem? (i := 2) rfl)))
  unfold fX2_basinToTake at h
  refine lv_iconst (pc := 0) (v := (-1)) hx hb dX2_basinToTake_0 (by decide) ?_
  refine lv_istore_n (pc := 1) (lv' := [(2, .int (-1)), (0, .ref (tl_ad g o)), (1, .int a1)]) hx hb dX2_basinToTake_1 rfl hl (by decide) rfl (fun ls hl => ?_)
  refine lv_iconst (pc := 2) (v := 0) hx hb dX2_basinToTake_2 (by decide) ?_
  refine lv_istore_n (pc := 3) (lv' := [(3, .int 0), (2, .int (-1)), (0, .ref (tl_ad g o)), (1, .int a1)]) hx hb dX2_basinToTake_3 rfl hl (by decide) rfl (fun ls hl => ?_)
  refine lv_iconst (pc := 4) (v := 0) hx hb dX2_basinToTake_4 (by decide) ?_
  refine lv_istore (pc := 5) (lv' := [(4, .int 0), (3, .int 0), (2, .int (-1)), (0, .ref (tl_ad g o)), (1, .int a1)]) hx hb dX2_basinToTake_5 hl (by decide) rfl (fun ls hl => ?_)
  obtain ⟨k2, ek2, h⟩ := tl_j1 h
  have hZ2 : ∀ (x1 : Int32) (H : Heap) (locs : List Loc) (ls : Array Slot), k2 x1 = some ro → va_P g.1 vwCl (tl_W g σ) H → va_S (tl_A g) s.heap H locs → lv_has ls 6 [(2, .int x1)] → W p l e rX2_basinToTake s m [.ref (tl_ad g o), .int a1].toArray below meth c H locs 0 0 (MQ below (tl_Qi g ro σ) [.ref (tl_ad g o), .int a1].toArray s 0 0 (tl_A g)) (F0 m 91 ls []) := by
    intro x1 H locs ls h hP hS hl
    replace h := (ek2 x1).trans h
    refine lv_iload_n (pc := 91) hx hb dX2_basinToTake_91 rfl (lv_at hl 0 rfl) ?_
    exact tl_Ripr (pc := 92) C h hP hS dX2_basinToTake_92
  have hL7 : ∀ (n : Nat) (x3 : Int32) (x4 : Int32) (x5 : Int32) (H : Heap) (locs : List Loc) (ls : Array Slot), fX2_basinToTake_L7 σ o a1 k2 n x3 x4 x5 = some ro → va_P g.1 vwCl (tl_W g σ) H → va_S (tl_A g) s.heap H locs → lv_has ls 6 [(0, .ref (tl_ad g o)), (1, .int a1), (2, .int x3), (3, .int x4), (4, .int x5)] → W p l e rX2_basinToTake s m [.ref (tl_ad g o), .int a1].toArray below meth c H locs 0 0 (MQ below (tl_Qi g ro σ) [.ref (tl_ad g o), .int a1].toArray s 0 0 (tl_A g)) (F0 m 7 ls []) := by
    intro n
    induction n with
    | zero =>
      intro x3 x4 x5 H locs ls h hP hS hl
      rw [fX2_basinToTake_L7] at h
      cases h
    | succ n ih =>
      intro x3 x4 x5 H locs ls h hP hS hl
      rw [fX2_basinToTake_L7] at h
      refine lv_iload (pc := 7) hx hb dX2_basinToTake_7 (lv_at hl 4 rfl) ?_
      refine lv_aload_n (pc := 9) hx hb dX2_basinToTake_9 rfl (lv_at hl 0 rfl) ?_
      refine tl_gW_2 (pc := 10) C hc2 hP ho lk0 dX2_basinToTake_10 ?_
      refine lv_icmp_ge (pc := 13) (tgt := 91) hx hb dX2_basinToTake_13 (by decide) (fun c6 => ?_) (fun c6 => ?_)
      · replace h := (if_pos c6).symm.trans h
        exact hZ2 x3 _ _ _ h hP hS (lv_sub hl [2] rfl)
      · replace h := (if_neg c6).symm.trans h
        refine lv_aload_n (pc := 16) hx hb dX2_basinToTake_16 rfl (lv_at hl 0 rfl) ?_
        refine lv_iload (pc := 17) hx hb dX2_basinToTake_17 (lv_at hl 4 rfl) ?_
        obtain ⟨r7, er7, h⟩ := tl_nm h
        refine caX2_isOut (pc := 19) C hts hP hS ho er7 gX2_basinToTake_X2_isOut ⟨Nat.le_of_ble_eq_true rfl, Nat.le_of_ble_eq_true rfl⟩ hl.1 (Nat.le_of_ble_eq_true rfl) dX2_basinToTake_19 (fun H locs hP hS => ?_)
        refine lv_if_ne (pc := 22) (tgt := 85) hx hb dX2_basinToTake_22 (by decide) (fun c8 => ?_) (fun c8 => ?_)
        · replace h := (if_neg c8).symm.trans h
          obtain ⟨x9, ex9, h⟩ := tl_nm h
          refine lv_iinc (pc := 85) (v := x9) (lv' := [(4, .int x9), (0, .ref (tl_ad g o)), (1, .int a1), (2, .int x3), (3, .int x4)]) hx hb dX2_basinToTake_85 hl (k := 4) rfl ex9 (by decide) rfl (fun ls hl => ?_)
          refine lv_goto (pc := 88) (tgt := 7) hx hb dX2_basinToTake_88 (by decide) ?_
          exact ih x3 x4 x9 _ _ _ h hP hS (lv_sub hl [1, 2, 3, 4, 0] rfl)
        · replace h := (if_pos c8).symm.trans h
          refine lv_aload_n (pc := 25) hx hb dX2_basinToTake_25 rfl (lv_at hl 0 rfl) ?_
          refine tl_gW_9 (pc := 26) C hc2 hP ho lk1 dX2_basinToTake_26 ?_
          refine lv_iload (pc := 29) hx hb dX2_basinToTake_29 (lv_at hl 4 rfl) ?_
          obtain ⟨g10, h⟩ := tl_gd h
          refine tl_ald (pc := 31) C hP (tl_aW6 ho g) g10 dX2_basinToTake_31 ?_
          refine lv_aload_n (pc := 32) hx hb dX2_basinToTake_32 rfl (lv_at hl 0 rfl) ?_
          refine tl_gW_5 (pc := 33) C hc2 hP ho lk2 dX2_basinToTake_33 ?_
          refine lv_iload (pc := 36) hx hb dX2_basinToTake_36 (lv_at hl 4 rfl) ?_
          obtain ⟨g11, h⟩ := tl_gd h
          refine tl_ald (pc := 38) C hP (tl_aW2 ho g) g11 dX2_basinToTake_38 ?_
          refine lv_icmp_lt (pc := 39) (tgt := 45) hx hb dX2_basinToTake_39 (by decide) (fun c12 => ?_) (fun c12 => ?_)
          · replace h := (if_pos c12).symm.trans h
            refine lv_aload_n (pc := 45) hx hb dX2_basinToTake_45 rfl (lv_at hl 0 rfl) ?_
            refine lv_iload (pc := 46) hx hb dX2_basinToTake_46 (lv_at hl 4 rfl) ?_
            refine lv_aload_n (pc := 48) hx hb dX2_basinToTake_48 rfl (lv_at hl 0 rfl) ?_
            refine tl_gW_9 (pc := 49) C hc2 hP ho lk1 dX2_basinToTake_49 ?_
            refine lv_iload (pc := 52) hx hb dX2_basinToTake_52 (lv_at hl 4 rfl) ?_
            obtain ⟨g13, h⟩ := tl_gd h
            refine tl_ald (pc := 54) C hP (tl_aW6 ho g) g13 dX2_basinToTake_54 ?_
            refine lv_iconst (pc := 55) (v := 1) hx hb dX2_basinToTake_55 (by decide) ?_
            refine lv_iadd (pc := 56) hx hb dX2_basinToTake_56 ?_
            obtain ⟨r14, er14, h⟩ := tl_o1s h
            refine caX2_levelHolding (pc := 57) C hts hP hS ho er14 gX2_basinToTake_X2_levelHolding ⟨Nat.le_of_ble_eq_true rfl, Nat.le_of_ble_eq_true rfl⟩ hl.1 (Nat.le_of_ble_eq_true rfl) dX2_basinToTake_57 (fun H locs hP hS => ?_)
            refine lv_istore (pc := 60) (lv' := [(5, .int r14), (0, .ref (tl_ad g o)), (1, .int a1), (2, .int x3), (3, .int x4), (4, .int x5)]) hx hb dX2_basinToTake_60 hl (by decide) rfl (fun ls hl => ?_)
            refine lv_iload (pc := 62) hx hb dX2_basinToTake_62 (lv_at hl 0 rfl) ?_
            refine lv_iload_n (pc := 64) hx hb dX2_basinToTake_64 rfl (lv_at hl 2 rfl) ?_
            refine lv_icmp_gt (pc := 65) (tgt := 85) hx hb dX2_basinToTake_65 (by decide) (fun c15 => ?_) (fun c15 => ?_)
            · replace h := (if_pos c15).symm.trans h
              obtain ⟨x16, ex16, h⟩ := tl_nm h
              refine lv_iinc (pc := 85) (v := x16) (lv' := [(4, .int x16), (5, .int r14), (0, .ref (tl_ad g o)), (1, .int a1), (2, .int x3), (3, .int x4)]) hx hb dX2_basinToTake_85 hl (k := 5) rfl ex16 (by decide) rfl (fun ls hl => ?_)
              refine lv_goto (pc := 88) (tgt := 7) hx hb dX2_basinToTake_88 (by decide) ?_
              exact ih x3 x4 x16 _ _ _ h hP hS (lv_sub hl [2, 3, 4, 5, 0] rfl)
            · replace h := (if_neg c15).symm.trans h
              refine lv_iload_n (pc := 68) hx hb dX2_basinToTake_68 rfl (lv_at hl 3 rfl) ?_
              refine lv_iconst (pc := 69) (v := (-1)) hx hb dX2_basinToTake_69 (by decide) ?_
              obtain ⟨k17, ek17, h⟩ := tl_j0 h
              have hJ17 : ∀ (H : Heap) (locs : List Loc) (ls : Array Slot), k17 = some ro → va_P g.1 vwCl (tl_W g σ) H → va_S (tl_A g) s.heap H locs → lv_has ls 6 [(0, .ref (tl_ad g o)), (1, .int a1), (4, .int x5), (5, .int r14)] → W p l e rX2_basinToTake s m [.ref (tl_ad g o), .int a1].toArray below meth c H locs 0 0 (MQ below (tl_Qi g ro σ) [.ref (tl_ad g o), .int a1].toArray s 0 0 (tl_A g)) (F0 m 79 ls []) := by
                intro H locs ls h hP hS hl
                replace h := ek17.trans h
                refine lv_iload (pc := 79) hx hb dX2_basinToTake_79 (lv_at hl 2 rfl) ?_
                refine lv_istore_n (pc := 81) (lv' := [(2, .int x5), (0, .ref (tl_ad g o)), (1, .int a1), (4, .int x5), (5, .int r14)]) hx hb dX2_basinToTake_81 rfl hl (by decide) rfl (fun ls hl => ?_)
                refine lv_iload (pc := 82) hx hb dX2_basinToTake_82 (lv_at hl 4 rfl) ?_
                refine lv_istore_n (pc := 84) (lv' := [(3, .int r14), (2, .int x5), (0, .ref (tl_ad g o)), (1, .int a1), (4, .int x5), (5, .int r14)]) hx hb dX2_basinToTake_84 rfl hl (by decide) rfl (fun ls hl => ?_)
                obtain ⟨x18, ex18, h⟩ := tl_nm h
                refine lv_iinc (pc := 85) (v := x18) (lv' := [(4, .int x18), (3, .int r14), (2, .int x5), (0, .ref (tl_ad g o)), (1, .int a1), (5, .int r14)]) hx hb dX2_basinToTake_85 hl (k := 4) rfl ex18 (by decide) rfl (fun ls hl => ?_)
                refine lv_goto (pc := 88) (tgt := 7) hx hb dX2_basinToTake_88 (by decide) ?_
                exact ih x5 r14 x18 _ _ _ h hP hS (lv_sub hl [3, 4, 2, 1, 0] rfl)
              refine lv_icmp_eq (pc := 70) (tgt := 79) hx hb dX2_basinToTake_70 (by decide) (fun c19 => ?_) (fun c19 => ?_)
              · replace h := (if_pos c19).symm.trans h
                exact hJ17 _ _ _ h hP hS (lv_sub hl [1, 2, 5, 0] rfl)
              · replace h := (if_neg c19).symm.trans h
                refine lv_iload (pc := 73) hx hb dX2_basinToTake_73 (lv_at hl 0 rfl) ?_
                refine lv_iload_n (pc := 75) hx hb dX2_basinToTake_75 rfl (lv_at hl 4 rfl) ?_
                refine lv_icmp_le (pc := 76) (tgt := 85) hx hb dX2_basinToTake_76 (by decide) (fun c20 => ?_) (fun c20 => ?_)
                · replace h := (if_pos c20).symm.trans h
                  obtain ⟨x21, ex21, h⟩ := tl_nm h
                  refine lv_iinc (pc := 85) (v := x21) (lv' := [(4, .int x21), (5, .int r14), (0, .ref (tl_ad g o)), (1, .int a1), (2, .int x3), (3, .int x4)]) hx hb dX2_basinToTake_85 hl (k := 5) rfl ex21 (by decide) rfl (fun ls hl => ?_)
                  refine lv_goto (pc := 88) (tgt := 7) hx hb dX2_basinToTake_88 (by decide) ?_
                  exact ih x3 x4 x21 _ _ _ h hP hS (lv_sub hl [2, 3, 4, 5, 0] rfl)
                · replace h := (if_neg c20).symm.trans h
                  exact hJ17 _ _ _ h hP hS (lv_sub hl [1, 2, 5, 0] rfl)
          · replace h := (if_neg c12).symm.trans h
            refine lv_goto (pc := 42) (tgt := 85) hx hb dX2_basinToTake_42 (by decide) ?_
            obtain ⟨x22, ex22, h⟩ := tl_nm h
            refine lv_iinc (pc := 85) (v := x22) (lv' := [(4, .int x22), (0, .ref (tl_ad g o)), (1, .int a1), (2, .int x3), (3, .int x4)]) hx hb dX2_basinToTake_85 hl (k := 4) rfl ex22 (by decide) rfl (fun ls hl => ?_)
            refine lv_goto (pc := 88) (tgt := 7) hx hb dX2_basinToTake_88 (by decide) ?_
            exact ih x3 x4 x22 _ _ _ h hP hS (lv_sub hl [1, 2, 3, 4, 0] rfl)
  exact hL7 1000 (-1) 0 0 _ _ _ h hP hS (lv_sub hl [3, 4, 2, 1, 0] rfl)
theorem caX2_basinToTake {p : Program} {l : Launch} {e : Env} {R : Room} {s : State} {m : MethodId} {args : Array Value} {below : List Frame} {meth : Method} {c : Code} {H : Heap} {locs : List Loc} {Q : State → Prop} {cc : ByteArray} {pc : Nat} {ls : Array Slot} {rest : List Value} {g : tl_G} {σ : tl_St} {H0 : Heap} {nL : Nat} {own : String} {ret : Option FieldType} {index : Nat} (C : tl_C p s m meth c cc nL own ret g) {Ts : List Cond} (hts : ∀ w ∈ Ts, w.before args s = true) (hP : va_P g.1 vwCl (tl_W g σ) H) (hS : va_S (tl_A g) H0 H locs) {o : Nat} {a1 : Int32} (ho : tl_isW o) {ro : Int32} (h : fX2_basinToTake σ o a1 = some ro) (hG : GoodIn Ts (wsV own index RX2 yX2_basinToTake wsX2_basinToTake)) (hR : 1 + 1 ≤ R.frames ∧ 8 + (6 + 11) + 22 ≤ R.locals) (hls : ls.size = nL) (hrm : (rest.map fun v => v.category).sum ≤ 8) (hdg : decode cc pc = .ok (.invokevirtual index, 3)) (kk : ∀ (H1 : Heap) (locs1 : List Loc), va_P g.1 vwCl (tl_W g σ) H1 → va_S (tl_A g) H0 H1 locs1 → W p l e R s m args below meth c H1 locs1 0 0 Q (F0 m (pc + 3) ls (.int ro :: rest))) : W p l e R s m args below meth c H locs 0 0 Q (F0 m pc ls (.int a1 :: .ref (tl_ad g o) :: rest)) :=
  tl_goi (tl_callV C hts hP (okX2_basinToTake l g C.2.2.2.2.2.2.2 σ o a1 ho ro h) rfl rfl rfl (n := 1) (by decide +kernel) rfl (ci := 2) rfl (tl_kW ho g σ) hG hR hls rfl hrm hdg) hS kk
abbrev rX2_loseByLeaks : Room := { frames := 1, cells := 0, slots := 0, locals := 21 }
set_option maxHeartbeats 4000000 in
set_option maxRecDepth 100000 in
theorem okX2_loseByLeaks (l : Launch) (g : tl_G) (hI : tl_I g) (σ : tl_St) (o : Nat) (ho : tl_isW o) (σo : tl_St) (h : fX2_loseByLeaks σ o = some σo) : Met l yX2_loseByLeaks wsX2_loseByLeaks rX2_loseByLeaks (va_Pc [.ref (tl_ad g o)] (tl_Pre g σ)) (tl_Qv g σo) 0 0 (tl_A g) := by
  refine tl_enter (cc := cX2_loseByLeaks) (maxL := 3) (ret := none) (own := RX2) hI (by decide) rfl rfl (Nat.le_of_ble_eq_true rfl) ?_
  intro p e s m below meth c C hts H locs hP hS ls hl
  have hx := C.1
  have hb := C.2.1
  have hl : lv_has ls 3 [(0, .ref (tl_ad g o))] := hl
  have hc2 : ∀ w ∈ u_ws RX2 TX2 14, w.before [.ref (tl_ad g o)].toArray s = true := fun w hw => hts w (List.mem_cons_of_mem _ (List.mem_append_right _ hw))
  have lk0 : (Cond.fieldLink RX2 88 "ThriftLock$Water" "leaked" "I").before [.ref (tl_ad g o)].toArray s = true := hts _ (List.mem_cons_of_mem _ (List.mem_append_left _ (List.mem_of_getElem? (i := 0) rfl)))
  have lk1 : (Cond.fieldLink RX2 43 "ThriftLock$Water" "basins" "I").before [.ref (tl_ad g o)].toArray s = true := hts _ (List.mem_cons_of_mem _ (List.mem_append_left _ (List.mem_of_getElem? (i := 1) rfl)))
  have lk2 : (Cond.fieldLink RX2 28 "ThriftLock$Water" "leaks" "[I").before [.ref (tl_ad g o)].toArray s = true := hts _ (List.mem_cons_of_mem _ (List.mem_append_left _ (List.mem_of_getElem? (i := 2) rfl)))
  have lk3 : (Cond.fieldLink RX2 31 "ThriftLock$Water" "held" "[I").before [.ref (tl_ad g o)].toArray s = true := hts _ (List.mem_cons_of_mem _ (List.mem_append_left _ (List.mem_of_getElem? (i := 3) rfl)))
  have lk4 : (Cond.methodLink RX2 91 Lib.Math.min.name).before [.ref (tl_ad g o)].toArray s = true := hts _ (List.mem_cons_of_mem _ (List.mem_append_left _ (List.mem_of_getElem? (i := 4) rfl)))
  have lk5 : (Cond.static Lib.Math.min.name).before [.ref (tl_ad g o)].toArray s = true := hts _ (List.mem_cons_of_mem _ (List.mem_append_left _ (List.mem_of_getElem? (i := 5) rfl)))
  have lk6 : (Cond.initialized "java/lang/Math").before [.ref (tl_ad g o)].toArray s = true := hts _ (List.mem_cons_of_mem _ (List.mem_append_left _ (List.mem_of_getElem? (i := 6) rfl)))
  have lk7 : (Cond.code Lib.Math.min.name Lib.Math.min.code 2 (some .int)).before [.ref (tl_ad g o)].toArray s = true := hts _ (List.mem_cons_of_mem _ (List.mem_append_left _ (List.mem_of_getElem? (i := 7) rfl)))
  unfold fX2_loseByLeaks at h
  refine lv_aload_n (pc := 0) hx hb dX2_loseByLeaks_0 rfl (lv_at hl 0 rfl) ?_
  refine lv_iconst (pc := 1) (v := 0) hx hb dX2_loseByLeaks_1 (by decide) ?_
  obtain ⟨σ1, eσ1, h⟩ := tl_nm h
  refine tl_sW_13 (pc := 2) C hc2 hP hS ho eσ1 lk0 dX2_loseByLeaks_2 (fun H locs hP hS => ?_)
  refine lv_iconst (pc := 5) (v := 0) hx hb dX2_loseByLeaks_5 (by decide) ?_
  refine lv_istore_n (pc := 6) (lv' := [(1, .int 0), (0, .ref (tl_ad g o))]) hx hb dX2_loseByLeaks_6 rfl hl (by decide) rfl (fun ls hl => ?_)
  obtain ⟨k3, ek3, h⟩ := tl_j1 h
  have hZ3 : ∀ (σ2 : tl_St) (H : Heap) (locs : List Loc) (ls : Array Slot), k3 σ2 = some σo → va_P g.1 vwCl (tl_W g σ2) H → va_S (tl_A g) s.heap H locs → lv_has ls 3 [] → W p l e rX2_loseByLeaks s m [.ref (tl_ad g o)].toArray below meth c H locs 0 0 (MQ below (tl_Qv g σo) [.ref (tl_ad g o)].toArray s 0 0 (tl_A g)) (F0 m 57 ls []) := by
    intro σ2 H locs ls h hP hS hl
    replace h := (ek3 σ2).trans h
    exact tl_Rvpw (pc := 57) C h hP hS dX2_loseByLeaks_57
  have hL7 : ∀ (n : Nat) (σ4 : tl_St) (x5 : Int32) (H : Heap) (locs : List Loc) (ls : Array Slot), fX2_loseByLeaks_L7 o k3 n σ4 x5 = some σo → va_P g.1 vwCl (tl_W g σ4) H → va_S (tl_A g) s.heap H locs → lv_has ls 3 [(0, .ref (tl_ad g o)), (1, .int x5)] → W p l e rX2_loseByLeaks s m [.ref (tl_ad g o)].toArray below meth c H locs 0 0 (MQ below (tl_Qv g σo) [.ref (tl_ad g o)].toArray s 0 0 (tl_A g)) (F0 m 7 ls []) := by
    intro n
    induction n with
    | zero =>
      intro σ4 x5 H locs ls h hP hS hl
      rw [fX2_loseByLeaks_L7] at h
      cases h
    | succ n ih =>
      intro σ4 x5 H locs ls h hP hS hl
      rw [fX2_loseByLeaks_L7] at h
      refine lv_iload_n (pc := 7) hx hb dX2_loseByLeaks_7 rfl (lv_at hl 1 rfl) ?_
      refine lv_aload_n (pc := 8) hx hb dX2_loseByLeaks_8 rfl (lv_at hl 0 rfl) ?_
      refine tl_gW_2 (pc := 9) C hc2 hP ho lk1 dX2_loseByLeaks_9 ?_
      refine lv_icmp_ge (pc := 12) (tgt := 57) hx hb dX2_loseByLeaks_12 (by decide) (fun c6 => ?_) (fun c6 => ?_)
      · replace h := (if_pos c6).symm.trans h
        exact hZ3 σ4 _ _ _ h hP hS (lv_sub hl [] rfl)
      · replace h := (if_neg c6).symm.trans h
        refine lv_aload_n (pc := 15) hx hb dX2_loseByLeaks_15 rfl (lv_at hl 0 rfl) ?_
        refine tl_gW_8 (pc := 16) C hc2 hP ho lk2 dX2_loseByLeaks_16 ?_
        refine lv_iload_n (pc := 19) hx hb dX2_loseByLeaks_19 rfl (lv_at hl 1 rfl) ?_
        obtain ⟨g7, h⟩ := tl_gd h
        refine tl_ald (pc := 20) C hP (tl_aW5 ho g) g7 dX2_loseByLeaks_20 ?_
        refine lv_aload_n (pc := 21) hx hb dX2_loseByLeaks_21 rfl (lv_at hl 0 rfl) ?_
        refine tl_gW_9 (pc := 22) C hc2 hP ho lk3 dX2_loseByLeaks_22 ?_
        refine lv_iload_n (pc := 25) hx hb dX2_loseByLeaks_25 rfl (lv_at hl 1 rfl) ?_
        obtain ⟨g8, h⟩ := tl_gd h
        refine tl_ald (pc := 26) C hP (tl_aW6 ho g) g8 dX2_loseByLeaks_26 ?_
        refine va_mmin hx hb (C.2.2.1.trans hl.1.symm) C.2.2.2.1 lk4 lk5 lk6 lk7 (Nat.le_of_ble_eq_true rfl) (Nat.le_of_ble_eq_true rfl) (Nat.zero_le _) (Nat.zero_le _) (pc := 27) dX2_loseByLeaks_27 ?_
        obtain ⟨x9, ex9, h⟩ := tl_nm h
        refine tl_ti ex9 ?_
        refine lv_istore_n (pc := 30) (lv' := [(2, .int x9), (0, .ref (tl_ad g o)), (1, .int x5)]) hx hb dX2_loseByLeaks_30 rfl hl (by decide) rfl (fun ls hl => ?_)
        refine lv_aload_n (pc := 31) hx hb dX2_loseByLeaks_31 rfl (lv_at hl 1 rfl) ?_
        refine tl_gW_9 (pc := 32) C hc2 hP ho lk3 dX2_loseByLeaks_32 ?_
        refine lv_iload_n (pc := 35) hx hb dX2_loseByLeaks_35 rfl (lv_at hl 2 rfl) ?_
        refine lv_dup2_11 (pc := 36) hx hb dX2_loseByLeaks_36 rfl rfl ?_
        obtain ⟨g10, h⟩ := tl_gd h
        refine tl_ald (pc := 37) C hP (tl_aW6 ho g) g10 dX2_loseByLeaks_37 ?_
        refine lv_iload_n (pc := 38) hx hb dX2_loseByLeaks_38 rfl (lv_at hl 0 rfl) ?_
        refine lv_isub (pc := 39) hx hb dX2_loseByLeaks_39 ?_
        obtain ⟨g11, h⟩ := tl_gd h
        obtain ⟨σ12, eσ12, h⟩ := tl_nm h
        refine tl_ast (pc := 40) C hP hS (tl_aW6 ho g) g11 eσ12 dX2_loseByLeaks_40 (fun H locs hP hS => ?_)
        refine lv_aload_n (pc := 41) hx hb dX2_loseByLeaks_41 rfl (lv_at hl 1 rfl) ?_
        refine lv_dup (pc := 42) hx hb dX2_loseByLeaks_42 rfl ?_
        refine tl_gW_13 (pc := 43) C hc2 hP ho lk0 dX2_loseByLeaks_43 ?_
        refine lv_iload_n (pc := 46) hx hb dX2_loseByLeaks_46 rfl (lv_at hl 0 rfl) ?_
        refine lv_iadd (pc := 47) hx hb dX2_loseByLeaks_47 ?_
        obtain ⟨σ13, eσ13, h⟩ := tl_nm h
        refine tl_sW_13 (pc := 48) C hc2 hP hS ho eσ13 lk0 dX2_loseByLeaks_48 (fun H locs hP hS => ?_)
        obtain ⟨x14, ex14, h⟩ := tl_nm h
        refine lv_iinc (pc := 51) (v := x14) (lv' := [(1, .int x14), (2, .int x9), (0, .ref (tl_ad g o))]) hx hb dX2_loseByLeaks_51 hl (k := 2) rfl ex14 (by decide) rfl (fun ls hl => ?_)
        refine lv_goto (pc := 54) (tgt := 7) hx hb dX2_loseByLeaks_54 (by decide) ?_
        exact ih σ13 x14 _ _ _ h hP hS (lv_sub hl [2, 0] rfl)
  exact hL7 1000 σ1 0 _ _ _ h hP hS (lv_sub hl [1, 0] rfl)
theorem caX2_loseByLeaks {p : Program} {l : Launch} {e : Env} {R : Room} {s : State} {m : MethodId} {args : Array Value} {below : List Frame} {meth : Method} {c : Code} {H : Heap} {locs : List Loc} {Q : State → Prop} {cc : ByteArray} {pc : Nat} {ls : Array Slot} {rest : List Value} {g : tl_G} {σ : tl_St} {H0 : Heap} {nL : Nat} {own : String} {ret : Option FieldType} {index : Nat} (C : tl_C p s m meth c cc nL own ret g) {Ts : List Cond} (hts : ∀ w ∈ Ts, w.before args s = true) (hP : va_P g.1 vwCl (tl_W g σ) H) (hS : va_S (tl_A g) H0 H locs) {o : Nat} (ho : tl_isW o) {σo : tl_St} (h : fX2_loseByLeaks σ o = some σo) (hG : GoodIn Ts (wsV own index RX2 yX2_loseByLeaks wsX2_loseByLeaks)) (hR : 1 + 1 ≤ R.frames ∧ 8 + (3 + 11) + 21 ≤ R.locals) (hls : ls.size = nL) (hrm : (rest.map fun v => v.category).sum ≤ 8) (hdg : decode cc pc = .ok (.invokevirtual index, 3)) (kk : ∀ (H1 : Heap) (locs1 : List Loc), va_P g.1 vwCl (tl_W g σo) H1 → va_S (tl_A g) H0 H1 locs1 → W p l e R s m args below meth c H1 locs1 0 0 Q (F0 m (pc + 3) ls (rest))) : W p l e R s m args below meth c H locs 0 0 Q (F0 m pc ls (.ref (tl_ad g o) :: rest)) :=
  tl_gov (tl_callV C hts hP (okX2_loseByLeaks l g C.2.2.2.2.2.2.2 σ o ho σo h) rfl rfl rfl (n := 0) (by decide +kernel) rfl (ci := 2) rfl (tl_kW ho g σ) hG hR hls rfl hrm hdg) hS kk

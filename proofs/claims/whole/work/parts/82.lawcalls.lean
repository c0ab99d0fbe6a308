section
variable {p : Program} {l : Launch} {e : Env} {R : Room} {s : State} {m : MethodId} {args : Array Value} {below : List Frame} {meth : Method} {c : Code} {H : Heap} {locs : List Loc} {cells slots : Nat} {Q : State → Prop} {cc : ByteArray} {pc : Nat} {ls : Array Slot} {rest : List Value} {g : tl_G} {σ σ1 : tl_St} {H0 : Heap} {nL : Nat} {own : String} {ret : Option FieldType} {index : Nat} {A : Nat → Prop}
theorem lx_callV (C : tl_C p s m meth c cc nL own ret g) {Ts : List Cond} (hts : ∀ w ∈ Ts, w.before args s = true) (hP : va_P g.1 vwCl (tl_W g σ) H) {y : MethodName} {ws ws' : List Cond} {rm : Room} {bytes : ByteArray} {maxL o ci n : Nat} {rt : Option FieldType} {q : vw_C} {fs As st0 : List Value} {Qc : Array Value → State → Outcome → State → Prop}
    (hM : Met l y ws rm (va_Pc (.ref (tl_ad g o) :: As) (tl_Pre g σ)) Qc 0 0 (tl_A g)) (hw : ws = Cond.code y bytes maxL rt :: ws') (hrc : rm.cells = 0) (hrs : rm.slots = 0) (hd : y.cls = q.1 ∧ y.cls ≠ "java/lang/invoke/MethodHandle" ∧ y.cls ≠ "java/lang/invoke/VarHandle" ∧ (parseMethodDescriptor y.desc).map (fun d => d.parameters.length) = some n) (hn : As.length = n) (hc : vwCl[ci]? = some q) (he : (tl_W g σ)[o]? = some (tl_ad g o, .inr (ci, fs)))
    (hG : GoodIn Ts (wsV own index q.1 y ws)) (hR : rm.frames + 1 ≤ R.frames ∧ 8 + (maxL + 11) + rm.locals ≤ R.locals) (hls : ls.size = nL) (hst : st0 = As.reverse ++ .ref (tl_ad g o) :: rest) (hrm : (rest.map fun v => v.category).sum ≤ 8) (hdg : decode cc pc = .ok (.invokevirtual index, 3)) (hcl : cells ≤ R.cells ∧ slots ≤ R.slots) :
    va_Run p l e R s m args below meth c H locs cells slots 0 0 (F0 m pc ls st0) rest (Qc (Value.ref (tl_ad g o) :: As).toArray) (tl_A g) :=
  va_runV (As := As) (rest := rest) (n := n) ⟨C.1, C.2.1, C.2.2.1, C.2.2.2.1, hts⟩ hM (cwV n hts hG hw hrc hrs hd hR) ⟨tl_blind _ g σ, va_recv C.2.2.2.2.2.2.1 hP hc he, fun U hU hW => ⟨rfl, by rw [hU]; exact hP, va_K.moved hW.alike C.2.2.2.2.2.2.1⟩⟩ rfl hn hls hst (lv_room hrm) hdg hcl
theorem lx_goi {st0 : List Value} {a : Array Value} {r : Int32} (hr : va_Run p l e R s m args below meth c H locs cells slots 0 0 (F0 m pc ls st0) rest (tl_Qi g r σ1 a) (tl_A g)) (hA : ∀ q, tl_A g q → A q) (hS : va_S A H0 H locs) (kk : ∀ (H1 : Heap) (locs1 : List Loc), va_P g.1 vwCl (tl_W g σ1) H1 → va_S A H0 H1 locs1 → W p l e R s m args below meth c H1 locs1 cells slots Q (F0 m (pc + 3) ls (.int r :: rest))) : W p l e R s m args below meth c H locs cells slots Q (F0 m pc ls st0) :=
  va_calli hr hS (fun q _ h => hA q h) (fun q h => hA q h) (fun r' _ t H1 locs1 ht _ hp hB _ _ hS1 => by
    subst hp
    rw [ht] at hB
    exact kk H1 locs1 hB hS1)
theorem lx_gol {st0 : List Value} {a : Array Value} {r : Int64} (hr : va_Run p l e R s m args below meth c H locs cells slots 0 0 (F0 m pc ls st0) rest (tl_Ql g r σ1 a) (tl_A g)) (hA : ∀ q, tl_A g q → A q) (hS : va_S A H0 H locs) (kk : ∀ (H1 : Heap) (locs1 : List Loc), va_P g.1 vwCl (tl_W g σ1) H1 → va_S A H0 H1 locs1 → W p l e R s m args below meth c H1 locs1 cells slots Q (F0 m (pc + 3) ls (.long r :: rest))) : W p l e R s m args below meth c H locs cells slots Q (F0 m pc ls st0) :=
  va_calll hr hS (fun q _ h => hA q h) (fun q h => hA q h) (fun r' _ t H1 locs1 ht _ hp hB _ _ hS1 => by
    subst hp
    rw [ht] at hB
    exact kk H1 locs1 hB hS1)
theorem lx_swIn (hx : p.tables.exec = Jvm.exec) (hb : c.code = cc) {dflt lo hi : Int} {offs : Array Int} {len : Nat} {x kv : Int32} {off : Int} {tgt : Nat} (hc : x = kv) (hdg : decode cc pc = .ok (.tableswitch dflt lo hi offs, len)) (h1 : ¬ kv.toInt < lo) (h2 : ¬ hi < kv.toInt) (ho : offs[(kv.toInt - lo).toNat]? = some off) (ht : (pc : Int) + off = (tgt : Int)) (k : W p l e R s m args below meth c H locs cells slots Q (F0 m tgt ls rest)) : W p l e R s m args below meth c H locs cells slots Q (F0 m pc ls (.int x :: rest)) := by
  subst hc
  exact lv_tableIn hx hb hdg h1 h2 ho ht k
end
theorem lx_in {i k L : Nat} {kv : Int32} (hk : kv = nI k) (hi : i + k < L) (hL : L ≤ 3072) : vp_in (nI i + kv) L := by
  subst hk
  rw [nI_add]
  exact vp_in_nI hi (by omega)
theorem lx_cmp (x : Int64) : lg_cmp x x = 0 := by simp [lg_cmp]
theorem lx_more {i L : Nat} (hL : L ≤ 3072) (hi : i ≤ 4000) (h : ¬ (Int32.ofNat L - 6) < nI i) : i + 6 ≤ L := by
  by_cases h6 : 6 ≤ L
  · have e : Int32.ofNat L - 6 = nI (L - 6) := pk_sub (b := 6) h6
    rw [e] at h
    have := (not_congr (sp_lt (a := L - 6) (b := i) (by omega) (by omega))).mp h
    omega
  · exfalso
    apply h
    have h0 : ¬ nI i < 0 := nI_pos (by omega)
    have hneg : Int32.ofNat L - 6 < 0 := by
      rcases (show L = 0 ∨ L = 1 ∨ L = 2 ∨ L = 3 ∨ L = 4 ∨ L = 5 by omega) with rfl | rfl | rfl | rfl | rfl | rfl <;> decide
    exact Int32.lt_of_lt_of_le hneg (Int32.not_lt.mp h0)

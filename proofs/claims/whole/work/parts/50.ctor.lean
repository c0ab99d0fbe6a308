def ct_T (cI cZ cQ cS : ClassId) : List (ClassId × FieldType) := [(cI, .int), (cZ, .boolean), (cQ, .object RX0), (cS, .object RX1)]
def ct_N (U : State) : Prop := va_AO RX0 U ∧ va_AO RX1 U ∧ va_Nw (.methodLinkNest RX3 9 yX2_init RX3) U ∧ va_Nw (.methodLinkNest RX3 35 yX0_init RX3) U ∧ va_Nw (.methodLinkNest RX3 36 yX1_init RX3) U
theorem ct_N.warm {s U : State} (hW : s.WarmedH U.vm) (h : ct_N s) : ct_N U := ⟨va_AO.moved hW.alike h.1, va_AO.moved hW.alike h.2.1, va_Nw.warmM hW h.2.2.1, va_Nw.warmM hW h.2.2.2.1, va_Nw.warmM hW h.2.2.2.2⟩
def ct_Pre (D : va_G) (T : List (ClassId × FieldType)) (ws : va_W) (sz : Nat) : State → Prop := fun U => U.heap.size = sz ∧ va_P D vwCl ws U.heap ∧ va_K D vwCl T U ∧ va_D (fun _ => True) ws ∧ ct_N U
abbrev ct_Q (D : va_G) (j h0 : Nat) (F : (Nat → Nat) → va_W) (A : Nat → Prop) : Array Value → State → Outcome → State → Prop := va_Qv (fun ad : Nat → Nat => ad j = h0) (fun ad t => va_P D vwCl (F ad) t.heap ∧ va_D A (F ad)) A
def ct_C (p : Program) (s : State) (m : MethodId) (meth : Method) (c : Code) (cc : ByteArray) (nL : Nat) (own : String) (D : va_G) (T : List (ClassId × FieldType)) : Prop :=
  p.tables.exec = Jvm.exec ∧ c.code = cc ∧ c.maxLocals = nL ∧ s.vm.findClass own = some m.cls ∧ meth.sig.returnType = none ∧ meth.locks = false ∧ meth.name = "<init>" ∧ va_K D vwCl T s ∧ ct_N s
theorem ct_enter {l : Launch} {y : MethodName} {ws ws' : List Cond} {rm : Room} {cc : ByteArray} {maxL mc ms : Nat} {own : String} {D : va_G} {T : List (ClassId × FieldType)} {W0 : va_W} {sz j h0 : Nat} {F : (Nat → Nat) → va_W}
    (hy : plainName y.cls = true) (hn : y.name = "<init>") (hw : ws = Cond.code y cc maxL none :: ws') (hown : y.cls = own) (hav : 1 ≤ maxL)
    (body : ∀ (p : Program) (e : Env) (s : State) (m : MethodId) (below : List Frame) (meth : Method) (c : Code), ct_C p s m meth c cc maxL own D T → (∀ w ∈ ws, w.before [Value.ref h0].toArray s = true) → ∀ A : Nat → Prop, (∀ q : Nat, s.heap.size ≤ q → A q) → va_P D vwCl W0 s.heap → va_D A W0 → ∀ ls : Array Slot, lv_has ls maxL [(0, .ref h0)] → W p l e rm s m [Value.ref h0].toArray below meth c s.heap [] 0 0 (MQ below (ct_Q D j h0 F A) [Value.ref h0].toArray s mc ms A) (F0 m 0 ls [])) :
    Met l y ws rm (va_Pc [.ref h0] (ct_Pre D T W0 sz)) (ct_Q D j h0 F (va_A W0 sz)) mc ms (va_A W0 sz) := by
  refine Met.ofW (cc := cc) (maxL := maxL) (ret := none) hy hw ?_
  intro p e s m args below meth c s₁ B hml hv
  obtain ⟨rfl, hsz, hP, hK, hD0, hN⟩ := hv
  subst hown
  subst hsz
  have hD := hD0.self (sz := s.heap.size)
  have hin : meth.name = "<init>" := (name_of_methodNamed B.named B.method).1.trans hn
  rw [lg_entry_eq]
  exact body p e s m below meth c ⟨B.exec, B.bytes, hml, findClass_of_methodNamed B.named, B.returns, B.notSynchronized, hin, hK, hN⟩ (atoms_spec (ws := ws) B.pre) _ (fun q h => Or.inr h) hP hD _ (lv_entry [.ref h0] hav)
section
variable {p : Program} {l : Launch} {e : Env} {R : Room} {s : State} {m : MethodId} {args : Array Value} {below : List Frame} {meth : Method} {c : Code} {H H0 : Heap} {locs : List Loc} {cells slots : Nat} {Q : State → Prop} {cc : ByteArray} {pc : Nat} {ls : Array Slot} {rest : List Value} {A : Nat → Prop} {ws : va_W} {D : va_G} {nL : Nat} {own : String} {T : List (ClassId × FieldType)} {cI cZ cQ cS : ClassId}
theorem ct_ret {j h0 : Nat} {F : (Nat → Nat) → va_W} {mc ms : Nat} (C : ct_C p s m meth c cc nL own D T) (ad : Nat → Nat) (hj : ad j = h0) (hP : va_P D vwCl (F ad) H) (hD : va_D A (F ad)) (hS : va_S A s.heap H locs) (hdg : decode cc pc = .ok (.return_, 1)) : W p l e R s m args below meth c H locs mc ms (MQ below (ct_Q D j h0 F A) args s mc ms A) (F0 m pc ls []) :=
  W.vret C.1 C.2.1 C.2.2.2.2.1 (fun t ht hW => ⟨⟨ad, rfl, hj, by show va_P _ _ _ t.heap; rw [ht]; exact hP, hD⟩, hS.F ht⟩) hS.2.2 hdg (hlocks := C.2.2.2.2.2.1)
theorem ct_obj (C : ct_C p s m meth c cc nL own D T) {Ts : List Cond} (hts : ∀ w ∈ Ts, w.before args s = true) {idx a : Nat} (h1 : Cond.methodLink own idx objectInit ∈ Ts) (h2 : Cond.instanceMethod objectInit ∈ Ts) (h3 : Cond.code objectInit ⟨#[0xb1]⟩ 1 none ∈ Ts) (hls : ls.size = nL) (hdg : decode cc pc = .ok (.invokespecial idx, 3)) (hfr : 1 ≤ R.frames) (hlo : 12 ≤ R.locals) (kk : W p l e R s m args below meth c H locs cells slots Q (F0 m (pc + 3) ls [])) : W p l e R s m args below meth c H locs cells slots Q (F0 m pc ls [.ref a]) :=
  W.objInit C.1 C.2.1 C.2.2.2.1 (hts _ h1) (hts _ h2) (hts _ h3) rfl (hls.trans C.2.2.1.symm) rfl hdg hfr hlo kk
theorem ct_new1 {atype : ArrayType} {ty : FieldType} (C : ct_C p s m meth c cc nL own D T) (hA : ∀ q, H0.size ≤ q → A q) (harr : (Cond.arrayClass ty).before args s = true) (hty : newarray.typeOf atype = ty) {cA : ClassId} {t0 : Nat} (ht0 : T[t0]? = some (cA, ty)) (hRA : ∀ cB, va_RA s cB ty → va_RA s cA ty → cB = cA) (hP : va_P D vwCl ws H) (hD : va_D A ws) (hS : va_S A H0 H locs)
    {n : Int32} {N' : Nat} (hdv : defaultValue ty = .int 0) (hn : ¬ n < 0) (hN : n.toNatClampNeg = N') (hbytes : N' * componentBytes ty ≤ 536870912) (hcells : cells + 1 ≤ R.cells) (hslots : slots + N' ≤ R.slots) (hdg : decode cc pc = .ok (.newarray atype, 2))
    (kk : ∀ (q : Nat) (H1 : Heap), va_P D vwCl (ws ++ [(q, .inl (cA, N', .inl (fun _ => 0)))]) H1 → va_D A (ws ++ [(q, .inl (cA, N', .inl (fun _ => 0)))]) → va_S A H0 H1 locs → W p l e R s m args below meth c H1 locs (cells + 1) (slots + N') Q (F0 m (pc + 2) ls (.ref q :: rest))) : W p l e R s m args below meth c H locs cells slots Q (F0 m pc ls (.int n :: rest)) := by
  subst hty
  refine va_newa C.1 C.2.1 harr rfl C.2.2.2.2.2.2.2.1 hP hD hS hA (a0 := (N', .inl (fun _ => 0))) (fun cB => by rw [hdv]; rfl) hn hN hbytes hcells hslots hdg (fun q cB H1 hK1 hP1 hD1 hS1 => ?_)
  have e : cB = cA := hRA cB (hK1.2 T.length (cB, newarray.typeOf atype) (by rw [List.getElem?_append_right (Nat.le_refl _), Nat.sub_self]; rfl)).2 (C.2.2.2.2.2.2.2.1.2 t0 _ ht0).2
  subst e
  exact kk q H1 hP1 hD1 hS1
theorem ct_newi (C : ct_C p s m meth c cc nL own D (ct_T cI cZ cQ cS)) (hA : ∀ q, H0.size ≤ q → A q) {Ts : List Cond} (hts : ∀ w ∈ Ts, w.before args s = true) (harr : Cond.arrayClass .int ∈ Ts) (hP : va_P D vwCl ws H) (hD : va_D A ws) (hS : va_S A H0 H locs)
    {n : Int32} {N' : Nat} (hn : ¬ n < 0) (hN : n.toNatClampNeg = N') (hbytes : N' * componentBytes .int ≤ 536870912) (hcells : cells + 1 ≤ R.cells) (hslots : slots + N' ≤ R.slots) (hdg : decode cc pc = .ok (.newarray .int, 2))
    (kk : ∀ (q : Nat) (H1 : Heap), va_P D vwCl (ws ++ [(q, .inl (cI, N', .inl (fun _ => 0)))]) H1 → va_D A (ws ++ [(q, .inl (cI, N', .inl (fun _ => 0)))]) → va_S A H0 H1 locs → W p l e R s m args below meth c H1 locs (cells + 1) (slots + N') Q (F0 m (pc + 2) ls (.ref q :: rest))) : W p l e R s m args below meth c H locs cells slots Q (F0 m pc ls (.int n :: rest)) :=
  ct_new1 (t0 := 0) C hA (hts _ harr) rfl rfl (fun cB h1 h2 => Option.some.inj (Eq.trans (Eq.symm (show s.vm.findClass _ = some cB from h1)) h2)) hP hD hS rfl hn hN hbytes hcells hslots hdg kk
theorem ct_newz (C : ct_C p s m meth c cc nL own D (ct_T cI cZ cQ cS)) (hA : ∀ q, H0.size ≤ q → A q) {Ts : List Cond} (hts : ∀ w ∈ Ts, w.before args s = true) (harr : Cond.arrayClass .boolean ∈ Ts) (hP : va_P D vwCl ws H) (hD : va_D A ws) (hS : va_S A H0 H locs)
    {n : Int32} {N' : Nat} (hn : ¬ n < 0) (hN : n.toNatClampNeg = N') (hbytes : N' * componentBytes .boolean ≤ 536870912) (hcells : cells + 1 ≤ R.cells) (hslots : slots + N' ≤ R.slots) (hdg : decode cc pc = .ok (.newarray .boolean, 2))
    (kk : ∀ (q : Nat) (H1 : Heap), va_P D vwCl (ws ++ [(q, .inl (cZ, N', .inl (fun _ => 0)))]) H1 → va_D A (ws ++ [(q, .inl (cZ, N', .inl (fun _ => 0)))]) → va_S A H0 H1 locs → W p l e R s m args below meth c H1 locs (cells + 1) (slots + N') Q (F0 m (pc + 2) ls (.ref q :: rest))) : W p l e R s m args below meth c H locs cells slots Q (F0 m pc ls (.int n :: rest)) :=
  ct_new1 (t0 := 1) C hA (hts _ harr) rfl rfl (fun cB h1 h2 => Option.some.inj (Eq.trans (Eq.symm (show s.vm.findClass _ = some cB from h1)) h2)) hP hD hS rfl hn hN hbytes hcells hslots hdg kk
theorem ct_newq (C : ct_C p s m meth c cc nL own D T) (hA : ∀ q, H0.size ≤ q → A q) {Ts : List Cond} (hts : ∀ w ∈ Ts, w.before args s = true) {E : String} {index : Nat} (hcl : Cond.classLink own index E ∈ Ts) (hover : va_AO E s) {cA : ClassId} {t0 : Nat} (ht0 : T[t0]? = some (cA, .object E)) (hP : va_P D vwCl ws H) (hD : va_D A ws) (hS : va_S A H0 H locs)
    {n : Int32} {N' : Nat} (hn : ¬ n < 0) (hN : n.toNatClampNeg = N') (hbytes : N' * 4 ≤ 536870912) (hcells : cells + 1 ≤ R.cells) (hslots : slots + N' ≤ R.slots) (hdg : decode cc pc = .ok (.anewarray index, 3))
    (kk : ∀ (q : Nat) (H1 : Heap), va_P D vwCl (ws ++ [(q, .inl (cA, N', .inr (.inr (.inr (.inr (fun _ => none))))))]) H1 → va_D A (ws ++ [(q, .inl (cA, N', .inr (.inr (.inr (.inr (fun _ => none))))))]) → va_S A H0 H1 locs → W p l e R s m args below meth c H1 locs (cells + 1) (slots + N') Q (F0 m (pc + 3) ls (.ref q :: rest))) : W p l e R s m args below meth c H locs cells slots Q (F0 m pc ls (.int n :: rest)) := by
  refine va_newq C.1 C.2.1 C.2.2.2.1 (hts _ hcl) hover C.2.2.2.2.2.2.2.1 hP hD hS hA hn hN hbytes hcells hslots hdg (fun q cB H1 hK1 hP1 hD1 hS1 => ?_)
  obtain ⟨-, -, -, -, -, h1⟩ := (hK1.2 T.length (cB, .object E) (by rw [List.getElem?_append_right (Nat.le_refl _), Nat.sub_self]; rfl)).2
  obtain ⟨-, -, -, -, -, h2⟩ := (C.2.2.2.2.2.2.2.1.2 t0 _ ht0).2
  have e : cB = cA := Option.some.inj (h1.symm.trans h2)
  subst e
  exact kk q H1 hP1 hD1 hS1
/-- a constructor's call on the cell that was made last -/
theorem ct_call (hexec : p.tables.exec = Jvm.exec) (hb : c.code = cc) (hml : c.maxLocals = nL) (hown : s.vm.findClass own = some m.cls) (hK : va_K D vwCl T s) (hN : ct_N s) {Ts : List Cond} (hts : ∀ w ∈ Ts, w.before args s = true) (hA : ∀ q, H0.size ≤ q → A q)
    {y : MethodName} {wsy : List Cond} {rm : Room} {mc ms j q index : Nat} {e0 : va_E} {F : (Nat → Nat) → va_W}
    (hrun : PreS s H (va_Pc [.ref q] (ct_Pre D T [(q, e0)] H.size)) [.ref q] → va_Run p l e R s m args below meth c H locs cells slots mc ms (F0 m pc ls (.ref q :: rest)) rest (ct_Q D j q F (va_A [(q, e0)] H.size) [Value.ref q].toArray) (va_A [(q, e0)] H.size))
    (hP : va_P D vwCl (ws ++ [(q, e0)]) H) (hD : va_D A (ws ++ [(q, e0)])) (hS : va_S A H0 H locs)
    (kk : ∀ (ad : Nat → Nat) (H1 : Heap) (locs1 : List Loc), ad j = q → va_P D vwCl (ws ++ F ad) H1 → va_D A (ws ++ F ad) → va_S A H0 H1 locs1 → W p l e R s m args below meth c H1 locs1 (cells + mc) (slots + ms) Q (F0 m (pc + 3) ls rest)) : W p l e R s m args below meth c H locs cells slots Q (F0 m pc ls (.ref q :: rest)) := by
  have hlast : (ws ++ [(q, e0)])[ws.length]? = some (q, e0) := by rw [List.getElem?_append_right (Nat.le_refl _), Nat.sub_self]; rfl
  have hin : ∀ (k : Nat) (x : Nat × va_E), ws[k]? = some x → k < ws.length ∧ (ws ++ [(q, e0)])[k]? = some x := fun k x hx => by
    have hk := (List.getElem?_eq_some_iff.mp hx).1
    exact ⟨hk, by rw [List.getElem?_append_left hk]; exact hx⟩
  have hPc : va_P D vwCl [(q, e0)] H := by
    intro k x hx
    have hz : k < 1 := (List.getElem?_eq_some_iff.mp hx).1
    obtain rfl : k = 0 := by omega
    cases hx
    exact hP _ _ hlast
  have hDc : va_D (fun _ => True) [(q, e0)] := by
    refine ⟨fun i k x z hi hk _ => ?_, fun _ _ _ => trivial⟩
    have h1 : i < 1 := (List.getElem?_eq_some_iff.mp hi).1
    have h2 : k < 1 := (List.getElem?_eq_some_iff.mp hk).1
    omega
  have hF : ∀ z, va_A [(q, e0)] H.size z → A z := by
    rintro z (⟨k, x, hx⟩ | h)
    · have hz : k < 1 := (List.getElem?_eq_some_iff.mp hx).1
      obtain rfl : k = 0 := by omega
      cases hx
      exact hD.2 _ _ hlast
    · exact hA z (Nat.le_trans hS.1 h)
  have hap : ∀ (k : Nat) (x : Nat × va_E), ws[k]? = some x → x.1 < H.size ∧ ¬ va_A [(q, e0)] H.size x.1 := by
    intro k x hx
    obtain ⟨hk, hx'⟩ := hin k x hx
    have hlt := (hP k x hx').lt
    refine ⟨hlt, ?_⟩
    rintro (⟨i, z, hz⟩ | h)
    · have hi : i < 1 := (List.getElem?_eq_some_iff.mp hz).1
      obtain rfl : i = 0 := by omega
      have e1 : x.1 = q := by
        have := Option.some.inj hz
        exact (congrArg Prod.fst this).symm
      have := hD.1 k ws.length x (q, e0) hx' hlast e1
      omega
    · exact absurd hlt (Nat.not_lt.mpr h)
  refine va_callv (hrun ⟨fun a U g mk z => ⟨z.1, z.2.1, z.2.2.1, va_K.moved (u := U) (U := U.calling g mk a) (Vm.Alike.refl U.vm) z.2.2.2.1, z.2.2.2.2.1, ?_⟩, fun U hU hW => ⟨rfl, by rw [hU], by rw [hU]; exact hPc, va_K.moved hW.alike hK, hDc, hN.warm hW⟩⟩) hS (fun z _ h => hF z h) hF (fun ad t H1 locs1 ht hvm hp hB hz1 hk1 hS1 => ?_)
  · obtain ⟨n1, n2, n3, n4, n5⟩ := z.2.2.2.2.2
    exact ⟨va_AO.moved (u := U) (U := U.calling g mk a) (Vm.Alike.refl U.vm) n1, va_AO.moved (u := U) (U := U.calling g mk a) (Vm.Alike.refl U.vm) n2, va_Nw.same (u := U) (U := U.calling g mk a) rfl rfl n3, va_Nw.same (u := U) (U := U.calling g mk a) rfl rfl n4, va_Nw.same (u := U) (U := U.calling g mk a) rfl rfl n5⟩
  · obtain ⟨hP1, hD1⟩ := hB
    rw [ht] at hP1
    have hPr : va_P D vwCl ws H := fun k x hx => hP k x (hin k x hx).2
    refine kk ad H1 locs1 hp ((hPr.kept (fun k x hx => hk1 x.1 (hap k x hx).1 (hap k x hx).2)).app hP1) (va_D.app ⟨fun i k x z hi hk e => hD.1 i k x z (hin i x hi).2 (hin k z hk).2 e, fun k x hx => hD.2 k x (hin k x hx).2⟩ (hD1.weaken (fun k x hx ha => hF x.1 ha)) (fun i k x z hi hk e => ?_)) hS1
    exact (hap i x hi).2 (by rw [e]; exact hD1.2 k z hk)
/-- an array of references: what it holds matters only below its length -/
theorem ct_setq {ws : va_W} {k a n : Nat} {cA : ClassId} {f f' : Nat → Option Nat} (h : va_P D vwCl ws H) (hk : ws[k]? = some (a, .inl (cA, n, .inr (.inr (.inr (.inr f)))))) (hf : ∀ j, j < n → f' j = f j) : va_P D vwCl (ws.set k (a, .inl (cA, n, .inr (.inr (.inr (.inr f')))))) H := by
  intro i q hi
  by_cases e : k = i
  · subst e
    have hlt := (List.getElem?_eq_some_iff.mp hk).1
    rw [List.getElem?_set_self hlt] at hi
    cases hi
    have h0 : H[a]? = some (vp_cell cA (n, .inr (.inr (.inr (.inr f))))) := h k _ hk
    show H[a]? = some (vp_cell cA (n, .inr (.inr (.inr (.inr f')))))
    rw [h0, vp_cell_q, vp_cell_q]
    unfold arrV
    congr 2
    congr 1
    funext j
    show va_rf (f j.1) = va_rf (f' j.1)
    rw [hf j.1 j.2]
  · rw [List.getElem?_set_ne e] at hi
    exact h i q hi
end

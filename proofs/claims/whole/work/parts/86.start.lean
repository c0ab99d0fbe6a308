theorem lw_at {w : Cond} {i : Nat} (h : tables_1[i]? = some w) : w ∈ lw_tbl := List.mem_append_right _ (List.mem_of_getElem? h)
set_option maxHeartbeats 4000000 in
set_option maxRecDepth 100000 in
theorem whole_start {p : Program} {e : Env} {s : State} {m : MethodId} {below : List Frame} {meth : Method} {c : Code} (l : Launch) (hflags : l.flags = flags0) {b L : Nat} {xs : Nat → Int32} (hL : L ≤ 3072) (C0 : lw_At p s m meth c b L xs) : W p l e room_1 s m #[Value.ref b] below meth c s.heap [] 0 0 (lw_Z below #[Value.ref b] s) (entryFrame m ([Value.ref b] : List Value).toArray 4) := by
  obtain ⟨hx, hb, hr, hml, hown, hts, hX, hbl, hlocks, hgv⟩ := id C0
  have hA : ∀ q : Nat, s.heap.size ≤ q → (fun q : Nat => s.heap.size ≤ q) q := fun _ h => h
  have hown : s.vm.findClass RL = some m.cls := hown
  obtain ⟨c0, iS0, hKn0⟩ := u_known (C := RX0) (T := TX0) (N := 2) (n := 2) hts inX0 (hts (.instantiable RX0 2) (lw_at (i := 84) (by decide +kernel)))
  obtain ⟨c1, iS1, hKn1⟩ := u_known (C := RX1) (T := TX1) (N := 4) (n := 4) hts inX1 (hts (.instantiable RX1 4) (lw_at (i := 97) (by decide +kernel)))
  obtain ⟨c2, iS2, hKn2⟩ := u_known (C := RX2) (T := TX2) (N := 14) (n := 14) hts inX2 (hts (.instantiable RX2 14) (lw_at (i := 18) (by decide +kernel)))
  obtain ⟨c3, iS3, hKn3⟩ := u_known (C := RX3) (T := TX3) (N := 13) (n := 13) hts inX3 (hts (.instantiable RX3 13) (lw_at (i := 10) (by decide +kernel)))
  obtain ⟨c4, iS4, hKn4⟩ := u_known (C := RX4) (T := TX4) (N := 30) (n := 30) hts inX4 (hts (.instantiable RX4 30) (lw_at (i := 460) (by decide +kernel)))
  obtain ⟨D, hKc⟩ : ∃ D : va_G, ∀ (k : Nat) (q : vw_C), vwCl[k]? = some q → u_Kn s q.1 q.2.1 q.2.2 (D.1 k) (D.2 k) := by
    refine ⟨(fun k => if k = 0 then c0 else if k = 1 then c1 else if k = 2 then c2 else if k = 3 then c3 else c4, fun k => if k = 0 then iS0 else if k = 1 then iS1 else if k = 2 then iS2 else if k = 3 then iS3 else iS4), ?_⟩
    intro k q hq
    match k, hq with
    | 0, hq => cases hq; exact hKn0
    | 1, hq => cases hq; exact hKn1
    | 2, hq => cases hq; exact hKn2
    | 3, hq => cases hq; exact hKn3
    | 4, hq => cases hq; exact hKn4
    | k + 5, hq => simp [vwCl] at hq
  obtain ⟨cI, cZ, cQ, cS, hK⟩ := in_T (D := D) (hts _ (lw_at (i := 79) (by decide +kernel))) (hts _ (lw_at (i := 556) (by decide +kernel))) (hts _ (lw_at (i := 81) (by decide +kernel))) (hts _ (lw_at (i := 83) (by decide +kernel))) ⟨hKc, fun k q h => by simp at h⟩
  have hN : ct_N s := ⟨va_AO.of (hts _ (lw_at (i := 81) (by decide +kernel))), va_AO.of (hts _ (lw_at (i := 83) (by decide +kernel))), va_Nw.of rfl (hts _ (lw_at (i := 19) (by decide +kernel))), va_Nw.of rfl (hts _ (lw_at (i := 85) (by decide +kernel))), va_Nw.of rfl (hts _ (lw_at (i := 98) (by decide +kernel)))⟩
  have htw : ∀ w ∈ wsL_law, w.before #[Value.ref b] s = true := fun w hw => hts w (wsL_law_in w hw)
  have hS : va_S (fun q : Nat => s.heap.size ≤ q) s.heap s.heap [] := va_S.rf
  have hP : va_P D vwCl [] s.heap := fun k q h => by simp at h
  have hD : va_D (fun q : Nat => s.heap.size ≤ q) [] := ⟨fun i j p q h => by simp at h, fun k q h => by simp at h⟩
  have hl := lv_entry ([.ref b]) (n := 4) (Nat.le_of_ble_eq_true rfl)
  rw [lg_entry_eq]
  generalize (lg_sl ([.ref b]) ++ List.replicate (4 - (lg_sl ([.ref b])).length) Slot.unset).toArray = ls at hl ⊢
  have hl : lv_has ls 4 [(0, .ref b)] := hl
  refine va_new (pc := 0) (ci := 3) (fs := [.null, .null, .null, .null, .null, .int 0, .int 0, .int 0, .int 0, .int 0, .int 0, .int 0, .int 0]) (C := RX3) (T := TX3) (N := 13) hx hb hts inX3 tyX3 tyX3_ok hown (hts (.classLink RL 7 RX3) (lw_at (i := 9) (by decide +kernel))) (hts (.instantiable RX3 13) (lw_at (i := 10) (by decide +kernel))) (hts (.initialized RX3) (lw_at (i := 1) (by decide +kernel))) hK hP hD hS hA rfl (fun j hj => by rcases (show j = 0 ∨ j = 1 ∨ j = 2 ∨ j = 3 ∨ j = 4 ∨ j = 5 ∨ j = 6 ∨ j = 7 ∨ j = 8 ∨ j = 9 ∨ j = 10 ∨ j = 11 ∨ j = 12 by omega) with rfl | rfl | rfl | rfl | rfl | rfl | rfl | rfl | rfl | rfl | rfl | rfl | rfl <;> rfl) (Nat.le_of_ble_eq_true rfl) (Nat.le_of_ble_eq_true rfl) dL_law_0 (fun q3 H hP hD hS => ?_)
  refine W.widen (k := 1) (n := 13) (Nat.le_of_ble_eq_true rfl) (Nat.le_of_ble_eq_true rfl) ?_
  refine lv_dup (pc := 3) hx hb dL_law_3 rfl ?_
  refine ct_call (pc := 4) (wsy := wsX3_init) (rm := rX3_init) (y := yX3_init) (index := 9) (ws := []) hx hb hml hown hK hN htw hA (fun pre => va_runI (As := []) (rest := [.ref q3]) (n := 0) ⟨hx, hb, hml, hown, htw⟩ (okX3_init l D cI cZ cQ cS q3 H.size) (cwI 0 htw gL_law_X3_init rfl rfl rfl (hts (.initialized RX3) (lw_at (i := 1) (by decide +kernel))) (hts (.methodLink RL 9 yX3_init) (lw_at (i := 11) (by decide +kernel))) (hts (.instanceMethod yX3_init) (lw_at (i := 12) (by decide +kernel))) rfl (by decide +kernel) ⟨(Nat.le_of_ble_eq_true rfl), (Nat.le_of_ble_eq_true rfl)⟩) pre rfl rfl hl.1 rfl (lv_room (Nat.le_of_ble_eq_true rfl)) dL_law_4 ⟨(Nat.le_of_ble_eq_true rfl), (Nat.le_of_ble_eq_true rfl)⟩) hP hD hS (fun ad3 H9 locs9 eq hP9 hD9 hS9 => ?_)
  subst eq
  clear hP hD hS
  generalize H9 = H at hP9 hS9 ⊢
  have hP := hP9
  have hD := hD9
  have hS := hS9
  clear hP9 hD9 hS9
  have hP : va_P D vwCl (ct_F3 cI cQ cS ad3) H := hP
  have hD : va_D (fun q : Nat => s.heap.size ≤ q) (ct_F3 cI cQ cS ad3) := hD
  refine W.widen (k := 34) (n := 1055) (Nat.le_of_ble_eq_true rfl) (Nat.le_of_ble_eq_true rfl) ?_
  refine lv_astore_n (pc := 7) (lv' := [(1, .ref (ad3 0)), (0, .ref b)]) hx hb dL_law_7 rfl hl (by decide) rfl (fun ls hl => ?_)
  refine va_new (pc := 8) (ci := 4) (fs := [.null, .null, .null, .null, .int 0, .int 0, .int 0, .int 0, .null, .null, .null, .null, .null, .int 0, .int 0, .null, .null, .int 0, .null, .null, .int 0, .int 0, .null, .int 0, .null, .int 0, .int 0, .int 0, .int 0, .int 0]) (C := RX4) (T := TX4) (N := 30) hx hb hts inX4 tyX4 tyX4_ok hown (hts (.classLink RL 10 RX4) (lw_at (i := 459) (by decide +kernel))) (hts (.instantiable RX4 30) (lw_at (i := 460) (by decide +kernel))) (hts (.initialized RX4) (lw_at (i := 5) (by decide +kernel))) hK hP hD hS hA rfl (fun j hj => by rcases (show j = 0 ∨ j = 1 ∨ j = 2 ∨ j = 3 ∨ j = 4 ∨ j = 5 ∨ j = 6 ∨ j = 7 ∨ j = 8 ∨ j = 9 ∨ j = 10 ∨ j = 11 ∨ j = 12 ∨ j = 13 ∨ j = 14 ∨ j = 15 ∨ j = 16 ∨ j = 17 ∨ j = 18 ∨ j = 19 ∨ j = 20 ∨ j = 21 ∨ j = 22 ∨ j = 23 ∨ j = 24 ∨ j = 25 ∨ j = 26 ∨ j = 27 ∨ j = 28 ∨ j = 29 by omega) with rfl | rfl | rfl | rfl | rfl | rfl | rfl | rfl | rfl | rfl | rfl | rfl | rfl | rfl | rfl | rfl | rfl | rfl | rfl | rfl | rfl | rfl | rfl | rfl | rfl | rfl | rfl | rfl | rfl | rfl <;> rfl) (Nat.le_of_ble_eq_true rfl) (Nat.le_of_ble_eq_true rfl) dL_law_8 (fun q4 H hP hD hS => ?_)
  refine W.widen (k := 35) (n := 1085) (Nat.le_of_ble_eq_true rfl) (Nat.le_of_ble_eq_true rfl) ?_
  refine lv_dup (pc := 11) hx hb dL_law_11 rfl ?_
  refine ct_call (pc := 12) (wsy := wsX4_init) (rm := rX4_init) (y := yX4_init) (index := 12) (ws := ct_F3 cI cQ cS ad3) hx hb hml hown hK hN htw hA (fun pre => va_runI (As := []) (rest := [.ref q4]) (n := 0) ⟨hx, hb, hml, hown, htw⟩ (okX4_init l D cI cZ cQ cS q4 H.size) (cwI 0 htw gL_law_X4_init rfl rfl rfl (hts (.initialized RX4) (lw_at (i := 5) (by decide +kernel))) (hts (.methodLink RL 12 yX4_init) (lw_at (i := 461) (by decide +kernel))) (hts (.instanceMethod yX4_init) (lw_at (i := 462) (by decide +kernel))) rfl (by decide +kernel) ⟨(Nat.le_of_ble_eq_true rfl), (Nat.le_of_ble_eq_true rfl)⟩) pre rfl rfl hl.1 rfl (lv_room (Nat.le_of_ble_eq_true rfl)) dL_law_12 ⟨(Nat.le_of_ble_eq_true rfl), (Nat.le_of_ble_eq_true rfl)⟩) hP hD hS (fun ad4 H9 locs9 eq hP9 hD9 hS9 => ?_)
  subst eq
  clear hP hD hS
  generalize H9 = H at hP9 hS9 ⊢
  have hP := hP9
  have hD := hD9
  have hS := hS9
  clear hP9 hD9 hS9
  refine W.widen (k := 50) (n := 2221) (Nat.le_of_ble_eq_true rfl) (Nat.le_of_ble_eq_true rfl) ?_
  refine lv_astore_n (pc := 15) (lv' := [(2, .ref (ad4 34)), (1, .ref (ad3 0)), (0, .ref b)]) hx hb dL_law_15 rfl hl (by decide) rfl (fun ls hl => ?_)
  refine lv_iconst (pc := 16) (v := 0) hx hb dL_law_16 (by decide) ?_
  refine lv_istore_n (pc := 17) (lv' := [(3, .int 0), (2, .ref (ad4 34)), (1, .ref (ad3 0)), (0, .ref b)]) hx hb dL_law_17 rfl hl (by decide) rfl (fun ls hl => ?_)
  have C : tl_C p s m meth c cL_law 4 RL ret (in_g D cI cZ cQ cS ad3 ad4) := ⟨hx, hb, hml, hown, hr, hlocks, hK, in_I hD⟩
  have hl : lv_has ls 4 [(0, .ref b), (1, .ref (tl_ad (in_g D cI cZ cQ cS ad3 ad4) 0)), (2, .ref (tl_ad (in_g D cI cZ cQ cS ad3 ad4) 34)), (3, .int (nI 0))] := lv_sub hl [3, 2, 1, 0] rfl
  exact lx_loop C htw hX hbl (in_A hD) hL (L + 1) 0 in_σ H _ ls (by omega) (by omega) in_R (in_P hP) hS hl

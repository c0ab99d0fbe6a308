/-! DIGEST: what all its readings are, in any state that shows the same -/
def dg_K (σ0 c : tl_St) (he : Nat → Int32) (fl : Bool) (N h u t C : Nat) (σ : tl_St) : Prop := re_P σ c he fl N h u t C ∧ σ 34 17 = σ0 34 17 ∧ σ 44 = σ0 44 ∧ σ 45 = σ0 45 ∧ σ 49 = σ0 49 ∧ (∀ k, 25 < k → k < 30 → σ 34 k = σ0 34 k)
theorem dg_K.X {σ0 c : tl_St} {he : Nat → Int32} {fl : Bool} {N h u t C : Nat} {σ σ' : tl_St} (H : dg_K σ0 c he fl N h u t C σ) (hf : ∀ d, d < 10 ∨ 18 < d → σ' d = σ d) : dg_K σ0 c he fl N h u t C σ' := by
  obtain ⟨a, b, d, e, f, g⟩ := H
  refine ⟨a.X hf, ?_, ?_, ?_, ?_, fun k h1 h2 => ?_⟩
  · rw [hf 34 (by omega)]; exact b
  · rw [hf 44 (by omega)]; exact d
  · rw [hf 45 (by omega)]; exact e
  · rw [hf 49 (by omega)]; exact f
  · rw [hf 34 (by omega)]; exact g k h1 h2
theorem dg_K.M {σ0 c : tl_St} {he : Nat → Int32} {fl : Bool} {N h u t C : Nat} {σ σ' : tl_St} (H : dg_K σ0 c he fl N h u t C σ) (hf : sp_KM σ σ') : dg_K σ0 c he fl N h u t C σ' := by
  obtain ⟨a, b, d, e, f, g⟩ := H
  obtain ⟨f1, f2, f3⟩ := id hf
  refine ⟨a.M hf, ?_, ?_, ?_, ?_, fun k h1 h2 => ?_⟩
  · rw [f3 17 (by decide) (by decide) (by decide)]; exact b
  · rw [f1 44 (by decide) (by decide) (by decide) (by decide) (by decide)]; exact d
  · rw [f1 45 (by decide) (by decide) (by decide) (by decide) (by decide)]; exact e
  · rw [f1 49 (by decide) (by decide) (by decide) (by decide) (by decide)]; exact f
  · rw [f3 k (by omega) (by omega) (by omega)]; exact g k h1 h2
theorem dg_q {σ0 c : tl_St} {he : Nat → Int32} {fl : Bool} {N h u t C : Nat} {σ : tl_St} (H : dg_K σ0 c he fl N h u t C σ) (w : Nat) : re_q σ w C = re_q σ0 w C := re_q.cg H.2.2.1 H.2.2.2.1
theorem dg_count {σ0 c : tl_St} {he : Nat → Int32} {fl : Bool} {N h u t C : Nat} {σ : tl_St} (H0 : re_P σ0 c he fl N h u t C) (H : dg_K σ0 c he fl N h u t C σ) {j : Nat} (hj : j < 8) : fX3_count σ (nI j) = some ((fX4_count σ0 (nI j)).getD 0) ∧ fX4_count σ (nI j) = some ((fX4_count σ0 (nI j)).getD 0) := by
  have key : fX4_count σ (nI j) = fX4_count σ0 (nI j) := by
    obtain ⟨⟨hC, -, -, -, hX, hXf, hM, hMf⟩, Hl, Hb, -⟩ := id H.1
    obtain ⟨⟨-, -, -, -, hX', hXf', hM', hMf'⟩, Hl', Hb', -⟩ := id H0
    have hN := hC.2.2.2.1
    have m0 := bo_many (w := 0) Hb.2.1 Hb.2.2.1
    have m1 := bo_many (w := 1) Hb.2.1 Hb.2.2.1
    have m0' := bo_many (w := 0) Hb'.2.1 Hb.2.2.1
    have m1' := bo_many (w := 1) Hb'.2.1 Hb.2.2.1
    rw [nI_0, dg_q H] at m0
    rw [show nI 1 = 1 from rfl, dg_q H] at m1
    rw [nI_0] at m0'
    rw [show nI 1 = 1 from rfl] at m1'
    have g26 := H.2.2.2.2.2 26 (by omega) (by omega)
    have g27 := H.2.2.2.2.2 27 (by omega) (by omega)
    have n8 : ¬ nI j = 8 := fun e => absurd ((nI_eq (b := 8) (by omega) (by omega)).mp e) (by omega)
    unfold fX4_count fX4_chamberBy
    simp only [m0, m1, m0', m1', re_sumM hN hM, re_sumM hN hM', tl_oe, tl_be, hM.2.1, hM'.2.1, Hl.2.1, Hl'.2.1, hM.1, hM'.1, hMf, hMf', Hb.2.1, Hb'.2.1, g26, g27, if_neg n8]
  obtain ⟨r, z1, z2⟩ := re_countJ H.1 (show j ≤ 8 by omega)
  rw [← key, z2]
  exact ⟨z1, rfl⟩
theorem dg_info {σ0 c : tl_St} {he : Nat → Int32} {fl : Bool} {N h u t C : Nat} {σ : tl_St} (H0 : re_P σ0 c he fl N h u t C) (H : dg_K σ0 c he fl N h u t C σ) {i j : Nat} (hi : i < N) (hj : j < 7) : fX3_info σ (nI i) (nI j) = some ((fX4_infoBy σ0 (nI i) (nI j)).getD 0) ∧ fX4_infoBy σ (nI i) (nI j) = some ((fX4_infoBy σ0 (nI i) (nI j)).getD 0) := by
  obtain ⟨⟨hC, hH, -, -, hX, hXf, hM, hMf⟩, -⟩ := id H.1
  obtain ⟨⟨-, -, -, -, -, -, hM', hMf'⟩, -⟩ := id H0
  have hN := hC.2.2.2.1
  have hin : tl_in (nI i) 4 := sp_in (by omega) (by decide)
  have hcl : (nI i).toNatClampNeg = i := sp_cl (by omega)
  have key : fX4_infoBy σ (nI i) (nI j) = fX4_infoBy σ0 (nI i) (nI j) := by
    obtain ⟨m1, m2, m3, m4, m5⟩ := hM.2.2.2 i hi
    obtain ⟨p1, p2, p3, p4, p5⟩ := hM'.2.2.2 i hi
    unfold fX4_infoBy
    simp only [if_pos hin, hcl, m1, m2, m3, m4, m5, p1, p2, p3, p4, p5, sp_levelOf hC hM hi, sp_levelOf hC hM' hi, hM.2.2.1, hM'.2.2.1]
  obtain ⟨r, z1, z2⟩ := re_infoBy (b := nI j) hC hH hX hM hi (nI_pos (by omega)) (fun q => absurd ((sp_lt (a := 6) (by omega) (by omega)).mp q) (by omega))
  rw [← key, z2]
  exact ⟨z1, rfl⟩
theorem dg_cham {σ0 c : tl_St} {he : Nat → Int32} {fl : Bool} {N h u t C : Nat} {σ : tl_St} (H0 : re_P σ0 c he fl N h u t C) (H : dg_K σ0 c he fl N h u t C σ) {j : Nat} (hj : j < 3) : fX3_chamber σ (nI j) = fX4_chamberBy σ0 (nI j) ∧ fX4_chamberBy σ (nI j) = fX4_chamberBy σ0 (nI j) := by
  obtain ⟨⟨hC, hH, -, -, hX, hXf, hM, hMf⟩, -⟩ := id H.1
  obtain ⟨⟨-, -, -, -, -, -, hM', hMf'⟩, -⟩ := id H0
  have key : fX4_chamberBy σ (nI j) = fX4_chamberBy σ0 (nI j) := by
    unfold fX4_chamberBy
    simp only [tl_be, hM.1, hMf, hM'.1, hMf']
  refine ⟨?_, key⟩
  rw [← key, re_chamber ⟨_, _, _, _, _, _, _, _, H.1⟩]
  unfold fX4_chamber
  rw [tl_be, re_i0_2, if_neg (nI_pos (by omega)), if_neg (show ¬ (2 : Int32) < nI j from fun q => absurd ((sp_lt (a := 2) (b := j) (by omega) (by omega)).mp q) (by omega)), if_neg re_10, tl_be]
def dg_vW (σ0 : tl_St) (C w : Nat) (a : Int32) : Int32 := if a = -1 then nI (re_q σ0 w C).length else bo_at (re_q σ0 w C) a
theorem dg_waits {σ0 c : tl_St} {he : Nat → Int32} {fl : Bool} {N h u t C : Nat} {σ : tl_St} (H : dg_K σ0 c he fl N h u t C σ) {w : Nat} {a : Int32} (hw : w < 2) (h1 : ¬ a < -1) (h2 : a < 16) : fX3_waits σ (nI w) a = some (dg_vW σ0 C w a) ∧ fX4_waitsBy σ (nI w) a = some (dg_vW σ0 C w a) := by
  obtain ⟨-, -, Hb, -⟩ := id H.1
  unfold dg_vW
  rw [← dg_q H w]
  exact ⟨bo_waitsX Hb hw h1 h2, bo_waitsBy Hb.2.1 Hb.2.2.1⟩
theorem dg_nextM {σ0 σ : tl_St} (e6 : σ 34 6 = σ0 34 6) (e14 : σ 34 14 = σ0 34 14) (e17 : σ 34 17 = σ0 34 17) (e44 : σ 44 = σ0 44) (e45 : σ 45 = σ0 45) (a : Int32) : fX4_nextBy σ a = fX4_nextBy σ0 a := by
  have hsd : ∀ x, fX4_isSide σ x = fX4_isSide σ0 x := by
    intro x; unfold fX4_isSide; rw [e6]
  have hL : ∀ (k4 : Int32 → Int32 → Option Int32) (n : Nat) (x8 x9 x10 : Int32), fX4_nextBoat_L11 σ k4 n x8 x9 x10 = fX4_nextBoat_L11 σ0 k4 n x8 x9 x10 := by
    intro k4 n
    induction n with
    | zero => intro x8 x9 x10; rfl
    | succ n ih =>
      intro x8 x9 x10
      rw [fX4_nextBoat_L11, fX4_nextBoat_L11]
      simp only [e44, e45, hsd, ih]
  have hnb : fX4_nextBoat σ = fX4_nextBoat σ0 := by
    unfold fX4_nextBoat
    simp only [e14, e17, tl_be, hL]
  unfold fX4_nextBy
  rw [hnb]
  simp only [e44, hsd]
theorem dg_next {σ0 c : tl_St} {he : Nat → Int32} {fl : Bool} {N h u t C : Nat} {σ : tl_St} (H0 : re_P σ0 c he fl N h u t C) (H : dg_K σ0 c he fl N h u t C σ) {j : Nat} (hj : j < 2) : fX3_next σ (nI j) = some ((fX4_nextBy σ0 (nI j)).getD 0) ∧ fX4_nextBy σ (nI j) = some ((fX4_nextBy σ0 (nI j)).getD 0) := by
  obtain ⟨⟨-, -, -, -, -, -, -, hMf⟩, -, Hb, -⟩ := id H.1
  obtain ⟨⟨-, -, -, -, -, -, -, hMf'⟩, -, Hb', -⟩ := id H0
  have key := dg_nextM (σ := σ) (σ0 := σ0) (by rw [hMf, hMf']) (by rw [Hb.2.1, Hb'.2.1]) H.2.1 H.2.2.1 H.2.2.2.1 (nI j)
  obtain ⟨r, z1, z2⟩ := re_nextJ H.1 (a := nI j) (by
    rcases (show j = 0 ∨ j = 1 by omega) with rfl | rfl
    · exact Or.inl rfl
    · exact Or.inr rfl)
  rw [← key, z2]
  exact ⟨z1, rfl⟩
theorem dg_ledger {σ0 c : tl_St} {he : Nat → Int32} {fl : Bool} {N h u t C : Nat} {σ : tl_St} (H : dg_K σ0 c he fl N h u t C σ) {i j : Nat} (hi : i < t) (hj : j < 9) : fX3_ledger σ (nI i) (nI j) = some (σ0 49 (9 * i + j)) := by
  obtain ⟨l1, l2, l3, l4, -⟩ := id H.1.2.1
  have e1 : nI i * 9 + nI j = nI (9 * i + j) := by
    rw [show (9 : Int32) = nI 9 from rfl, pk_mul, nI_add]; congr 1; omega
  have h9 : nI j < 9 := (sp_lt (a := j) (b := 9) (by omega) (by omega)).mpr (by omega)
  unfold fX3_ledger
  rw [if_neg (nI_pos (by omega)), l1, if_neg (sp_nge rfl hi (by omega)), if_neg (nI_pos (by omega)), if_pos h9]
  simp only [e1, l4, H.2.2.2.2.1]
  rw [if_pos (sp_in (by omega) (by decide)), sp_cl (by omega)]
theorem dg_total {σ0 c : tl_St} {he : Nat → Int32} {fl : Bool} {N h u t C : Nat} {σ : tl_St} (H0 : re_P σ0 c he fl N h u t C) (H : dg_K σ0 c he fl N h u t C σ) {j : Nat} (hj : j < 5) : fX3_total σ (nI j) = some ((fX4_totalBy σ0 (nI j)).getD 0) ∧ fX4_totalBy σ (nI j) = some ((fX4_totalBy σ0 (nI j)).getD 0) := by
  obtain ⟨⟨hC, hH, -, -, hX, hXf, hM, hMf⟩, Hl, -⟩ := id H.1
  obtain ⟨⟨-, -, -, -, -, -, hM', hMf'⟩, -⟩ := id H0
  have hN := hC.2.2.2.1
  have key : fX4_totalBy σ (nI j) = fX4_totalBy σ0 (nI j) := by
    unfold fX4_totalBy
    rw [re_sumM hN hM, re_sumM hN hM', H.2.2.2.2.2 26 (by omega) (by omega), H.2.2.2.2.2 27 (by omega) (by omega), H.2.2.2.2.2 28 (by omega) (by omega), H.2.2.2.2.2 29 (by omega) (by omega)]
  obtain ⟨r, z1, z2⟩ := re_totalBy hN hX hM Hl (show j ≤ 4 by omega)
  rw [← key, z2]
  exact ⟨z1, rfl⟩
/-! the sums -/
def dg_s (f : Nat → Int32) (h : Int64) : Nat → Int64
  | 0 => h
  | i + 1 => 31 * dg_s f h i + (f i).toInt64
theorem dg_fold (σ : tl_St) (a : Int64) (v : Int32) : fX3_fold σ a v = 31 * a + v.toInt64 := rfl
def dg_vC (σ0 : tl_St) (j : Nat) : Int32 := (fX4_count σ0 (nI j)).getD 0
def dg_vI (σ0 : tl_St) (i j : Nat) : Int32 := (fX4_infoBy σ0 (nI i) (nI j)).getD 0
def dg_vN (σ0 : tl_St) (j : Nat) : Int32 := (fX4_nextBy σ0 (nI j)).getD 0
def dg_vT (σ0 : tl_St) (j : Nat) : Int32 := (fX4_totalBy σ0 (nI j)).getD 0
def dg_B (σ0 c : tl_St) (he : Nat → Int32) (fl : Bool) (N h : Nat) (h0 : Int64) : Nat → Int64
  | 0 => h0
  | i + 1 => 31 * (31 * dg_s (dg_vI σ0 i) (dg_B σ0 c he fl N h h0 i) 7 + (sp_bB c N h fl he i).1.toInt64) + (sp_bB c N h fl he i).2.toInt64
def dg_w3 (σ0 : tl_St) (C : Nat) (h0 : Int64) (w : Nat) : Int64 := 31 * (31 * (31 * h0 + (dg_vW σ0 C w (-1)).toInt64) + (dg_vW σ0 C w 0).toInt64) + (dg_vW σ0 C w 3).toInt64
def dg_W (σ0 : tl_St) (C : Nat) (h0 : Int64) : Nat → Int64
  | 0 => h0
  | w + 1 => dg_w3 σ0 C (dg_W σ0 C h0 w) w
def dg_vS (c : tl_St) (fl : Bool) (N h : Nat) (he : Nat → Int32) (j : Nat) : Int32 := if j < h then sp_st c fl N he j else -1
def dg_nd (c : tl_St) (N h : Nat) (fl : Bool) (he : Nat → Int32) (j : Nat) : Int32 := if (sp_bN c N h fl he).1 = -1 then (sp_bN c N h fl he).1 else if nI j = 0 then (sp_bN c N h fl he).1 else (sp_bN c N h fl he).2
def dg_D (σ0 c : tl_St) (he : Nat → Int32) (fl : Bool) (N h t C : Nat) : Int64 :=
  dg_s (dg_nd c N h fl he) (31 * (31 * (31 * dg_s (dg_vS c fl N h he) (31 * dg_s (dg_vT σ0) (dg_s (σ0 49) (dg_s (dg_vN σ0) (dg_W σ0 C (dg_s (fun j => fX4_chamberBy σ0 (nI j)) (dg_B σ0 c he fl N h (dg_s (dg_vC σ0) 17 8) N) 3) 2) 2) (9 * t)) 5 + (c 0 0).toInt64) 41 + (sp_A c N h fl he 1).2.2.toInt64) + (sp_A c N h fl he 2).2.2.toInt64) + (sp_A c N h fl he 10).2.2.toInt64) 2


section RELS3
variable {u : GS} {v : MS}
/-- the sum over the road: the same in both -/
theorem road (hT : RT u v) (y : Int32 × MS) (hy : mT_holding y.2 = mT_holding v) (k : Int32 → Option (Int32 × MS)) : ∃ x : Int32, g_X8_countOnRoad u = some x ∧ lp_X10_vehicles_27 y k FU 0 0 = k x := by
  obtain ⟨n, s', t', ⟨x, rfl, rfl⟩, h1, h2⟩ := lpR (fun n (s : Int32 × Int32) => lp_X8_countOnRoad_4 u (fun x => some x) n s.1 s.2) (fun n (s : Int32 × Int32) => lp_X10_vehicles_27 y k n s.1 s.2) 48 (by decide) (fun i s t => ∃ x : Int32, s = (x, nI i) ∧ t = (x, nI i)) (by
    rintro n i s t hi ⟨x, rfl, rfl⟩
    refine ⟨(x + cT_held u i, nI (i + 1)), (x + cT_held u i, nI (i + 1)), ⟨_, rfl, rfl⟩, ?_, ?_⟩
    · show lp_X8_countOnRoad_4 u _ (n + 1) x (nI i) = lp_X8_countOnRoad_4 u _ n _ _
      simp only [lp_X8_countOnRoad_4, c_ge 48 48 hi (by decide), if_false, pz_inN hi (by decide), pz_let, cl_I (show i < 2 ^ 31 by omega), nI_1]
    · show lp_X10_vehicles_27 y k (n + 1) x (nI i) = lp_X10_vehicles_27 y k n _ _
      simp only [lp_X10_vehicles_27, c_ge 48 48 hi (by decide), if_false, pz_inN hi (by decide), pz_let, cl_I (show i < 2 ^ 31 by omega), nI_1, hy, hT.held]) (0, 0) (0, 0) ⟨0, rfl, rfl⟩
  refine ⟨x, h1.trans ?_, h2.trans ?_⟩
  · show lp_X8_countOnRoad_4 u _ (n + 1) x (nI 48) = _
    simp only [lp_X8_countOnRoad_4, c_le 48 48 (by decide), if_true]
  · show lp_X10_vehicles_27 y k (n + 1) x (nI 48) = _
    simp only [lp_X10_vehicles_27, c_le 48 48 (by decide), if_true]
theorem sim_vehicles (h : Rel u v) (p : Int32) : SI Rel (g_X9_vehicles u p) (g_X10_vehicles v p) [("java/lang/IllegalArgumentException", 1)] := by
  obtain ⟨hM, hT, hD, hS, hO, hH, hI, hP, hB, hK⟩ := id h
  rcases iwc p 0 3 with ⟨-, -, e1, e2⟩ | ⟨-, e1, e2⟩
  · obtain ⟨x, x1, x2⟩ := road hT (1, m_thrown_set v 0) rfl (fun x2_27 => if p = 0 then some ((mT_came (m_thrown_set v 0)), m_thrown_set v 0) else if p = (1 : Int32) then some (x2_27, m_thrown_set v 0) else if p = (2 : Int32) then some ((mT_waiting (m_thrown_set v 0)), m_thrown_set v 0) else some ((mT_gone (m_thrown_set v 0)), m_thrown_set v 0))
    have m1 : g_X10_vehicles v p = if p = 0 then some ((mT_came (m_thrown_set v 0)), m_thrown_set v 0) else if p = (1 : Int32) then some (x, m_thrown_set v 0) else if p = (2 : Int32) then some ((mT_waiting (m_thrown_set v 0)), m_thrown_set v 0) else some ((mT_gone (m_thrown_set v 0)), m_thrown_set v 0) := by
      simp only [g_X10_vehicles, e2, pz_bind, pz_let, z10, if_false, pz_h0]
      exact x2
    by_cases p0 : p = 0
    · rw [if_pos p0] at m1
      refine SI_ok (u' := u) _ ?_ m1 rfl h
      simp only [g_X9_vehicles, e1, pz_bind, pz_na1, pz_xl, eq_true p0, if_true]
      rw [← hT.came] <;> rfl
    · by_cases p1 : p = 1
      · rw [if_neg p0, if_pos p1] at m1
        refine SI_ok (u' := u) _ ?_ m1 rfl h
        simp only [g_X9_vehicles, e1, pz_bind, pz_na1, pz_xl, eq_false p0, eq_true p1, x1, if_true, if_false]
      · by_cases p2 : p = 2
        · rw [if_neg p0, if_neg p1, if_pos p2] at m1
          refine SI_ok (u' := u) _ ?_ m1 rfl h
          simp only [g_X9_vehicles, e1, pz_bind, pz_na1, pz_xl, eq_false p0, eq_false p1, eq_true p2, if_true, if_false]
          rw [← hT.waiting] <;> rfl
        · rw [if_neg p0, if_neg p1, if_neg p2] at m1
          refine SI_ok (u' := u) _ ?_ m1 rfl h
          simp only [g_X9_vehicles, e1, pz_bind, pz_na1, pz_xl, eq_false p0, eq_false p1, eq_false p2, if_false]
          rw [← hT.gone] <;> rfl
  · exact SI_no "java/lang/IllegalArgumentException" 1 0 (v' := m_thrown_set v 1) es1 (by simp only [g_X9_vehicles, e1, pz_bind, pz_na, pz_xr, id]) (by simp only [g_X10_vehicles, e2, pz_bind, pz_let, z00, if_true, pz_h1]) rfl h
/-- the most that a lane of a section holds -/
theorem most (hT : RT u v) {s : Nat} (hs : s < 12) : ∃ m : Nat, m ≤ 20 ∧ g_X8_mostIn u (nI s) = some (nI m) ∧ g_X10_mostOf v (nI s) = some (nI m) := by
  obtain ⟨n, s', t', ⟨m, hm, rfl, rfl⟩, h1, h2⟩ := lpR (fun n (z : Int32 × Int32) => lp_X8_mostIn_16 u (nI s) (fun x => some x) n z.1 z.2) (fun n (z : Int32 × Int32) => lp_X10_mostOf_4 v (nI s) (fun x => some x) n z.1 z.2) 4 (by decide) (fun i z t => ∃ m : Nat, m ≤ 20 ∧ z = (nI m, nI i) ∧ t = (nI m, nI i)) (by
    rintro n i z t hi ⟨m, hm, rfl, rfl⟩
    obtain ⟨x, hx, ex⟩ := hT.2 (4 * s + i) (by omega)
    by_cases hc : x ≤ m
    · refine ⟨(nI m, nI (i + 1)), (nI m, nI (i + 1)), ⟨m, hm, rfl, rfl⟩, ?_, ?_⟩
      · show lp_X8_mostIn_16 u _ _ (n + 1) (nI m) (nI i) = lp_X8_mostIn_16 u _ _ n _ _
        simp only [lp_X8_mostIn_16, c_ge 4 4 hi (by decide), if_false, cpl, pz_inN (show 4 * s + i < 48 by omega) (show 48 < 2 ^ 31 by decide), pz_let, cl_I (show 4 * s + i < 2 ^ 31 by omega), ex, eq_true (nI_le hc (by omega)), if_true, nI_1]
      · show lp_X10_mostOf_4 v _ _ (n + 1) (nI m) (nI i) = lp_X10_mostOf_4 v _ _ n _ _
        simp only [lp_X10_mostOf_4, c_ge 4 4 hi (by decide), if_false, mpl, pz_inN (show 4 * s + i < 48 by omega) (show 48 < 2 ^ 31 by decide), pz_let, cl_I (show 4 * s + i < 2 ^ 31 by omega), hT.held, ex, eq_true (nI_le hc (by omega)), if_true, nI_1]
    · refine ⟨(nI x, nI (i + 1)), (nI x, nI (i + 1)), ⟨x, hx, rfl, rfl⟩, ?_, ?_⟩
      · show lp_X8_mostIn_16 u _ _ (n + 1) (nI m) (nI i) = lp_X8_mostIn_16 u _ _ n _ _
        simp only [lp_X8_mostIn_16, c_ge 4 4 hi (by decide), if_false, cpl, pz_inN (show 4 * s + i < 48 by omega) (show 48 < 2 ^ 31 by decide), pz_let, cl_I (show 4 * s + i < 2 ^ 31 by omega), ex, eq_false (nI_ge (Nat.lt_of_not_le hc) (by omega)), nI_1]
      · show lp_X10_mostOf_4 v _ _ (n + 1) (nI m) (nI i) = lp_X10_mostOf_4 v _ _ n _ _
        simp only [lp_X10_mostOf_4, c_ge 4 4 hi (by decide), if_false, mpl, pz_inN (show 4 * s + i < 48 by omega) (show 48 < 2 ^ 31 by decide), pz_let, cl_I (show 4 * s + i < 2 ^ 31 by omega), hT.held, ex, eq_false (nI_ge (Nat.lt_of_not_le hc) (by omega)), nI_1]) (0, 0) (0, 0) ⟨0, by omega, rfl, rfl⟩
  refine ⟨m, hm, ?_, ?_⟩
  · rw [g_X8_mostIn, if_neg (nI_pos (by omega)), if_pos (show nI s < (12 : Int32) from nI_lt (b := 12) hs (by decide))]
    refine h1.trans ?_
    show lp_X8_mostIn_16 u _ _ (n + 1) (nI m) (nI 4) = _
    simp only [lp_X8_mostIn_16, c_le 4 4 (by decide), if_true]
  · refine h2.trans ?_
    show lp_X10_mostOf_4 v _ _ (n + 1) (nI m) (nI 4) = _
    simp only [lp_X10_mostOf_4, c_le 4 4 (by decide), if_true]
theorem speed (hT : RT u v) {s : Nat} (hs : s < 12) : ∃ x : Nat, 20 ≤ x ∧ x ≤ 120 ∧ g_X8_speedAt u (nI s) = some (nI x) ∧ g_X10_speedOf v (nI s) = some (nI x) := by
  obtain ⟨m, hm, e1, e2⟩ := most hT hs
  have e : (120 : Int32) - (5 : Int32) * nI m = nI (120 - 5 * m) := by
    rw [show (120 : Int32) = nI 120 from rfl, show (5 : Int32) = nI 5 from rfl, pk_mul, pk_sub (by omega)]
  refine ⟨120 - 5 * m, by omega, by omega, ?_, ?_⟩
  · simp only [g_X8_speedAt, e1, pz_bind, e]
  · simp only [g_X10_speedOf, e2, pz_bind, e]
theorem eqm1 {i s : Nat} (hi : i < 2 ^ 31) (hs : s < 2 ^ 31) : (nI i = nI s - 1) = (i + 1 = s) := by
  cases s with
  | zero => exact propext ⟨fun e => absurd (show nI i = -1 from e) (nm1 i hi), fun e => by omega⟩
  | succ n =>
    rw [nI_pred]
    exact propext ((nI_eq hi (by omega)).trans (by omega))
theorem eqp1 {i s : Nat} (hi : i < 2 ^ 31) (hs : s + 1 < 2 ^ 31) : (nI i = nI s + 1) = (i = s + 1) := by
  rw [nI_1]
  exact propext (nI_eq hi hs)
/-- what a good neighbour adds -/
def nb (b : Bool) (x : Nat) : Nat := if b then x else 0
theorem guess_c (hT : RT u v) {s : Nat} (hs : s < 12) (b1 b2 : Bool) (x1 x2 : Nat) (hb1 : b1 = true ↔ 1 ≤ s ∧ cD_is u (s - 1) = 0) (hb2 : b2 = true ↔ s + 1 < 12 ∧ cD_is u (s + 1) = 0) (h1 : 1 ≤ s → g_X8_speedAt u (nI (s - 1)) = some (nI x1)) (h2 : s + 1 < 12 → g_X8_speedAt u (nI (s + 1)) = some (nI x2)) :
    g_X1_guessAt u (nI s) = if nI (nb b1 1 + nb b2 1) = 0 then some (-1 : Int32) else g_nz (nI (nb b1 1 + nb b2 1)) (some (nI (nb b1 x1 + nb b2 x2) / nI (nb b1 1 + nb b2 1))) := by
  obtain ⟨n, s', ⟨h3, rfl⟩, h4⟩ := lpF (fun n (z : Int32 × Int32 × Int32) => lp_X1_guessAt_8 u (nI s) (fun (x3_8 : Int32) (x4_8 : Int32) => if x4_8 = 0 then some (-1 : Int32) else g_nz x4_8 (some (x3_8 / x4_8))) n z.1 z.2.1 z.2.2) 12 (by decide) (fun i z => i ≤ 12 ∧ z = (nI (nb (b1 && decide (s ≤ i)) x1 + nb (b2 && decide (s + 2 ≤ i)) x2), nI (nb (b1 && decide (s ≤ i)) 1 + nb (b2 && decide (s + 2 ≤ i)) 1), nI i)) (by
    rintro n i z hi ⟨-, rfl⟩
    refine ⟨_, ⟨hi, rfl⟩, ?_⟩
    show lp_X1_guessAt_8 u _ _ (n + 1) (nI _) (nI _) (nI i) = lp_X1_guessAt_8 u _ _ n (nI _) (nI _) (nI (i + 1))
    by_cases c1 : i + 1 = s
    · subst c1
      have d1 : decide (i + 1 ≤ i) = false := decide_eq_false (by omega)
      have d2 : decide (i + 1 + 2 ≤ i) = false := decide_eq_false (by omega)
      have d3 : decide (i + 1 ≤ i + 1) = true := decide_eq_true (by omega)
      have d4 : decide (i + 1 + 2 ≤ i + 1) = false := decide_eq_false (by omega)
      have e1 := h1 (by omega)
      rw [Nat.add_sub_cancel] at e1 hb1
      simp only [lp_X1_guessAt_8, c_ge 12 12 hi (by decide), if_false, pz_let, eqm1 (show i < 2 ^ 31 by omega) (show i + 1 < 2 ^ 31 by omega), if_true, pz_inN hi (show 12 < 2 ^ 31 by decide), cl_I (show i < 2 ^ 31 by omega), d1, d2, d3, d4, Bool.and_false, Bool.and_true, e1, pz_bind]
      by_cases c2 : cD_is u i = 0
      · have b1t : b1 = true := hb1.mpr ⟨by omega, c2⟩
        simp only [eq_true c2, if_true, b1t, nb, nI_add, nI_1, Bool.false_eq_true, if_false, Nat.add_zero, Nat.zero_add]
      · have b1f : b1 = false := by
          cases b1 with
          | false => rfl
          | true => exact absurd (hb1.mp rfl).2 c2
        simp only [eq_false c2, if_false, b1f, nb, nI_1, Bool.false_eq_true, Nat.add_zero]
    · by_cases c3 : i = s + 1
      · subst c3
        have d1 : decide (s ≤ s + 1) = true := decide_eq_true (by omega)
        have d2 : decide (s + 2 ≤ s + 1) = false := decide_eq_false (by omega)
        have d3 : decide (s ≤ s + 1 + 1) = true := decide_eq_true (by omega)
        have d4 : decide (s + 2 ≤ s + 1 + 1) = true := decide_eq_true (by omega)
        have e2 := h2 (by omega)
        simp only [lp_X1_guessAt_8, c_ge 12 12 hi (by decide), if_false, pz_let, eqm1 (show s + 1 < 2 ^ 31 by omega) (show s < 2 ^ 31 by omega), eq_false c1, eqp1 (show s + 1 < 2 ^ 31 by omega) (show s + 1 < 2 ^ 31 by omega), if_true, pz_inN hi (show 12 < 2 ^ 31 by decide), cl_I (show s + 1 < 2 ^ 31 by omega), d1, d2, d3, d4, Bool.and_false, Bool.and_true, e2, pz_bind]
        by_cases c2 : cD_is u (s + 1) = 0
        · have b2t : b2 = true := hb2.mpr ⟨by omega, c2⟩
          simp only [eq_true c2, if_true, b2t, nb, nI_add, nI_1, Bool.false_eq_true, if_false, Nat.add_zero]
        · have b2f : b2 = false := by
            cases b2 with
            | false => rfl
            | true => exact absurd (hb2.mp rfl).2 c2
          simp only [eq_false c2, if_false, b2f, nb, nI_1, Bool.false_eq_true, Nat.add_zero]
      · have d1 : decide (s ≤ i) = decide (s ≤ i + 1) := decide_eq_decide.mpr (by omega)
        have d2 : decide (s + 2 ≤ i) = decide (s + 2 ≤ i + 1) := decide_eq_decide.mpr (by omega)
        have d3 : (nI i = nI (s + 1)) = False := eq_false (fun q => c3 ((nI_eq (by omega) (by omega)).mp q))
        simp only [d3, lp_X1_guessAt_8, c_ge 12 12 hi (by decide), if_false, pz_let, eqm1 (show i < 2 ^ 31 by omega) (show s < 2 ^ 31 by omega), eq_false c1, eqp1 (show i < 2 ^ 31 by omega) (show s + 1 < 2 ^ 31 by omega), eq_false c3, d1, d2, nI_1]) (0, 0, 0) ⟨by omega, by
      have d1 : (b1 && decide (s ≤ 0)) = false := by
        cases b1 with
        | false => rfl
        | true =>
          have := (hb1.mp rfl).1
          exact decide_eq_false (by omega)
      have d2 : (b2 && decide (s + 2 ≤ 0)) = false := by
        rw [decide_eq_false (by omega : ¬ s + 2 ≤ 0), Bool.and_false]
      rw [d1, d2]
      rfl⟩
  refine h4.trans ?_
  have d1 : (b1 && decide (s ≤ 12)) = b1 := by rw [decide_eq_true (by omega : s ≤ 12), Bool.and_true]
  have d2 : (b2 && decide (s + 2 ≤ 12)) = b2 := by
    cases b2 with
    | false => rfl
    | true =>
      have := (hb2.mp rfl).1
      exact decide_eq_true (by omega)
  rw [d1, d2]
  show lp_X1_guessAt_8 u _ _ (n + 1) _ _ (nI 12) = _
  simp only [lp_X1_guessAt_8, c_le 12 12 (by decide), if_true]
theorem guess_m (hT : RT u v) (hD : RD u v) {s : Nat} (hs : s < 12) (b1 b2 : Bool) (x1 x2 : Nat) (hb1 : b1 = true ↔ 1 ≤ s ∧ cD_is u (s - 1) = 0) (hb2 : b2 = true ↔ s + 1 < 12 ∧ cD_is u (s + 1) = 0) (h1 : 1 ≤ s → g_X10_speedOf v (nI (s - 1)) = some (nI x1)) (h2 : s + 1 < 12 → g_X10_speedOf v (nI (s + 1)) = some (nI x2)) :
    g_X10_guessOf v (nI s) = if b1 = false ∧ b2 = false then some (-1 : Int32) else some (if b1 = true ∧ b2 = true then nI (nb b1 x1 + nb b2 x2) / 2 else nI (nb b1 x1 + nb b2 x2)) := by
  have t1 : (nI s ≤ 0) = (s = 0) := by
    rw [show (0 : Int32) = nI 0 from rfl]
    exact propext ((nI_leI (by omega) (by decide)).trans (by omega))
  have t2 : ((11 : Int32) ≤ nI s) = (11 ≤ s) := propext (nI_leI (a := 11) (by decide) (by omega))
  have q1 : 1 ≤ s → nI s - 1 = nI (s - 1) := fun q => by rw [show (1 : Int32) = nI 1 from rfl, pk_sub q]
  have q2 : nI s + 1 = nI (s + 1) := nI_1 s
  cases b1 with
  | true =>
    obtain ⟨s1, d1⟩ := hb1.mp rfl
    have n0 : ¬ s = 0 := by omega
    cases b2 with
    | true =>
      obtain ⟨s2, d2⟩ := hb2.mp rfl
      have n1 : ¬ 11 ≤ s := by omega
      simp only [g_X10_guessOf, pz_let, t1, t2, eq_false n0, eq_false n1, if_false, q1 s1, q2, pz_inN (show s - 1 < 12 by omega) (show 12 < 2 ^ 31 by decide), pz_inN s2 (show 12 < 2 ^ 31 by decide), cl_I (show s - 1 < 2 ^ 31 by omega), cl_I (show s + 1 < 2 ^ 31 by omega), hD.det, d1, d2, if_true, z10, h1 s1, h2 s2, pz_bind, nb, nI_add, Bool.true_eq_false, Bool.false_eq_true, false_and, and_self]
    | false =>
      by_cases n1 : 11 ≤ s
      · simp only [g_X10_guessOf, pz_let, t1, t2, eq_false n0, eq_true n1, if_false, q1 s1, q2, pz_inN (show s - 1 < 12 by omega) (show 12 < 2 ^ 31 by decide), cl_I (show s - 1 < 2 ^ 31 by omega), hD.det, d1, if_true, z10, z00, h1 s1, pz_bind, nb, Bool.true_eq_false, Bool.false_eq_true, false_and, and_false, Int32.add_zero, Nat.add_zero]
      · have d2 : ¬ cD_is u (s + 1) = 0 := fun q => absurd (hb2.mpr ⟨by omega, q⟩) (by decide)
        simp only [g_X10_guessOf, pz_let, t1, t2, eq_false n0, eq_false n1, if_false, q1 s1, q2, pz_inN (show s - 1 < 12 by omega) (show 12 < 2 ^ 31 by decide), pz_inN (show s + 1 < 12 by omega) (show 12 < 2 ^ 31 by decide), cl_I (show s - 1 < 2 ^ 31 by omega), cl_I (show s + 1 < 2 ^ 31 by omega), hD.det, d1, eq_false d2, if_true, z10, z00, h1 s1, pz_bind, nb, Bool.true_eq_false, Bool.false_eq_true, false_and, and_false, Int32.add_zero, Nat.add_zero]
  | false =>
    cases b2 with
    | true =>
      obtain ⟨s2, d2⟩ := hb2.mp rfl
      have n1 : ¬ 11 ≤ s := by omega
      by_cases n0 : s = 0
      · simp only [g_X10_guessOf, pz_let, t1, t2, eq_true n0, eq_false n1, if_false, q2, pz_inN s2 (show 12 < 2 ^ 31 by decide), cl_I (show s + 1 < 2 ^ 31 by omega), hD.det, d2, if_true, z10, z00, h2 s2, pz_bind, nb, Bool.true_eq_false, Bool.false_eq_true, false_and, and_false, Int32.zero_add, Nat.zero_add]
      · have d1 : ¬ cD_is u (s - 1) = 0 := fun q => absurd (hb1.mpr ⟨by omega, q⟩) (by decide)
        simp only [g_X10_guessOf, pz_let, t1, t2, eq_false n0, eq_false n1, if_false, q1 (show 1 ≤ s by omega), q2, pz_inN (show s - 1 < 12 by omega) (show 12 < 2 ^ 31 by decide), pz_inN s2 (show 12 < 2 ^ 31 by decide), cl_I (show s - 1 < 2 ^ 31 by omega), cl_I (show s + 1 < 2 ^ 31 by omega), hD.det, eq_false d1, d2, if_true, z10, z00, h2 s2, pz_bind, nb, Bool.true_eq_false, Bool.false_eq_true, false_and, and_false, Int32.zero_add, Nat.zero_add]
    | false =>
      have e1 : ∀ (α : Type) (A B : Option α), (if s = 0 then A else g_in (nI s - 1) 12 (if mD_detects v (nI s - 1).toNatClampNeg = 0 then B else A)) = A := fun α A B => by
        by_cases n0 : s = 0
        · rw [if_pos n0]
        · have d1 : ¬ cD_is u (s - 1) = 0 := fun q => absurd (hb1.mpr ⟨by omega, q⟩) (by decide)
          rw [if_neg n0, q1 (by omega), pz_inN (show s - 1 < 12 by omega) (by decide), cl_I (by omega), hD.det, if_neg d1]
      have e2 : ∀ (α : Type) (A B : Option α), (if 11 ≤ s then A else g_in (nI s + 1) 12 (if mD_detects v (nI s + 1).toNatClampNeg = 0 then B else A)) = A := fun α A B => by
        by_cases n0 : 11 ≤ s
        · rw [if_pos n0]
        · have d1 : ¬ cD_is u (s + 1) = 0 := fun q => absurd (hb2.mpr ⟨by omega, q⟩) (by decide)
          rw [if_neg n0, q2, pz_inN (show s + 1 < 12 by omega) (by decide), cl_I (by omega), hD.det, if_neg d1]
      simp only [g_X10_guessOf, pz_let, t1, t2, e1, e2, z00, if_true, and_self]
end RELS3

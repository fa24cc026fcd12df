section RELS4
variable {u : GS} {v : MS}
theorem guess (hT : RT u v) (hD : RD u v) {s : Nat} (hs : s < 12) : (g_X1_guessAt u (nI s) = some (-1) ∧ g_X10_guessOf v (nI s) = some (-1)) ∨ ∃ g : Nat, g ≤ 120 ∧ g_X1_guessAt u (nI s) = some (nI g) ∧ g_X10_guessOf v (nI s) = some (nI g) := by
  obtain ⟨b1, hb1⟩ : ∃ b : Bool, b = true ↔ 1 ≤ s ∧ cD_is u (s - 1) = 0 := ⟨decide (1 ≤ s ∧ cD_is u (s - 1) = 0), decide_eq_true_iff⟩
  obtain ⟨b2, hb2⟩ : ∃ b : Bool, b = true ↔ s + 1 < 12 ∧ cD_is u (s + 1) = 0 := ⟨decide (s + 1 < 12 ∧ cD_is u (s + 1) = 0), decide_eq_true_iff⟩
  obtain ⟨x1, hx1, p1, q1⟩ : ∃ x : Nat, x ≤ 120 ∧ (1 ≤ s → g_X8_speedAt u (nI (s - 1)) = some (nI x)) ∧ (1 ≤ s → g_X10_speedOf v (nI (s - 1)) = some (nI x)) := by
    obtain ⟨x, -, h2, h3, h4⟩ := speed hT (show s - 1 < 12 by omega)
    exact ⟨x, h2, fun _ => h3, fun _ => h4⟩
  obtain ⟨x2, hx2, p2, q2⟩ : ∃ x : Nat, x ≤ 120 ∧ (s + 1 < 12 → g_X8_speedAt u (nI (s + 1)) = some (nI x)) ∧ (s + 1 < 12 → g_X10_speedOf v (nI (s + 1)) = some (nI x)) := by
    by_cases c : s + 1 < 12
    · obtain ⟨x, -, h2, h3, h4⟩ := speed hT c
      exact ⟨x, h2, fun _ => h3, fun _ => h4⟩
    · exact ⟨0, by omega, fun z => absurd z c, fun z => absurd z c⟩
  have ec := guess_c hT hs b1 b2 x1 x2 hb1 hb2 p1 p2
  have em := guess_m hT hD hs b1 b2 x1 x2 hb1 hb2 q1 q2
  cases b1 <;> cases b2
  · left
    exact ⟨ec, em⟩
  · right
    refine ⟨x2, hx2, ec.trans ?_, em.trans ?_⟩
    · show (if nI (0 + 1) = 0 then some (-1 : Int32) else g_nz (nI (0 + 1)) (some (nI (0 + x2) / nI (0 + 1)))) = _
      rw [if_neg (by decide), pz_nz (by decide), pk_div (by omega) (by omega) (by omega)]
      simp
    · rw [if_neg (by simp), if_neg (by simp)]
      exact congrArg (fun z => some (nI z)) (Nat.zero_add x2)
  · right
    refine ⟨x1, hx1, ec.trans ?_, em.trans ?_⟩
    · show (if nI (1 + 0) = 0 then some (-1 : Int32) else g_nz (nI (1 + 0)) (some (nI (x1 + 0) / nI (1 + 0)))) = _
      rw [if_neg (by decide), pz_nz (by decide), pk_div (by omega) (by omega) (by omega)]
      simp
    · rw [if_neg (by simp), if_neg (by simp)]
      rfl
  · right
    refine ⟨(x1 + x2) / 2, by omega, ec.trans ?_, em.trans ?_⟩
    · show (if nI (1 + 1) = 0 then some (-1 : Int32) else g_nz (nI (1 + 1)) (some (nI (x1 + x2) / nI (1 + 1)))) = _
      rw [if_neg (by decide), pz_nz (by decide), pk_div (by omega) (by omega) (by omega)]
    · rw [if_neg (by simp), if_pos (by simp)]
      show some (nI (x1 + x2) / nI 2) = _
      rw [pk_div (by omega) (by omega) (by omega)]
theorem belief (hT : RT u v) (hD : RD u v) {s : Nat} (hs : s < 12) : ∃ r : Int32, (r = -1 ∨ ∃ b : Nat, b ≤ 120 ∧ r = nI b) ∧ g_X1_beliefAt u (nI s) = some r ∧ g_X10_beliefOf v (nI s) = some r := by
  have i1 : g_X9_isWithin (nI s) 0 11 = some 1 := isw (k := s) (a := 0) (b := 11) _ rfl (Nat.zero_le s) (by omega) (by decide) _ _
  have a1 : ∀ (a : Option Int32), g_in (nI s) 12 a = a := fun a => pz_inN hs (by decide) a
  have c1 := cl_I (show s < 2 ^ 31 by omega)
  by_cases d0 : cD_is u s = 0
  · obtain ⟨x, -, hx, e1, e2⟩ := speed hT hs
    refine ⟨nI x, Or.inr ⟨x, hx, rfl⟩, ?_, ?_⟩
    · simp only [g_X1_beliefAt, i1, pz_bind, z10, if_false, a1, c1, eq_true d0, if_true, e1]
    · simp only [g_X10_beliefOf, pz_bind, a1, c1, hD.det, eq_true d0, if_true, e2]
  · by_cases d2 : cD_is u s = 2
    · rcases guess hT hD hs with ⟨e1, e2⟩ | ⟨g, hg, e1, e2⟩
      · refine ⟨-1, Or.inl rfl, ?_, ?_⟩
        · simp only [g_X1_beliefAt, i1, pz_bind, z10, if_false, a1, c1, eq_false d0, eq_true d2, if_true, e1]
        · simp only [g_X10_beliefOf, pz_bind, a1, c1, hD.det, eq_false d0, eq_true d2, if_true, if_false, e2]
      · refine ⟨nI g, Or.inr ⟨g, hg, rfl⟩, ?_, ?_⟩
        · simp only [g_X1_beliefAt, i1, pz_bind, z10, if_false, a1, c1, eq_false d0, eq_true d2, if_true, e1]
        · simp only [g_X10_beliefOf, pz_bind, a1, c1, hD.det, eq_false d0, eq_true d2, if_true, if_false, e2]
    · obtain ⟨k, hk, ek⟩ : ∃ x : Nat, x ≤ 120 ∧ cD_stuckAt u s = nI x := by
        rcases hD.2 s hs with q | q | q
        · exact absurd q d0
        · exact absurd q d2
        · exact q
      rcases guess hT hD hs with ⟨e1, e2⟩ | ⟨g, hg, e1, e2⟩
      · refine ⟨nI k, Or.inr ⟨k, hk, rfl⟩, ?_, ?_⟩
        · simp only [g_X1_beliefAt, i1, pz_bind, pz_let, z10, if_false, a1, c1, eq_false d0, eq_false d2, if_true, e1, ek]
        · simp only [g_X10_beliefOf, pz_bind, pz_let, a1, c1, hD.det, hD.stuck, eq_false d0, eq_false d2, if_true, if_false, e2, ek, ite_self]
      · have n1 := eq_false (nm1 g (by omega))
        obtain ⟨d, hd, h1, h2, h3⟩ : ∃ d : Nat, d ≤ 120 ∧ (if 0 ≤ (nI g - nI k) then (nI g - nI k) else 0 - (nI g - nI k)) = nI d ∧ (k ≤ g → nI g - nI k = nI d) ∧ (¬ k ≤ g → nI k - nI g = nI d) := by
          by_cases c : k ≤ g
          · refine ⟨g - k, by omega, ?_, fun _ => pk_sub c, fun z => absurd c z⟩
            rw [pk_sub c, if_pos (nI_pos' (by omega))]
          · refine ⟨k - g, by omega, ?_, fun z => absurd z c, fun _ => pk_sub (by omega)⟩
            rw [if_neg (Int32.not_le.mpr (pk_sneg (by omega) (by omega))), Int32.zero_sub, Int32.neg_sub, pk_sub (by omega)]
        have l1 : ((30 : Int32) = nI 30) := rfl
        have m1 : ∀ A B C : Option Int32, (if nI k ≤ nI g then (if nI g - nI k ≤ 30 then A else B) else (if nI k - nI g ≤ 30 then A else B)) = if nI d ≤ 30 then A else B := fun A B C => by
          by_cases c : k ≤ g
          · rw [if_pos (nI_le c (by omega)), h2 c]
          · rw [if_neg (nI_ge (by omega) (by omega)), h3 c]
        by_cases c : nI d ≤ (30 : Int32)
        · refine ⟨nI k, Or.inr ⟨k, hk, rfl⟩, ?_, ?_⟩
          · simp only [g_X1_beliefAt, i1, pz_bind, pz_let, z10, if_false, a1, c1, eq_false d0, eq_false d2, e1, ek, n1, h1, eq_true c, if_true]
          · simp only [g_X10_beliefOf, pz_bind, pz_let, a1, c1, hD.det, hD.stuck, eq_false d0, eq_false d2, if_false, e2, ek, n1, m1 (some (nI k)) (some (nI g)) none, eq_true c, if_true]
        · refine ⟨nI g, Or.inr ⟨g, hg, rfl⟩, ?_, ?_⟩
          · simp only [g_X1_beliefAt, i1, pz_bind, pz_let, z10, if_false, a1, c1, eq_false d0, eq_false d2, e1, ek, n1, h1, eq_false c]
          · simp only [g_X10_beliefOf, pz_bind, pz_let, a1, c1, hD.det, hD.stuck, eq_false d0, eq_false d2, if_false, e2, ek, n1, m1 (some (nI k)) (some (nI g)) none, eq_false c]
theorem six {q : Int32} (h : ¬ q < 0) (h2 : ¬ (5 : Int32) < q) : q = 0 ∨ q = 1 ∨ q = 2 ∨ q = 3 ∨ q = 4 ∨ q = 5 := by
  obtain ⟨x, hx, rfl⟩ := ix_of 5 (n := 5) rfl (by decide) h h2
  have : x = 0 ∨ x = 1 ∨ x = 2 ∨ x = 3 ∨ x = 4 ∨ x = 5 := by omega
  rcases this with rfl | rfl | rfl | rfl | rfl | rfl
  · exact Or.inl rfl
  · exact Or.inr (Or.inl rfl)
  · exact Or.inr (Or.inr (Or.inl rfl))
  · exact Or.inr (Or.inr (Or.inr (Or.inl rfl)))
  · exact Or.inr (Or.inr (Or.inr (Or.inr (Or.inl rfl))))
  · exact Or.inr (Or.inr (Or.inr (Or.inr (Or.inr rfl))))
theorem sim_section (h : Rel u v) (p q : Int32) : SI Rel (g_X9_section u p q) (g_X10_section v p q) [("java/lang/IndexOutOfBoundsException", 1), ("java/lang/IllegalArgumentException", 2)] := by
  obtain ⟨hM, hT, hD, hS, hO, hH, hI, hP, hB, hK⟩ := id h
  rcases secc u p with ⟨e1, e2⟩ | ⟨s, hs, rfl, e1, e2⟩
  · exact SI_no "java/lang/IndexOutOfBoundsException" 1 0 (v' := m_thrown_set v 1) es1 (by simp only [g_X9_section, e1, pz_xr, id]) (by simp only [g_X10_section, e2, pz_bind, pz_let, z00, if_true, pz_h1]) rfl h
  · have a1 : ∀ {α : Type} (a : Option α), g_in (nI s) 12 a = a := fun a => pz_inN hs (by decide) a
    have hT0 : RT u (m_thrown_set v 0) := hT
    have hD0 : RD u (m_thrown_set v 0) := hD
    rcases iwc q 0 5 with ⟨h1, h2, f1, f2⟩ | ⟨-, f1, f2⟩
    · rcases six h1 h2 with rfl | rfl | rfl | rfl | rfl | rfl
      · obtain ⟨x, -, -, x1, x2⟩ := speed hT0 hs
        refine SI_ok (u' := u) (v' := m_thrown_set v 0) (nI x) ?_ ?_ rfl h
        · simp only [g_X9_section, e1, f1, x1, pz_xl, pz_bind, pz_na1, if_true]
        · simp (decide := true) only [g_X10_section, e2, f2, x2, pz_bind, pz_let, pz_h0, if_true, if_false]
      · obtain ⟨x, -, x1, x2⟩ := belief hT0 hD0 hs
        refine SI_ok (u' := u) (v' := m_thrown_set v 0) x ?_ ?_ rfl h
        · simp (decide := true) only [g_X9_section, e1, f1, x1, pz_xl, pz_bind, pz_na1, if_true, if_false]
        · simp (decide := true) only [g_X10_section, e2, f2, x2, pz_bind, pz_let, pz_h0, if_true, if_false]
      · obtain ⟨x, x1, x2⟩ : ∃ x, g_X1_guessAt u (nI s) = some x ∧ g_X10_guessOf (m_thrown_set v 0) (nI s) = some x := by
          rcases guess hT0 hD0 hs with ⟨x1, x2⟩ | ⟨g, -, x1, x2⟩
          · exact ⟨_, x1, x2⟩
          · exact ⟨_, x1, x2⟩
        refine SI_ok (u' := u) (v' := m_thrown_set v 0) x ?_ ?_ rfl h
        · simp (decide := true) only [g_X9_section, e1, f1, x1, pz_xl, pz_bind, pz_na1, if_true, if_false]
        · simp (decide := true) only [g_X10_section, e2, f2, x2, pz_bind, pz_let, pz_h0, if_true, if_false]
      · refine SI_ok (u' := u) (v' := m_thrown_set v 0) (mS_speedSign v (nI s).toNatClampNeg) ?_ ?_ rfl h
        · rw [hS.shown]
          simp (decide := true) only [g_X9_section, e1, f1, a1, pz_xl, pz_bind, pz_na1, if_true, if_false]
        · simp (decide := true) only [g_X10_section, e2, f2, a1, pz_bind, pz_let, pz_h0, if_true, if_false] <;> rfl
      · by_cases b0 : cT_broken u (nI s).toNatClampNeg = 0
        · refine SI_ok (u' := u) (v' := m_thrown_set v 0) 0 ?_ ?_ rfl h
          · simp (decide := true) only [g_X9_section, e1, f1, a1, eq_true b0, pz_xl, pz_bind, pz_na1, if_true, if_false]
          · simp (decide := true) only [g_X10_section, e2, f2, a1, hT0.broken, eq_true b0, pz_bind, pz_let, pz_h0, if_true, if_false]
        · refine SI_ok (u' := u) (v' := m_thrown_set v 0) 1 ?_ ?_ rfl h
          · simp (decide := true) only [g_X9_section, e1, f1, a1, eq_false b0, pz_xl, pz_bind, pz_na1, if_true, if_false]
          · simp (decide := true) only [g_X10_section, e2, f2, a1, hT0.broken, eq_false b0, pz_bind, pz_let, pz_h0, if_true, if_false]
      · refine SI_ok (u' := u) (v' := m_thrown_set v 0) (mD_detects v (nI s).toNatClampNeg) ?_ ?_ rfl h
        · rw [hD.det]
          simp (decide := true) only [g_X9_section, e1, f1, a1, pz_xl, pz_bind, pz_na1, if_true, if_false]
        · simp (decide := true) only [g_X10_section, e2, f2, a1, pz_bind, pz_let, pz_h0, if_true, if_false] <;> rfl
    · exact SI_no "java/lang/IllegalArgumentException" 2 0 (v' := m_thrown_set v 2) es2 (by simp only [g_X9_section, e1, f1, pz_xl, pz_xr, id, pz_bind, pz_na]) (by simp only [g_X10_section, e2, f2, pz_bind, pz_let, z00, z10, z20, if_true, if_false, pz_h2]) rfl h
theorem sim_pattern (h : Rel u v) : ∃ (r : Int32) (v' : MS), g_X9_pattern u = some r ∧ g_X10_pattern v = some (r, v') ∧ Rel u v' := by
  obtain ⟨hM, hT, hD, hS, hO, hH, hI, hP, hB, hK⟩ := id h
  have hT0 : RT u (m_thrown_set v 0) := hT
  have hD0 : RD u (m_thrown_set v 0) := hD
  have main := lpRE (fun n (z : Int32) => lp_X9_pattern_2 u (fun (_ : Unit) => some (-1 : Int32)) n z) (fun n (z : Int32) => lp_X10_pattern_7 (m_thrown_set v 0) (fun (_ : Unit) => some ((-1 : Int32), m_thrown_set v 0)) n z) 11 (by decide) (fun i z t => z = nI i ∧ t = nI i) (fun a b => ∃ r : Int32, a = some r ∧ b = some (r, m_thrown_set v 0)) (by
    rintro n i z t hi ⟨rfl, rfl⟩
    obtain ⟨x, hx, x1, x2⟩ := belief hT0 hD0 (show i < 12 by omega)
    obtain ⟨y, hy, y1, y2⟩ := belief hT0 hD0 (show i + 1 < 12 by omega)
    have q2 : nI i + 1 = nI (i + 1) := nI_1 i
    have go : (x = -1 ∨ (40 : Int32) ≤ x ∨ y < 80) → (∃ s' t', (s' = nI (i + 1) ∧ t' = nI (i + 1)) ∧ lp_X9_pattern_2 u (fun (_ : Unit) => some (-1 : Int32)) (n + 1) (nI i) = lp_X9_pattern_2 u (fun (_ : Unit) => some (-1 : Int32)) n s' ∧ lp_X10_pattern_7 (m_thrown_set v 0) (fun (_ : Unit) => some ((-1 : Int32), m_thrown_set v 0)) (n + 1) (nI i) = lp_X10_pattern_7 (m_thrown_set v 0) (fun (_ : Unit) => some ((-1 : Int32), m_thrown_set v 0)) n t') := by
      intro hc
      refine ⟨_, _, ⟨rfl, rfl⟩, ?_, ?_⟩
      · by_cases c1 : x = -1
        · simp only [lp_X9_pattern_2, c_ge 11 11 hi (by decide), if_false, x1, pz_bind, pz_let, eq_true c1, if_true, q2]
        · by_cases c2 : (40 : Int32) ≤ x
          · simp only [lp_X9_pattern_2, c_ge 11 11 hi (by decide), if_false, x1, pz_bind, pz_let, eq_false c1, eq_true c2, if_true, q2]
          · have c3 : y < 80 := (hc.resolve_left c1).resolve_left c2
            simp only [lp_X9_pattern_2, c_ge 11 11 hi (by decide), if_false, x1, y1, pz_bind, pz_let, eq_false c1, eq_false c2, eq_true c3, if_true, q2]
      · by_cases c0 : x = -1 ∨ (40 : Int32) ≤ x
        · have i0 : g_X10_isIn x 0 39 = some 0 := ii0 (fun ⟨a, b⟩ => by
            rcases c0 with c | c
            · rw [c] at a
              exact a (by decide)
            · rw [Int32.lt_iff_toInt_lt] at b
              rw [Int32.le_iff_toInt_le] at c
              have z1 : (39 : Int32).toInt = 39 := by decide
              have z2 : (40 : Int32).toInt = 40 := by decide
              omega)
          simp only [lp_X10_pattern_7, c_ge 11 11 hi (by decide), if_false, x2, pz_bind, pz_let, i0, if_true, q2]
        · have c3 : y < 80 := (hc.resolve_left (fun z => c0 (Or.inl z))).resolve_left (fun z => c0 (Or.inr z))
          rcases iwc x 0 39 with ⟨-, -, -, i0⟩ | ⟨-, -, i0⟩
          · simp only [lp_X10_pattern_7, c_ge 11 11 hi (by decide), if_false, x2, y2, pz_bind, pz_let, i0, z10, eq_true c3, if_true, q2]
          · simp only [lp_X10_pattern_7, c_ge 11 11 hi (by decide), if_false, x2, pz_bind, pz_let, i0, if_true, q2]
    by_cases c1 : x = -1
    · exact Or.inl (go (Or.inl c1))
    · by_cases c2 : (40 : Int32) ≤ x
      · exact Or.inl (go (Or.inr (Or.inl c2)))
      · by_cases c3 : y < 80
        · exact Or.inl (go (Or.inr (Or.inr c3)))
        · refine Or.inr ⟨nI i, ?_, ?_⟩
          · show lp_X9_pattern_2 u _ (n + 1) (nI i) = _
            simp only [lp_X9_pattern_2, c_ge 11 11 hi (by decide), if_false, x1, y1, pz_bind, pz_let, eq_false c1, eq_false c2, eq_false c3, q2]
          · obtain ⟨b, hb, rfl⟩ := hx.resolve_left c1
            have i0 : g_X10_isIn (nI b) 0 39 = some 1 := ii1 (nI_pos (by omega)) (fun z => c2 (by
              rw [Int32.lt_iff_toInt_lt] at z
              rw [Int32.le_iff_toInt_le]
              have z1 : (39 : Int32).toInt = 39 := by decide
              have z2 : (40 : Int32).toInt = 40 := by decide
              omega))
            show lp_X10_pattern_7 _ _ (n + 1) (nI i) = _
            simp only [lp_X10_pattern_7, c_ge 11 11 hi (by decide), if_false, x2, y2, pz_bind, pz_let, i0, z10, eq_false c3, q2]) 0 0 ⟨rfl, rfl⟩
  rcases main with ⟨n, s', t', ⟨rfl, rfl⟩, h1, h2⟩ | ⟨r, h1, h2⟩
  · refine ⟨-1, m_thrown_set v 0, h1.trans ?_, ?_, h⟩
    · show lp_X9_pattern_2 u _ (n + 1) (nI 11) = _
      simp only [lp_X9_pattern_2, c_le 11 11 (by decide), if_true]
    · rw [g_X10_pattern, pz_let]
      refine h2.trans ?_
      show lp_X10_pattern_7 _ _ (n + 1) (nI 11) = _
      simp only [lp_X10_pattern_7, c_le 11 11 (by decide), if_true]
  · refine ⟨r, m_thrown_set v 0, h1, ?_, h⟩
    rw [g_X10_pattern, pz_let]
    exact h2
end RELS4

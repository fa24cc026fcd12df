section RELS7
variable {u : GS} {v : MS}
theorem canAdd_c {n : Nat} (hn : n ≤ 12) (n1 : cI_count u = nI n) (z : Int32) : (g_X2_canAdd u z = some 1 ∧ n < 12 ∧ ∀ k : Nat, k < n → ¬ (cI_places u k = z ∧ ¬ cI_how u k = 2)) ∨ (g_X2_canAdd u z = some 0 ∧ (n = 12 ∨ ∃ k : Nat, k < n ∧ cI_places u k = z ∧ ¬ cI_how u k = 2)) := by
  have main := lpE (fun m (y : Int32) => lp_X2_canAdd_2 u z (fun (_ : Unit) => if (12 : Int32) ≤ (cI_count u) then some (0 : Int32) else some (1 : Int32)) m y) 12 (by decide) (fun i y => y = nI i ∧ ∀ k : Nat, k < i → k < n → ¬ (cI_places u k = z ∧ ¬ cI_how u k = 2)) (fun x => x = some 0 ∧ ∃ k : Nat, k < n ∧ cI_places u k = z ∧ ¬ cI_how u k = 2) (by
    rintro m i y hi ⟨rfl, hy⟩
    by_cases c : n ≤ i
    · refine Or.inl ⟨nI (i + 1), ⟨rfl, fun k h1 h2 => hy k (by omega) h2⟩, ?_⟩
      show lp_X2_canAdd_2 u _ _ (m + 1) (nI i) = lp_X2_canAdd_2 u _ _ m _
      simp only [lp_X2_canAdd_2, c_ge 12 12 hi (by decide), if_false, n1, eq_true (nI_le c (show i < 2 ^ 31 by omega)), if_true, pz_let, nI_1]
    · have c' := eq_false (nI_ge (Nat.lt_of_not_le c) (show n < 2 ^ 31 by omega))
      by_cases p : cI_places u i = z
      · by_cases w : cI_how u i = 2
        · refine Or.inl ⟨nI (i + 1), ⟨rfl, fun k h1 h2 => ?_⟩, ?_⟩
          · by_cases e : k = i
            · rw [e]
              exact fun q => q.2 w
            · exact hy k (by omega) h2
          · show lp_X2_canAdd_2 u _ _ (m + 1) (nI i) = lp_X2_canAdd_2 u _ _ m _
            simp only [lp_X2_canAdd_2, c_ge 12 12 hi (by decide), if_false, n1, c', pz_inN hi (show 12 < 2 ^ 31 by decide), cl_I (show i < 2 ^ 31 by omega), eq_true p, eq_true w, if_true, pz_let, nI_1]
        · refine Or.inr ⟨?_, i, by omega, p, w⟩
          show lp_X2_canAdd_2 u _ _ (m + 1) (nI i) = _
          simp only [lp_X2_canAdd_2, c_ge 12 12 hi (by decide), if_false, n1, c', pz_inN hi (show 12 < 2 ^ 31 by decide), cl_I (show i < 2 ^ 31 by omega), eq_true p, eq_false w, if_true, pz_let]
      · refine Or.inl ⟨nI (i + 1), ⟨rfl, fun k h1 h2 => ?_⟩, ?_⟩
        · by_cases e : k = i
          · rw [e]
            exact fun q => p q.1
          · exact hy k (by omega) h2
        · show lp_X2_canAdd_2 u _ _ (m + 1) (nI i) = lp_X2_canAdd_2 u _ _ m _
          simp only [lp_X2_canAdd_2, c_ge 12 12 hi (by decide), if_false, n1, c', pz_inN hi (show 12 < 2 ^ 31 by decide), cl_I (show i < 2 ^ 31 by omega), eq_false p, pz_let, nI_1]) 0 ⟨rfl, fun k hk => absurd hk (Nat.not_lt_zero k)⟩
  rcases main with ⟨m, y, ⟨rfl, hy⟩, h1⟩ | ⟨h1, h2⟩
  · by_cases c : n = 12
    · refine Or.inr ⟨h1.trans ?_, Or.inl c⟩
      show lp_X2_canAdd_2 u _ _ (m + 1) (nI 12) = _
      simp only [lp_X2_canAdd_2, c_le 12 12 (by decide), if_true, n1, c]
    · refine Or.inl ⟨h1.trans ?_, by omega, fun k hk => hy k (by omega) hk⟩
      show lp_X2_canAdd_2 u _ _ (m + 1) (nI 12) = _
      simp only [lp_X2_canAdd_2, c_le 12 12 (by decide), if_true, n1, c_ge 12 12 (show n < 12 by omega) (by decide), if_false]
  · exact Or.inr ⟨h1, Or.inr h2⟩
theorem isRep_m {n : Nat} (hn : n ≤ 12) (n2 : mI_incidents v = nI n) (z : Int32) : (g_X10_isReportedAt v z = some 0 ∧ ∀ k : Nat, k < n → ¬ (mI_placed v k = z ∧ ¬ mI_state v k = 2)) ∨ (g_X10_isReportedAt v z = some 1 ∧ ∃ k : Nat, k < n ∧ mI_placed v k = z ∧ ¬ mI_state v k = 2) := by
  obtain ⟨m, y, ⟨x, hx, rfl⟩, h1⟩ := lpF (fun m (y : Int32 × Int32) => lp_X10_isReportedAt_4 v z (fun (x2_4 : Int32) => g_bo x2_4 (some x2_4)) m y.1 y.2) n (by omega) (fun i y => ∃ x : Int32, ((x = 0 ∧ ∀ k : Nat, k < i → ¬ (mI_placed v k = z ∧ ¬ mI_state v k = 2)) ∨ (x = 1 ∧ ∃ k : Nat, k < n ∧ mI_placed v k = z ∧ ¬ mI_state v k = 2)) ∧ y = (x, nI i)) (by
    rintro m i y hi ⟨x, hx, rfl⟩
    have c' := eq_false (nI_ge hi (show n < 2 ^ 31 by omega))
    rcases hx with ⟨rfl, hx⟩ | ⟨rfl, hx⟩
    · by_cases p : mI_placed v i = z
      · by_cases w : mI_state v i = 2
        · refine ⟨(0, nI (i + 1)), ⟨0, Or.inl ⟨rfl, fun k hk => ?_⟩, rfl⟩, ?_⟩
          · by_cases e : k = i
            · rw [e]
              exact fun q => q.2 w
            · exact hx k (by omega)
          · show lp_X10_isReportedAt_4 v _ _ (m + 1) 0 (nI i) = lp_X10_isReportedAt_4 v _ _ m _ _
            simp only [lp_X10_isReportedAt_4, n2, c', if_false, pz_let, z00, if_true, pz_inN (show i < 12 by omega) (show 12 < 2 ^ 31 by decide), cl_I (show i < 2 ^ 31 by omega), eq_true p, eq_true w, nI_1]
        · refine ⟨(1, nI (i + 1)), ⟨1, Or.inr ⟨rfl, i, hi, p, w⟩, rfl⟩, ?_⟩
          show lp_X10_isReportedAt_4 v _ _ (m + 1) 0 (nI i) = lp_X10_isReportedAt_4 v _ _ m _ _
          simp only [lp_X10_isReportedAt_4, n2, c', if_false, pz_let, z00, if_true, pz_inN (show i < 12 by omega) (show 12 < 2 ^ 31 by decide), cl_I (show i < 2 ^ 31 by omega), eq_true p, eq_false w, nI_1]
      · refine ⟨(0, nI (i + 1)), ⟨0, Or.inl ⟨rfl, fun k hk => ?_⟩, rfl⟩, ?_⟩
        · by_cases e : k = i
          · rw [e]
            exact fun q => p q.1
          · exact hx k (by omega)
        · show lp_X10_isReportedAt_4 v _ _ (m + 1) 0 (nI i) = lp_X10_isReportedAt_4 v _ _ m _ _
          simp only [lp_X10_isReportedAt_4, n2, c', if_false, pz_let, z00, if_true, pz_inN (show i < 12 by omega) (show 12 < 2 ^ 31 by decide), cl_I (show i < 2 ^ 31 by omega), eq_false p, nI_1]
    · refine ⟨(1, nI (i + 1)), ⟨1, Or.inr ⟨rfl, hx⟩, rfl⟩, ?_⟩
      show lp_X10_isReportedAt_4 v _ _ (m + 1) 1 (nI i) = lp_X10_isReportedAt_4 v _ _ m _ _
      simp only [lp_X10_isReportedAt_4, n2, c', if_false, pz_let, z10, nI_1]) (0, 0) ⟨0, Or.inl ⟨rfl, fun k hk => absurd hk (Nat.not_lt_zero k)⟩, rfl⟩
  have e2 : lp_X10_isReportedAt_4 v z (fun (x2_4 : Int32) => g_bo x2_4 (some x2_4)) (m + 1) x (nI n) = g_bo x (some x) := by
    simp only [lp_X10_isReportedAt_4, n2, eq_true (nI_le (Nat.le_refl n) (show n < 2 ^ 31 by omega)), if_true]
  rcases hx with ⟨rfl, hx⟩ | ⟨rfl, hx⟩
  · exact Or.inl ⟨(h1.trans e2).trans (pz_bo0 _), hx⟩
  · exact Or.inr ⟨(h1.trans e2).trans (pz_bo1 _), hx⟩
theorem sim_report (h : Rel u v) (p q : Int32) : SI Rel (g_X9_report u p q) (g_X10_report v p q) [("java/lang/IndexOutOfBoundsException", 1), ("java/lang/IllegalStateException", 2)] := by
  obtain ⟨hM, hT, hD, hS, hO, hH, hI, hP, hB, hK⟩ := id h
  obtain ⟨n, hn, n1, n2, pl, hw, hpl, ha, hb⟩ := id hI
  rcases plcc u p q with ⟨e1, e2⟩ | ⟨s, l, hs, hl, rfl, rfl, e1, e2⟩
  · exact SI_no "java/lang/IndexOutOfBoundsException" 1 0 (v' := m_thrown_set v 1) es1 (by simp only [g_X9_report, e1, pz_xr, id]) (by simp only [g_X10_report, e2, pz_bind, pz_let, z00, if_true, pz_h1]) rfl h
  · have hk : 4 * s + l < 48 := by omega
    have lz : (0 < nI l) = ¬ (nI l = 0) := propext (by
      rw [show (0 : Int32) = nI 0 from rfl, nI_ltI (by decide) (by omega), nI_eq (by omega) (by decide)]
      omega)
    have n12 : (nI n = (12 : Int32)) = (n = 12) := propext (nI_eq (b := 12) (by omega) (by decide))
    have no : ∀ (c1 : g_X9_report u (nI s) (nI l) = some (.inr "java/lang/IllegalStateException", u)) (c2 : g_X10_report v (nI s) (nI l) = some (0, m_thrown_set v 2)), SI Rel (g_X9_report u (nI s) (nI l)) (g_X10_report v (nI s) (nI l)) [("java/lang/IndexOutOfBoundsException", 1), ("java/lang/IllegalStateException", 2)] := fun c1 c2 => SI_no "java/lang/IllegalStateException" 2 0 (v' := m_thrown_set v 2) es2 c1 c2 rfl h
    have st : ∀ (A B : Option (g_X × GS)), (¬ (nI s = 0 ∧ ¬ nI l = 0)) → (if nI s = 0 then (if nI l = 0 then A else B) else A) = A := fun A B c => by
      by_cases c1 : nI s = 0
      · rw [if_pos c1, if_pos (Classical.byContradiction fun c2 => c ⟨c1, c2⟩)]
      · rw [if_neg c1]
    have sm : ∀ (A B : Option (Int32 × MS)), (¬ (nI s = 0 ∧ ¬ nI l = 0)) → (if nI s = 0 then (if ¬ (nI l = 0) then B else A) else A) = A := fun A B c => by
      by_cases c1 : nI s = 0
      · rw [if_pos c1, if_neg (fun c2 => c ⟨c1, c2⟩)]
      · rw [if_neg c1]
    by_cases c : nI s = 0 ∧ ¬ nI l = 0
    · refine no ?_ ?_
      · simp only [g_X9_report, e1, pz_xl, pz_xr, id, placeN, pz_bind, pz_let, eq_true c.1, eq_false c.2, if_true, if_false, pz_ns]
      · by_cases c3 : n = 12
        · simp only [g_X10_report, e2, pz_bind, pz_let, z10, z00, if_false, n2, n12, eq_true c3, if_true, pz_h2]
        · simp only [g_X10_report, e2, pz_bind, pz_let, z10, z00, if_false, n2, n12, eq_false c3, lz, eq_true c.1, eq_false c.2, not_false_eq_true, if_true, pz_h2]
    · rcases canAdd_c hn n1 (nI (4 * s + l)) with ⟨g1, hn2, G1⟩ | ⟨g1, G1⟩
      · rcases isRep_m hn n2 (nI (4 * s + l)) with ⟨g2, -⟩ | ⟨-, k, k1, k2, k3⟩
        · have i1 : g_X9_isWithin (nI n) 0 11 = some 1 := isw (k := n) (a := 0) (b := 11) _ rfl (Nat.zero_le n) (by omega) (by decide) _ _
          have a1 : ∀ {α : Type} (a : Option α), g_in (nI n) 12 a = a := fun a => pz_inN hn2 (by decide) a
          have c1 := cl_I (show n < 2 ^ 31 by omega)
          have x1 : ∀ (w : GS) f, cI_count (cI_places_set w f) = cI_count w := fun _ _ => rfl
          have x2 : ∀ (w : GS) f, cI_count (cI_how_set w f) = cI_count w := fun _ _ => rfl
          have x3 : ∀ (w : GS) f, cI_count (cI_patrols_set w f) = cI_count w := fun _ _ => rfl
          have x4 : ∀ (w : GS) f, cI_count (cI_count_set w f) = f := fun _ _ => rfl
          have y1 : ∀ (w : MS) f, mI_incidents (mI_placed_set w f) = mI_incidents w := fun _ _ => rfl
          have y2 : ∀ (w : MS) f, mI_incidents (mI_state_set w f) = mI_incidents w := fun _ _ => rfl
          have y3 : ∀ (w : MS) f, mI_incidents (mI_incidents_set w f) = f := fun _ _ => rfl
          have y4 : mI_incidents (m_thrown_set v 0) = nI n := n2
          refine SI_ok (nI n) (u' := cI_count_set (cI_patrols_set (cI_how_set (cI_places_set u (upd (cI_places u) n (nI (4 * s + l)))) (upd (cI_how u) n 0)) (upd (cI_patrols u) n (-1))) (nI (n + 1))) (v' := mI_incidents_set (mI_state_set (mI_placed_set (m_thrown_set v 0) (upd (mI_placed v) n (nI (4 * s + l)))) (upd (mI_state v) n 0)) (nI (n + 1))) ?_ ?_ rfl ⟨hM, hT, hD, hS, hO, hH, ⟨n + 1, by omega, rfl, rfl, congrArg (fun t => upd t n (nI (4 * s + l))) pl, congrArg (fun t => upd t n 0) hw, ?_, ?_, ?_⟩, hP, hB, hK⟩
          · have w1 : ∀ f, cI_how (cI_places_set u f) = cI_how u := fun _ => rfl
            have w2 : ∀ f g, cI_patrols (cI_how_set (cI_places_set u f) g) = cI_patrols u := fun _ _ => rfl
            have add : g_X2_add u (nI (4 * s + l)) = some (nI n, cI_count_set (cI_patrols_set (cI_how_set (cI_places_set u (upd (cI_places u) n (nI (4 * s + l)))) (upd (cI_how u) n 0)) (upd (cI_patrols u) n (-1))) (nI (n + 1))) := by
              simp only [g_X2_add, n1, i1, pz_bind, z10, if_false, pz_let, x1, x2, x3, x4, a1, c1, nI_1, nI_pred, w1, w2]
            simp only [g_X9_report, e1, pz_xl, placeN, pz_bind, pz_let, st _ _ c, pz_ns1, g1, add]
          · have w1 : ∀ f, mI_state (mI_placed_set (m_thrown_set v 0) f) = mI_state v := fun _ => rfl
            have w2 : mI_placed (m_thrown_set v 0) = mI_placed v := rfl
            simp only [g_X10_report, e2, pz_bind, pz_let, z10, z00, if_false, if_true, n2, n12, eq_false (show ¬ n = 12 by omega), mpl, g2, lz, sm _ _ c, pz_h0, y1, y2, y3, y4, a1, c1, nI_1, nI_pred, w1, w2]
          · intro k hk
            show ∃ q : Nat, q < 48 ∧ upd (cI_places u) n (nI (4 * s + l)) k = nI q
            by_cases e : k = n
            · rw [e, pk_us]
              exact ⟨_, by assumption, rfl⟩
            · rw [pk_un e]
              exact hpl k (by omega)
          · intro j hj
            show mP_sentTo v j = -1 ∨ ∃ k : Nat, k < n + 1 ∧ mP_sentTo v j = nI k ∧ upd (cI_patrols u) n (-1) k = nI j
            rcases ha j hj with e | ⟨k, k1, k2, k3⟩
            · exact Or.inl e
            · exact Or.inr ⟨k, by omega, k2, by rw [pk_un (by omega)]; exact k3⟩
          · intro k hk
            show upd (cI_patrols u) n (-1) k = -1 ∨ ∃ j : Nat, j < 3 ∧ upd (cI_patrols u) n (-1) k = nI j ∧ mP_sentTo v j = nI k
            by_cases e : k = n
            · rw [e, pk_us]
              exact Or.inl rfl
            · rw [pk_un e]
              exact hb k (by omega)
        · exact absurd ⟨by rw [pl]; exact k2, by rw [hw]; exact k3⟩ (G1 k k1)
      · refine no ?_ ?_
        · simp only [g_X9_report, e1, pz_xl, pz_xr, id, placeN, pz_bind, pz_let, st _ _ c, pz_ns1, pz_ns, g1]
        · by_cases c3 : n = 12
          · simp only [g_X10_report, e2, pz_bind, pz_let, z10, z00, if_false, n2, n12, eq_true c3, if_true, pz_h2]
          · rcases isRep_m hn n2 (nI (4 * s + l)) with ⟨-, G2⟩ | ⟨g2, -⟩
            · obtain ⟨k, k1, k2, k3⟩ := G1.resolve_left c3
              exact absurd ⟨by rw [← pl]; exact k2, by rw [← hw]; exact k3⟩ (G2 k k1)
            · simp only [g_X10_report, e2, pz_bind, pz_let, z10, z00, if_false, if_true, n2, n12, eq_false c3, mpl, g2, lz, sm _ _ c, pz_h2]
/-- the minutes through a section, in both -/
theorem through (hT : RT u v) (hH : RH u v) {k : Nat} (hk : k < 12) : ∃ x : Nat, x ≤ 5 ∧ g_X9_minutesThrough u (nI k) = some (nI x) ∧ ((mH_isOpen v k = 0 ∧ x = 1) ∨ (¬ mH_isOpen v k = 0 ∧ ∃ m : Nat, m ≤ 20 ∧ g_X10_mostOf v (nI k) = some (nI m) ∧ x = 1 + m / 5)) := by
  have i1 : g_X9_isWithin (nI k) 0 11 = some 1 := isw (k := k) (a := 0) (b := 11) _ rfl (Nat.zero_le k) (by omega) (by decide) _ _
  by_cases c : cH_open u k = 0
  · refine ⟨1, by omega, ?_, Or.inl ⟨by rw [← hH.1]; exact c, rfl⟩⟩
    simp only [g_X9_minutesThrough, g_X6_isOpenAt, i1, pz_bind, z10, if_false, pz_inN hk (show 12 < 2 ^ 31 by decide), cl_I (show k < 2 ^ 31 by omega), eq_true c, if_true]
    rfl
  · obtain ⟨m, hm, e1, e2⟩ := most hT hk
    refine ⟨1 + m / 5, by omega, ?_, Or.inr ⟨by rw [← hH.1]; exact c, m, hm, e2, rfl⟩⟩
    simp only [g_X9_minutesThrough, g_X6_isOpenAt, i1, pz_bind, z10, if_false, pz_inN hk (show 12 < 2 ^ 31 by decide), cl_I (show k < 2 ^ 31 by omega), eq_false c, e1]
    rw [show nI m / (5 : Int32) = nI (m / 5) from pk_div (d := 5) (by omega) (by omega) (by omega)]
    exact congrArg some (nI_add 1 (m / 5))
theorem way (hT : RT u v) (hH : RH u v) {a t : Nat} (ha : a < 12) (ht : t < 12) : ∃ x : Nat, x ≤ 100 ∧ g_X9_wayBetween u (nI a) (nI t) = some (nI x) ∧ ∀ j : Nat, j < 3 → mP_at v j = nI a → g_X10_wayOf v (nI j) (nI t) = some (nI x) := by
  have q1 : nI a + 1 = nI (a + 1) := nI_1 a
  have i3 : ∀ {j : Nat}, j < 3 → ∀ {α : Type} (z : Option α), g_in (nI j) 3 z = z := fun hj _ z => pz_inN hj (by decide) z
  by_cases c : a < t
  · have c1 := eq_true (nI_lt c (show t < 2 ^ 31 by omega))
    have c2 := eq_true (nI_le (Nat.le_of_lt c) (show t < 2 ^ 31 by omega))
    obtain ⟨n, z, y, ⟨x, hx, rfl, rfl⟩, h1, h2⟩ := lpR (fun n (z : Int32 × Int32) => lp_X9_wayBetween_18 u (nI t) (fun x => some x) n z.1 z.2) (fun n (z : Int32 × Int32) => lp_X10_wayOf_35 v (nI t) (fun x => some x) n z.1 z.2) (t - a) (by omega) (fun i z y => ∃ x : Nat, x ≤ 5 * i ∧ z = (nI x, nI (a + 1 + i)) ∧ y = (nI x, nI (a + 1 + i))) (by
      rintro n i z y hi ⟨x, hx, rfl, rfl⟩
      obtain ⟨m, hm, e1, e2⟩ := through hT hH (show a + 1 + i < 12 by omega)
      have lt : ¬ nI t < nI (a + 1 + i) := nI_nlt (by omega) (by omega)
      have q2 : nI (a + 1 + i) + 1 = nI (a + 1 + (i + 1)) := nI_1 (a + 1 + i)
      refine ⟨(nI (x + m), nI (a + 1 + (i + 1))), (nI (x + m), nI (a + 1 + (i + 1))), ⟨x + m, by omega, rfl, rfl⟩, ?_, ?_⟩
      · show lp_X9_wayBetween_18 u _ _ (n + 1) (nI x) (nI (a + 1 + i)) = lp_X9_wayBetween_18 u _ _ n _ _
        simp only [lp_X9_wayBetween_18, eq_false lt, if_false, e1, pz_bind, pz_let, nI_add, q2]
      · show lp_X10_wayOf_35 v _ _ (n + 1) (nI x) (nI (a + 1 + i)) = lp_X10_wayOf_35 v _ _ n _ _
        rcases e2 with ⟨o, rfl⟩ | ⟨o, w, hw, e3, rfl⟩
        · simp only [lp_X10_wayOf_35, eq_false lt, if_false, pz_let, pz_inN (show a + 1 + i < 12 by omega) (show 12 < 2 ^ 31 by decide), cl_I (show a + 1 + i < 2 ^ 31 by omega), eq_true o, if_true, nI_1, q2] <;> rfl
        · have q3 : (1 : Int32) + nI w / (5 : Int32) = nI (1 + w / 5) := by
            rw [show nI w / (5 : Int32) = nI (w / 5) from pk_div (d := 5) (by omega) (by omega) (by omega)]
            exact nI_add 1 (w / 5)
          simp only [lp_X10_wayOf_35, eq_false lt, if_false, pz_let, pz_inN (show a + 1 + i < 12 by omega) (show 12 < 2 ^ 31 by decide), cl_I (show a + 1 + i < 2 ^ 31 by omega), eq_false o, e3, pz_bind, q3, nI_add, q2]) (0, nI (a + 1)) (0, nI (a + 1)) ⟨0, by omega, rfl, rfl⟩
    have gt : nI t < nI (a + 1 + (t - a)) := nI_lt (by omega) (by omega)
    refine ⟨x, by omega, ?_, fun j hj ej => ?_⟩
    · rw [g_X9_wayBetween, if_pos (nI_lt c (by omega)), pz_let, q1]
      refine h1.trans ?_
      show lp_X9_wayBetween_18 u _ _ (n + 1) _ _ = _
      simp only [lp_X9_wayBetween_18, eq_true gt, if_true]
    · simp only [g_X10_wayOf, i3 hj, pz_let, cl_I (show j < 2 ^ 31 by omega), ej, c2, if_true, q1]
      refine h2.trans ?_
      show lp_X10_wayOf_35 v _ _ (n + 1) _ _ = _
      simp only [lp_X10_wayOf_35, eq_true gt, if_true]
  · have q3 : (3 : Int32) * (nI a - nI t) = nI (3 * (a - t)) := by
      rw [pk_sub (by omega)]
      exact pk_mul 3 (a - t)
    refine ⟨3 * (a - t), by omega, ?_, fun j hj ej => ?_⟩
    · rw [g_X9_wayBetween, if_neg (nI_nlt (by omega) (by omega)), q3]
    · have gt : nI t < nI (a + 1) := nI_lt (by omega) (by omega)
      have fin : ∀ z : Int32, lp_X10_wayOf_35 v (nI t) (fun x => some x) FU z (nI (a + 1)) = some z := fun z => by
        have : ∀ n : Nat, lp_X10_wayOf_35 v (nI t) (fun x => some x) (n + 1) z (nI (a + 1)) = some z := fun n => by
          simp only [lp_X10_wayOf_35, eq_true gt, if_true]
        exact this 999
      by_cases c3 : a = t
      · have c2 := eq_true (nI_le (show a ≤ t by omega) (show t < 2 ^ 31 by omega))
        simp only [g_X10_wayOf, i3 hj, pz_let, cl_I (show j < 2 ^ 31 by omega), ej, c2, if_true, q1, fin]
        rw [c3, Nat.sub_self]
        rfl
      · have c2 := eq_false (nI_ge (show t < a by omega) (show a < 2 ^ 31 by omega))
        simp only [g_X10_wayOf, i3 hj, pz_let, cl_I (show j < 2 ^ 31 by omega), ej, c2, if_false, q1, fin, q3]
theorem sim_way (h : Rel u v) (p q : Int32) : SI Rel (g_X9_way u p q) (g_X10_way v p q) [("java/lang/IndexOutOfBoundsException", 1)] := by
  obtain ⟨hM, hT, hD, hS, hO, hH, hI, hP, hB, hK⟩ := id h
  rcases patc u p with ⟨e1, e2⟩ | ⟨j, hj, rfl, e1, e2⟩
  · exact SI_no "java/lang/IndexOutOfBoundsException" 1 0 (v' := m_thrown_set v 1) es1 (by simp only [g_X9_way, e1, pz_xr, id]) (by simp only [g_X10_way, e2, pz_bind, pz_let, z00, if_true, pz_h1]) rfl h
  · rcases secc u q with ⟨f1, f2⟩ | ⟨t, ht, rfl, f1, f2⟩
    · exact SI_no "java/lang/IndexOutOfBoundsException" 1 0 (v' := m_thrown_set v 1) es1 (by simp only [g_X9_way, e1, f1, pz_xl, pz_xr, id]) (by simp only [g_X10_way, e2, f2, pz_bind, pz_let, z00, z10, if_true, if_false, pz_h1]) rfl h
    · obtain ⟨a, ha, ea⟩ := hP.2.1 j hj
      obtain ⟨x, hx, x1, x2⟩ := way (v := m_thrown_set v 0) hT hH ha ht
      have x3 := x2 j hj (by rw [show mP_at (m_thrown_set v 0) = cP_sections u from hP.at']; exact ea)
      refine SI_ok (u' := u) (v' := m_thrown_set v 0) (nI x) ?_ ?_ rfl h
      · simp only [g_X9_way, e1, f1, pz_xl, pz_inN hj (show 3 < 2 ^ 31 by decide), cl_I (show j < 2 ^ 31 by omega), ea, x1, pz_bind]
      · simp only [g_X10_way, e2, f2, pz_bind, pz_let, z10, if_false, pz_h0, x3]
theorem sim_send (h : Rel u v) (p q : Int32) : SI Rel (g_X9_send u p q) (g_X10_send v p q) [("java/lang/IndexOutOfBoundsException", 1), ("java/lang/IllegalStateException", 2)] := by
  obtain ⟨hM, hT, hD, hS, hO, hH, hI, hP, hB, hK⟩ := id h
  obtain ⟨n, hn, n1, n2, pl, hw, hpl, ha, hb⟩ := id hI
  rcases patc u p with ⟨e1, e2⟩ | ⟨j, hj, rfl, e1, e2⟩
  · exact SI_no "java/lang/IndexOutOfBoundsException" 1 0 (v' := m_thrown_set v 1) es1 (by simp only [g_X9_send, e1, pz_xr, id]) (by simp only [g_X10_send, e2, pz_bind, pz_let, z00, if_true, pz_h1]) rfl h
  · rcases incc hn n1 n2 q with ⟨f1, f2⟩ | ⟨k, hk, rfl, f1, f2⟩
    · exact SI_no "java/lang/IndexOutOfBoundsException" 1 0 (v' := m_thrown_set v 1) es1 (by simp only [g_X9_send, e1, f1, pz_bind, pz_ni, pz_xl, pz_xr, id]) (by simp only [g_X10_send, e2, f2, pz_bind, pz_let, z00, z10, if_true, if_false, pz_h1]) rfl h
    · have a3 : ∀ {α : Type} (z : Option α), g_in (nI j) 3 z = z := fun z => pz_inN hj (by decide) z
      have a12 : ∀ {α : Type} (z : Option α), g_in (nI k) 12 z = z := fun z => pz_inN (by omega) (by decide) z
      have cj := cl_I (show j < 2 ^ 31 by omega)
      have ck := cl_I (show k < 2 ^ 31 by omega)
      have po := patOf hn ha hb hk
      have m1 : mP_sentTo v = cP_incidents u := hP.sent
      have m2 : mI_state v = cI_how u := hw.symm
      have no : ∀ (c1 : g_X9_send u (nI j) (nI k) = some (.inr "java/lang/IllegalStateException", u)) (c2 : g_X10_send v (nI j) (nI k) = some (0, m_thrown_set v 2)), SI Rel (g_X9_send u (nI j) (nI k)) (g_X10_send v (nI j) (nI k)) [("java/lang/IndexOutOfBoundsException", 1), ("java/lang/IllegalStateException", 2)] := fun c1 c2 => SI_no "java/lang/IllegalStateException" 2 0 (v' := m_thrown_set v 2) es2 c1 c2 rfl h
      by_cases c1 : cP_incidents u j = -1
      · by_cases c2 : cI_how u k = 1
        · by_cases c3 : cI_patrols u k = -1
          · obtain ⟨a, haa, ea⟩ := hP.2.1 j hj
            obtain ⟨x, hx, ex⟩ := hpl k hk
            obtain ⟨w, hw2, w1, w2⟩ := way (v := mP_sentTo_set (m_thrown_set v 0) (upd (mP_sentTo v) j (nI k))) hT hH haa (show x / 4 < 12 by omega)
            have w3 := w2 j hj (by rw [show mP_at (mP_sentTo_set (m_thrown_set v 0) (upd (mP_sentTo v) j (nI k))) = cP_sections u from hP.at']; exact ea)
            have x4 : nI x / (4 : Int32) = nI (x / 4) := pk_div (d := 4) (by omega) (by omega) (by omega)
            have l1 : ∀ (w : GS) f, cP_minutesLeft (cP_minutesLeft_set w f) = f := fun _ _ => rfl
            have l2 : ∀ f, cP_incidents (cI_patrols_set u f) = cP_incidents u := fun _ => rfl
            have l3 : ∀ f g, cP_minutesLeft (cP_incidents_set (cI_patrols_set u f) g) = cP_minutesLeft u := fun _ _ => rfl
            have r1 : ∀ (w : MS) f, mP_left (mP_left_set w f) = f := fun _ _ => rfl
            have r2 : mP_sentTo (m_thrown_set v 0) = mP_sentTo v := rfl
            have r3 : ∀ f, mI_placed (mP_sentTo_set (m_thrown_set v 0) f) = cI_places u := fun _ => pl.symm
            have r4 : ∀ f, mP_left (mP_sentTo_set (m_thrown_set v 0) f) = mP_left v := fun _ => rfl
            have w5 : nI w + 5 = nI (w + 5) := nI_add w 5
            refine SI_ok (nI (w + 5)) (u' := cP_minutesLeft_set (cP_incidents_set (cI_patrols_set u (upd (cI_patrols u) k (nI j))) (upd (cP_incidents u) j (nI k))) (upd (cP_minutesLeft u) j (nI (w + 5)))) (v' := mP_left_set (mP_sentTo_set (m_thrown_set v 0) (upd (mP_sentTo v) j (nI k))) (upd (mP_left v) j (nI (w + 5)))) ?_ ?_ rfl ⟨hM, hT, hD, hS, hO, hH, ⟨n, hn, n1, n2, pl, hw, hpl, ?_, ?_⟩, ⟨congrArg (fun t : cP_t => (t.1, upd t.2.1 j (nI k), upd t.2.2 j (nI (w + 5)))) hP.1, hP.2.1, ?_⟩, hB, hK⟩
            · simp only [g_X9_send, e1, f1, pz_bind, pz_ni1, pz_xl, a3, a12, cj, ck, pz_let, eq_true c1, eq_true c2, eq_true c3, if_true, pz_ns1, secOf hn n1 hk hx ex, ea, w1, l1, l2, l3, w5, pk_us]
            · simp only [g_X10_send, e2, f2, pz_bind, pz_let, z10, z00, if_false, if_true, a3, a12, cj, ck, m1, m2, eq_true c1, eq_true c2, po, eq_true c3, pz_h0, r2]
              rw [← m1]
              simp only [r3, ex, x4, w3, pz_bind, r1, r4, w5, pk_us]
            · intro j' hj'
              show upd (mP_sentTo v) j (nI k) j' = -1 ∨ ∃ k' : Nat, k' < n ∧ upd (mP_sentTo v) j (nI k) j' = nI k' ∧ upd (cI_patrols u) k (nI j) k' = nI j'
              by_cases e : j' = j
              · rw [e, pk_us]
                exact Or.inr ⟨k, hk, rfl, pk_us⟩
              · rw [pk_un e]
                rcases ha j' hj' with z | ⟨k', y1, y2, y3⟩
                · exact Or.inl z
                · refine Or.inr ⟨k', y1, y2, ?_⟩
                  rw [pk_un (fun e2 => by
                    rw [e2, c3] at y3
                    exact nm1 j' (by omega) y3.symm)]
                  exact y3
            · intro k' hk'
              show upd (cI_patrols u) k (nI j) k' = -1 ∨ ∃ j' : Nat, j' < 3 ∧ upd (cI_patrols u) k (nI j) k' = nI j' ∧ upd (mP_sentTo v) j (nI k) j' = nI k'
              by_cases e : k' = k
              · rw [e, pk_us]
                exact Or.inr ⟨j, hj, rfl, pk_us⟩
              · rw [pk_un e]
                rcases hb k' hk' with z | ⟨j', y1, y2, y3⟩
                · exact Or.inl z
                · refine Or.inr ⟨j', y1, y2, ?_⟩
                  rw [pk_un (fun e2 => by
                    rw [e2, m1, c1] at y3
                    exact nm1 k' (by omega) y3.symm)]
                  exact y3
            · intro j' hj'
              show (upd (cP_incidents u) j (nI k) j' = -1 ∧ upd (cP_minutesLeft u) j (nI (w + 5)) j' = 0) ∨ (¬ upd (cP_incidents u) j (nI k) j' = -1 ∧ ∃ x : Nat, 1 ≤ x ∧ x ≤ 1000 ∧ upd (cP_minutesLeft u) j (nI (w + 5)) j' = nI x)
              by_cases e : j' = j
              · rw [e, pk_us, pk_us]
                exact Or.inr ⟨nm1 k (by omega), w + 5, by omega, by omega, rfl⟩
              · rw [pk_un e, pk_un e]
                exact hP.2.2 j' hj'
          · refine no ?_ ?_
            · simp only [g_X9_send, e1, f1, pz_bind, pz_ni1, pz_xl, pz_xr, id, a3, a12, cj, ck, pz_let, eq_true c1, eq_true c2, eq_false c3, if_true, if_false, pz_ns1, pz_ns]
            · simp only [g_X10_send, e2, f2, pz_bind, pz_let, z10, z00, z20, if_false, if_true, a3, a12, cj, ck, m1, m2, eq_true c1, eq_true c2, po, eq_false c3, pz_h2]
        · refine no ?_ ?_
          · simp only [g_X9_send, e1, f1, pz_bind, pz_ni1, pz_xl, pz_xr, id, a3, a12, cj, ck, pz_let, eq_true c1, eq_false c2, if_true, if_false, pz_ns1, pz_ns]
          · simp only [g_X10_send, e2, f2, pz_bind, pz_let, z10, z00, z20, if_false, if_true, a3, a12, cj, ck, m1, m2, eq_true c1, eq_false c2, pz_h2]
      · refine no ?_ ?_
        · simp only [g_X9_send, e1, f1, pz_bind, pz_ni1, pz_xl, pz_xr, id, a3, a12, cj, ck, pz_let, eq_false c1, if_false, pz_ns]
        · simp only [g_X10_send, e2, f2, pz_bind, pz_let, z10, z00, z20, if_false, if_true, a3, a12, cj, ck, m1, eq_false c1, pz_h2]
end RELS7

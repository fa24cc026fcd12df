/-- told over: 2 where C holds, what it was elsewhere -/
def Tl (f f0 : Nat → Int32) (C : Nat → Prop) : Prop := ∀ p : Nat, p < 48 → (C p → f p = 2) ∧ (¬ C p → f p = f0 p)
theorem Tl.id0 (f : Nat → Int32) (C : Nat → Prop) (h : ∀ p : Nat, p < 48 → ¬ C p) : Tl f f C := fun p hp => ⟨fun c => absurd c (h p hp), fun _ => rfl⟩
theorem Tl.or {f f1 f0 : Nat → Int32} {C D : Nat → Prop} (h1 : Tl f1 f0 C) (h2 : Tl f f1 D) : Tl f f0 (fun p => C p ∨ D p) := fun p hp => by
  refine ⟨fun c => ?_, fun c => ((h2 p hp).2 (fun d => c (Or.inr d))).trans ((h1 p hp).2 (fun d => c (Or.inl d)))⟩
  by_cases d : D p
  · exact (h2 p hp).1 d
  · exact ((h2 p hp).2 d).trans ((h1 p hp).1 (c.resolve_right d))
theorem Tl.iff {f f0 : Nat → Int32} {C D : Nat → Prop} (h : Tl f f0 C) (e : ∀ p : Nat, p < 48 → (C p ↔ D p)) : Tl f f0 D := fun p hp => ⟨fun d => (h p hp).1 ((e p hp).mpr d), fun d => (h p hp).2 (fun c => d ((e p hp).mp c))⟩
theorem Tl.put {f f0 : Nat → Int32} {C : Nat → Prop} (h : Tl f f0 C) (q : Nat) : Tl (upd f q 2) f0 (fun p => C p ∨ p = q) := fun p hp => by
  by_cases e : p = q
  · exact ⟨fun _ => by rw [e, pk_us], fun c => absurd (Or.inr e) c⟩
  · rw [pk_un e]
    exact ⟨fun c => (h p hp).1 (c.resolve_right e), fun c => (h p hp).2 (fun d => c (Or.inl d))⟩
section RELSA
variable {u : GS} {v : MS}
theorem ct1 (u : GS) (f : Nat → Int32) : cL_told (cL_told_set u f) = f := rfl
theorem ct2 (u : GS) (f g : Nat → Int32) : cL_told_set (cL_told_set u f) g = cL_told_set u g := rfl
theorem ct3 (u : GS) (f : Nat → Int32) : cH_open (cL_told_set u f) = cH_open u := rfl
theorem ct4 (u : GS) (f : Nat → Int32) : cI_count (cL_told_set u f) = cI_count u := rfl
theorem ct5 (u : GS) (f : Nat → Int32) : cI_how (cL_told_set u f) = cI_how u := rfl
theorem ct6 (u : GS) (f : Nat → Int32) : cI_places (cL_told_set u f) = cI_places u := rfl
theorem ct7 (u : GS) (f : Nat → Int32) : cB_count (cL_told_set u f) = cB_count u := rfl
theorem ct8 (u : GS) (f : Nat → Int32) : cB_lanes (cL_told_set u f) = cB_lanes u := rfl
theorem ct9 (u : GS) (f : Nat → Int32) : cB_froms (cL_told_set u f) = cB_froms u := rfl
theorem ctA (u : GS) (f : Nat → Int32) : cB_tos (cL_told_set u f) = cB_tos u := rfl
theorem ctB (u : GS) (f : Nat → Int32) : cL_orders (cL_told_set u f) = cL_orders u := rfl
theorem tell6 (f0 : Nat → Int32) : ∃ f : Nat → Int32, g_X6_tellCrosses (cL_told_set u f0) = some (cL_told_set u f) ∧ Tl f f0 (fun p => p % 4 = 0 ∧ cH_open u (p / 4) = 0) := by
  obtain ⟨n, z, ⟨f, hf, rfl⟩, h1⟩ := lpF (fun n (z : Int32 × GS) => lp_X6_tellCrosses_2 (fun w => some w) n z.1 z.2) 12 (by decide) (fun i z => ∃ f : Nat → Int32, Tl f f0 (fun p => p % 4 = 0 ∧ p / 4 < i ∧ cH_open u (p / 4) = 0) ∧ z = (nI i, cL_told_set u f)) (by
    rintro n i z hi ⟨f, hf, rfl⟩
    by_cases c : cH_open u i = 0
    · refine ⟨(nI (i + 1), cL_told_set u (upd f (4 * i) 2)), ⟨_, (hf.put (4 * i)).iff (fun p hp => ?_), rfl⟩, ?_⟩
      · constructor
        · rintro (⟨a, b, d⟩ | rfl)
          · exact ⟨a, by omega, d⟩
          · have e : 4 * i / 4 = i := by omega
            rw [e]
            exact ⟨by omega, by omega, c⟩
        · rintro ⟨a, b, d⟩
          by_cases e : p / 4 = i
          · exact Or.inr (by omega)
          · exact Or.inl ⟨a, by omega, d⟩
      · show lp_X6_tellCrosses_2 _ (n + 1) (nI i) _ = lp_X6_tellCrosses_2 _ n _ _
        simp only [lp_X6_tellCrosses_2, c_ge 12 12 hi (by decide), if_false, pz_inN hi (show 12 < 2 ^ 31 by decide), pz_let, cl_I (show i < 2 ^ 31 by omega), ct3, eq_true c, if_true, placeN0, pz_bind, pz_inN (show 4 * i < 48 by omega) (show 48 < 2 ^ 31 by decide), cl_I (show 4 * i < 2 ^ 31 by omega), ct1, ct2, nI_1]
    · refine ⟨(nI (i + 1), cL_told_set u f), ⟨_, hf.iff (fun p hp => ?_), rfl⟩, ?_⟩
      · constructor
        · rintro ⟨a, b, d⟩
          exact ⟨a, by omega, d⟩
        · rintro ⟨a, b, d⟩
          refine ⟨a, ?_, d⟩
          by_cases e : p / 4 = i
          · rw [e] at d
            exact absurd d c
          · omega
      · show lp_X6_tellCrosses_2 _ (n + 1) (nI i) _ = lp_X6_tellCrosses_2 _ n _ _
        simp only [lp_X6_tellCrosses_2, c_ge 12 12 hi (by decide), if_false, pz_inN hi (show 12 < 2 ^ 31 by decide), pz_let, cl_I (show i < 2 ^ 31 by omega), ct3, eq_false c, nI_1]) (0, cL_told_set u f0) ⟨f0, Tl.id0 f0 _ (fun p hp q => absurd q.2.1 (Nat.not_lt_zero _)), rfl⟩
  refine ⟨f, h1.trans ?_, hf.iff (fun p hp => ⟨fun q => ⟨q.1, q.2.2⟩, fun q => ⟨q.1, by omega, q.2⟩⟩)⟩
  show lp_X6_tellCrosses_2 _ (n + 1) (nI 12) _ = _
  simp only [lp_X6_tellCrosses_2, c_le 12 12 (by decide), if_true]
theorem tell2 (hI : RI u v) (f0 : Nat → Int32) : ∃ f : Nat → Int32, g_X2_tellCrosses (cL_told_set u f0) = some (cL_told_set u f) ∧ Tl f f0 (fun p => ∃ k : Nat, k < (mI_incidents v).toNatClampNeg ∧ mI_placed v k = nI p ∧ mI_state v k = 1) := by
  obtain ⟨m, hm, n1, n2, pl, hw, hpl, -, -⟩ := hI
  rw [n2, cl_I (show m < 2 ^ 31 by omega), ← pl, ← hw]
  obtain ⟨n, z, ⟨f, hf, rfl⟩, h1⟩ := lpF (fun n (z : Int32 × GS) => lp_X2_tellCrosses_2 (fun w => some w) n z.1 z.2) 12 (by decide) (fun i z => ∃ f : Nat → Int32, Tl f f0 (fun p => ∃ k : Nat, k < i ∧ k < m ∧ cI_places u k = nI p ∧ cI_how u k = 1) ∧ z = (nI i, cL_told_set u f)) (by
    rintro n i z hi ⟨f, hf, rfl⟩
    have ci := cl_I (show i < 2 ^ 31 by omega)
    have g12 : ∀ {α : Type} (a : Option α), g_in (nI i) 12 a = a := fun a => pz_inN hi (by decide) a
    have same : ¬ (i < m ∧ cI_how u i = 1) → Tl f f0 (fun p => ∃ k : Nat, k < i + 1 ∧ k < m ∧ cI_places u k = nI p ∧ cI_how u k = 1) := fun c => hf.iff (fun p hp => ⟨fun ⟨k, a, b⟩ => ⟨k, by omega, b⟩, fun ⟨k, a, b⟩ => ⟨k, by
      by_cases e : k = i
      · rw [e] at b
        exact absurd ⟨b.1, b.2.2⟩ c
      · omega, b⟩⟩)
    by_cases c1 : m ≤ i
    · refine ⟨(nI (i + 1), cL_told_set u f), ⟨_, same (fun q => by omega), rfl⟩, ?_⟩
      show lp_X2_tellCrosses_2 _ (n + 1) (nI i) _ = lp_X2_tellCrosses_2 _ n _ _
      simp only [lp_X2_tellCrosses_2, c_ge 12 12 hi (by decide), if_false, pz_let, ct4, n1, eq_true (nI_le c1 (show i < 2 ^ 31 by omega)), if_true, nI_1]
    · have c1' := eq_false (nI_ge (Nat.lt_of_not_le c1) (show m < 2 ^ 31 by omega))
      by_cases c2 : cI_how u i = 1
      · obtain ⟨q, hq, eq1⟩ := hpl i (by omega)
        have i1 : g_X9_isWithin (nI q) 0 47 = some 1 := isw (k := q) (a := 0) (b := 47) _ rfl (Nat.zero_le q) (by omega) (by decide) _ _
        refine ⟨(nI (i + 1), cL_told_set u (upd f q 2)), ⟨_, (hf.put q).iff (fun p hp => ?_), rfl⟩, ?_⟩
        · constructor
          · rintro (⟨k, a, b⟩ | rfl)
            · exact ⟨k, by omega, b⟩
            · exact ⟨i, by omega, by omega, eq1, c2⟩
          · rintro ⟨k, a, b, d, e⟩
            by_cases ek : k = i
            · rw [ek, eq1, nI_eq (by omega) (by omega)] at d
              exact Or.inr d.symm
            · exact Or.inl ⟨k, by omega, b, d, e⟩
        · show lp_X2_tellCrosses_2 _ (n + 1) (nI i) _ = lp_X2_tellCrosses_2 _ n _ _
          simp only [lp_X2_tellCrosses_2, c_ge 12 12 hi (by decide), if_false, pz_let, ct4, n1, c1', g12, ci, ct5, ct6, eq_true c2, if_true, eq1, i1, pz_bind, z10, pz_inN hq (show 48 < 2 ^ 31 by decide), cl_I (show q < 2 ^ 31 by omega), ct1, ct2, nI_1]
      · refine ⟨(nI (i + 1), cL_told_set u f), ⟨_, same (fun q => c2 q.2), rfl⟩, ?_⟩
        show lp_X2_tellCrosses_2 _ (n + 1) (nI i) _ = lp_X2_tellCrosses_2 _ n _ _
        simp only [lp_X2_tellCrosses_2, c_ge 12 12 hi (by decide), if_false, pz_let, ct4, n1, c1', g12, ci, ct5, eq_false c2, nI_1]) (0, cL_told_set u f0) ⟨f0, Tl.id0 f0 _ (fun p hp ⟨k, a, _⟩ => absurd a (Nat.not_lt_zero _)), rfl⟩
  refine ⟨f, h1.trans ?_, hf.iff (fun p hp => ⟨fun ⟨k, a, b⟩ => ⟨k, b⟩, fun ⟨k, b⟩ => ⟨k, by omega, b⟩⟩)⟩
  show lp_X2_tellCrosses_2 _ (n + 1) (nI 12) _ = _
  simp only [lp_X2_tellCrosses_2, c_le 12 12 (by decide), if_true]
theorem tellOf {k a b c : Nat} (hk : k < 8) (ha : a < 4) (hc : c < 12) (h1 : cB_lanes u k = nI a) (h2 : cB_froms u k = nI b) (h3 : cB_tos u k = nI c) (hb : b < 2 ^ 31) (f0 : Nat → Int32) : ∃ f : Nat → Int32, g_X0_tellCrossesOf (cL_told_set u f0) (nI k) = some (cL_told_set u f) ∧ Tl f f0 (fun p => p % 4 = a ∧ b ≤ p / 4 ∧ p / 4 ≤ c) := by
  have ck := cl_I (show k < 2 ^ 31 by omega)
  have g8 : ∀ {α : Type} (a : Option α), g_in (nI k) 8 a = a := fun a => pz_inN hk (by decide) a
  obtain ⟨n, z, ⟨f, hf, rfl⟩, e1⟩ := lpF (fun n (z : Int32 × GS) => lp_X0_tellCrossesOf_2 (nI k) (fun w => some w) n z.1 z.2) 12 (by decide) (fun i z => ∃ f : Nat → Int32, Tl f f0 (fun p => p % 4 = a ∧ p / 4 < i ∧ b ≤ p / 4 ∧ p / 4 ≤ c) ∧ z = (nI i, cL_told_set u f)) (by
    rintro n i z hi ⟨f, hf, rfl⟩
    have pN : g_X9_placeOf (nI i) (nI a) = some (nI (4 * i + a)) := placeN i a
    by_cases c1 : b ≤ i ∧ i ≤ c
    · have i1 : g_X9_isWithin (nI i) (nI b) (nI c) = some 1 := iw_nI c1.1 c1.2 (by omega)
      have i2 : g_X9_isWithin (nI (4 * i + a)) 0 47 = some 1 := isw (k := 4 * i + a) (a := 0) (b := 47) _ rfl (Nat.zero_le _) (by omega) (by decide) _ _
      refine ⟨(nI (i + 1), cL_told_set u (upd f (4 * i + a) 2)), ⟨_, (hf.put (4 * i + a)).iff (fun p hp => ?_), rfl⟩, ?_⟩
      · constructor
        · rintro (⟨x, y, w⟩ | rfl)
          · exact ⟨x, by omega, w⟩
          · exact ⟨by omega, by omega, by omega, by omega⟩
        · rintro ⟨x, y, w⟩
          by_cases e : p / 4 = i
          · exact Or.inr (by omega)
          · exact Or.inl ⟨x, by omega, w⟩
      · show lp_X0_tellCrossesOf_2 _ _ (n + 1) (nI i) _ = lp_X0_tellCrossesOf_2 _ _ n _ _
        simp only [lp_X0_tellCrossesOf_2, c_ge 12 12 hi (by decide), if_false, g8, ck, ct8, ct9, ctA, h1, h2, h3, pN, pz_bind, i1, pz_let, z10, i2, pz_inN (show 4 * i + a < 48 by omega) (show 48 < 2 ^ 31 by decide), cl_I (show 4 * i + a < 2 ^ 31 by omega), ct1, ct2, nI_1]
    · have i1 : g_X9_isWithin (nI i) (nI b) (nI c) = some 0 := iw_nI0 (by omega) (by omega) hb (by omega)
      refine ⟨(nI (i + 1), cL_told_set u f), ⟨_, hf.iff (fun p hp => ⟨fun q => ⟨q.1, by omega, q.2.2⟩, fun q => ⟨q.1, by omega, q.2.2⟩⟩), rfl⟩, ?_⟩
      show lp_X0_tellCrossesOf_2 _ _ (n + 1) (nI i) _ = lp_X0_tellCrossesOf_2 _ _ n _ _
      simp only [lp_X0_tellCrossesOf_2, c_ge 12 12 hi (by decide), if_false, g8, ck, ct8, ct9, ctA, h1, h2, h3, pN, pz_bind, i1, pz_let, if_true, nI_1]) (0, cL_told_set u f0) ⟨f0, Tl.id0 f0 _ (fun p hp q => absurd q.2.1 (Nat.not_lt_zero _)), rfl⟩
  refine ⟨f, e1.trans ?_, hf.iff (fun p hp => ⟨fun q => ⟨q.1, q.2.2⟩, fun q => ⟨q.1, by omega, q.2⟩⟩)⟩
  show lp_X0_tellCrossesOf_2 _ _ (n + 1) (nI 12) _ = _
  simp only [lp_X0_tellCrossesOf_2, c_le 12 12 (by decide), if_true]
theorem isRun_t {k : Nat} (f : Nat → Int32) (m : Int32) : g_X0_isRunning (cL_told_set u f) (nI k) m = g_X0_isRunning u (nI k) m := rfl
theorem tell0 (hM : RM u v) (hB : RB u v) (f0 : Nat → Int32) : ∃ f : Nat → Int32, g_X0_tellCrosses (cL_told_set u f0) (c_minute u) = some (cL_told_set u f) ∧ Tl f f0 (fun p => ∃ k : Nat, k < (mB_works v).toNatClampNeg ∧ wkC v (p / 4) (p % 4) k) := by
  obtain ⟨w, hw, w1, w2, hall⟩ := id hB
  rw [w2, cl_I (show w < 2 ^ 31 by omega)]
  obtain ⟨n, z, ⟨f, hf, rfl⟩, e1⟩ := lpF (fun n (z : Int32 × GS) => lp_X0_tellCrosses_2 (c_minute u) (fun w => some w) n z.1 z.2) 8 (by decide) (fun i z => ∃ f : Nat → Int32, Tl f f0 (fun p => ∃ k : Nat, k < i ∧ k < w ∧ wkC v (p / 4) (p % 4) k) ∧ z = (nI i, cL_told_set u f)) (by
    rintro n i z hi ⟨f, hf, rfl⟩
    by_cases c1 : w ≤ i
    · refine ⟨(nI (i + 1), cL_told_set u f), ⟨_, hf.iff (fun p hp => ⟨fun ⟨k, a, b⟩ => ⟨k, by omega, b⟩, fun ⟨k, a, b⟩ => ⟨k, by omega, b⟩⟩), rfl⟩, ?_⟩
      show lp_X0_tellCrosses_2 _ _ (n + 1) (nI i) _ = lp_X0_tellCrosses_2 _ _ n _ _
      simp only [lp_X0_tellCrosses_2, c_ge 8 8 hi (by decide), if_false, pz_let, ct7, w1, eq_true (nI_le c1 (show i < 2 ^ 31 by omega)), if_true, nI_1]
    · have c1' := eq_false (nI_ge (Nat.lt_of_not_le c1) (show w < 2 ^ 31 by omega))
      obtain ⟨r, hr, r1, r2, -⟩ := run_eq hM hB w1 hw (show i < w by omega)
      have r3 := on_m (v := v) hi
      obtain ⟨a, b, c, d, e, a1, a3, b1, bc, c11, de, e6, ⟨f1, f2, f3, f4, f5⟩, ⟨g1, g2, g3, g4, g5⟩⟩ := hall i (by omega)
      by_cases o : ¬ m_now v < mB_worksBegin v i ∧ ¬ mB_worksEnd v i ≤ m_now v
      · rw [if_pos o] at r3
        have hr1 : r = 1 := Option.some.inj (r2.symm.trans r3)
        subst hr1
        obtain ⟨f', t1, t2⟩ := tellOf (u := u) hi (show a < 4 by omega) (show c < 12 by omega) f1 f2 f3 (by omega) f
        refine ⟨(nI (i + 1), cL_told_set u f'), ⟨_, (hf.or t2).iff (fun p hp => ?_), rfl⟩, ?_⟩
        · have wk : wkC v (p / 4) (p % 4) i ↔ (p % 4 = a ∧ b ≤ p / 4 ∧ p / 4 ≤ c) := by
            unfold wkC
            rw [g1, g2, g3, nI_eq (by omega) (by omega), nI_ltI (by omega) (by omega), nI_ltI (by omega) (by omega)]
            constructor
            · rintro ⟨x, y, -⟩
              omega
            · rintro ⟨x, y, w⟩
              exact ⟨by omega, ⟨by omega, by omega⟩, o⟩
          constructor
          · rintro (⟨k, x, y⟩ | q)
            · exact ⟨k, by omega, y⟩
            · exact ⟨i, by omega, by omega, wk.mpr q⟩
          · rintro ⟨k, x, y, q⟩
            by_cases ek : k = i
            · rw [ek] at q
              exact Or.inr (wk.mp q)
            · exact Or.inl ⟨k, by omega, y, q⟩
        · show lp_X0_tellCrosses_2 _ _ (n + 1) (nI i) _ = lp_X0_tellCrosses_2 _ _ n _ _
          simp only [lp_X0_tellCrosses_2, c_ge 8 8 hi (by decide), if_false, pz_let, ct7, w1, c1', isRun_t, r1, pz_bind, z10, t1, nI_1]
      · rw [if_neg o] at r3
        have hr1 : r = 0 := Option.some.inj (r2.symm.trans r3)
        subst hr1
        refine ⟨(nI (i + 1), cL_told_set u f), ⟨_, hf.iff (fun p hp => ⟨fun ⟨k, a, b⟩ => ⟨k, by omega, b⟩, fun ⟨k, a, b, q⟩ => ⟨k, by
          by_cases ek : k = i
          · rw [ek] at q
            exact absurd q.2.2 o
          · omega, b, q⟩⟩), rfl⟩, ?_⟩
        show lp_X0_tellCrosses_2 _ _ (n + 1) (nI i) _ = lp_X0_tellCrosses_2 _ _ n _ _
        simp only [lp_X0_tellCrosses_2, c_ge 8 8 hi (by decide), if_false, pz_let, ct7, w1, c1', isRun_t, r1, pz_bind, if_true, nI_1]) (0, cL_told_set u f0) ⟨f0, Tl.id0 f0 _ (fun p hp ⟨k, a, _⟩ => absurd a (Nat.not_lt_zero _)), rfl⟩
  refine ⟨f, e1.trans ?_, hf.iff (fun p hp => ⟨fun ⟨k, a, b⟩ => ⟨k, b⟩, fun ⟨k, b⟩ => ⟨k, by omega, b⟩⟩)⟩
  show lp_X0_tellCrosses_2 _ _ (n + 1) (nI 8) _ = _
  simp only [lp_X0_tellCrosses_2, c_le 8 8 (by decide), if_true]
/-- over the orders by hand -/
theorem tellO (f0 : Nat → Int32) (k : GS → Option GS) : ∃ f : Nat → Int32, lp_X3_setAnew_53 k FU 0 (cL_told_set u f0) = k (cL_told_set u f) ∧ ∀ p : Nat, p < 48 → f p = if cL_orders u p = -1 then f0 p else cL_orders u p := by
  obtain ⟨n, z, ⟨f, hf, rfl⟩, e1⟩ := lpF (fun n (z : Int32 × GS) => lp_X3_setAnew_53 k n z.1 z.2) 48 (by decide) (fun i z => ∃ f : Nat → Int32, (∀ p : Nat, f p = if p < i ∧ ¬ cL_orders u p = -1 then cL_orders u p else f0 p) ∧ z = (nI i, cL_told_set u f)) (by
    rintro n i z hi ⟨f, hf, rfl⟩
    have g48 : ∀ {α : Type} (a : Option α), g_in (nI i) 48 a = a := fun a => pz_inN hi (by decide) a
    have ci := cl_I (show i < 2 ^ 31 by omega)
    by_cases o : cL_orders u i = -1
    · refine ⟨(nI (i + 1), cL_told_set u f), ⟨f, fun p => (hf p).trans ?_, rfl⟩, ?_⟩
      · by_cases c : p < i ∧ ¬ cL_orders u p = -1
        · rw [if_pos c, if_pos ⟨by omega, c.2⟩]
        · rw [if_neg c, if_neg (fun q => c ⟨by
            by_cases e : p = i
            · rw [e] at q
              exact absurd o q.2
            · omega, q.2⟩)]
      · show lp_X3_setAnew_53 _ (n + 1) (nI i) _ = lp_X3_setAnew_53 _ n _ _
        simp only [lp_X3_setAnew_53, c_ge 48 48 hi (by decide), if_false, pz_let, g48, ci, ctB, eq_true o, if_true, nI_1]
    · refine ⟨(nI (i + 1), cL_told_set u (upd f i (cL_orders u i))), ⟨_, fun p => ?_, rfl⟩, ?_⟩
      · by_cases e : p = i
        · rw [e, pk_us, if_pos ⟨by omega, o⟩]
        · rw [pk_un e, hf p]
          by_cases c : p < i ∧ ¬ cL_orders u p = -1
          · rw [if_pos c, if_pos ⟨by omega, c.2⟩]
          · rw [if_neg c, if_neg (fun q => c ⟨by omega, q.2⟩)]
      · show lp_X3_setAnew_53 _ (n + 1) (nI i) _ = lp_X3_setAnew_53 _ n _ _
        simp only [lp_X3_setAnew_53, c_ge 48 48 hi (by decide), if_false, pz_let, g48, ci, ctB, eq_false o, ct1, ct2, nI_1]) (0, cL_told_set u f0) ⟨f0, fun p => by rw [if_neg (fun q => absurd q.1 (Nat.not_lt_zero p))], rfl⟩
  refine ⟨f, e1.trans ?_, fun p hp => (hf p).trans ?_⟩
  · show lp_X3_setAnew_53 _ (n + 1) (nI 48) _ = _
    simp only [lp_X3_setAnew_53, c_le 48 48 (by decide), if_true]
  · by_cases c : cL_orders u p = -1
    · rw [if_pos c, if_neg (fun q => q.2 c)]
    · rw [if_neg c, if_pos ⟨hp, c⟩]
theorem tell1 (k : GS → Option GS) : ∃ f : Nat → Int32, lp_X3_setAnew_3 k FU 0 u = k (cL_told_set u f) ∧ ∀ p : Nat, p < 48 → f p = 0 := by
  obtain ⟨n, z, ⟨f, hf, rfl⟩, e1⟩ := lpF (fun n (z : Int32 × GS) => lp_X3_setAnew_3 k n z.1 z.2) 48 (by decide) (fun i z => ∃ f : Nat → Int32, (∀ p : Nat, p < i → f p = 0) ∧ z = (nI i, cL_told_set u f)) (by
    rintro n i z hi ⟨f, hf, rfl⟩
    refine ⟨(nI (i + 1), cL_told_set u (upd f i 0)), ⟨_, fun p hp => ?_, rfl⟩, ?_⟩
    · by_cases e : p = i
      · rw [e, pk_us]
      · rw [pk_un e]
        exact hf p (by omega)
    · show lp_X3_setAnew_3 _ (n + 1) (nI i) _ = lp_X3_setAnew_3 _ n _ _
      simp only [lp_X3_setAnew_3, c_ge 48 48 hi (by decide), if_false, pz_let, pz_inN hi (show 48 < 2 ^ 31 by decide), cl_I (show i < 2 ^ 31 by omega), ct1, ct2, nI_1]) (0, u) ⟨cL_told u, fun p hp => absurd hp (Nat.not_lt_zero p), rfl⟩
  refine ⟨f, e1.trans ?_, hf⟩
  show lp_X3_setAnew_3 _ (n + 1) (nI 48) _ = _
  simp only [lp_X3_setAnew_3, c_le 48 48 (by decide), if_true]
/-- what is shown, out of what is told -/
def shF (t : Nat → Int32) (p : Nat) : Int32 := if t p = 0 ∧ p < 44 ∧ t (p + 4) = 2 then 1 else t p
theorem cs1 (u : GS) (f : Nat → Int32) : cL_told (cL_shown_set u f) = cL_told u := rfl
theorem cs2 (u : GS) (f g : Nat → Int32) : cL_shown_set (cL_shown_set u f) g = cL_shown_set u g := rfl
theorem cs3 (u : GS) (f : Nat → Int32) : cL_shown (cL_shown_set u f) = f := rfl
theorem ahead_t {p : Nat} (hp : p < 48) : g_X3_isAheadOfCross_t u (nI p) = some (if p < 44 ∧ cL_told u (p + 4) = 2 then 1 else 0) := by
  have q4 : nI p + 4 = nI (p + 4) := nI_add p 4
  by_cases c : p < 44
  · have i1 : g_X9_isWithin (nI (p + 4)) 0 47 = some 1 := isw (k := p + 4) (a := 0) (b := 47) _ rfl (Nat.zero_le _) (by omega) (by decide) _ _
    simp only [g_X3_isAheadOfCross_t, pz_let, q4, i1, pz_bind, z10, if_false, pz_inN (show p + 4 < 48 by omega) (show 48 < 2 ^ 31 by decide), cl_I (show p + 4 < 2 ^ 31 by omega)]
    by_cases t : cL_told u (p + 4) = 2
    · rw [if_pos t, if_pos ⟨c, t⟩]
    · rw [if_neg t, if_neg (fun q => t q.2)]
  · have i1 : g_X9_isWithin (nI (p + 4)) 0 47 = some 0 := iw_nI0 (a := 0) (b := 47) (by omega) (by omega) (by omega) (by omega)
    simp only [g_X3_isAheadOfCross_t, pz_let, q4, i1, pz_bind, if_true]
    rw [if_neg (fun q => c q.1)]
theorem tellS (k : GS → Option GS) : ∃ g : Nat → Int32, lp_X3_setAnew_94 k FU 0 u = k (cL_shown_set u g) ∧ ∀ p : Nat, p < 48 → g p = shF (cL_told u) p := by
  obtain ⟨n, z, ⟨f, hf, rfl⟩, e1⟩ := lpF (fun n (z : Int32 × GS) => lp_X3_setAnew_94 k n z.1 z.2) 48 (by decide) (fun i z => ∃ f : Nat → Int32, (∀ p : Nat, p < i → f p = shF (cL_told u) p) ∧ z = (nI i, cL_shown_set u f)) (by
    rintro n i z hi ⟨f, hf, rfl⟩
    have g48 : ∀ {α : Type} (a : Option α), g_in (nI i) 48 a = a := fun a => pz_inN hi (by decide) a
    have ci := cl_I (show i < 2 ^ 31 by omega)
    have ah : g_X3_isAheadOfCross_t (cL_shown_set u f) (nI i) = some (if i < 44 ∧ cL_told u (i + 4) = 2 then 1 else 0) := ahead_t (u := cL_shown_set u f) hi
    refine ⟨(nI (i + 1), cL_shown_set u (upd f i (shF (cL_told u) i))), ⟨_, fun p hp => ?_, rfl⟩, ?_⟩
    · by_cases e : p = i
      · rw [e, pk_us]
      · rw [pk_un e]
        exact hf p (by omega)
    · show lp_X3_setAnew_94 _ (n + 1) (nI i) _ = lp_X3_setAnew_94 _ n _ _
      by_cases t0 : cL_told u i = 0
      · by_cases c : i < 44 ∧ cL_told u (i + 4) = 2
        · rw [shF, if_pos ⟨t0, c⟩]
          rw [if_pos c] at ah
          simp only [lp_X3_setAnew_94, c_ge 48 48 hi (by decide), if_false, pz_let, g48, ci, cs1, eq_true t0, if_true, ah, pz_bind, z10, cs2, cs3, nI_1]
        · rw [shF, if_neg (fun q => c q.2)]
          rw [if_neg c] at ah
          simp only [lp_X3_setAnew_94, c_ge 48 48 hi (by decide), if_false, pz_let, g48, ci, cs1, eq_true t0, if_true, ah, pz_bind, z00, cs2, cs3, nI_1]
      · rw [shF, if_neg (fun q => t0 q.1)]
        simp only [lp_X3_setAnew_94, c_ge 48 48 hi (by decide), if_false, pz_let, g48, ci, cs1, eq_false t0, cs2, cs3, nI_1]) (0, u) ⟨cL_shown u, fun p hp => absurd hp (Nat.not_lt_zero p), rfl⟩
  refine ⟨f, e1.trans ?_, hf⟩
  show lp_X3_setAnew_94 _ (n + 1) (nI 48) _ = _
  simp only [lp_X3_setAnew_94, c_le 48 48 (by decide), if_true]
theorem smV_of (hI : RI u v) (hB : RB u v) : smV v := by
  obtain ⟨n, hn, -, n2, -⟩ := hI
  obtain ⟨w, hw, -, w2, -⟩ := hB
  exact ⟨⟨n, hn, n2⟩, w, hw, w2⟩
/-- the lane signs set anew are the reference's -/
theorem setLane (hM : RM u v) (hO : cL_orders u = mL_ordered v) (hH : cH_open u = mH_isOpen v) (hI : RI u v) (hB : RB u v) : ∃ f g : Nat → Int32, g_X9_setLaneSigns u = some (cL_shown_set (cL_told_set u f) g) ∧ ∀ p : Nat, p < 48 → g p = sgV v p := by
  obtain ⟨f1, e1, h1⟩ := tell1 (u := u) (fun (w3 : GS) => g_bind (g_X6_tellCrosses w3) (fun (y5 : GS) => g_bind (g_X2_tellCrosses y5) (fun (y7 : GS) => g_bind (g_X0_tellCrosses y7 (c_minute u)) (fun (y9 : GS) => lp_X3_setAnew_53 (fun (w53 : GS) => lp_X3_setAnew_94 (fun (w94 : GS) => some w94) FU (0 : Int32) w53) FU (0 : Int32) y9))))
  obtain ⟨f2, e2, h2⟩ := tell6 (u := u) f1
  obtain ⟨f3, e3, h3⟩ := tell2 hI f2
  obtain ⟨f4, e4, h4⟩ := tell0 hM hB f3
  obtain ⟨f5, e5, h5⟩ := tellO (u := u) f4 (fun (w53 : GS) => lp_X3_setAnew_94 (fun (w94 : GS) => some w94) FU (0 : Int32) w53)
  obtain ⟨g, e6, h6⟩ := tellS (u := cL_told_set u f5) (fun w => some w)
  refine ⟨f5, g, ?_, ?_⟩
  · rw [g_X9_setLaneSigns, g_X3_setAnew, e1]
    simp only [e2, e3, e4, pz_bind, e5, e6]
  · have T := (h2.or h3).or h4
    have all : ∀ p : Nat, p < 48 → f5 p = tdV v p := fun p hp => by
      rw [h5 p hp, hO]
      by_cases o : mL_ordered v p = -1
      · rw [if_pos o]
        by_cases c : crV v p
        · rw [tdV_cr o c]
          refine (T p hp).1 ?_
          rcases c with c | c | c
          · exact Or.inr c
          · exact Or.inl (Or.inr c)
          · exact Or.inl (Or.inl ⟨c.1, by rw [hH]; exact c.2⟩)
        · rw [tdV_no o c]
          refine ((T p hp).2 ?_).trans (h1 p hp)
          rintro ((q | q) | q)
          · exact c (Or.inr (Or.inr ⟨q.1, by rw [← hH]; exact q.2⟩))
          · exact c (Or.inr (Or.inl q))
          · exact c (Or.inl q)
      · rw [if_neg o, tdV_ord o]
    intro p hp
    rw [h6 p hp]
    show (if f5 p = 0 ∧ p < 44 ∧ f5 (p + 4) = 2 then 1 else f5 p) = sgV v p
    rw [sgV, all p hp]
    by_cases c : p < 44
    · rw [all (p + 4) (by omega)]
    · rw [if_neg (fun q => c q.2.1), if_neg (fun q => c q.2.1)]
end RELSA

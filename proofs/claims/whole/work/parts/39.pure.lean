/-! the lane signs -/
/-- works k take the lane l at the section s now -/
def wkC (v : MS) (s l k : Nat) : Prop := mB_worksLane v k = nI l ∧ (¬ nI s < mB_worksFrom v k ∧ ¬ mB_worksTo v k < nI s) ∧ ¬ m_now v < mB_worksBegin v k ∧ ¬ mB_worksEnd v k ≤ m_now v
def crV (v : MS) (p : Nat) : Prop := (∃ k : Nat, k < (mB_works v).toNatClampNeg ∧ wkC v (p / 4) (p % 4) k) ∨ (∃ k : Nat, k < (mI_incidents v).toNatClampNeg ∧ mI_placed v k = nI p ∧ mI_state v k = 1) ∨ (p % 4 = 0 ∧ mH_isOpen v (p / 4) = 0)
noncomputable def tdV (v : MS) (p : Nat) : Int32 := if mL_ordered v p = -1 then (@ite Int32 (crV v p) (Classical.propDecidable _) 2 0) else mL_ordered v p
noncomputable def sgV (v : MS) (p : Nat) : Int32 := if tdV v p = 0 ∧ p < 44 ∧ tdV v (p + 4) = 2 then 1 else tdV v p
theorem tdV_ord {v : MS} {p : Nat} (h : ¬ mL_ordered v p = -1) : tdV v p = mL_ordered v p := if_neg h
theorem tdV_cr {v : MS} {p : Nat} (h : mL_ordered v p = -1) (c : crV v p) : tdV v p = 2 := (if_pos h).trans (if_pos c)
theorem tdV_no {v : MS} {p : Nat} (h : mL_ordered v p = -1) (c : ¬ crV v p) : tdV v p = 0 := (if_pos h).trans (if_neg c)
section RELS9
variable {u : GS} {v : MS}
theorem on_m {k : Nat} (hk : k < 8) : g_X10_isOnNow v (nI k) = some (if ¬ m_now v < mB_worksBegin v k ∧ ¬ mB_worksEnd v k ≤ m_now v then 1 else 0) := by
  simp only [g_X10_isOnNow, pz_inN hk (show 8 < 2 ^ 31 by decide), cl_I (show k < 2 ^ 31 by omega)]
  by_cases c1 : m_now v < mB_worksBegin v k
  · rw [if_pos c1, if_neg (fun z => z.1 c1)]
  · by_cases c2 : mB_worksEnd v k ≤ m_now v
    · rw [if_neg c1, if_pos c2, if_neg (fun z => z.2 c2)]
    · rw [if_neg c1, if_neg c2, if_pos ⟨c1, c2⟩]
theorem works_m {w : Nat} (hw : w ≤ 8) (ew : mB_works v = nI w) (s l : Nat) : (g_X10_areWorksAt v (nI s) (nI l) = some 1 ∧ ∃ k : Nat, k < w ∧ wkC v s l k) ∨ (g_X10_areWorksAt v (nI s) (nI l) = some 0 ∧ ∀ k : Nat, k < w → ¬ wkC v s l k) := by
  obtain ⟨m, y, ⟨x, hx, rfl⟩, h1⟩ := lpF (fun m (y : Int32 × Int32) => lp_X10_areWorksAt_5 v (nI s) (nI l) (fun (x3_5 : Int32) => g_bo x3_5 (some x3_5)) m y.1 y.2) w (by omega) (fun i y => ∃ x : Int32, ((x = 0 ∧ ∀ k : Nat, k < i → ¬ wkC v s l k) ∨ (x = 1 ∧ ∃ k : Nat, k < w ∧ wkC v s l k)) ∧ y = (x, nI i)) (by
    rintro m i y hi ⟨x, hx, rfl⟩
    have c' := eq_false (nI_ge hi (show w < 2 ^ 31 by omega))
    have g8 : ∀ (a : Option Int32), g_in (nI i) 8 a = a := fun a => pz_inN (by omega) (by decide) a
    have ci := cl_I (show i < 2 ^ 31 by omega)
    rcases hx with ⟨rfl, hx⟩ | ⟨rfl, hx⟩
    · have nx : ¬ wkC v s l i → ∀ k : Nat, k < i + 1 → ¬ wkC v s l k := fun q k hk => by
        by_cases e : k = i
        · rw [e]
          exact q
        · exact hx k (by omega)
      by_cases p : mB_worksLane v i = nI l
      · rcases iwc (nI s) (mB_worksFrom v i) (mB_worksTo v i) with ⟨a1, a2, -, i1⟩ | ⟨a, -, i1⟩
        · by_cases o : ¬ m_now v < mB_worksBegin v i ∧ ¬ mB_worksEnd v i ≤ m_now v
          · refine ⟨(1, nI (i + 1)), ⟨1, Or.inr ⟨rfl, i, hi, p, ⟨a1, a2⟩, o⟩, rfl⟩, ?_⟩
            have o1 : g_X10_isOnNow v (nI i) = some 1 := (on_m (by omega)).trans (by rw [if_pos o])
            show lp_X10_areWorksAt_5 v _ _ _ (m + 1) 0 (nI i) = lp_X10_areWorksAt_5 v _ _ _ m _ _
            simp only [lp_X10_areWorksAt_5, ew, c', if_false, pz_let, z00, z10, if_true, g8, ci, eq_true p, i1, pz_bind, o1, nI_1]
          · refine ⟨(0, nI (i + 1)), ⟨0, Or.inl ⟨rfl, nx (fun q => o q.2.2)⟩, rfl⟩, ?_⟩
            have o1 : g_X10_isOnNow v (nI i) = some 0 := (on_m (by omega)).trans (by rw [if_neg o])
            show lp_X10_areWorksAt_5 v _ _ _ (m + 1) 0 (nI i) = lp_X10_areWorksAt_5 v _ _ _ m _ _
            simp only [lp_X10_areWorksAt_5, ew, c', if_false, pz_let, z00, z10, if_true, g8, ci, eq_true p, i1, pz_bind, o1, nI_1]
        · refine ⟨(0, nI (i + 1)), ⟨0, Or.inl ⟨rfl, nx (fun q => a q.2.1)⟩, rfl⟩, ?_⟩
          show lp_X10_areWorksAt_5 v _ _ _ (m + 1) 0 (nI i) = lp_X10_areWorksAt_5 v _ _ _ m _ _
          simp only [lp_X10_areWorksAt_5, ew, c', if_false, pz_let, z00, if_true, g8, ci, eq_true p, i1, pz_bind, nI_1]
      · refine ⟨(0, nI (i + 1)), ⟨0, Or.inl ⟨rfl, nx (fun q => p q.1)⟩, rfl⟩, ?_⟩
        show lp_X10_areWorksAt_5 v _ _ _ (m + 1) 0 (nI i) = lp_X10_areWorksAt_5 v _ _ _ m _ _
        simp only [lp_X10_areWorksAt_5, ew, c', if_false, pz_let, z00, if_true, g8, ci, eq_false p, nI_1]
    · refine ⟨(1, nI (i + 1)), ⟨1, Or.inr ⟨rfl, hx⟩, rfl⟩, ?_⟩
      show lp_X10_areWorksAt_5 v _ _ _ (m + 1) 1 (nI i) = lp_X10_areWorksAt_5 v _ _ _ m _ _
      simp only [lp_X10_areWorksAt_5, ew, c', if_false, pz_let, z10, nI_1]) (0, 0) ⟨0, Or.inl ⟨rfl, fun k hk => absurd hk (Nat.not_lt_zero k)⟩, rfl⟩
  have e2 : lp_X10_areWorksAt_5 v (nI s) (nI l) (fun (x3_5 : Int32) => g_bo x3_5 (some x3_5)) (m + 1) x (nI w) = g_bo x (some x) := by
    simp only [lp_X10_areWorksAt_5, ew, eq_true (nI_le (Nat.le_refl w) (show w < 2 ^ 31 by omega)), if_true]
  rcases hx with ⟨rfl, hx⟩ | ⟨rfl, hx⟩
  · exact Or.inr ⟨(h1.trans e2).trans (pz_bo0 _), hx⟩
  · exact Or.inl ⟨(h1.trans e2).trans (pz_bo1 _), hx⟩
theorem conf_m {n : Nat} (hn : n ≤ 12) (n2 : mI_incidents v = nI n) (z : Int32) : (g_X10_isConfirmedAt v z = some 0 ∧ ∀ k : Nat, k < n → ¬ (mI_placed v k = z ∧ mI_state v k = 1)) ∨ (g_X10_isConfirmedAt v z = some 1 ∧ ∃ k : Nat, k < n ∧ mI_placed v k = z ∧ mI_state v k = 1) := by
  obtain ⟨m, y, ⟨x, hx, rfl⟩, h1⟩ := lpF (fun m (y : Int32 × Int32) => lp_X10_isConfirmedAt_4 v z (fun (x2_4 : Int32) => g_bo x2_4 (some x2_4)) m y.1 y.2) n (by omega) (fun i y => ∃ x : Int32, ((x = 0 ∧ ∀ k : Nat, k < i → ¬ (mI_placed v k = z ∧ mI_state v k = 1)) ∨ (x = 1 ∧ ∃ k : Nat, k < n ∧ mI_placed v k = z ∧ mI_state v k = 1)) ∧ y = (x, nI i)) (by
    rintro m i y hi ⟨x, hx, rfl⟩
    have c' := eq_false (nI_ge hi (show n < 2 ^ 31 by omega))
    rcases hx with ⟨rfl, hx⟩ | ⟨rfl, hx⟩
    · have nx : ¬ (mI_placed v i = z ∧ mI_state v i = 1) → ∀ k : Nat, k < i + 1 → ¬ (mI_placed v k = z ∧ mI_state v k = 1) := fun q k hk => by
        by_cases e : k = i
        · rw [e]
          exact q
        · exact hx k (by omega)
      by_cases p : mI_placed v i = z
      · by_cases w : mI_state v i = 1
        · refine ⟨(1, nI (i + 1)), ⟨1, Or.inr ⟨rfl, i, hi, p, w⟩, rfl⟩, ?_⟩
          show lp_X10_isConfirmedAt_4 v _ _ (m + 1) 0 (nI i) = lp_X10_isConfirmedAt_4 v _ _ m _ _
          simp only [lp_X10_isConfirmedAt_4, n2, c', if_false, pz_let, z00, if_true, pz_inN (show i < 12 by omega) (show 12 < 2 ^ 31 by decide), cl_I (show i < 2 ^ 31 by omega), eq_true p, eq_true w, nI_1]
        · refine ⟨(0, nI (i + 1)), ⟨0, Or.inl ⟨rfl, nx (fun q => w q.2)⟩, rfl⟩, ?_⟩
          show lp_X10_isConfirmedAt_4 v _ _ (m + 1) 0 (nI i) = lp_X10_isConfirmedAt_4 v _ _ m _ _
          simp only [lp_X10_isConfirmedAt_4, n2, c', if_false, pz_let, z00, if_true, pz_inN (show i < 12 by omega) (show 12 < 2 ^ 31 by decide), cl_I (show i < 2 ^ 31 by omega), eq_true p, eq_false w, nI_1]
      · refine ⟨(0, nI (i + 1)), ⟨0, Or.inl ⟨rfl, nx (fun q => p q.1)⟩, rfl⟩, ?_⟩
        show lp_X10_isConfirmedAt_4 v _ _ (m + 1) 0 (nI i) = lp_X10_isConfirmedAt_4 v _ _ m _ _
        simp only [lp_X10_isConfirmedAt_4, n2, c', if_false, pz_let, z00, if_true, pz_inN (show i < 12 by omega) (show 12 < 2 ^ 31 by decide), cl_I (show i < 2 ^ 31 by omega), eq_false p, nI_1]
    · refine ⟨(1, nI (i + 1)), ⟨1, Or.inr ⟨rfl, hx⟩, rfl⟩, ?_⟩
      show lp_X10_isConfirmedAt_4 v _ _ (m + 1) 1 (nI i) = lp_X10_isConfirmedAt_4 v _ _ m _ _
      simp only [lp_X10_isConfirmedAt_4, n2, c', if_false, pz_let, z10, nI_1]) (0, 0) ⟨0, Or.inl ⟨rfl, fun k hk => absurd hk (Nat.not_lt_zero k)⟩, rfl⟩
  have e2 : lp_X10_isConfirmedAt_4 v z (fun (x2_4 : Int32) => g_bo x2_4 (some x2_4)) (m + 1) x (nI n) = g_bo x (some x) := by
    simp only [lp_X10_isConfirmedAt_4, n2, eq_true (nI_le (Nat.le_refl n) (show n < 2 ^ 31 by omega)), if_true]
  rcases hx with ⟨rfl, hx⟩ | ⟨rfl, hx⟩
  · exact Or.inl ⟨(h1.trans e2).trans (pz_bo0 _), hx⟩
  · exact Or.inr ⟨(h1.trans e2).trans (pz_bo1 _), hx⟩
/-- the counts are small -/
def smV (v : MS) : Prop := (∃ n : Nat, n ≤ 12 ∧ mI_incidents v = nI n) ∧ ∃ w : Nat, w ≤ 8 ∧ mB_works v = nI w
theorem told_m (hv : smV v) {s l : Nat} (hs : s < 12) (hl : l < 4) : g_X10_told v (nI s) (nI l) = some (tdV v (4 * s + l)) := by
  obtain ⟨⟨n, hn, n2⟩, w, hw, ew⟩ := hv
  have hk : 4 * s + l < 48 := by omega
  have ck := cl_I (show 4 * s + l < 2 ^ 31 by omega)
  have d1 : (4 * s + l) / 4 = s := by omega
  have d2 : (4 * s + l) % 4 = l := by omega
  have wn : (mB_works v).toNatClampNeg = w := by rw [ew, cl_I (by omega)]
  have nn : (mI_incidents v).toNatClampNeg = n := by rw [n2, cl_I (by omega)]
  have l0 : (nI l = 0) = (l = 0) := propext (nI_eq (b := 0) (by omega) (by decide))
  by_cases o : mL_ordered v (4 * s + l) = -1
  · rcases works_m hw ew s l with ⟨e1, k, hk1, hk2⟩ | ⟨e1, h1⟩
    · have cr : crV v (4 * s + l) := Or.inl ⟨k, by rw [wn]; exact hk1, by rw [d1, d2]; exact hk2⟩
      rw [tdV_cr o cr]
      simp only [g_X10_told, mpl, pz_let, pz_inN hk (show 48 < 2 ^ 31 by decide), ck, eq_true o, if_true, e1, pz_bind, z10, if_false]
    · rcases conf_m hn n2 (nI (4 * s + l)) with ⟨e2, h2⟩ | ⟨e2, k, hk1, hk2⟩
      · by_cases c : l = 0 ∧ mH_isOpen v s = 0
        · have cr : crV v (4 * s + l) := Or.inr (Or.inr ⟨by rw [d2]; exact c.1, by rw [d1]; exact c.2⟩)
          rw [tdV_cr o cr]
          simp only [g_X10_told, mpl, pz_let, pz_inN hk (show 48 < 2 ^ 31 by decide), ck, eq_true o, if_true, e1, e2, pz_bind, z00, z10, if_false, l0, eq_true c.1, pz_inN hs (show 12 < 2 ^ 31 by decide), cl_I (show s < 2 ^ 31 by omega), eq_true c.2]
        · have cr : ¬ crV v (4 * s + l) := fun q => by
            rcases q with ⟨k, a, b⟩ | ⟨k, a, b⟩ | ⟨a, b⟩
            · rw [wn] at a
              rw [d1, d2] at b
              exact h1 k a b
            · rw [nn] at a
              exact h2 k a b
            · rw [d2] at a
              rw [d1] at b
              exact c ⟨a, b⟩
          rw [tdV_no o cr]
          by_cases c1 : l = 0
          · have c2 : ¬ mH_isOpen v s = 0 := fun q => c ⟨c1, q⟩
            simp only [g_X10_told, mpl, pz_let, pz_inN hk (show 48 < 2 ^ 31 by decide), ck, eq_true o, if_true, e1, e2, pz_bind, z00, if_false, l0, eq_true c1, pz_inN hs (show 12 < 2 ^ 31 by decide), cl_I (show s < 2 ^ 31 by omega), eq_false c2]
          · simp only [g_X10_told, mpl, pz_let, pz_inN hk (show 48 < 2 ^ 31 by decide), ck, eq_true o, if_true, e1, e2, pz_bind, z00, if_false, l0, eq_false c1]
      · have cr : crV v (4 * s + l) := Or.inr (Or.inl ⟨k, by rw [nn]; exact hk1, hk2⟩)
        rw [tdV_cr o cr]
        simp only [g_X10_told, mpl, pz_let, pz_inN hk (show 48 < 2 ^ 31 by decide), ck, eq_true o, if_true, e1, e2, pz_bind, z00, z10, if_false]
  · rw [tdV_ord o]
    simp only [g_X10_told, mpl, pz_let, pz_inN hk (show 48 < 2 ^ 31 by decide), ck, eq_false o, if_false]
theorem sign_m (hv : smV v) {s l : Nat} (hs : s < 12) (hl : l < 4) : g_X10_signOf v (nI s) (nI l) = some (sgV v (4 * s + l)) := by
  have t1 := told_m hv hs hl
  have g11 : ((11 : Int32) ≤ nI s) = (11 ≤ s) := propext (nI_leI (a := 11) (by decide) (by omega))
  by_cases c0 : tdV v (4 * s + l) = 0
  · by_cases c1 : 11 ≤ s
    · rw [sgV, if_neg (fun q => by omega)]
      simp only [g_X10_signOf, t1, pz_bind, eq_true c0, if_true, g11, eq_true c1]
    · have t2 := told_m hv (show s + 1 < 12 by omega) hl
      have e4 : 4 * (s + 1) + l = 4 * s + l + 4 := by omega
      rw [e4] at t2
      by_cases c2 : tdV v (4 * s + l + 4) = 2
      · rw [sgV, if_pos ⟨c0, by omega, c2⟩]
        simp only [g_X10_signOf, t1, pz_bind, eq_true c0, if_true, g11, eq_false c1, if_false, nI_1, t2, eq_true c2]
      · rw [sgV, if_neg (fun q => c2 q.2.2)]
        simp only [g_X10_signOf, t1, pz_bind, eq_true c0, if_true, g11, eq_false c1, if_false, nI_1, t2, eq_false c2]
  · rw [sgV, if_neg (fun q => c0 q.1)]
    simp only [g_X10_signOf, t1, pz_bind, eq_false c0, if_false]
end RELS9

/-! the works -/
/-- works k cover the lane l at the section s in the minute m -/
def cov (v : MS) (s l m k : Nat) : Prop := mB_worksLane v k = nI l ∧ (¬ nI s < mB_worksFrom v k ∧ ¬ mB_worksTo v k < nI s) ∧ ¬ nI m < mB_worksBegin v k ∧ ¬ mB_worksEnd v k ≤ nI m
theorem mxI (x y : Nat) (hx : x < 2 ^ 31) (hy : y < 2 ^ 31) : (if nI x < nI y then nI y else nI x) = nI (max x y) := by
  by_cases c : x < y
  · rw [if_pos (nI_lt c hy), Nat.max_eq_right (by omega)]
  · rw [if_neg (nI_nlt (by omega) hx), Nat.max_eq_left (by omega)]
theorem mnI (x y : Nat) (hx : x < 2 ^ 31) (hy : y < 2 ^ 31) : (if nI y < nI x then nI y else nI x) = nI (min x y) := by
  by_cases c : y < x
  · rw [if_pos (nI_lt c hx), Nat.min_eq_right (by omega)]
  · rw [if_neg (nI_nlt (by omega) hy), Nat.min_eq_left (by omega)]
section RELSJ
variable {u : GS} {v : MS}
theorem book_m {w : Nat} (hw : w ≤ 8) (ew : mB_works v = nI w) (s l t : Nat) : (g_X10_areBooked v (nI s) (nI l) (nI t) = some 1 ∧ ∃ k : Nat, k < w ∧ cov v s l t k) ∨ (g_X10_areBooked v (nI s) (nI l) (nI t) = some 0 ∧ ∀ k : Nat, k < w → ¬ cov v s l t k) := by
  obtain ⟨m, y, ⟨x, hx, rfl⟩, h1⟩ := lpF (fun m (y : Int32 × Int32) => lp_X10_areBooked_6 v (nI s) (nI l) (nI t) (fun (x3_5 : Int32) => g_bo x3_5 (some x3_5)) m y.1 y.2) w (by omega) (fun i y => ∃ x : Int32, ((x = 0 ∧ ∀ k : Nat, k < i → ¬ cov v s l t k) ∨ (x = 1 ∧ ∃ k : Nat, k < w ∧ cov v s l t k)) ∧ y = (x, nI i)) (by
    rintro m i y hi ⟨x, hx, rfl⟩
    have c' := eq_false (nI_ge hi (show w < 2 ^ 31 by omega))
    have g8 : ∀ (a : Option Int32), g_in (nI i) 8 a = a := fun a => pz_inN (by omega) (by decide) a
    have ci := cl_I (show i < 2 ^ 31 by omega)
    rcases hx with ⟨rfl, hx⟩ | ⟨rfl, hx⟩
    · have nx : ¬ cov v s l t i → ∀ k : Nat, k < i + 1 → ¬ cov v s l t k := fun q k hk => by
        by_cases e : k = i
        · rw [e]
          exact q
        · exact hx k (by omega)
      by_cases p : mB_worksLane v i = nI l
      · rcases iwc (nI s) (mB_worksFrom v i) (mB_worksTo v i) with ⟨a1, a2, -, i1⟩ | ⟨a, -, i1⟩
        · by_cases o1 : nI t < mB_worksBegin v i
          · refine ⟨(0, nI (i + 1)), ⟨0, Or.inl ⟨rfl, nx (fun q => q.2.2.1 o1)⟩, rfl⟩, ?_⟩
            show lp_X10_areBooked_6 v _ _ _ _ (m + 1) 0 (nI i) = lp_X10_areBooked_6 v _ _ _ _ m _ _
            simp only [lp_X10_areBooked_6, ew, c', if_false, pz_let, z00, z10, if_true, g8, ci, eq_true p, i1, pz_bind, eq_true o1, nI_1]
          · by_cases o2 : mB_worksEnd v i ≤ nI t
            · refine ⟨(0, nI (i + 1)), ⟨0, Or.inl ⟨rfl, nx (fun q => q.2.2.2 o2)⟩, rfl⟩, ?_⟩
              show lp_X10_areBooked_6 v _ _ _ _ (m + 1) 0 (nI i) = lp_X10_areBooked_6 v _ _ _ _ m _ _
              simp only [lp_X10_areBooked_6, ew, c', if_false, pz_let, z00, z10, if_true, g8, ci, eq_true p, i1, pz_bind, eq_false o1, eq_true o2, nI_1]
            · refine ⟨(1, nI (i + 1)), ⟨1, Or.inr ⟨rfl, i, hi, p, ⟨a1, a2⟩, o1, o2⟩, rfl⟩, ?_⟩
              show lp_X10_areBooked_6 v _ _ _ _ (m + 1) 0 (nI i) = lp_X10_areBooked_6 v _ _ _ _ m _ _
              simp only [lp_X10_areBooked_6, ew, c', if_false, pz_let, z00, z10, if_true, g8, ci, eq_true p, i1, pz_bind, eq_false o1, eq_false o2, nI_1]
        · refine ⟨(0, nI (i + 1)), ⟨0, Or.inl ⟨rfl, nx (fun q => a q.2.1)⟩, rfl⟩, ?_⟩
          show lp_X10_areBooked_6 v _ _ _ _ (m + 1) 0 (nI i) = lp_X10_areBooked_6 v _ _ _ _ m _ _
          simp only [lp_X10_areBooked_6, ew, c', if_false, pz_let, z00, if_true, g8, ci, eq_true p, i1, pz_bind, nI_1]
      · refine ⟨(0, nI (i + 1)), ⟨0, Or.inl ⟨rfl, nx (fun q => p q.1)⟩, rfl⟩, ?_⟩
        show lp_X10_areBooked_6 v _ _ _ _ (m + 1) 0 (nI i) = lp_X10_areBooked_6 v _ _ _ _ m _ _
        simp only [lp_X10_areBooked_6, ew, c', if_false, pz_let, z00, if_true, g8, ci, eq_false p, nI_1]
    · refine ⟨(1, nI (i + 1)), ⟨1, Or.inr ⟨rfl, hx⟩, rfl⟩, ?_⟩
      show lp_X10_areBooked_6 v _ _ _ _ (m + 1) 1 (nI i) = lp_X10_areBooked_6 v _ _ _ _ m _ _
      simp only [lp_X10_areBooked_6, ew, c', if_false, pz_let, z10, nI_1]) (0, 0) ⟨0, Or.inl ⟨rfl, fun k hk => absurd hk (Nat.not_lt_zero k)⟩, rfl⟩
  have e2 : lp_X10_areBooked_6 v (nI s) (nI l) (nI t) (fun (x3_5 : Int32) => g_bo x3_5 (some x3_5)) (m + 1) x (nI w) = g_bo x (some x) := by
    simp only [lp_X10_areBooked_6, ew, eq_true (nI_le (Nat.le_refl w) (show w < 2 ^ 31 by omega)), if_true]
  rcases hx with ⟨rfl, hx⟩ | ⟨rfl, hx⟩
  · exact Or.inr ⟨(h1.trans e2).trans (pz_bo0 _), hx⟩
  · exact Or.inl ⟨(h1.trans e2).trans (pz_bo1 _), hx⟩
/-- both other lanes are covered -/
def two (v : MS) (w s p q t : Nat) : Prop := (∃ k : Nat, k < w ∧ cov v s p t k) ∧ ∃ k : Nat, k < w ∧ cov v s q t k
theorem many_in {w : Nat} (hw : w ≤ 8) (ew : mB_works v = nI w) (s p q : Nat) {d e : Nat} (hde : d < e) (he : e ≤ 600) (k : Int32 → Option Int32) : (lp_X10_areTooMany_45 v (nI e) (nI p) (nI q) (nI s) k FU 0 (nI d) = k 1 ∧ ∃ t : Nat, d ≤ t ∧ t < e ∧ two v w s p q t) ∨ (lp_X10_areTooMany_45 v (nI e) (nI p) (nI q) (nI s) k FU 0 (nI d) = k 0 ∧ ∀ t : Nat, d ≤ t → t < e → ¬ two v w s p q t) := by
  have main := lpX (fun n (y : Int32 × Int32) => lp_X10_areTooMany_45 v (nI e) (nI p) (nI q) (nI s) k n y.1 y.2) (fun _ (_ : Unit) => (none : Option Unit)) (e - d) (by omega) (fun i y _ => y = (0, nI (d + i)) ∧ ∀ t : Nat, d ≤ t → t < d + i → ¬ two v w s p q t) (fun a _ => a = k 1 ∧ ∃ t : Nat, d ≤ t ∧ t < e ∧ two v w s p q t) (by
    rintro n i y _ hn hi ⟨rfl, hy⟩
    have lt : ¬ nI e ≤ nI (d + i) := nI_ge (by omega) (by omega)
    have q1 : nI (d + i) + 1 = nI (d + (i + 1)) := nI_1 (d + i)
    have go : ¬ two v w s p q (d + i) → ∀ t : Nat, d ≤ t → t < d + (i + 1) → ¬ two v w s p q t := fun c t h1 h2 => by
      by_cases e : t = d + i
      · rw [e]
        exact c
      · exact hy t h1 (by omega)
    rcases book_m hw ew s p (d + i) with ⟨b1, B1⟩ | ⟨b1, B1⟩
    · rcases book_m hw ew s q (d + i) with ⟨b2, B2⟩ | ⟨b2, B2⟩
      · refine Or.inr ⟨?_, d + i, by omega, by omega, B1, B2⟩
        show lp_X10_areTooMany_45 v _ _ _ _ _ (n + 1) 0 (nI (d + i)) = _
        obtain ⟨j, rfl⟩ : ∃ j, n = j + 1 := ⟨n - 1, by omega⟩
        have fin : ∀ z : Int32, lp_X10_areTooMany_45 v (nI e) (nI p) (nI q) (nI s) k (j + 1) 1 z = k 1 := fun z => by
          rw [lp_X10_areTooMany_45]
          by_cases c : nI e ≤ z
          · rw [if_pos c]
          · rw [if_neg c, if_neg (by decide)]
        rw [lp_X10_areTooMany_45, if_neg lt, if_pos rfl, b1, pz_bind, pz_let, pz_let, if_neg (by decide), b2, pz_bind, if_neg (by decide)]
        exact fin (nI (d + i) + 1)
      · refine Or.inl ⟨(0, nI (d + (i + 1))), (), ⟨rfl, go (fun z => by
          obtain ⟨k', h1, h2⟩ := z.2
          exact B2 k' h1 h2)⟩, ?_, rfl⟩
        show lp_X10_areTooMany_45 v _ _ _ _ _ (n + 1) 0 (nI (d + i)) = lp_X10_areTooMany_45 v _ _ _ _ _ n _ _
        rw [lp_X10_areTooMany_45, if_neg lt, if_pos rfl, b1, pz_bind, pz_let, pz_let, if_neg (by decide), b2, pz_bind, if_pos rfl]
        exact congrArg (lp_X10_areTooMany_45 v (nI e) (nI p) (nI q) (nI s) k n 0) q1
    · refine Or.inl ⟨(0, nI (d + (i + 1))), (), ⟨rfl, go (fun z => by
        obtain ⟨k', h1, h2⟩ := z.1
        exact B1 k' h1 h2)⟩, ?_, rfl⟩
      show lp_X10_areTooMany_45 v _ _ _ _ _ (n + 1) 0 (nI (d + i)) = lp_X10_areTooMany_45 v _ _ _ _ _ n _ _
      rw [lp_X10_areTooMany_45, if_neg lt, if_pos rfl, b1, pz_bind, pz_let, pz_let, if_pos rfl]
      exact congrArg (lp_X10_areTooMany_45 v (nI e) (nI p) (nI q) (nI s) k n 0) q1) (0, nI d) () ⟨rfl, fun t h1 h2 => by omega⟩
  rcases main with ⟨n, y, _, ⟨rfl, hy⟩, h1, -⟩ | ⟨h1, h2⟩
  · refine Or.inr ⟨h1.trans ?_, fun t a b => hy t a (by omega)⟩
    show lp_X10_areTooMany_45 v _ _ _ _ _ (n + 1 + 1) 0 (nI (d + (e - d))) = _
    rw [lp_X10_areTooMany_45, if_pos (nI_le (by omega) (by omega))]
  · exact Or.inl ⟨h1, h2⟩
theorem many_out {w : Nat} (hw : w ≤ 8) (ew : mB_works v = nI w) (p q : Nat) {b c d e : Nat} (hbc : b ≤ c) (hc : c ≤ 11) (hde : d < e) (he : e ≤ 600) : (lp_X10_areTooMany_30 v (nI c) (nI d) (nI e) (nI p) (nI q) (fun (x : Int32) => g_bo x (some x)) FU 0 (nI b) = some 1 ∧ ∃ s t : Nat, b ≤ s ∧ s ≤ c ∧ d ≤ t ∧ t < e ∧ two v w s p q t) ∨ (lp_X10_areTooMany_30 v (nI c) (nI d) (nI e) (nI p) (nI q) (fun (x : Int32) => g_bo x (some x)) FU 0 (nI b) = some 0 ∧ ∀ s t : Nat, b ≤ s → s ≤ c → d ≤ t → t < e → ¬ two v w s p q t) := by
  have main := lpX (fun n (y : Int32 × Int32) => lp_X10_areTooMany_30 v (nI c) (nI d) (nI e) (nI p) (nI q) (fun (x : Int32) => g_bo x (some x)) n y.1 y.2) (fun _ (_ : Unit) => (none : Option Unit)) (c + 1 - b) (by omega) (fun i y _ => y = (0, nI (b + i)) ∧ ∀ s t : Nat, b ≤ s → s < b + i → d ≤ t → t < e → ¬ two v w s p q t) (fun a _ => a = some 1 ∧ ∃ s t : Nat, b ≤ s ∧ s ≤ c ∧ d ≤ t ∧ t < e ∧ two v w s p q t) (by
    rintro n i y _ hn hi ⟨rfl, hy⟩
    have lt : ¬ nI c < nI (b + i) := nI_nlt (by omega) (by omega)
    have q1 : nI (b + i) + 1 = nI (b + (i + 1)) := nI_1 (b + i)
    rcases many_in hw ew (b + i) p q hde he (fun (x8_45 : Int32) => g_let (nI (b + i) + 1) (fun (v16 : Int32) => lp_X10_areTooMany_30 v (nI c) (nI d) (nI e) (nI p) (nI q) (fun (x : Int32) => g_bo x (some x)) n x8_45 v16)) with ⟨m1, t, t1, t2, t3⟩ | ⟨m1, M1⟩
    · refine Or.inr ⟨?_, b + i, t, by omega, by omega, t1, t2, t3⟩
      show lp_X10_areTooMany_30 v _ _ _ _ _ _ (n + 1) 0 (nI (b + i)) = _
      obtain ⟨j, rfl⟩ : ∃ j, n = j + 1 := ⟨n - 1, by omega⟩
      have fin : ∀ z : Int32, lp_X10_areTooMany_30 v (nI c) (nI d) (nI e) (nI p) (nI q) (fun (x : Int32) => g_bo x (some x)) (j + 1) 1 z = some 1 := fun z => by
        rw [lp_X10_areTooMany_30]
        by_cases c : nI c < z
        · rw [if_pos c, pz_bo1]
        · rw [if_neg c, if_neg (by decide), pz_bo1]
      rw [lp_X10_areTooMany_30, if_neg lt, if_pos rfl, m1, pz_let, fin]
    · refine Or.inl ⟨(0, nI (b + (i + 1))), (), ⟨rfl, fun s t h1 h2 h3 h4 => ?_⟩, ?_, rfl⟩
      · by_cases e : s = b + i
        · rw [e]
          exact M1 t h3 h4
        · exact hy s t h1 (by omega) h3 h4
      · show lp_X10_areTooMany_30 v _ _ _ _ _ _ (n + 1) 0 (nI (b + i)) = lp_X10_areTooMany_30 v _ _ _ _ _ _ n _ _
        rw [lp_X10_areTooMany_30, if_neg lt, if_pos rfl, m1, pz_let, q1]) (0, nI b) () ⟨rfl, fun s t h1 h2 => by omega⟩
  rcases main with ⟨n, y, _, ⟨rfl, hy⟩, h1, -⟩ | ⟨h1, h2⟩
  · refine Or.inr ⟨h1.trans ?_, fun s t a b => hy s t a (by omega)⟩
    show lp_X10_areTooMany_30 v _ _ _ _ _ _ (n + 1 + 1) 0 (nI (b + (c + 1 - b))) = _
    rw [lp_X10_areTooMany_30, if_pos (nI_lt (by omega) (by omega)), pz_bo0]
  · exact Or.inl ⟨h1, h2⟩
end RELSJ

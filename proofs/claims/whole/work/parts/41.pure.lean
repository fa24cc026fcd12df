section RELSB
variable {u : GS} {v : MS}
theorem sim_sign (h : Rel u v) (p q : Int32) : SI Rel (g_X9_sign u p q) (g_X10_sign v p q) [("java/lang/IndexOutOfBoundsException", 1)] := by
  obtain ⟨hM, hT, hD, hS, hO, hH, hI, hP, hB, hK⟩ := id h
  rcases plcc u p q with ⟨e1, e2⟩ | ⟨s, l, hs, hl, rfl, rfl, e1, e2⟩
  · exact SI_no "java/lang/IndexOutOfBoundsException" 1 0 (v' := m_thrown_set v 1) es1 (by simp only [g_X9_sign, e1, pz_xr, id]) (by simp only [g_X10_sign, e2, pz_bind, pz_let, z00, if_true, pz_h1]) rfl h
  · obtain ⟨f, g, e3, hg⟩ := setLane (v := m_thrown_set v 0) hM hO.1 hH.1 hI hB
    have hk : 4 * s + l < 48 := by omega
    have e4 := sign_m (v := m_thrown_set v 0) (smV_of hI hB) hs hl
    refine SI_ok (u' := cL_shown_set (cL_told_set u f) g) (v' := m_thrown_set v 0) (sgV (m_thrown_set v 0) (4 * s + l)) ?_ ?_ rfl ⟨hM, hT, hD, hS, hO, hH, hI, hP, hB, hK⟩
    · simp only [g_X9_sign, e1, pz_xl, e3, pz_bind, placeN, pz_inN hk (show 48 < 2 ^ 31 by decide), cl_I (show 4 * s + l < 2 ^ 31 by omega), cs3, hg _ hk]
    · simp only [g_X10_sign, e2, pz_bind, pz_let, z10, if_false, pz_h0, e4]
/-- the speed signs' law, and the lane signs' -/
def spG (u : GS) (s : Nat) : Prop := cS_shown u s ≤ cS_shown u (s + 1) + 20
theorem spd_law : (g_X7_areLawful u = some 1 ∧ ∀ s : Nat, s < 11 → spG u s) ∨ (g_X7_areLawful u = some 0 ∧ ∃ s : Nat, s < 11 ∧ ¬ spG u s) := by
  have main := lpE (fun n (z : Int32) => lp_X7_areLawful_2 u (fun (_ : Unit) => some (1 : Int32)) n z) 11 (by decide) (fun i z => z = nI i ∧ ∀ s : Nat, s < i → spG u s) (fun x => x = some 0 ∧ ∃ s : Nat, s < 11 ∧ ¬ spG u s) (by
    rintro n i z hi ⟨rfl, hz⟩
    have q1 : nI i + 1 = nI (i + 1) := nI_1 i
    by_cases c : spG u i
    · refine Or.inl ⟨nI (i + 1), ⟨rfl, fun s hs => ?_⟩, ?_⟩
      · by_cases e : s = i
        · rw [e]
          exact c
        · exact hz s (by omega)
      · show lp_X7_areLawful_2 u _ (n + 1) (nI i) = lp_X7_areLawful_2 u _ n _
        simp only [lp_X7_areLawful_2, q1, c_ge 12 12 (show i + 1 < 12 by omega) (by decide), if_false, pz_inN (show i < 12 by omega) (show 12 < 2 ^ 31 by decide), pz_inN (show i + 1 < 12 by omega) (show 12 < 2 ^ 31 by decide), cl_I (show i < 2 ^ 31 by omega), cl_I (show i + 1 < 2 ^ 31 by omega), eq_true (show cS_shown u i ≤ cS_shown u (i + 1) + 20 from c), if_true, pz_let]
    · refine Or.inr ⟨?_, i, hi, c⟩
      show lp_X7_areLawful_2 u _ (n + 1) (nI i) = _
      simp only [lp_X7_areLawful_2, q1, c_ge 12 12 (show i + 1 < 12 by omega) (by decide), if_false, pz_inN (show i < 12 by omega) (show 12 < 2 ^ 31 by decide), pz_inN (show i + 1 < 12 by omega) (show 12 < 2 ^ 31 by decide), cl_I (show i < 2 ^ 31 by omega), cl_I (show i + 1 < 2 ^ 31 by omega), eq_false (show ¬ cS_shown u i ≤ cS_shown u (i + 1) + 20 from c)]) 0 ⟨rfl, fun s hs => absurd hs (Nat.not_lt_zero s)⟩
  rcases main with ⟨n, z, ⟨rfl, hz⟩, h1⟩ | h1
  · refine Or.inl ⟨h1.trans ?_, hz⟩
    have q1 : nI 11 + 1 = nI 12 := nI_1 11
    show lp_X7_areLawful_2 u _ (n + 1) (nI 11) = _
    simp only [lp_X7_areLawful_2, q1, c_le 12 12 (by decide), if_true]
  · exact Or.inr h1
def lnB (g : Nat → Int32) (p : Nat) : Prop := g p = 0 ∧ p < 44 ∧ g (p + 4) = 2
theorem ahead_s {p : Nat} (hp : p < 48) : g_X3_isAheadOfCross_s u (nI p) = some (if p < 44 ∧ cL_shown u (p + 4) = 2 then 1 else 0) := by
  have q4 : nI p + 4 = nI (p + 4) := nI_add p 4
  by_cases c : p < 44
  · have i1 : g_X9_isWithin (nI (p + 4)) 0 47 = some 1 := isw (k := p + 4) (a := 0) (b := 47) _ rfl (Nat.zero_le _) (by omega) (by decide) _ _
    simp only [g_X3_isAheadOfCross_s, pz_let, q4, i1, pz_bind, z10, if_false, pz_inN (show p + 4 < 48 by omega) (show 48 < 2 ^ 31 by decide), cl_I (show p + 4 < 2 ^ 31 by omega)]
    by_cases t : cL_shown u (p + 4) = 2
    · rw [if_pos t, if_pos ⟨c, t⟩]
    · rw [if_neg t, if_neg (fun q => t q.2)]
  · have i1 : g_X9_isWithin (nI (p + 4)) 0 47 = some 0 := iw_nI0 (a := 0) (b := 47) (by omega) (by omega) (by omega) (by omega)
    simp only [g_X3_isAheadOfCross_s, pz_let, q4, i1, pz_bind, if_true]
    rw [if_neg (fun q => c q.1)]
theorem lane_law : (g_X3_areLawful u = some 1 ∧ ∀ p : Nat, p < 48 → ¬ lnB (cL_shown u) p) ∨ (g_X3_areLawful u = some 0 ∧ ∃ p : Nat, p < 48 ∧ lnB (cL_shown u) p) := by
  have main := lpE (fun n (z : Int32) => lp_X3_areLawful_2 u (fun (_ : Unit) => some (1 : Int32)) n z) 48 (by decide) (fun i z => z = nI i ∧ ∀ p : Nat, p < i → ¬ lnB (cL_shown u) p) (fun x => x = some 0 ∧ ∃ p : Nat, p < 48 ∧ lnB (cL_shown u) p) (by
    rintro n i z hi ⟨rfl, hz⟩
    have ah := ahead_s (u := u) hi
    have go : ¬ lnB (cL_shown u) i → ∀ p : Nat, p < i + 1 → ¬ lnB (cL_shown u) p := fun c p hp => by
      by_cases e : p = i
      · rw [e]
        exact c
      · exact hz p (by omega)
    by_cases s0 : cL_shown u i = 0
    · by_cases c : i < 44 ∧ cL_shown u (i + 4) = 2
      · rw [if_pos c] at ah
        refine Or.inr ⟨?_, i, hi, s0, c⟩
        show lp_X3_areLawful_2 u _ (n + 1) (nI i) = _
        simp only [lp_X3_areLawful_2, c_ge 48 48 hi (by decide), if_false, pz_inN hi (show 48 < 2 ^ 31 by decide), cl_I (show i < 2 ^ 31 by omega), pz_let, eq_true s0, if_true, ah, pz_bind, z10]
      · rw [if_neg c] at ah
        refine Or.inl ⟨nI (i + 1), ⟨rfl, go (fun q => c q.2)⟩, ?_⟩
        show lp_X3_areLawful_2 u _ (n + 1) (nI i) = lp_X3_areLawful_2 u _ n _
        simp only [lp_X3_areLawful_2, c_ge 48 48 hi (by decide), if_false, pz_inN hi (show 48 < 2 ^ 31 by decide), cl_I (show i < 2 ^ 31 by omega), pz_let, eq_true s0, if_true, ah, pz_bind, nI_1]
    · refine Or.inl ⟨nI (i + 1), ⟨rfl, go (fun q => s0 q.1)⟩, ?_⟩
      show lp_X3_areLawful_2 u _ (n + 1) (nI i) = lp_X3_areLawful_2 u _ n _
      simp only [lp_X3_areLawful_2, c_ge 48 48 hi (by decide), if_false, pz_inN hi (show 48 < 2 ^ 31 by decide), cl_I (show i < 2 ^ 31 by omega), pz_let, eq_false s0, nI_1]) 0 ⟨rfl, fun s hs => absurd hs (Nat.not_lt_zero s)⟩
  rcases main with ⟨n, z, ⟨rfl, hz⟩, h1⟩ | h1
  · refine Or.inl ⟨h1.trans ?_, hz⟩
    show lp_X3_areLawful_2 u _ (n + 1) (nI 48) = _
    simp only [lp_X3_areLawful_2, c_le 48 48 (by decide), if_true]
  · exact Or.inr h1
theorem law_in (hv : smV v) {s : Nat} (hs : s < 11) (k : Int32 → Option (Int32 × MS)) (z : Int32) (hz : z = 0 ∨ z = 1) : (lp_X10_isLawful_47 v (nI s) k FU z 0 = k 1 ∧ z = 1 ∧ ∀ l : Nat, l < 4 → ¬ (sgV v (4 * s + l) = 0 ∧ sgV v (4 * s + l + 4) = 2)) ∨ (lp_X10_isLawful_47 v (nI s) k FU z 0 = k 0 ∧ (z = 0 ∨ ∃ l : Nat, l < 4 ∧ sgV v (4 * s + l) = 0 ∧ sgV v (4 * s + l + 4) = 2)) := by
  have q1 : nI s + 1 = nI (s + 1) := nI_1 s
  obtain ⟨n, y, ⟨x, hx, rfl⟩, h1⟩ := lpF (fun n (y : Int32 × Int32) => lp_X10_isLawful_47 v (nI s) k n y.1 y.2) 4 (by decide) (fun i y => ∃ x : Int32, ((x = 1 ∧ z = 1 ∧ ∀ l : Nat, l < i → ¬ (sgV v (4 * s + l) = 0 ∧ sgV v (4 * s + l + 4) = 2)) ∨ (x = 0 ∧ (z = 0 ∨ ∃ l : Nat, l < 4 ∧ sgV v (4 * s + l) = 0 ∧ sgV v (4 * s + l + 4) = 2))) ∧ y = (x, nI i)) (by
    rintro n i y hi ⟨x, hx, rfl⟩
    have s1 := sign_m hv (show s < 12 by omega) hi
    have s2 := sign_m hv (show s + 1 < 12 by omega) hi
    have e4 : 4 * (s + 1) + i = 4 * s + i + 4 := by omega
    rw [e4] at s2
    rcases hx with ⟨rfl, hz1, hx⟩ | ⟨rfl, hx⟩
    · have go : ¬ (sgV v (4 * s + i) = 0 ∧ sgV v (4 * s + i + 4) = 2) → ∀ l : Nat, l < i + 1 → ¬ (sgV v (4 * s + l) = 0 ∧ sgV v (4 * s + l + 4) = 2) := fun c l hl => by
        by_cases e : l = i
        · rw [e]
          exact c
        · exact hx l (by omega)
      by_cases c2 : sgV v (4 * s + i + 4) = 2
      · by_cases c1 : sgV v (4 * s + i) = 0
        · refine ⟨(0, nI (i + 1)), ⟨0, Or.inr ⟨rfl, Or.inr ⟨i, hi, c1, c2⟩⟩, rfl⟩, ?_⟩
          show lp_X10_isLawful_47 v _ _ (n + 1) 1 (nI i) = lp_X10_isLawful_47 v _ _ n _ _
          simp only [lp_X10_isLawful_47, c_ge 4 4 hi (by decide), if_false, pz_let, z10, q1, s1, s2, pz_bind, eq_true c1, eq_true c2, if_true, nI_1]
        · refine ⟨(1, nI (i + 1)), ⟨1, Or.inl ⟨rfl, hz1, go (fun q => c1 q.1)⟩, rfl⟩, ?_⟩
          show lp_X10_isLawful_47 v _ _ (n + 1) 1 (nI i) = lp_X10_isLawful_47 v _ _ n _ _
          simp only [lp_X10_isLawful_47, c_ge 4 4 hi (by decide), if_false, pz_let, z10, q1, s1, s2, pz_bind, eq_false c1, eq_true c2, if_true, nI_1]
      · refine ⟨(1, nI (i + 1)), ⟨1, Or.inl ⟨rfl, hz1, go (fun q => c2 q.2)⟩, rfl⟩, ?_⟩
        show lp_X10_isLawful_47 v _ _ (n + 1) 1 (nI i) = lp_X10_isLawful_47 v _ _ n _ _
        simp only [lp_X10_isLawful_47, c_ge 4 4 hi (by decide), if_false, pz_let, z10, q1, s2, pz_bind, eq_false c2, nI_1]
    · refine ⟨(0, nI (i + 1)), ⟨0, Or.inr ⟨rfl, hx⟩, rfl⟩, ?_⟩
      show lp_X10_isLawful_47 v _ _ (n + 1) 0 (nI i) = lp_X10_isLawful_47 v _ _ n _ _
      simp only [lp_X10_isLawful_47, c_ge 4 4 hi (by decide), if_false, pz_let, z00, if_true, nI_1]) (z, 0) ⟨z, by
      rcases hz with rfl | rfl
      · exact Or.inr ⟨rfl, Or.inl rfl⟩
      · exact Or.inl ⟨rfl, rfl, fun l hl => absurd hl (Nat.not_lt_zero l)⟩, rfl⟩
  have e2 : lp_X10_isLawful_47 v (nI s) k (n + 1) x (nI 4) = k x := by
    simp only [lp_X10_isLawful_47, c_le 4 4 (by decide), if_true]
  rcases hx with ⟨rfl, hx⟩ | ⟨rfl, hx⟩
  · exact Or.inl ⟨h1.trans e2, hx⟩
  · exact Or.inr ⟨h1.trans e2, hx⟩
def lwG (v : MS) (s : Nat) : Prop := ¬ (mS_speedSign v (s + 1) + 20 < mS_speedSign v s) ∧ ∀ l : Nat, l < 4 → ¬ (sgV v (4 * s + l) = 0 ∧ sgV v (4 * s + l + 4) = 2)
theorem law_st0 (k : Int32 → Option (Int32 × MS)) (n : Nat) {i : Nat} (hi : i < 11) : lp_X10_isLawful_9 v k (n + 1) 0 (nI i) = lp_X10_isLawful_47 v (nI i) (fun x1 => g_let (nI i + 1) (fun v16 => lp_X10_isLawful_9 v k n x1 v16)) FU 0 0 := by
  rw [lp_X10_isLawful_9, if_neg (fun z => by rw [c_ge 11 11 hi (by decide)] at z; exact z), pz_let, pz_let, if_pos rfl]
theorem law_st1 (k : Int32 → Option (Int32 × MS)) (n : Nat) {i : Nat} (hi : i < 11) : lp_X10_isLawful_9 v k (n + 1) 1 (nI i) = lp_X10_isLawful_47 v (nI i) (fun x1 => g_let (nI i + 1) (fun v16 => lp_X10_isLawful_9 v k n x1 v16)) FU (if mS_speedSign v (i + 1) + 20 < mS_speedSign v i then 0 else 1) 0 := by
  have q1 : nI i + 1 = nI (i + 1) := nI_1 i
  rw [lp_X10_isLawful_9, if_neg (fun z => by rw [c_ge 11 11 hi (by decide)] at z; exact z), pz_let, pz_let, if_neg (by decide), pz_inN (show i < 12 by omega) (by decide), q1, pz_inN (show i + 1 < 12 by omega) (by decide), cl_I (show i < 2 ^ 31 by omega), cl_I (show i + 1 < 2 ^ 31 by omega)]
  by_cases c : mS_speedSign v (i + 1) + 20 < mS_speedSign v i
  · rw [if_pos c, if_pos c]
  · rw [if_neg c, if_neg c]
theorem law_out (hv : smV v) (k : Int32 → Option (Int32 × MS)) : (lp_X10_isLawful_9 v k FU 1 0 = k 1 ∧ ∀ s : Nat, s < 11 → lwG v s) ∨ (lp_X10_isLawful_9 v k FU 1 0 = k 0 ∧ ∃ s : Nat, s < 11 ∧ ¬ lwG v s) := by
  obtain ⟨n, y, ⟨x, hx, rfl⟩, h1⟩ := lpF (fun n (y : Int32 × Int32) => lp_X10_isLawful_9 v k n y.1 y.2) 11 (by decide) (fun i y => ∃ x : Int32, ((x = 1 ∧ ∀ s : Nat, s < i → lwG v s) ∨ (x = 0 ∧ ∃ s : Nat, s < 11 ∧ ¬ lwG v s)) ∧ y = (x, nI i)) (by
    rintro n i y hi ⟨x, hx, rfl⟩
    have q1 : nI i + 1 = nI (i + 1) := nI_1 i
    have kk : ∀ z : Int32, g_let (nI i + 1) (fun v16 => lp_X10_isLawful_9 v k n z v16) = lp_X10_isLawful_9 v k n z (nI (i + 1)) := fun z => by rw [pz_let, q1]
    rcases hx with ⟨rfl, hx⟩ | ⟨rfl, hx⟩
    · have st := law_st1 (v := v) k n hi
      by_cases c : mS_speedSign v (i + 1) + 20 < mS_speedSign v i
      · rw [if_pos c] at st
        rcases law_in hv hi (fun x1 => g_let (nI i + 1) (fun v16 => lp_X10_isLawful_9 v k n x1 v16)) 0 (Or.inl rfl) with ⟨-, q, -⟩ | ⟨q, -⟩
        · exact absurd q (by decide)
        · exact ⟨(0, nI (i + 1)), ⟨0, Or.inr ⟨rfl, i, hi, fun q => q.1 c⟩, rfl⟩, (st.trans q).trans (kk 0)⟩
      · rw [if_neg c] at st
        rcases law_in hv hi (fun x1 => g_let (nI i + 1) (fun v16 => lp_X10_isLawful_9 v k n x1 v16)) 1 (Or.inr rfl) with ⟨q, -, al⟩ | ⟨q, al⟩
        · refine ⟨(1, nI (i + 1)), ⟨1, Or.inl ⟨rfl, fun s hs => ?_⟩, rfl⟩, (st.trans q).trans (kk 1)⟩
          by_cases e : s = i
          · rw [e]
            exact ⟨c, al⟩
          · exact hx s (by omega)
        · obtain ⟨l, hl, l1⟩ := al.resolve_left (by decide)
          exact ⟨(0, nI (i + 1)), ⟨0, Or.inr ⟨rfl, i, hi, fun z => z.2 l hl l1⟩, rfl⟩, (st.trans q).trans (kk 0)⟩
    · have st := law_st0 (v := v) k n hi
      rcases law_in hv hi (fun x1 => g_let (nI i + 1) (fun v16 => lp_X10_isLawful_9 v k n x1 v16)) 0 (Or.inl rfl) with ⟨-, q, -⟩ | ⟨q, -⟩
      · exact absurd q (by decide)
      · exact ⟨(0, nI (i + 1)), ⟨0, Or.inr ⟨rfl, hx⟩, rfl⟩, (st.trans q).trans (kk 0)⟩) (1, 0) ⟨1, Or.inl ⟨rfl, fun s hs => absurd hs (Nat.not_lt_zero s)⟩, rfl⟩
  have e2 : lp_X10_isLawful_9 v k (n + 1) x (nI 11) = k x := by
    rw [lp_X10_isLawful_9, if_pos (by rw [c_le 11 11 (by decide)]; trivial)]
  rcases hx with ⟨rfl, hx⟩ | ⟨rfl, hx⟩
  · exact Or.inl ⟨h1.trans e2, hx⟩
  · exact Or.inr ⟨h1.trans e2, hx⟩
theorem sim_isLawful (h : Rel u v) : ∃ (r : Int32) (u' : GS) (v' : MS), g_X9_isLawful u = some (r, u') ∧ g_X10_isLawful v = some (r, v') ∧ Rel u' v' := by
  obtain ⟨hM, hT, hD, hS, hO, hH, hI, hP, hB, hK⟩ := id h
  obtain ⟨f, g, e3, hg⟩ := setLane (v := m_thrown_set v 0) hM hO.1 hH.1 hI hB
  have nx : Rel (cL_shown_set (cL_told_set u f) g) (m_thrown_set v 0) := ⟨hM, hT, hD, hS, hO, hH, hI, hP, hB, hK⟩
  have sp : ∀ s : Nat, mS_speedSign (m_thrown_set v 0) s = cS_shown (cL_shown_set (cL_told_set u f) g) s := fun s => congrFun hS.shown s
  have main := law_out (v := m_thrown_set v 0) (smV_of hI hB) (fun (x1_9 : Int32) => g_bo x1_9 (some (x1_9, m_thrown_set v 0)))
  have cl : (g_X9_isLawful u = some (1, cL_shown_set (cL_told_set u f) g) ∧ ∀ s : Nat, s < 11 → lwG (m_thrown_set v 0) s) ∨ (g_X9_isLawful u = some (0, cL_shown_set (cL_told_set u f) g) ∧ ∃ s : Nat, s < 11 ∧ ¬ lwG (m_thrown_set v 0) s) := by
    rcases spd_law (u := cL_shown_set (cL_told_set u f) g) with ⟨a1, a2⟩ | ⟨a1, s, hs, a2⟩
    · rcases lane_law (u := cL_shown_set (cL_told_set u f) g) with ⟨b1, b2⟩ | ⟨b1, p, hp, b2⟩
      · refine Or.inl ⟨?_, fun s hs => ⟨?_, fun l hl q => ?_⟩⟩
        · simp only [g_X9_isLawful, e3, pz_bind, a1, b1, z10, if_false]
        · rw [sp, sp]
          exact Int32.not_lt.mpr (a2 s hs)
        · refine b2 (4 * s + l) (by omega) ⟨(hg _ (by omega)).trans q.1, by omega, (hg _ (by omega)).trans q.2⟩
      · refine Or.inr ⟨?_, p / 4, by have := b2.2.1; omega, fun z => ?_⟩
        · simp only [g_X9_isLawful, e3, pz_bind, a1, b1, z10, if_false, if_true]
        · have e1 : 4 * (p / 4) + p % 4 = p := by omega
          have := z.2 (p % 4) (by omega)
          rw [e1] at this
          exact this ⟨(hg _ hp).symm.trans b2.1, (hg _ (by have := b2.2.1; omega)).symm.trans b2.2.2⟩
    · refine Or.inr ⟨?_, s, hs, fun z => ?_⟩
      · simp only [g_X9_isLawful, e3, pz_bind, a1, if_true]
      · have := z.1
        rw [sp, sp] at this
        exact a2 (Int32.not_lt.mp this)
  rcases cl with ⟨c1, c2⟩ | ⟨c1, s, hs, c2⟩
  · rcases main with ⟨m1, -⟩ | ⟨-, s, hs, m2⟩
    · refine ⟨1, _, m_thrown_set v 0, c1, ?_, nx⟩
      rw [g_X10_isLawful, pz_let]
      exact m1.trans (pz_bo1 _)
    · exact absurd (c2 s hs) m2
  · rcases main with ⟨-, m2⟩ | ⟨m1, -⟩
    · exact absurd (m2 s hs) c2
    · refine ⟨0, _, m_thrown_set v 0, c1, ?_, nx⟩
      rw [g_X10_isLawful, pz_let]
      exact m1.trans (pz_bo0 _)
end RELSB

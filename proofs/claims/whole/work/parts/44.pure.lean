theorem ctp8 (u : GS) (T : cT_t) : cT_waiting (qcT_put u T) = T.2.2.2.2.2.1 := rfl
theorem mtp8 (v : MS) (T : cT_t) : mT_waiting (qmT_put v T) = T.2.2.2.2.2.1 := rfl
theorem ctp9 (u : GS) (T : cT_t) (x : Int32) : cT_waiting_set (qcT_put u T) x = qcT_put u (T.1, T.2.1, T.2.2.1, T.2.2.2.1, T.2.2.2.2.1, x, T.2.2.2.2.2.2) := rfl
theorem mtp9 (v : MS) (T : cT_t) (x : Int32) : mT_waiting_set (qmT_put v T) x = qmT_put v (T.1, T.2.1, T.2.2.1, T.2.2.2.1, T.2.2.2.2.1, x, T.2.2.2.2.2.2) := rfl
section RELSE
variable {u : GS} {v : MS} {T : cT_t}
/-- the lane to come in by: the same in both -/
theorem enter (hv : smV v) (hg : ∀ p : Nat, p < 48 → cL_shown u p = sgV v p) (k : Int32 → Option MS) : ∃ r : Int32, ((r = -1 ∧ ∀ l : Nat, l < 4 → ¬ liP v T l) ∨ ∃ l : Nat, l < 4 ∧ r = nI l ∧ liP v T l) ∧ g_X8_laneToEnter (qcT_put u T) = some r ∧ lp_X10_comes_43 (qmT_put v T) k FU (-1) 0 = k r := by
  obtain ⟨n, z, t, ⟨r, hr, rfl, rfl⟩, h1, h2⟩ := lpR (fun n (z : Int32 × Int32) => lp_X8_laneToEnter_4 (qcT_put u T) (fun x => some x) n z.1 z.2) (fun n (t : Int32 × Int32) => lp_X10_comes_43 (qmT_put v T) k n t.1 t.2) 4 (by decide) (fun i z t => ∃ r : Int32, ((r = -1 ∧ ∀ l : Nat, l < i → ¬ liP v T l) ∨ ∃ l : Nat, l < i ∧ r = nI l ∧ liP v T l) ∧ z = (r, nI i) ∧ t = (r, nI i)) (by
    rintro n i z t hi ⟨r, hr, rfl, rfl⟩
    have ci := cl_I (show i < 2 ^ 31 by omega)
    have gi : ∀ {α : Type} (a : Option α), g_in (nI i) 48 a = a := fun a => pz_inN (by omega) (by decide) a
    have lm : (liP v T i ∧ g_X10_letsIn (qmT_put v T) 0 (nI i) = some 1) ∨ (¬ liP v T i ∧ g_X10_letsIn (qmT_put v T) 0 (nI i) = some 0) := by
      have := li_m (T := T) hv (show 0 < 12 by omega) hi
      rw [Nat.mul_zero, Nat.zero_add] at this
      exact this
    rcases li_c (T := T) hg (show i < 48 by omega) with ⟨a1, a2⟩ | ⟨a1, a2⟩
    · have b2 : g_X10_letsIn (qmT_put v T) 0 (nI i) = some 1 := by
        rcases lm with ⟨-, q⟩ | ⟨q, -⟩
        · exact q
        · exact absurd a1 q
      rcases hr with ⟨rfl, hr⟩ | ⟨l, hl, rfl, hr⟩
      · refine ⟨(nI i, nI (i + 1)), (nI i, nI (i + 1)), ⟨nI i, Or.inr ⟨i, by omega, rfl, a1⟩, rfl, rfl⟩, ?_, ?_⟩
        · show lp_X8_laneToEnter_4 _ _ (n + 1) (-1) (nI i) = lp_X8_laneToEnter_4 _ _ n _ _
          simp only [lp_X8_laneToEnter_4, c_ge 4 4 hi (by decide), if_false, a2, pz_bind, pz_let, z10, if_true, nI_1]
        · show lp_X10_comes_43 _ _ (n + 1) (-1) (nI i) = lp_X10_comes_43 _ _ n _ _
          simp only [lp_X10_comes_43, c_ge 4 4 hi (by decide), if_false, b2, pz_bind, pz_let, z10, if_true, nI_1]
      · have cl := cl_I (show l < 2 ^ 31 by omega)
        have gl : ∀ {α : Type} (a : Option α), g_in (nI l) 48 a = a := fun a => pz_inN (by omega) (by decide) a
        have nm := eq_false (nm1 l (by omega))
        by_cases c : T.1 l ≤ T.1 i
        · refine ⟨(nI l, nI (i + 1)), (nI l, nI (i + 1)), ⟨nI l, Or.inr ⟨l, by omega, rfl, hr⟩, rfl, rfl⟩, ?_, ?_⟩
          · show lp_X8_laneToEnter_4 _ _ (n + 1) (nI l) (nI i) = lp_X8_laneToEnter_4 _ _ n _ _
            simp only [lp_X8_laneToEnter_4, c_ge 4 4 hi (by decide), if_false, a2, pz_bind, pz_let, z10, nm, gi, gl, ci, cl, ctp1, eq_true c, if_true, nI_1]
          · show lp_X10_comes_43 _ _ (n + 1) (nI l) (nI i) = lp_X10_comes_43 _ _ n _ _
            simp only [lp_X10_comes_43, c_ge 4 4 hi (by decide), if_false, b2, pz_bind, pz_let, z10, nm, gi, gl, ci, cl, mtp1, eq_true c, if_true, nI_1]
        · refine ⟨(nI i, nI (i + 1)), (nI i, nI (i + 1)), ⟨nI i, Or.inr ⟨i, by omega, rfl, a1⟩, rfl, rfl⟩, ?_, ?_⟩
          · show lp_X8_laneToEnter_4 _ _ (n + 1) (nI l) (nI i) = lp_X8_laneToEnter_4 _ _ n _ _
            simp only [lp_X8_laneToEnter_4, c_ge 4 4 hi (by decide), if_false, a2, pz_bind, pz_let, z10, nm, gi, gl, ci, cl, ctp1, eq_false c, nI_1]
          · show lp_X10_comes_43 _ _ (n + 1) (nI l) (nI i) = lp_X10_comes_43 _ _ n _ _
            simp only [lp_X10_comes_43, c_ge 4 4 hi (by decide), if_false, b2, pz_bind, pz_let, z10, nm, gi, gl, ci, cl, mtp1, eq_false c, nI_1]
    · have b2 : g_X10_letsIn (qmT_put v T) 0 (nI i) = some 0 := by
        rcases lm with ⟨q, -⟩ | ⟨-, q⟩
        · exact absurd q a1
        · exact q
      refine ⟨(r, nI (i + 1)), (r, nI (i + 1)), ⟨r, ?_, rfl, rfl⟩, ?_, ?_⟩
      · rcases hr with ⟨rfl, hr⟩ | ⟨l, hl, rfl, hr⟩
        · refine Or.inl ⟨rfl, fun l hl => ?_⟩
          by_cases e : l = i
          · rw [e]
            exact a1
          · exact hr l (by omega)
        · exact Or.inr ⟨l, by omega, rfl, hr⟩
      · show lp_X8_laneToEnter_4 _ _ (n + 1) r (nI i) = lp_X8_laneToEnter_4 _ _ n _ _
        simp only [lp_X8_laneToEnter_4, c_ge 4 4 hi (by decide), if_false, a2, pz_bind, pz_let, if_true, nI_1]
      · show lp_X10_comes_43 _ _ (n + 1) r (nI i) = lp_X10_comes_43 _ _ n _ _
        simp only [lp_X10_comes_43, c_ge 4 4 hi (by decide), if_false, b2, pz_bind, pz_let, if_true, nI_1]) (-1, 0) (-1, 0) ⟨-1, Or.inl ⟨rfl, fun l hl => absurd hl (Nat.not_lt_zero l)⟩, rfl, rfl⟩
  refine ⟨r, hr, h1.trans ?_, h2.trans ?_⟩
  · show lp_X8_laneToEnter_4 _ _ (n + 1) _ (nI 4) = _
    simp only [lp_X8_laneToEnter_4, c_le 4 4 (by decide), if_true]
  · show lp_X10_comes_43 _ _ (n + 1) _ (nI 4) = _
    simp only [lp_X10_comes_43, c_le 4 4 (by decide), if_true]
/-- one round of the reference's loop, out of the lane found -/
def cmK (n : Nat) (w28 : MS) : Int32 → Option MS := fun (x2_43 : Int32) => g_let (fun (z0_99 : Int32) => g_let (fun (w124 : MS) => lp_X10_comes_28 (fun (w28 : MS) => some w28) n z0_99 w124) (fun (j124_18 : MS → Option (MS)) =>
    if z0_99 = 0 then
    j124_18 w28
    else
    g_in x2_43 48 (
    g_in x2_43 48 (
    g_let (mT_holding_set w28 (upd (mT_holding w28) x2_43.toNatClampNeg ((mT_holding w28 x2_43.toNatClampNeg) + (1 : Int32)))) (fun (u22 : MS) =>
    g_let (mT_waiting_set u22 ((mT_waiting u22) - (1 : Int32))) (fun (u23 : MS) =>
    j124_18 u23)))))) (fun (j99_17 : Int32 → Option (MS)) =>
    if x2_43 = (-1 : Int32) then
    j99_17 (0 : Int32)
    else
    j99_17 (1 : Int32))
theorem cm_st (n : Nat) (w : MS) (h : ¬ mT_waiting w ≤ 0) : lp_X10_comes_28 (fun (w28 : MS) => some w28) (n + 1) 1 w = lp_X10_comes_43 w (cmK n w) FU (-1) 0 := by
  rw [lp_X10_comes_28, if_neg h, if_neg (by decide)]
  rfl
theorem cm_ex (n : Nat) (w : MS) (h : mT_waiting w ≤ 0) (x : Int32) : lp_X10_comes_28 (fun (w28 : MS) => some w28) (n + 1) x w = some w := by
  rw [lp_X10_comes_28, if_pos h]
theorem cm_0 (n : Nat) (w : MS) : lp_X10_comes_28 (fun (w28 : MS) => some w28) (n + 1) 0 w = some w := by
  rw [lp_X10_comes_28]
  by_cases h : mT_waiting w ≤ 0
  · rw [if_pos h]
  · rw [if_neg h, if_pos rfl]
theorem cm_no (n : Nat) (w : MS) : cmK n w (-1) = lp_X10_comes_28 (fun (w28 : MS) => some w28) n 0 w := by
  simp only [cmK, pz_let, if_true]
theorem cm_go (n : Nat) {l x : Nat} (hl : l < 48) (ex : T.1 l = nI x) : cmK n (qmT_put v T) (nI l) = lp_X10_comes_28 (fun (w28 : MS) => some w28) n 1 (qmT_put v (upd T.1 l (nI (x + 1)), T.2.1, T.2.2.1, T.2.2.2.1, T.2.2.2.2.1, T.2.2.2.2.2.1 - 1, T.2.2.2.2.2.2)) := by
  simp only [cmK, pz_let, eq_false (nm1 l (by omega)), if_false, z10, pz_inN hl (show 48 < 2 ^ 31 by decide), cl_I (show l < 2 ^ 31 by omega), mtp1, ex, nI_1, mtp5, mtp8, mtp9]
/-- what the four lanes at the section 0 hold -/
def sum4 (T : cT_t) (i : Nat) : Prop := ∃ a b c d : Nat, a ≤ 20 ∧ b ≤ 20 ∧ c ≤ 20 ∧ d ≤ 20 ∧ T.1 0 = nI a ∧ T.1 1 = nI b ∧ T.1 2 = nI c ∧ T.1 3 = nI d ∧ i ≤ a + b + c + d
theorem sum4_0 (hT : TB T) : sum4 T 0 := by
  obtain ⟨a, ha, a1⟩ := hT 0 (by omega)
  obtain ⟨b, hb, b1⟩ := hT 1 (by omega)
  obtain ⟨c, hc, c1⟩ := hT 2 (by omega)
  obtain ⟨d, hd, d1⟩ := hT 3 (by omega)
  exact ⟨a, b, c, d, ha, hb, hc, hd, a1, b1, c1, d1, by omega⟩
theorem sum4_up {i l x : Nat} (hs : sum4 T i) (hl : l < 4) (ex : T.1 l = nI x) (hx : x < 20) (W : (Nat → Int32) × (Nat → Int32) × Int32 × Int32 × Int32 × Int32) : sum4 (upd T.1 l (nI (x + 1)), W) (i + 1) := by
  obtain ⟨a, b, c, d, ha, hb, hc, hd, a1, b1, c1, d1, sm⟩ := hs
  have hl4 : l = 0 ∨ l = 1 ∨ l = 2 ∨ l = 3 := by omega
  rcases hl4 with rfl | rfl | rfl | rfl
  · rw [a1, nI_eq (by omega) (by omega)] at ex
    have z : ∀ j : Nat, j ≠ 0 → upd T.1 0 (nI (x + 1)) j = T.1 j := fun j h => pk_un h
    have zz : upd T.1 0 (nI (x + 1)) 0 = nI (x + 1) := pk_us
    exact ⟨x + 1, b, c, d, by omega, hb, hc, hd, zz, (z 1 (by decide)).trans b1, (z 2 (by decide)).trans c1, (z 3 (by decide)).trans d1, by omega⟩
  · rw [b1, nI_eq (by omega) (by omega)] at ex
    have z : ∀ j : Nat, j ≠ 1 → upd T.1 1 (nI (x + 1)) j = T.1 j := fun j h => pk_un h
    have zz : upd T.1 1 (nI (x + 1)) 1 = nI (x + 1) := pk_us
    exact ⟨a, x + 1, c, d, ha, by omega, hc, hd, (z 0 (by decide)).trans a1, zz, (z 2 (by decide)).trans c1, (z 3 (by decide)).trans d1, by omega⟩
  · rw [c1, nI_eq (by omega) (by omega)] at ex
    have z : ∀ j : Nat, j ≠ 2 → upd T.1 2 (nI (x + 1)) j = T.1 j := fun j h => pk_un h
    have zz : upd T.1 2 (nI (x + 1)) 2 = nI (x + 1) := pk_us
    exact ⟨a, b, x + 1, d, ha, hb, by omega, hd, (z 0 (by decide)).trans a1, (z 1 (by decide)).trans b1, zz, (z 3 (by decide)).trans d1, by omega⟩
  · rw [d1, nI_eq (by omega) (by omega)] at ex
    have z : ∀ j : Nat, j ≠ 3 → upd T.1 3 (nI (x + 1)) j = T.1 j := fun j h => pk_un h
    have zz : upd T.1 3 (nI (x + 1)) 3 = nI (x + 1) := pk_us
    exact ⟨a, b, c, x + 1, ha, hb, hc, by omega, (z 0 (by decide)).trans a1, (z 1 (by decide)).trans b1, (z 2 (by decide)).trans c1, zz, by omega⟩
theorem sum4_full {l : Nat} (hs : sum4 T 80) (hl : l < 4) : ¬ liP v T l := fun li => by
  obtain ⟨a, b, c, d, ha, hb, hc, hd, a1, b1, c1, d1, sm⟩ := hs
  have hl4 : l = 0 ∨ l = 1 ∨ l = 2 ∨ l = 3 := by omega
  rcases hl4 with rfl | rfl | rfl | rfl
  · exact li.2 (by rw [a1, show a = 20 by omega]; decide)
  · exact li.2 (by rw [b1, show b = 20 by omega]; decide)
  · exact li.2 (by rw [c1, show c = 20 by omega]; decide)
  · exact li.2 (by rw [d1, show d = 20 by omega]; decide)
theorem arrive (hv : smV v) (hg : ∀ p : Nat, p < 48 → cL_shown u p = sgV v p) (hT : TB T) : ∃ T' : cT_t, TB T' ∧ lp_X8_arrive_28 (fun (w28 : GS) => some w28) FU 0 (qcT_put u T) = some (qcT_put u T') ∧ lp_X10_comes_28 (fun (w28 : MS) => some w28) FU 1 (qmT_put v T) = some (qmT_put v T') := by
  have main := lpX (fun n (z : Int32 × GS) => lp_X8_arrive_28 (fun (w28 : GS) => some w28) n z.1 z.2) (fun n (t : Int32 × MS) => lp_X10_comes_28 (fun (w28 : MS) => some w28) n t.1 t.2) 80 (by decide) (fun i z t => ∃ T' : cT_t, TB T' ∧ sum4 T' i ∧ z = (nI i, qcT_put u T') ∧ t = (1, qmT_put v T')) (fun a b => ∃ T' : cT_t, TB T' ∧ a = some (qcT_put u T') ∧ b = some (qmT_put v T')) (by
    rintro n i z t hn hi ⟨T', hT', hs, rfl, rfl⟩
    by_cases c : T'.2.2.2.2.2.1 ≤ 0
    · refine Or.inr ⟨T', hT', ?_, cm_ex n (qmT_put v T') c 1⟩
      show lp_X8_arrive_28 _ (n + 1) (nI i) _ = _
      rw [lp_X8_arrive_28, if_neg (fun q => by rw [c_ge 80 80 hi (by decide)] at q; exact q), if_pos (show cT_waiting (qcT_put u T') ≤ 0 from c)]
    · obtain ⟨r, hr, e1, e2⟩ := enter (T := T') hv hg (cmK n (qmT_put v T'))
      have m1 := (cm_st n (qmT_put v T') c).trans e2
      have c1 : lp_X8_arrive_28 (fun (w28 : GS) => some w28) (n + 1) (nI i) (qcT_put u T') = if r = (-1 : Int32) then some (qcT_put u T') else g_in r 48 (g_in r 48 (g_let (cT_held_set (qcT_put u T') (upd (cT_held (qcT_put u T')) r.toNatClampNeg ((cT_held (qcT_put u T') r.toNatClampNeg) + (1 : Int32)))) (fun (u10 : GS) => g_let (cT_waiting_set u10 ((cT_waiting u10) - (1 : Int32))) (fun (u11 : GS) => g_let (nI i + 1) (fun (v12 : Int32) => lp_X8_arrive_28 (fun (w28 : GS) => some w28) n v12 u11))))) := by
        rw [lp_X8_arrive_28, if_neg (fun q => by rw [c_ge 80 80 hi (by decide)] at q; exact q), if_neg (show ¬ cT_waiting (qcT_put u T') ≤ 0 from c), e1, pz_bind]
      rcases hr with ⟨rfl, -⟩ | ⟨l, hl, rfl, li⟩
      · refine Or.inr ⟨T', hT', c1.trans (if_pos rfl), ?_⟩
        refine m1.trans ((cm_no n _).trans ?_)
        obtain ⟨j, rfl⟩ : ∃ j, n = j + 1 := ⟨n - 1, by omega⟩
        exact cm_0 j _
      · obtain ⟨x, hx, ex⟩ := hT' l (by omega)
        have x20 : x < 20 := Classical.byContradiction fun q => li.2 (by
          rw [ex]
          exact nI_le (a := 20) (by omega) (by omega))
        refine Or.inl ⟨(nI (i + 1), qcT_put u (upd T'.1 l (nI (x + 1)), T'.2.1, T'.2.2.1, T'.2.2.2.1, T'.2.2.2.2.1, T'.2.2.2.2.2.1 - 1, T'.2.2.2.2.2.2)), (1, qmT_put v (upd T'.1 l (nI (x + 1)), T'.2.1, T'.2.2.1, T'.2.2.2.1, T'.2.2.2.2.1, T'.2.2.2.2.2.1 - 1, T'.2.2.2.2.2.2)), ⟨_, hT'.upd l (x + 1) (by omega) _, ?_, rfl, rfl⟩, c1.trans ?_, m1.trans (cm_go n (by omega) ex)⟩
        · exact sum4_up hs hl ex x20 _
        · rw [if_neg (nm1 l (by omega)), pz_inN (show l < 48 by omega) (by decide), pz_inN (show l < 48 by omega) (by decide), pz_let, pz_let, pz_let, ctp1, cl_I (show l < 2 ^ 31 by omega), ex, nI_1, nI_1, ctp5, ctp8, ctp9]) (0, qcT_put u T) (1, qmT_put v T) ⟨T, hT, sum4_0 hT, rfl, rfl⟩
  rcases main with ⟨n, z, t, ⟨T', hT', hs, rfl, rfl⟩, h1, h2⟩ | h
  · refine ⟨T', hT', h1.trans ?_, h2.trans ?_⟩
    · show lp_X8_arrive_28 _ (n + 1 + 1) (nI 80) _ = _
      rw [lp_X8_arrive_28, if_pos (by rw [c_le 80 80 (by decide)]; trivial)]
    · show lp_X10_comes_28 _ (n + 1 + 1) 1 _ = _
      by_cases c : T'.2.2.2.2.2.1 ≤ 0
      · exact cm_ex (n + 1) (qmT_put v T') c 1
      · obtain ⟨r, hr, e1, e2⟩ := enter (T := T') hv hg (cmK (n + 1) (qmT_put v T'))
        rcases hr with ⟨rfl, -⟩ | ⟨l, hl, rfl, li⟩
        · exact ((cm_st (n + 1) (qmT_put v T') c).trans e2).trans ((cm_no (n + 1) _).trans (cm_0 n _))
        · exact absurd li (sum4_full hs hl)
  · exact h
/-- where the flow has broken down: the same in both -/
theorem judge (hT : TB T) (k' : MS → Option MS) : ∃ T' : cT_t, TB T' ∧ g_X8_judgeBroken (qcT_put u T) = some (qcT_put u T') ∧ lp_X10_minute_52 k' FU 0 (qmT_put v T) = k' (qmT_put v T') := by
  have b1 : ∀ (T : cT_t) f, cT_broken_set (qcT_put u T) f = qcT_put u (T.1, T.2.1, f, T.2.2.2) := fun _ _ => rfl
  have b2 : ∀ (T : cT_t) f, mT_isBroken_set (qmT_put v T) f = qmT_put v (T.1, T.2.1, f, T.2.2.2) := fun _ _ => rfl
  obtain ⟨n, z, t, ⟨T', hT', rfl, rfl⟩, h1, h2⟩ := lpR (fun n (z : Int32 × GS) => lp_X8_judgeBroken_2 (fun w => some w) n z.1 z.2) (fun n (t : Int32 × MS) => lp_X10_minute_52 k' n t.1 t.2) 12 (by decide) (fun i z t => ∃ T' : cT_t, TB T' ∧ z = (nI i, qcT_put u T') ∧ t = (nI i, qmT_put v T')) (by
    rintro n i z t hi ⟨T', hT', rfl, rfl⟩
    obtain ⟨m, hm, e1, e2⟩ := most (u := qcT_put u T') (v := qmT_put v T') ⟨rfl, hT'⟩ hi
    have g12 : ∀ {α : Type} (a : Option α), g_in (nI i) 12 a = a := fun a => pz_inN hi (by decide) a
    have ci := cl_I (show i < 2 ^ 31 by omega)
    by_cases c1 : (15 : Int32) ≤ nI m
    · refine ⟨(nI (i + 1), qcT_put u (T'.1, T'.2.1, upd T'.2.2.1 i 1, T'.2.2.2)), (nI (i + 1), qmT_put v (T'.1, T'.2.1, upd T'.2.2.1 i 1, T'.2.2.2)), ⟨(T'.1, T'.2.1, upd T'.2.2.1 i 1, T'.2.2.2), hT', rfl, rfl⟩, ?_, ?_⟩
      · show lp_X8_judgeBroken_2 _ (n + 1) (nI i) _ = lp_X8_judgeBroken_2 _ n _ _
        simp only [lp_X8_judgeBroken_2, c_ge 12 12 hi (by decide), if_false, e1, pz_bind, pz_let, eq_true c1, if_true, g12, ci, ctp3, vnb1, b1, nI_1]
      · show lp_X10_minute_52 _ (n + 1) (nI i) _ = lp_X10_minute_52 _ n _ _
        simp only [lp_X10_minute_52, c_ge 12 12 hi (by decide), if_false, e2, pz_bind, pz_let, eq_true c1, if_true, g12, ci, mtp3, vnb1, b2, nI_1]
    · by_cases c2 : T'.2.2.1 i = 0
      · refine ⟨(nI (i + 1), qcT_put u (T'.1, T'.2.1, upd T'.2.2.1 i 0, T'.2.2.2)), (nI (i + 1), qmT_put v (T'.1, T'.2.1, upd T'.2.2.1 i 0, T'.2.2.2)), ⟨(T'.1, T'.2.1, upd T'.2.2.1 i 0, T'.2.2.2), hT', rfl, rfl⟩, ?_, ?_⟩
        · show lp_X8_judgeBroken_2 _ (n + 1) (nI i) _ = lp_X8_judgeBroken_2 _ n _ _
          simp only [lp_X8_judgeBroken_2, c_ge 12 12 hi (by decide), if_false, e1, pz_bind, pz_let, eq_false c1, g12, ci, ctp3, eq_true c2, if_true, vnb0, b1, nI_1]
        · show lp_X10_minute_52 _ (n + 1) (nI i) _ = lp_X10_minute_52 _ n _ _
          simp only [lp_X10_minute_52, c_ge 12 12 hi (by decide), if_false, e2, pz_bind, pz_let, eq_false c1, g12, ci, mtp3, eq_true c2, if_true, vnb0, b2, nI_1]
      · by_cases c3 : nI m < (8 : Int32)
        · refine ⟨(nI (i + 1), qcT_put u (T'.1, T'.2.1, upd T'.2.2.1 i 0, T'.2.2.2)), (nI (i + 1), qmT_put v (T'.1, T'.2.1, upd T'.2.2.1 i 0, T'.2.2.2)), ⟨(T'.1, T'.2.1, upd T'.2.2.1 i 0, T'.2.2.2), hT', rfl, rfl⟩, ?_, ?_⟩
          · show lp_X8_judgeBroken_2 _ (n + 1) (nI i) _ = lp_X8_judgeBroken_2 _ n _ _
            simp only [lp_X8_judgeBroken_2, c_ge 12 12 hi (by decide), if_false, e1, pz_bind, pz_let, eq_false c1, g12, ci, ctp3, eq_false c2, eq_true c3, if_true, vnb0, b1, nI_1]
          · show lp_X10_minute_52 _ (n + 1) (nI i) _ = lp_X10_minute_52 _ n _ _
            simp only [lp_X10_minute_52, c_ge 12 12 hi (by decide), if_false, e2, pz_bind, pz_let, eq_false c1, g12, ci, mtp3, eq_false c2, eq_true c3, if_true, vnb0, b2, nI_1]
        · refine ⟨(nI (i + 1), qcT_put u (T'.1, T'.2.1, upd T'.2.2.1 i 1, T'.2.2.2)), (nI (i + 1), qmT_put v (T'.1, T'.2.1, upd T'.2.2.1 i 1, T'.2.2.2)), ⟨(T'.1, T'.2.1, upd T'.2.2.1 i 1, T'.2.2.2), hT', rfl, rfl⟩, ?_, ?_⟩
          · show lp_X8_judgeBroken_2 _ (n + 1) (nI i) _ = lp_X8_judgeBroken_2 _ n _ _
            simp only [lp_X8_judgeBroken_2, c_ge 12 12 hi (by decide), if_false, e1, pz_bind, pz_let, eq_false c1, g12, ci, ctp3, eq_false c2, eq_false c3, vnb1, b1, nI_1]
          · show lp_X10_minute_52 _ (n + 1) (nI i) _ = lp_X10_minute_52 _ n _ _
            simp only [lp_X10_minute_52, c_ge 12 12 hi (by decide), if_false, e2, pz_bind, pz_let, eq_false c1, g12, ci, mtp3, eq_false c2, eq_false c3, vnb1, b2, nI_1]) (0, qcT_put u T) (0, qmT_put v T) ⟨T, hT, rfl, rfl⟩
  refine ⟨T', hT', h1.trans ?_, h2.trans ?_⟩
  · show lp_X8_judgeBroken_2 _ (n + 1) (nI 12) _ = _
    rw [lp_X8_judgeBroken_2, if_pos (by rw [c_le 12 12 (by decide)]; trivial)]
  · show lp_X10_minute_52 _ (n + 1) (nI 12) _ = _
    rw [lp_X10_minute_52, if_pos (by rw [c_le 12 12 (by decide)]; trivial)]
end RELSE

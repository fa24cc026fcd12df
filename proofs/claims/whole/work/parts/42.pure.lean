/-! the traffic of one minute -/
theorem lpX {σ τ β γ : Type} (L : Nat → σ → Option β) (M : Nat → τ → Option γ) (C : Nat) (hC : C < 998) (P : Nat → σ → τ → Prop) (R : Option β → Option γ → Prop)
    (hs : ∀ n i s t, 0 < n → i < C → P i s t → (∃ s' t', P (i + 1) s' t' ∧ L (n + 1) s = L n s' ∧ M (n + 1) t = M n t') ∨ R (L (n + 1) s) (M (n + 1) t)) (s : σ) (t : τ) (h : P 0 s t) : (∃ n s' t', P C s' t' ∧ L FU s = L (n + 2) s' ∧ M FU t = M (n + 2) t') ∨ R (L FU s) (M FU t) := by
  obtain ⟨n, hn⟩ : ∃ n, FU = n + 1 + C + 1 := ⟨998 - C, by show 1000 = _; omega⟩
  rcases pz_lp2 (fun n => L (n + 1)) (fun n => M (n + 1)) C P R (fun n i s t => hs (n + 1) i s t (Nat.succ_pos n)) C 0 (n + 1) s t (by omega) h with ⟨s', t', h1, h2, h3⟩ | q
  · exact Or.inl ⟨n, s', t', h1, by rw [hn]; exact h2, by rw [hn]; exact h3⟩
  · exact Or.inr (by rw [hn]; exact q)
def TB (T : cT_t) : Prop := ∀ p : Nat, p < 48 → ∃ h : Nat, h ≤ 20 ∧ T.1 p = nI h
theorem TB.upd {T : cT_t} (h : TB T) (i x : Nat) (hx : x ≤ 20) (W : (Nat → Int32) × (Nat → Int32) × Int32 × Int32 × Int32 × Int32) : TB (upd T.1 i (nI x), W) := fun p hp => by
  by_cases e : p = i
  · exact ⟨x, hx, by rw [e]; exact pk_us⟩
  · obtain ⟨y, hy, ey⟩ := h p hp
    exact ⟨y, hy, (pk_un e).trans ey⟩
theorem ctp1 (u : GS) (T : cT_t) : cT_held (qcT_put u T) = T.1 := rfl
theorem ctp2 (u : GS) (T : cT_t) : cT_stopped (qcT_put u T) = T.2.1 := rfl
theorem ctp3 (u : GS) (T : cT_t) : cT_broken (qcT_put u T) = T.2.2.1 := rfl
theorem ctp4 (u : GS) (T : cT_t) : cL_shown (qcT_put u T) = cL_shown u := rfl
theorem ctp5 (u : GS) (T : cT_t) (f : Nat → Int32) : cT_held_set (qcT_put u T) f = qcT_put u (f, T.2) := rfl
theorem ctp6 (u : GS) (T : cT_t) (x : Int32) : cT_gone_set (qcT_put u T) x = qcT_put u (T.1, T.2.1, T.2.2.1, T.2.2.2.1, T.2.2.2.2.1, T.2.2.2.2.2.1, x) := rfl
theorem ctp7 (u : GS) (T : cT_t) : cT_gone (qcT_put u T) = T.2.2.2.2.2.2 := rfl
theorem mtp1 (v : MS) (T : cT_t) : mT_holding (qmT_put v T) = T.1 := rfl
theorem mtp2 (v : MS) (T : cT_t) : mT_isStopped (qmT_put v T) = T.2.1 := rfl
theorem mtp3 (v : MS) (T : cT_t) : mT_isBroken (qmT_put v T) = T.2.2.1 := rfl
theorem mtp5 (v : MS) (T : cT_t) (f : Nat → Int32) : mT_holding_set (qmT_put v T) f = qmT_put v (f, T.2) := rfl
theorem mtp6 (v : MS) (T : cT_t) (x : Int32) : mT_gone_set (qmT_put v T) x = qmT_put v (T.1, T.2.1, T.2.2.1, T.2.2.2.1, T.2.2.2.2.1, T.2.2.2.2.2.1, x) := rfl
theorem mtp7 (v : MS) (T : cT_t) : mT_gone (qmT_put v T) = T.2.2.2.2.2.2 := rfl
/-- a place lets in: no cross, not full -/
def liP (v : MS) (T : cT_t) (p : Nat) : Prop := ¬ sgV v p = 2 ∧ ¬ (20 : Int32) ≤ T.1 p
section RELSC
variable {u : GS} {v : MS} {T : cT_t}
theorem li_c (hg : ∀ p : Nat, p < 48 → cL_shown u p = sgV v p) {p : Nat} (hp : p < 48) : (liP v T p ∧ g_X8_letsIn (qcT_put u T) (nI p) = some 1) ∨ (¬ liP v T p ∧ g_X8_letsIn (qcT_put u T) (nI p) = some 0) := by
  have i1 : g_X9_isWithin (nI p) 0 47 = some 1 := isw (k := p) (a := 0) (b := 47) _ rfl (Nat.zero_le _) (by omega) (by decide) _ _
  have cp := cl_I (show p < 2 ^ 31 by omega)
  have g48 : ∀ {α : Type} (a : Option α), g_in (nI p) 48 a = a := fun a => pz_inN hp (by decide) a
  by_cases c1 : sgV v p = 2
  · refine Or.inr ⟨fun q => q.1 c1, ?_⟩
    simp only [g_X8_letsIn, i1, pz_bind, z10, if_false, g48, cp, ctp4, hg p hp, eq_true c1, if_true]
  · by_cases c2 : (20 : Int32) ≤ T.1 p
    · refine Or.inr ⟨fun q => q.2 c2, ?_⟩
      simp only [g_X8_letsIn, i1, pz_bind, z10, if_false, g48, cp, ctp4, hg p hp, eq_false c1, ctp1, eq_true c2, if_true]
    · refine Or.inl ⟨⟨c1, c2⟩, ?_⟩
      simp only [g_X8_letsIn, i1, pz_bind, z10, if_false, g48, cp, ctp4, hg p hp, eq_false c1, ctp1, eq_false c2]
theorem li_m (hv : smV v) {s l : Nat} (hs : s < 12) (hl : l < 4) : (liP v T (4 * s + l) ∧ g_X10_letsIn (qmT_put v T) (nI s) (nI l) = some 1) ∨ (¬ liP v T (4 * s + l) ∧ g_X10_letsIn (qmT_put v T) (nI s) (nI l) = some 0) := by
  have i1 : g_X10_isIn (nI l) 0 3 = some 1 := isw (k := l) (a := 0) (b := 3) _ rfl (Nat.zero_le _) (by omega) (by decide) _ _
  have hk : 4 * s + l < 48 := by omega
  have cp := cl_I (show 4 * s + l < 2 ^ 31 by omega)
  have sg : g_X10_signOf (qmT_put v T) (nI s) (nI l) = some (sgV v (4 * s + l)) := sign_m (v := qmT_put v T) hv hs hl
  have g48 : ∀ {α : Type} (a : Option α), g_in (nI (4 * s + l)) 48 a = a := fun a => pz_inN hk (by decide) a
  by_cases c1 : sgV v (4 * s + l) = 2
  · refine Or.inr ⟨fun q => q.1 c1, ?_⟩
    simp only [g_X10_letsIn, i1, pz_bind, z10, if_false, sg, eq_true c1, if_true]
  · by_cases c2 : (20 : Int32) ≤ T.1 (4 * s + l)
    · refine Or.inr ⟨fun q => q.2 c2, ?_⟩
      simp only [g_X10_letsIn, i1, pz_bind, z10, if_false, sg, eq_false c1, mpl, g48, cp, mtp1, eq_true c2, if_true]
    · refine Or.inl ⟨⟨c1, c2⟩, ?_⟩
      simp only [g_X10_letsIn, i1, pz_bind, z10, if_false, sg, eq_false c1, mpl, g48, cp, mtp1, eq_false c2]
/-- one try: the lane z of the next section -/
theorem tryc (hv : smV v) (hg : ∀ p : Nat, p < 48 → cL_shown u p = sgV v p) {s : Nat} (hs : s < 11) (z : Int32) :
    (∃ l : Nat, l < 4 ∧ z = nI l ∧ liP v T (4 * (s + 1) + l) ∧ g_X9_isWithin z 0 3 = some 1 ∧ g_X9_placeOf (nI s + 1) z = some (nI (4 * (s + 1) + l)) ∧ g_X8_letsIn (qcT_put u T) (nI (4 * (s + 1) + l)) = some 1 ∧ g_X10_letsIn (qmT_put v T) (nI s + 1) z = some 1) ∨
    (g_X10_letsIn (qmT_put v T) (nI s + 1) z = some 0 ∧ (g_X9_isWithin z 0 3 = some 0 ∨ (g_X9_isWithin z 0 3 = some 1 ∧ ∃ y : Int32, g_X9_placeOf (nI s + 1) z = some y ∧ g_X8_letsIn (qcT_put u T) y = some 0))) := by
  have q1 : nI s + 1 = nI (s + 1) := nI_1 s
  rw [q1]
  rcases iwc z 0 3 with ⟨h1, h2, i1, -⟩ | ⟨-, i1, i2⟩
  · obtain ⟨l, hl, rfl⟩ := ix_of 3 (n := 3) rfl (by decide) h1 h2
    have pN := placeN (s + 1) l
    rcases li_c (T := T) hg (show 4 * (s + 1) + l < 48 by omega) with ⟨a1, a2⟩ | ⟨a1, a2⟩
    · rcases li_m (T := T) hv (show s + 1 < 12 by omega) (show l < 4 by omega) with ⟨-, b2⟩ | ⟨b1, -⟩
      · exact Or.inl ⟨l, by omega, rfl, a1, i1, pN, a2, b2⟩
      · exact absurd a1 b1
    · rcases li_m (T := T) hv (show s + 1 < 12 by omega) (show l < 4 by omega) with ⟨b1, -⟩ | ⟨-, b2⟩
      · exact absurd b1 a1
      · exact Or.inr ⟨b2, Or.inr ⟨i1, _, pN, a2⟩⟩
  · refine Or.inr ⟨?_, Or.inl i1⟩
    simp only [g_X10_letsIn, i2, pz_bind, if_true]
theorem pa_o (hv : smV v) (hg : ∀ p : Nat, p < 48 → cL_shown u p = sgV v p) {s : Nat} (hs : s < 11) (l : Int32) (n i : Nat) (hi : i < 3) (z : Int32) (hz : l + tioF i = z) (k : Unit → Option Int32) :
    (∃ l' : Nat, l' < 4 ∧ z = nI l' ∧ liP v T (4 * (s + 1) + l') ∧ lp_X8_placeToGoTo_24_v2 (qcT_put u T) (nI s) l k (n + 1) (nI i) = some (nI (4 * (s + 1) + l')) ∧ g_X10_letsIn (qmT_put v T) (nI s + 1) z = some 1) ∨
    (lp_X8_placeToGoTo_24_v2 (qcT_put u T) (nI s) l k (n + 1) (nI i) = lp_X8_placeToGoTo_24_v2 (qcT_put u T) (nI s) l k n (nI (i + 1)) ∧ g_X10_letsIn (qmT_put v T) (nI s + 1) z = some 0) := by
  rcases tryc (T := T) hv hg hs z with ⟨l', h1, h2, h3, h4, h5, h6, h7⟩ | ⟨h7, h4 | ⟨h4, y, h5, h6⟩⟩
  · refine Or.inl ⟨l', h1, h2, h3, ?_, h7⟩
    simp only [lp_X8_placeToGoTo_24_v2, c_ge 3 3 hi (by decide), if_false, pz_inN hi (show 3 < 2 ^ 31 by decide), cl_I (show i < 2 ^ 31 by omega), pz_let, hz, h4, pz_bind, z10, h5, h6]
  · refine Or.inr ⟨?_, h7⟩
    simp only [lp_X8_placeToGoTo_24_v2, c_ge 3 3 hi (by decide), if_false, pz_inN hi (show 3 < 2 ^ 31 by decide), cl_I (show i < 2 ^ 31 by omega), pz_let, hz, h4, pz_bind, if_true, nI_1]
  · refine Or.inr ⟨?_, h7⟩
    rw [nI_1] at h5
    simp only [lp_X8_placeToGoTo_24_v2, c_ge 3 3 hi (by decide), if_false, pz_inN hi (show 3 < 2 ^ 31 by decide), cl_I (show i < 2 ^ 31 by omega), pz_let, hz, h4, pz_bind, z10, h5, h6, if_true, nI_1]
theorem pa_n (hv : smV v) (hg : ∀ p : Nat, p < 48 → cL_shown u p = sgV v p) {s : Nat} (hs : s < 11) (l : Int32) (n i : Nat) (hi : i < 3) (z : Int32) (hz : l + tinF i = z) (k : Unit → Option Int32) :
    (∃ l' : Nat, l' < 4 ∧ z = nI l' ∧ liP v T (4 * (s + 1) + l') ∧ lp_X8_placeToGoTo_24 (qcT_put u T) (nI s) l k (n + 1) (nI i) = some (nI (4 * (s + 1) + l')) ∧ g_X10_letsIn (qmT_put v T) (nI s + 1) z = some 1) ∨
    (lp_X8_placeToGoTo_24 (qcT_put u T) (nI s) l k (n + 1) (nI i) = lp_X8_placeToGoTo_24 (qcT_put u T) (nI s) l k n (nI (i + 1)) ∧ g_X10_letsIn (qmT_put v T) (nI s + 1) z = some 0) := by
  rcases tryc (T := T) hv hg hs z with ⟨l', h1, h2, h3, h4, h5, h6, h7⟩ | ⟨h7, h4 | ⟨h4, y, h5, h6⟩⟩
  · refine Or.inl ⟨l', h1, h2, h3, ?_, h7⟩
    simp only [lp_X8_placeToGoTo_24, c_ge 3 3 hi (by decide), if_false, pz_inN hi (show 3 < 2 ^ 31 by decide), cl_I (show i < 2 ^ 31 by omega), pz_let, hz, h4, pz_bind, z10, h5, h6]
  · refine Or.inr ⟨?_, h7⟩
    simp only [lp_X8_placeToGoTo_24, c_ge 3 3 hi (by decide), if_false, pz_inN hi (show 3 < 2 ^ 31 by decide), cl_I (show i < 2 ^ 31 by omega), pz_let, hz, h4, pz_bind, if_true, nI_1]
  · refine Or.inr ⟨?_, h7⟩
    rw [nI_1] at h5
    simp only [lp_X8_placeToGoTo_24, c_ge 3 3 hi (by decide), if_false, pz_inN hi (show 3 < 2 ^ 31 by decide), cl_I (show i < 2 ^ 31 by omega), pz_let, hz, h4, pz_bind, z10, h5, h6, if_true, nI_1]
/-- where one goes from a lane: the same in both -/
theorem goTo (hv : smV v) (hg : ∀ p : Nat, p < 48 → cL_shown u p = sgV v p) {s l : Nat} (hs : s < 11) (hl : l < 4) :
    (g_X8_placeToGoTo (qcT_put u T) (nI s) (nI l) = some (-1) ∧ g_X10_goesTo (qmT_put v T) (nI s) (nI l) = some (-1)) ∨
    (∃ l' : Nat, l' < 4 ∧ liP v T (4 * (s + 1) + l') ∧ g_X8_placeToGoTo (qcT_put u T) (nI s) (nI l) = some (nI (4 * (s + 1) + l')) ∧ g_X10_goesTo (qmT_put v T) (nI s) (nI l) = some (nI l')) := by
  have hk : 4 * s + l < 48 := by omega
  have sg : g_X10_signOf (qmT_put v T) (nI s) (nI l) = some (sgV v (4 * s + l)) := sign_m (v := qmT_put v T) hv (by omega) hl
  have t0 : nI l + tioF 0 = nI l := Int32.add_zero _
  have t1 : nI l + tioF 1 = nI l - 1 := (Int32.sub_eq_add_neg _ _).symm
  have t2 : nI l + tioF 2 = nI l + 1 := rfl
  have r0 : nI l + tinF 0 = nI l - 1 := (Int32.sub_eq_add_neg _ _).symm
  have r1 : nI l + tinF 1 = nI l + 1 := rfl
  have r2 : nI l + tinF 2 = nI l := Int32.add_zero _
  have e3 : ∀ k, lp_X8_placeToGoTo_24_v2 (qcT_put u T) (nI s) (nI l) k 997 (nI 3) = k () := fun k => by
    have : ∀ n : Nat, lp_X8_placeToGoTo_24_v2 (qcT_put u T) (nI s) (nI l) k (n + 1) (nI 3) = k () := fun n => by rw [lp_X8_placeToGoTo_24_v2, if_pos (by rw [c_le 3 3 (by decide)]; trivial)]
    exact this 996
  have e4 : ∀ k, lp_X8_placeToGoTo_24 (qcT_put u T) (nI s) (nI l) k 997 (nI 3) = k () := fun k => by
    have : ∀ n : Nat, lp_X8_placeToGoTo_24 (qcT_put u T) (nI s) (nI l) k (n + 1) (nI 3) = k () := fun n => by rw [lp_X8_placeToGoTo_24, if_pos (by rw [c_le 3 3 (by decide)]; trivial)]
    exact this 996
  by_cases c : sgV v (4 * s + l) = 0
  · have ec : g_X8_placeToGoTo (qcT_put u T) (nI s) (nI l) = lp_X8_placeToGoTo_24_v2 (qcT_put u T) (nI s) (nI l) (fun (_ : Unit) => some (-1 : Int32)) FU (nI 0) := by
      rw [g_X8_placeToGoTo, placeN, pz_bind, pz_inN hk (by decide), cl_I (by omega), ctp4, hg _ hk, if_pos c]
      rfl
    rcases pa_o (T := T) hv hg hs (nI l) 999 0 (by omega) _ t0 (fun (_ : Unit) => some (-1 : Int32)) with ⟨l', a1, a2, a3, a4, a5⟩ | ⟨a4, a5⟩
    · refine Or.inr ⟨l', a1, a3, ec.trans a4, ?_⟩
      simp only [g_X10_goesTo, sg, pz_bind, pz_let, eq_true c, if_true, z10, if_false, a5]
      exact congrArg some a2
    · rcases pa_o (T := T) hv hg hs (nI l) 998 1 (by omega) _ t1 (fun (_ : Unit) => some (-1 : Int32)) with ⟨l', b1, b2, b3, b4, b5⟩ | ⟨b4, b5⟩
      · refine Or.inr ⟨l', b1, b3, (ec.trans a4).trans b4, ?_⟩
        simp only [g_X10_goesTo, sg, pz_bind, pz_let, eq_true c, if_true, z10, if_false, a5, b5, ← b2]
      · rcases pa_o (T := T) hv hg hs (nI l) 997 2 (by omega) _ t2 (fun (_ : Unit) => some (-1 : Int32)) with ⟨l', d1, d2, d3, d4, d5⟩ | ⟨d4, d5⟩
        · refine Or.inr ⟨l', d1, d3, ((ec.trans a4).trans b4).trans d4, ?_⟩
          simp only [g_X10_goesTo, sg, pz_bind, pz_let, eq_true c, if_true, z10, if_false, a5, b5, d5, ← d2]
        · refine Or.inl ⟨(((ec.trans a4).trans b4).trans d4).trans (e3 _), ?_⟩
          simp only [g_X10_goesTo, sg, pz_bind, pz_let, eq_true c, if_true, z10, if_false, a5, b5, d5]
  · have ec : g_X8_placeToGoTo (qcT_put u T) (nI s) (nI l) = lp_X8_placeToGoTo_24 (qcT_put u T) (nI s) (nI l) (fun (_ : Unit) => some (-1 : Int32)) FU (nI 0) := by
      rw [g_X8_placeToGoTo, placeN, pz_bind, pz_inN hk (by decide), cl_I (by omega), ctp4, hg _ hk, if_neg c]
      rfl
    rcases pa_n (T := T) hv hg hs (nI l) 999 0 (by omega) _ r0 (fun (_ : Unit) => some (-1 : Int32)) with ⟨l', a1, a2, a3, a4, a5⟩ | ⟨a4, a5⟩
    · refine Or.inr ⟨l', a1, a3, ec.trans a4, ?_⟩
      simp only [g_X10_goesTo, sg, pz_bind, pz_let, eq_false c, if_false, if_true, z00, z10, a5, ← a2]
    · rcases pa_n (T := T) hv hg hs (nI l) 998 1 (by omega) _ r1 (fun (_ : Unit) => some (-1 : Int32)) with ⟨l', b1, b2, b3, b4, b5⟩ | ⟨b4, b5⟩
      · refine Or.inr ⟨l', b1, b3, (ec.trans a4).trans b4, ?_⟩
        simp only [g_X10_goesTo, sg, pz_bind, pz_let, eq_false c, if_false, if_true, z00, z10, a5, b5, ← b2]
      · rcases pa_n (T := T) hv hg hs (nI l) 997 2 (by omega) _ r2 (fun (_ : Unit) => some (-1 : Int32)) with ⟨l', d1, d2, d3, d4, d5⟩ | ⟨d4, d5⟩
        · refine Or.inr ⟨l', d1, d3, ((ec.trans a4).trans b4).trans d4, ?_⟩
          simp only [g_X10_goesTo, sg, pz_bind, pz_let, eq_false c, if_false, if_true, z00, z10, a5, b5, d5]
          exact congrArg some d2
        · refine Or.inl ⟨(((ec.trans a4).trans b4).trans d4).trans (e4 _), ?_⟩
          simp only [g_X10_goesTo, sg, pz_bind, pz_let, eq_false c, if_false, if_true, z00, z10, a5, b5, d5]
end RELSC

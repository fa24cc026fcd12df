/-! the speed signs of one minute -/
def SB (S : cS_t) : Prop := (∀ k : Nat, k < 12 → ∃ x : Nat, x ≤ 120 ∧ S.2.1 k = nI x) ∧ (∀ k : Nat, k < 12 → S.1 k = -1 ∨ ∃ x : Nat, x ≤ 120 ∧ S.1 k = nI x) ∧ ∃ x : Nat, x ≤ 3 ∧ S.2.2.2 = nI x
theorem csp1 (u : GS) (S : cS_t) : cS_limits (qcS_put u S) = S.1 := rfl
theorem csp2 (u : GS) (S : cS_t) : cS_shown (qcS_put u S) = S.2.1 := rfl
theorem csp3 (u : GS) (S : cS_t) : cS_loweredAt (qcS_put u S) = S.2.2.1 := rfl
theorem csp4 (u : GS) (S : cS_t) : cS_weather (qcS_put u S) = S.2.2.2 := rfl
theorem csp5 (u : GS) (S : cS_t) (f : Nat → Int32) : cS_shown_set (qcS_put u S) f = qcS_put u (S.1, f, S.2.2) := rfl
theorem csp6 (u : GS) (S : cS_t) (f : Nat → Int32) : cS_loweredAt_set (qcS_put u S) f = qcS_put u (S.1, S.2.1, f, S.2.2.2) := rfl
theorem msp1 (v : MS) (S : cS_t) : mS_limited (qmS_put v S) = S.1 := rfl
theorem msp2 (v : MS) (S : cS_t) : mS_speedSign (qmS_put v S) = S.2.1 := rfl
theorem msp3 (v : MS) (S : cS_t) : mS_lowered (qmS_put v S) = S.2.2.1 := rfl
theorem msp4 (v : MS) (S : cS_t) : mS_weather (qmS_put v S) = S.2.2.2 := rfl
theorem msp5 (v : MS) (S : cS_t) (f : Nat → Int32) : mS_speedSign_set (qmS_put v S) f = qmS_put v (S.1, f, S.2.2) := rfl
theorem msp6 (v : MS) (S : cS_t) (f : Nat → Int32) : mS_lowered_set (qmS_put v S) f = qmS_put v (S.1, S.2.1, f, S.2.2.2) := rfl
theorem msp7 (v : MS) (S : cS_t) : m_now (qmS_put v S) = m_now v := rfl
theorem updI (f : Nat → Int32) (i : Nat) : upd f i (f i) = f := funext fun k => by
  by_cases e : k = i
  · rw [e, pk_us]
  · rw [pk_un e]
section RELSF
variable {u : GS} {v : MS} {S : cS_t}
theorem wBy (b : Int32) : ∃ y : Nat, y ≤ 120 ∧ g_X7_wantBy b = some (nI y) ∧ ((b = -1 ∧ y = 60) ∨ (¬ b = -1 ∧ ¬ (40 : Int32) ≤ b ∧ y = 40) ∨ (¬ b = -1 ∧ (40 : Int32) ≤ b ∧ ¬ (60 : Int32) ≤ b ∧ y = 60) ∨ (¬ b = -1 ∧ (40 : Int32) ≤ b ∧ (60 : Int32) ≤ b ∧ ¬ (80 : Int32) ≤ b ∧ y = 80) ∨ (¬ b = -1 ∧ (40 : Int32) ≤ b ∧ (60 : Int32) ≤ b ∧ (80 : Int32) ≤ b ∧ y = 120)) := by
  by_cases c0 : b = -1
  · exact ⟨60, by omega, by rw [g_X7_wantBy, if_pos c0]; rfl, Or.inl ⟨c0, rfl⟩⟩
  · by_cases c1 : (40 : Int32) ≤ b
    · by_cases c2 : (60 : Int32) ≤ b
      · by_cases c3 : (80 : Int32) ≤ b
        · exact ⟨120, by omega, by rw [g_X7_wantBy, if_neg c0, if_pos c1, if_pos c2, if_pos c3]; rfl, Or.inr (Or.inr (Or.inr (Or.inr ⟨c0, c1, c2, c3, rfl⟩)))⟩
        · exact ⟨80, by omega, by rw [g_X7_wantBy, if_neg c0, if_pos c1, if_pos c2, if_neg c3]; rfl, Or.inr (Or.inr (Or.inr (Or.inl ⟨c0, c1, c2, c3, rfl⟩)))⟩
      · exact ⟨60, by omega, by rw [g_X7_wantBy, if_neg c0, if_pos c1, if_neg c2]; rfl, Or.inr (Or.inr (Or.inl ⟨c0, c1, c2, rfl⟩))⟩
    · exact ⟨40, by omega, by rw [g_X7_wantBy, if_neg c0, if_neg c1]; rfl, Or.inr (Or.inl ⟨c0, c1, rfl⟩)⟩
/-- what a section wants: the same in both -/
theorem want (hT : RT u v) (hD : RD u v) (hS : SB S) {s : Nat} (hs : s < 12) : ∃ (w : Nat) (b : Int32), w ≤ 120 ∧ g_X1_beliefAt (qcS_put u S) (nI s) = some b ∧ g_X7_wantAt (qcS_put u S) (nI s) b = some (nI w) ∧ g_X10_wantOf (qmS_put v S) (nI s) = some (nI w) := by
  have hT' : RT (qcS_put u S) (qmS_put v S) := hT
  have hD' : RD (qcS_put u S) (qmS_put v S) := hD
  obtain ⟨b, -, e1, e2⟩ := belief hT' hD' hs
  have g12 : ∀ {α : Type} (a : Option α), g_in (nI s) 12 a = a := fun a => pz_inN hs (by decide) a
  have cs := cl_I (show s < 2 ^ 31 by omega)
  by_cases l0 : S.1 s = -1
  · obtain ⟨y, hy, y1, y2⟩ := wBy b
    obtain ⟨x, hx, ex⟩ := hS.2.2
    have i1 : g_X9_isWithin (nI x) 0 3 = some 1 := isw (k := x) (a := 0) (b := 3) _ rfl (Nat.zero_le _) (by omega) (by decide) _ _
    obtain ⟨c, hc, w1, w2⟩ : ∃ c : Nat, c ≤ 120 ∧ wlF x = nI c ∧ ((nI x = 0 ∧ c = 120) ∨ (¬ nI x = 0 ∧ nI x = 1 ∧ c = 80) ∨ (¬ nI x = 0 ∧ ¬ nI x = 1 ∧ nI x = 2 ∧ c = 60) ∨ (¬ nI x = 0 ∧ ¬ nI x = 1 ∧ ¬ nI x = 2 ∧ c = 40)) := by
      have h4 : x = 0 ∨ x = 1 ∨ x = 2 ∨ x = 3 := by omega
      rcases h4 with rfl | rfl | rfl | rfl
      · exact ⟨120, by omega, rfl, Or.inl ⟨by decide, rfl⟩⟩
      · exact ⟨80, by omega, rfl, Or.inr (Or.inl ⟨by decide, by decide, rfl⟩)⟩
      · exact ⟨60, by omega, rfl, Or.inr (Or.inr (Or.inl ⟨by decide, by decide, by decide, rfl⟩))⟩
      · exact ⟨40, by omega, rfl, Or.inr (Or.inr (Or.inr ⟨by decide, by decide, by decide, rfl⟩))⟩
    have fin : ∃ w : Nat, w ≤ 120 ∧ (if nI c < nI y then nI c else nI y) = nI w ∧ (if nI c ≤ nI y then some (nI c) else some (nI y)) = some (nI w) := by
      by_cases q : c < y
      · exact ⟨c, hc, by rw [if_pos (nI_lt q (by omega))], by rw [if_pos (nI_le (by omega) (by omega))]⟩
      · refine ⟨y, hy, by rw [if_neg (nI_nlt (by omega) (by omega))], ?_⟩
        by_cases q2 : c = y
        · rw [q2, if_pos (nI_le (by omega) (by omega))]
        · rw [if_neg (nI_ge (by omega) (by omega))]
    obtain ⟨w, hw, f1, f2⟩ := fin
    refine ⟨w, b, hw, e1, ?_, ?_⟩
    · simp only [g_X7_wantAt, g12, cs, csp1, csp4, eq_true l0, if_true, ex, i1, pz_bind, pz_let, z10, if_false, pz_inN (show x < 4 by omega) (show 4 < 2 ^ 31 by decide), cl_I (show x < 2 ^ 31 by omega), w1, y1, f1]
    · have m1 : g_X10_wantOf (qmS_put v S) (nI s) = if nI c ≤ nI y then some (nI c) else some (nI y) := by
        rcases w2 with ⟨a1, rfl⟩ | ⟨a1, a2, rfl⟩ | ⟨a1, a2, a3, rfl⟩ | ⟨a1, a2, a3, rfl⟩
        · rcases y2 with ⟨c0, rfl⟩ | ⟨c0, c1, rfl⟩ | ⟨c0, c1, c2, rfl⟩ | ⟨c0, c1, c2, c3, rfl⟩ | ⟨c0, c1, c2, c3, rfl⟩
          · simp only [g_X10_wantOf, g12, cs, msp1, msp4, eq_true l0, if_true, if_false, e2, pz_bind, pz_let, ex, eq_true a1, eq_true c0] <;> rfl
          · simp only [g_X10_wantOf, g12, cs, msp1, msp4, eq_true l0, if_true, if_false, e2, pz_bind, pz_let, ex, eq_true a1, eq_false c0, eq_false c1] <;> rfl
          · simp only [g_X10_wantOf, g12, cs, msp1, msp4, eq_true l0, if_true, if_false, e2, pz_bind, pz_let, ex, eq_true a1, eq_false c0, eq_true c1, eq_false c2] <;> rfl
          · simp only [g_X10_wantOf, g12, cs, msp1, msp4, eq_true l0, if_true, if_false, e2, pz_bind, pz_let, ex, eq_true a1, eq_false c0, eq_true c1, eq_true c2, eq_false c3] <;> rfl
          · simp only [g_X10_wantOf, g12, cs, msp1, msp4, eq_true l0, if_true, if_false, e2, pz_bind, pz_let, ex, eq_true a1, eq_false c0, eq_true c1, eq_true c2, eq_true c3] <;> rfl
        · rcases y2 with ⟨c0, rfl⟩ | ⟨c0, c1, rfl⟩ | ⟨c0, c1, c2, rfl⟩ | ⟨c0, c1, c2, c3, rfl⟩ | ⟨c0, c1, c2, c3, rfl⟩
          · simp only [g_X10_wantOf, g12, cs, msp1, msp4, eq_true l0, if_true, if_false, e2, pz_bind, pz_let, ex, eq_false a1, eq_true a2, eq_true c0] <;> rfl
          · simp only [g_X10_wantOf, g12, cs, msp1, msp4, eq_true l0, if_true, if_false, e2, pz_bind, pz_let, ex, eq_false a1, eq_true a2, eq_false c0, eq_false c1] <;> rfl
          · simp only [g_X10_wantOf, g12, cs, msp1, msp4, eq_true l0, if_true, if_false, e2, pz_bind, pz_let, ex, eq_false a1, eq_true a2, eq_false c0, eq_true c1, eq_false c2] <;> rfl
          · simp only [g_X10_wantOf, g12, cs, msp1, msp4, eq_true l0, if_true, if_false, e2, pz_bind, pz_let, ex, eq_false a1, eq_true a2, eq_false c0, eq_true c1, eq_true c2, eq_false c3] <;> rfl
          · simp only [g_X10_wantOf, g12, cs, msp1, msp4, eq_true l0, if_true, if_false, e2, pz_bind, pz_let, ex, eq_false a1, eq_true a2, eq_false c0, eq_true c1, eq_true c2, eq_true c3] <;> rfl
        · rcases y2 with ⟨c0, rfl⟩ | ⟨c0, c1, rfl⟩ | ⟨c0, c1, c2, rfl⟩ | ⟨c0, c1, c2, c3, rfl⟩ | ⟨c0, c1, c2, c3, rfl⟩
          · simp only [g_X10_wantOf, g12, cs, msp1, msp4, eq_true l0, if_true, if_false, e2, pz_bind, pz_let, ex, eq_false a1, eq_false a2, eq_true a3, eq_true c0] <;> rfl
          · simp only [g_X10_wantOf, g12, cs, msp1, msp4, eq_true l0, if_true, if_false, e2, pz_bind, pz_let, ex, eq_false a1, eq_false a2, eq_true a3, eq_false c0, eq_false c1] <;> rfl
          · simp only [g_X10_wantOf, g12, cs, msp1, msp4, eq_true l0, if_true, if_false, e2, pz_bind, pz_let, ex, eq_false a1, eq_false a2, eq_true a3, eq_false c0, eq_true c1, eq_false c2] <;> rfl
          · simp only [g_X10_wantOf, g12, cs, msp1, msp4, eq_true l0, if_true, if_false, e2, pz_bind, pz_let, ex, eq_false a1, eq_false a2, eq_true a3, eq_false c0, eq_true c1, eq_true c2, eq_false c3] <;> rfl
          · simp only [g_X10_wantOf, g12, cs, msp1, msp4, eq_true l0, if_true, if_false, e2, pz_bind, pz_let, ex, eq_false a1, eq_false a2, eq_true a3, eq_false c0, eq_true c1, eq_true c2, eq_true c3] <;> rfl
        · rcases y2 with ⟨c0, rfl⟩ | ⟨c0, c1, rfl⟩ | ⟨c0, c1, c2, rfl⟩ | ⟨c0, c1, c2, c3, rfl⟩ | ⟨c0, c1, c2, c3, rfl⟩
          · simp only [g_X10_wantOf, g12, cs, msp1, msp4, eq_true l0, if_true, if_false, e2, pz_bind, pz_let, ex, eq_false a1, eq_false a2, eq_false a3, eq_true c0] <;> rfl
          · simp only [g_X10_wantOf, g12, cs, msp1, msp4, eq_true l0, if_true, if_false, e2, pz_bind, pz_let, ex, eq_false a1, eq_false a2, eq_false a3, eq_false c0, eq_false c1] <;> rfl
          · simp only [g_X10_wantOf, g12, cs, msp1, msp4, eq_true l0, if_true, if_false, e2, pz_bind, pz_let, ex, eq_false a1, eq_false a2, eq_false a3, eq_false c0, eq_true c1, eq_false c2] <;> rfl
          · simp only [g_X10_wantOf, g12, cs, msp1, msp4, eq_true l0, if_true, if_false, e2, pz_bind, pz_let, ex, eq_false a1, eq_false a2, eq_false a3, eq_false c0, eq_true c1, eq_true c2, eq_false c3] <;> rfl
          · simp only [g_X10_wantOf, g12, cs, msp1, msp4, eq_true l0, if_true, if_false, e2, pz_bind, pz_let, ex, eq_false a1, eq_false a2, eq_false a3, eq_false c0, eq_true c1, eq_true c2, eq_true c3] <;> rfl
      exact m1.trans f2
  · obtain ⟨w, hw, ew⟩ := (hS.2.1 s hs).resolve_left l0
    refine ⟨w, b, hw, e1, ?_, ?_⟩
    · simp only [g_X7_wantAt, g12, cs, csp1, ew, eq_false (nm1 w (by omega)), if_false]
    · simp only [g_X10_wantOf, g12, cs, msp1, ew, eq_false (nm1 w (by omega)), if_false]
theorem spStep (hT : RT u v) (hD : RD u v) (hS : SB S) {s : Nat} (hs : s < 12) (k : GS → Option GS) (k' : MS → Option MS) (n : Nat) : ∃ S' : cS_t, SB S' ∧ lp_X7_setAnew_4 (m_now v) k (n + 1) (nI s) (qcS_put u S) = lp_X7_setAnew_4 (m_now v) k n (nI s + (-1)) (qcS_put u S') ∧ lp_X10_setsSpeeds_3 k' (n + 1) (nI s) (qmS_put v S) = lp_X10_setsSpeeds_3 k' n (nI s + (-1)) (qmS_put v S') := by
  obtain ⟨w, b, hw, e1, e2, e3⟩ := want hT hD hS hs
  have g12 : ∀ {α : Type} (a : Option α), g_in (nI s) 12 a = a := fun a => pz_inN hs (by decide) a
  have cs := cl_I (show s < 2 ^ 31 by omega)
  have q1 : nI s + 1 = nI (s + 1) := nI_1 s
  obtain ⟨x, hx, ex⟩ := hS.1 s hs
  have ng := c_neg (show s < 2 ^ 31 by omega)
  -- the sign before the next section's bound: what it was, or what is wanted
  obtain ⟨a, ha, A⟩ : ∃ a : Nat, a ≤ 120 ∧ ((a = x ∧ S.1 s = -1 ∧ ¬ nI w ≤ nI x ∧ ¬ (3 : Int32) ≤ m_now v - S.2.2.1 s) ∨ (a = w ∧ ¬ S.1 s = -1) ∨ (a = w ∧ S.1 s = -1 ∧ nI w ≤ nI x) ∨ (a = w ∧ S.1 s = -1 ∧ ¬ nI w ≤ nI x ∧ (3 : Int32) ≤ m_now v - S.2.2.1 s)) := by
    by_cases c1 : S.1 s = -1
    · by_cases c2 : nI w ≤ nI x
      · exact ⟨w, hw, Or.inr (Or.inr (Or.inl ⟨rfl, c1, c2⟩))⟩
      · by_cases c3 : (3 : Int32) ≤ m_now v - S.2.2.1 s
        · exact ⟨w, hw, Or.inr (Or.inr (Or.inr ⟨rfl, c1, c2, c3⟩))⟩
        · exact ⟨x, hx, Or.inl ⟨rfl, c1, c2, c3⟩⟩
    · exact ⟨w, hw, Or.inr (Or.inl ⟨rfl, c1⟩)⟩
  -- the sign
  obtain ⟨f, hf, F⟩ : ∃ f : Nat, f ≤ 120 ∧ ((s = 11 ∧ f = a) ∨ (s < 11 ∧ ∃ y : Nat, y ≤ 120 ∧ S.2.1 (s + 1) = nI y ∧ ((y + 20 < a ∧ f = y + 20) ∨ (¬ y + 20 < a ∧ f = a)))) := by
    by_cases c : s = 11
    · exact ⟨a, ha, Or.inl ⟨c, rfl⟩⟩
    · obtain ⟨y, hy, ey⟩ := hS.1 (s + 1) (by omega)
      by_cases d : y + 20 < a
      · exact ⟨y + 20, by omega, Or.inr ⟨by omega, y, hy, ey, Or.inl ⟨d, rfl⟩⟩⟩
      · exact ⟨a, ha, Or.inr ⟨by omega, y, hy, ey, Or.inr ⟨d, rfl⟩⟩⟩
  have inv : ∀ L : Nat → Int32, SB (S.1, upd S.2.1 s (nI f), L, S.2.2.2) := fun L => ⟨updR S.2.1 12 (fun z => ∃ x : Nat, x ≤ 120 ∧ z = nI x) hS.1 s (nI f) ⟨f, hf, rfl⟩, hS.2.1, hS.2.2⟩
  -- class: after the wanted sign is known
  have CL : ∀ S' : cS_t, S' = (S.1, upd S.2.1 s (nI f), (if nI x ≤ nI f then S.2.2.1 else upd S.2.2.1 s (m_now v)), S.2.2.2) → lp_X7_setAnew_4 (m_now v) k (n + 1) (nI s) (qcS_put u S) = lp_X7_setAnew_4 (m_now v) k n (nI s + (-1)) (qcS_put u S') := by
    rintro S' rfl
    have y6 : ∃ r : Int32, g_X7_staysBelow (qcS_put u S) (nI w) (nI s) (m_now v) = some r ∧ ((r = 0 ∧ a = w) ∨ (r = 1 ∧ a = x)) := by
      rcases A with ⟨rfl, c1, c2, c3⟩ | ⟨rfl, c1⟩ | ⟨rfl, c1, c2⟩ | ⟨rfl, c1, c2, c3⟩
      · exact ⟨1, by simp only [g_X7_staysBelow, g12, cs, csp1, csp2, csp3, ex, eq_true c1, eq_false c2, eq_false c3, if_true, if_false], Or.inr ⟨rfl, rfl⟩⟩
      · exact ⟨0, by simp only [g_X7_staysBelow, g12, cs, csp1, eq_false c1, if_false], Or.inl ⟨rfl, rfl⟩⟩
      · exact ⟨0, by simp only [g_X7_staysBelow, g12, cs, csp1, csp2, ex, eq_true c1, eq_true c2, if_true], Or.inl ⟨rfl, rfl⟩⟩
      · exact ⟨0, by simp only [g_X7_staysBelow, g12, cs, csp1, csp2, csp3, ex, eq_true c1, eq_false c2, eq_true c3, if_true, if_false], Or.inl ⟨rfl, rfl⟩⟩
    obtain ⟨r, r1, r2⟩ := y6
    rcases r2 with ⟨rfl, ra⟩ | ⟨rfl, ra⟩
    · rw [ra] at F
      rcases F with ⟨s11, fa⟩ | ⟨s11, y, hy, ey, F⟩
      · subst s11
        rw [fa]
        have q12 : ((12 : Int32) ≤ nI (11 + 1)) = True := c_le 12 12 (by decide)
        have q13 : ((12 : Int32) ≤ nI 12) = True := c_le 12 12 (by decide)
        by_cases lw : nI x ≤ nI w
        · simp only [lp_X7_setAnew_4, ng, if_false, if_true, e1, e2, r1, pz_bind, pz_let, z00, if_true, g12, cs, csp2, ex, q1, q12, q13, eq_true lw, csp5]
        · simp only [lp_X7_setAnew_4, ng, if_false, if_true, e1, e2, r1, pz_bind, pz_let, z00, if_true, g12, cs, csp2, ex, q1, q12, q13, eq_false lw, csp3, csp5, csp6]
      · have q12 : ((12 : Int32) ≤ nI (s + 1)) = False := c_ge 12 12 (by omega) (by decide)
        have g13 : ∀ {α : Type} (a : Option α), g_in (nI (s + 1)) 12 a = a := fun a => pz_inN (by omega) (by decide) a
        have y20 : nI y + 20 = nI (y + 20) := nI_add y 20
        have mn : (if nI (y + 20) < nI w then nI (y + 20) else nI w) = nI f := by
          rcases F with ⟨d, fd⟩ | ⟨d, fd⟩
          · rw [fd, if_pos (nI_lt d (by omega))]
          · rw [fd, if_neg (nI_nlt (by omega) (by omega))]
        by_cases lw : nI x ≤ nI f
        · simp only [lp_X7_setAnew_4, ng, if_false, if_true, e1, e2, r1, pz_bind, pz_let, z00, if_true, g12, cs, csp2, ex, q1, q12, g13, cl_I (show s + 1 < 2 ^ 31 by omega), ey, y20, mn, eq_true lw, csp5]
        · simp only [lp_X7_setAnew_4, ng, if_false, if_true, e1, e2, r1, pz_bind, pz_let, z00, if_true, g12, cs, csp2, ex, q1, q12, g13, cl_I (show s + 1 < 2 ^ 31 by omega), ey, y20, mn, eq_false lw, csp3, csp5, csp6]
    · rw [ra] at F
      rcases F with ⟨s11, fa⟩ | ⟨s11, y, hy, ey, F⟩
      · subst s11
        rw [fa]
        have q12 : ((12 : Int32) ≤ nI (11 + 1)) = True := c_le 12 12 (by decide)
        have q13 : ((12 : Int32) ≤ nI 12) = True := c_le 12 12 (by decide)
        by_cases lw : nI x ≤ nI x
        · simp only [lp_X7_setAnew_4, ng, if_false, if_true, e1, e2, r1, pz_bind, pz_let, z10, if_false, g12, cs, csp2, ex, q1, q12, q13, eq_true lw, csp5]
        · simp only [lp_X7_setAnew_4, ng, if_false, if_true, e1, e2, r1, pz_bind, pz_let, z10, if_false, g12, cs, csp2, ex, q1, q12, q13, eq_false lw, csp3, csp5, csp6]
      · have q12 : ((12 : Int32) ≤ nI (s + 1)) = False := c_ge 12 12 (by omega) (by decide)
        have g13 : ∀ {α : Type} (a : Option α), g_in (nI (s + 1)) 12 a = a := fun a => pz_inN (by omega) (by decide) a
        have y20 : nI y + 20 = nI (y + 20) := nI_add y 20
        have mn : (if nI (y + 20) < nI x then nI (y + 20) else nI x) = nI f := by
          rcases F with ⟨d, fd⟩ | ⟨d, fd⟩
          · rw [fd, if_pos (nI_lt d (by omega))]
          · rw [fd, if_neg (nI_nlt (by omega) (by omega))]
        by_cases lw : nI x ≤ nI f
        · simp only [lp_X7_setAnew_4, ng, if_false, if_true, e1, e2, r1, pz_bind, pz_let, z10, if_false, g12, cs, csp2, ex, q1, q12, g13, cl_I (show s + 1 < 2 ^ 31 by omega), ey, y20, mn, eq_true lw, csp5]
        · simp only [lp_X7_setAnew_4, ng, if_false, if_true, e1, e2, r1, pz_bind, pz_let, z10, if_false, g12, cs, csp2, ex, q1, q12, g13, cl_I (show s + 1 < 2 ^ 31 by omega), ey, y20, mn, eq_false lw, csp3, csp5, csp6]
  have ML : ∀ S' : cS_t, S' = (S.1, upd S.2.1 s (nI f), (if nI x ≤ nI f then S.2.2.1 else upd S.2.2.1 s (m_now v)), S.2.2.2) → lp_X10_setsSpeeds_3 k' (n + 1) (nI s) (qmS_put v S) = lp_X10_setsSpeeds_3 k' n (nI s + (-1)) (qmS_put v S') := by
    rintro S' rfl
    have us : upd S.2.1 s (nI f) s = nI f := pk_us
    rcases A with ⟨ra, c1, c2, c3⟩ | ⟨ra, c1⟩ | ⟨ra, c1, c2⟩ | ⟨ra, c1, c2, c3⟩
    · rw [ra] at F
      rcases F with ⟨s11, fa⟩ | ⟨s11, y, hy, ey, F⟩
      · subst s11
        rw [fa] at us ⊢
        have q11 : ((11 : Int32) ≤ nI 11) = True := c_le 11 11 (by decide)
        by_cases d : x = 120
        · subst d
          have l120 : (120 : Int32) = nI 120 := rfl
          have mn3 : (nI 120 ≤ nI 120) = True := eq_true (by decide)
          simp only [lp_X10_setsSpeeds_3, ng, if_false, if_true, e3, pz_bind, pz_let, g12, cs, msp1, msp2, msp3, msp7, ex, q1, eq_true c1, eq_false c2, eq_false c3, z10, q11, l120, mn3, us, msp5, msp6, updI]
        · have mn : ((120 : Int32) ≤ nI x) = False := c_ge 120 120 (by omega) (by decide)
          by_cases lw : nI x ≤ nI x
          · simp only [lp_X10_setsSpeeds_3, ng, if_false, if_true, e3, pz_bind, pz_let, g12, cs, msp1, msp2, msp3, msp7, ex, q1, eq_true c1, eq_false c2, eq_false c3, z10, q11, mn, us, eq_true lw, msp5, msp6, updI]
          · simp only [lp_X10_setsSpeeds_3, ng, if_false, if_true, e3, pz_bind, pz_let, g12, cs, msp1, msp2, msp3, msp7, ex, q1, eq_true c1, eq_false c2, eq_false c3, z10, q11, mn, us, eq_false lw, msp5, msp6, msp7]
      · have q11 : ((11 : Int32) ≤ nI s) = False := c_ge 11 11 (by omega) (by decide)
        have g13 : ∀ {α : Type} (a : Option α), g_in (nI (s + 1)) 12 a = a := fun a => pz_inN (by omega) (by decide) a
        have y20 : nI y + 20 = nI (y + 20) := nI_add y 20
        have cs1 := cl_I (show s + 1 < 2 ^ 31 by omega)
        have mn : (nI (y + 20) ≤ nI x) = True ∧ f = y + 20 ∨ (nI (y + 20) ≤ nI x) = False ∧ f = x := by
          rcases F with ⟨d, fd⟩ | ⟨d, fd⟩
          · exact Or.inl ⟨eq_true (nI_le (by omega) (by omega)), fd⟩
          · by_cases d2 : y + 20 = x
            · exact Or.inl ⟨eq_true (nI_le (by omega) (by omega)), by omega⟩
            · exact Or.inr ⟨eq_false (nI_ge (by omega) (by omega)), fd⟩
        rcases mn with ⟨mn, fd⟩ | ⟨mn, fd⟩
        · rw [fd] at us ⊢
          by_cases lw : nI x ≤ nI (y + 20)
          · simp only [lp_X10_setsSpeeds_3, ng, if_false, if_true, e3, pz_bind, pz_let, g12, cs, msp1, msp2, msp3, msp7, ex, q1, eq_true c1, eq_false c2, eq_false c3, z10, q11, g13, cs1, ey, y20, mn, us, eq_true lw, msp5, msp6, updI]
          · simp only [lp_X10_setsSpeeds_3, ng, if_false, if_true, e3, pz_bind, pz_let, g12, cs, msp1, msp2, msp3, msp7, ex, q1, eq_true c1, eq_false c2, eq_false c3, z10, q11, g13, cs1, ey, y20, mn, us, eq_false lw, msp5, msp6, msp7]
        · rw [fd] at us ⊢
          by_cases lw : nI x ≤ nI x
          · simp only [lp_X10_setsSpeeds_3, ng, if_false, if_true, e3, pz_bind, pz_let, g12, cs, msp1, msp2, msp3, msp7, ex, q1, eq_true c1, eq_false c2, eq_false c3, z10, q11, g13, cs1, ey, y20, mn, us, eq_true lw, msp5, msp6, updI]
          · simp only [lp_X10_setsSpeeds_3, ng, if_false, if_true, e3, pz_bind, pz_let, g12, cs, msp1, msp2, msp3, msp7, ex, q1, eq_true c1, eq_false c2, eq_false c3, z10, q11, g13, cs1, ey, y20, mn, us, eq_false lw, msp5, msp6, msp7]
    · rw [ra] at F
      rcases F with ⟨s11, fa⟩ | ⟨s11, y, hy, ey, F⟩
      · subst s11
        rw [fa] at us ⊢
        have q11 : ((11 : Int32) ≤ nI 11) = True := c_le 11 11 (by decide)
        by_cases d : w = 120
        · subst d
          have l120 : (120 : Int32) = nI 120 := rfl
          have mn3 : (nI 120 ≤ nI 120) = True := eq_true (by decide)
          by_cases lw : nI x ≤ nI 120
          · simp only [lp_X10_setsSpeeds_3, ng, if_false, if_true, e3, pz_bind, pz_let, g12, cs, msp1, msp2, msp3, msp7, ex, q1, eq_false c1, z00, q11, l120, mn3, us, eq_true lw, msp5, msp6, updI]
          · simp only [lp_X10_setsSpeeds_3, ng, if_false, if_true, e3, pz_bind, pz_let, g12, cs, msp1, msp2, msp3, msp7, ex, q1, eq_false c1, z00, q11, l120, mn3, us, eq_false lw, msp5, msp6]
        · have mn : ((120 : Int32) ≤ nI w) = False := c_ge 120 120 (by omega) (by decide)
          by_cases lw : nI x ≤ nI w
          · simp only [lp_X10_setsSpeeds_3, ng, if_false, if_true, e3, pz_bind, pz_let, g12, cs, msp1, msp2, msp3, msp7, ex, q1, eq_false c1, z00, q11, mn, us, eq_true lw, msp5, msp6, updI]
          · simp only [lp_X10_setsSpeeds_3, ng, if_false, if_true, e3, pz_bind, pz_let, g12, cs, msp1, msp2, msp3, msp7, ex, q1, eq_false c1, z00, q11, mn, us, eq_false lw, msp5, msp6, msp7]
      · have q11 : ((11 : Int32) ≤ nI s) = False := c_ge 11 11 (by omega) (by decide)
        have g13 : ∀ {α : Type} (a : Option α), g_in (nI (s + 1)) 12 a = a := fun a => pz_inN (by omega) (by decide) a
        have y20 : nI y + 20 = nI (y + 20) := nI_add y 20
        have cs1 := cl_I (show s + 1 < 2 ^ 31 by omega)
        have mn : (nI (y + 20) ≤ nI w) = True ∧ f = y + 20 ∨ (nI (y + 20) ≤ nI w) = False ∧ f = w := by
          rcases F with ⟨d, fd⟩ | ⟨d, fd⟩
          · exact Or.inl ⟨eq_true (nI_le (by omega) (by omega)), fd⟩
          · by_cases d2 : y + 20 = w
            · exact Or.inl ⟨eq_true (nI_le (by omega) (by omega)), by omega⟩
            · exact Or.inr ⟨eq_false (nI_ge (by omega) (by omega)), fd⟩
        rcases mn with ⟨mn, fd⟩ | ⟨mn, fd⟩
        · rw [fd] at us ⊢
          by_cases lw : nI x ≤ nI (y + 20)
          · simp only [lp_X10_setsSpeeds_3, ng, if_false, if_true, e3, pz_bind, pz_let, g12, cs, msp1, msp2, msp3, msp7, ex, q1, eq_false c1, z00, q11, g13, cs1, ey, y20, mn, us, eq_true lw, msp5, msp6, updI]
          · simp only [lp_X10_setsSpeeds_3, ng, if_false, if_true, e3, pz_bind, pz_let, g12, cs, msp1, msp2, msp3, msp7, ex, q1, eq_false c1, z00, q11, g13, cs1, ey, y20, mn, us, eq_false lw, msp5, msp6, msp7]
        · rw [fd] at us ⊢
          by_cases lw : nI x ≤ nI w
          · simp only [lp_X10_setsSpeeds_3, ng, if_false, if_true, e3, pz_bind, pz_let, g12, cs, msp1, msp2, msp3, msp7, ex, q1, eq_false c1, z00, q11, g13, cs1, ey, y20, mn, us, eq_true lw, msp5, msp6, updI]
          · simp only [lp_X10_setsSpeeds_3, ng, if_false, if_true, e3, pz_bind, pz_let, g12, cs, msp1, msp2, msp3, msp7, ex, q1, eq_false c1, z00, q11, g13, cs1, ey, y20, mn, us, eq_false lw, msp5, msp6, msp7]
    · rw [ra] at F
      rcases F with ⟨s11, fa⟩ | ⟨s11, y, hy, ey, F⟩
      · subst s11
        rw [fa] at us ⊢
        have q11 : ((11 : Int32) ≤ nI 11) = True := c_le 11 11 (by decide)
        by_cases d : w = 120
        · subst d
          have l120 : (120 : Int32) = nI 120 := rfl
          have mn3 : (nI 120 ≤ nI 120) = True := eq_true (by decide)
          by_cases lw : nI x ≤ nI 120
          · simp only [lp_X10_setsSpeeds_3, ng, if_false, if_true, e3, pz_bind, pz_let, g12, cs, msp1, msp2, msp3, msp7, ex, q1, eq_true c1, eq_true c2, z00, q11, l120, mn3, us, eq_true lw, msp5, msp6, updI]
          · simp only [lp_X10_setsSpeeds_3, ng, if_false, if_true, e3, pz_bind, pz_let, g12, cs, msp1, msp2, msp3, msp7, ex, q1, eq_true c1, eq_true c2, z00, q11, l120, mn3, us, eq_false lw, msp5, msp6]
        · have mn : ((120 : Int32) ≤ nI w) = False := c_ge 120 120 (by omega) (by decide)
          by_cases lw : nI x ≤ nI w
          · simp only [lp_X10_setsSpeeds_3, ng, if_false, if_true, e3, pz_bind, pz_let, g12, cs, msp1, msp2, msp3, msp7, ex, q1, eq_true c1, eq_true c2, z00, q11, mn, us, eq_true lw, msp5, msp6, updI]
          · simp only [lp_X10_setsSpeeds_3, ng, if_false, if_true, e3, pz_bind, pz_let, g12, cs, msp1, msp2, msp3, msp7, ex, q1, eq_true c1, eq_true c2, z00, q11, mn, us, eq_false lw, msp5, msp6, msp7]
      · have q11 : ((11 : Int32) ≤ nI s) = False := c_ge 11 11 (by omega) (by decide)
        have g13 : ∀ {α : Type} (a : Option α), g_in (nI (s + 1)) 12 a = a := fun a => pz_inN (by omega) (by decide) a
        have y20 : nI y + 20 = nI (y + 20) := nI_add y 20
        have cs1 := cl_I (show s + 1 < 2 ^ 31 by omega)
        have mn : (nI (y + 20) ≤ nI w) = True ∧ f = y + 20 ∨ (nI (y + 20) ≤ nI w) = False ∧ f = w := by
          rcases F with ⟨d, fd⟩ | ⟨d, fd⟩
          · exact Or.inl ⟨eq_true (nI_le (by omega) (by omega)), fd⟩
          · by_cases d2 : y + 20 = w
            · exact Or.inl ⟨eq_true (nI_le (by omega) (by omega)), by omega⟩
            · exact Or.inr ⟨eq_false (nI_ge (by omega) (by omega)), fd⟩
        rcases mn with ⟨mn, fd⟩ | ⟨mn, fd⟩
        · rw [fd] at us ⊢
          by_cases lw : nI x ≤ nI (y + 20)
          · simp only [lp_X10_setsSpeeds_3, ng, if_false, if_true, e3, pz_bind, pz_let, g12, cs, msp1, msp2, msp3, msp7, ex, q1, eq_true c1, eq_true c2, z00, q11, g13, cs1, ey, y20, mn, us, eq_true lw, msp5, msp6, updI]
          · simp only [lp_X10_setsSpeeds_3, ng, if_false, if_true, e3, pz_bind, pz_let, g12, cs, msp1, msp2, msp3, msp7, ex, q1, eq_true c1, eq_true c2, z00, q11, g13, cs1, ey, y20, mn, us, eq_false lw, msp5, msp6, msp7]
        · rw [fd] at us ⊢
          by_cases lw : nI x ≤ nI w
          · simp only [lp_X10_setsSpeeds_3, ng, if_false, if_true, e3, pz_bind, pz_let, g12, cs, msp1, msp2, msp3, msp7, ex, q1, eq_true c1, eq_true c2, z00, q11, g13, cs1, ey, y20, mn, us, eq_true lw, msp5, msp6, updI]
          · simp only [lp_X10_setsSpeeds_3, ng, if_false, if_true, e3, pz_bind, pz_let, g12, cs, msp1, msp2, msp3, msp7, ex, q1, eq_true c1, eq_true c2, z00, q11, g13, cs1, ey, y20, mn, us, eq_false lw, msp5, msp6, msp7]
    · rw [ra] at F
      rcases F with ⟨s11, fa⟩ | ⟨s11, y, hy, ey, F⟩
      · subst s11
        rw [fa] at us ⊢
        have q11 : ((11 : Int32) ≤ nI 11) = True := c_le 11 11 (by decide)
        by_cases d : w = 120
        · subst d
          have l120 : (120 : Int32) = nI 120 := rfl
          have mn3 : (nI 120 ≤ nI 120) = True := eq_true (by decide)
          by_cases lw : nI x ≤ nI 120
          · simp only [lp_X10_setsSpeeds_3, ng, if_false, if_true, e3, pz_bind, pz_let, g12, cs, msp1, msp2, msp3, msp7, ex, q1, eq_true c1, eq_false c2, eq_true c3, z00, q11, l120, mn3, us, eq_true lw, msp5, msp6, updI]
          · simp only [lp_X10_setsSpeeds_3, ng, if_false, if_true, e3, pz_bind, pz_let, g12, cs, msp1, msp2, msp3, msp7, ex, q1, eq_true c1, eq_false c2, eq_true c3, z00, q11, l120, mn3, us, eq_false lw, msp5, msp6]
        · have mn : ((120 : Int32) ≤ nI w) = False := c_ge 120 120 (by omega) (by decide)
          by_cases lw : nI x ≤ nI w
          · simp only [lp_X10_setsSpeeds_3, ng, if_false, if_true, e3, pz_bind, pz_let, g12, cs, msp1, msp2, msp3, msp7, ex, q1, eq_true c1, eq_false c2, eq_true c3, z00, q11, mn, us, eq_true lw, msp5, msp6, updI]
          · simp only [lp_X10_setsSpeeds_3, ng, if_false, if_true, e3, pz_bind, pz_let, g12, cs, msp1, msp2, msp3, msp7, ex, q1, eq_true c1, eq_false c2, eq_true c3, z00, q11, mn, us, eq_false lw, msp5, msp6, msp7]
      · have q11 : ((11 : Int32) ≤ nI s) = False := c_ge 11 11 (by omega) (by decide)
        have g13 : ∀ {α : Type} (a : Option α), g_in (nI (s + 1)) 12 a = a := fun a => pz_inN (by omega) (by decide) a
        have y20 : nI y + 20 = nI (y + 20) := nI_add y 20
        have cs1 := cl_I (show s + 1 < 2 ^ 31 by omega)
        have mn : (nI (y + 20) ≤ nI w) = True ∧ f = y + 20 ∨ (nI (y + 20) ≤ nI w) = False ∧ f = w := by
          rcases F with ⟨d, fd⟩ | ⟨d, fd⟩
          · exact Or.inl ⟨eq_true (nI_le (by omega) (by omega)), fd⟩
          · by_cases d2 : y + 20 = w
            · exact Or.inl ⟨eq_true (nI_le (by omega) (by omega)), by omega⟩
            · exact Or.inr ⟨eq_false (nI_ge (by omega) (by omega)), fd⟩
        rcases mn with ⟨mn, fd⟩ | ⟨mn, fd⟩
        · rw [fd] at us ⊢
          by_cases lw : nI x ≤ nI (y + 20)
          · simp only [lp_X10_setsSpeeds_3, ng, if_false, if_true, e3, pz_bind, pz_let, g12, cs, msp1, msp2, msp3, msp7, ex, q1, eq_true c1, eq_false c2, eq_true c3, z00, q11, g13, cs1, ey, y20, mn, us, eq_true lw, msp5, msp6, updI]
          · simp only [lp_X10_setsSpeeds_3, ng, if_false, if_true, e3, pz_bind, pz_let, g12, cs, msp1, msp2, msp3, msp7, ex, q1, eq_true c1, eq_false c2, eq_true c3, z00, q11, g13, cs1, ey, y20, mn, us, eq_false lw, msp5, msp6, msp7]
        · rw [fd] at us ⊢
          by_cases lw : nI x ≤ nI w
          · simp only [lp_X10_setsSpeeds_3, ng, if_false, if_true, e3, pz_bind, pz_let, g12, cs, msp1, msp2, msp3, msp7, ex, q1, eq_true c1, eq_false c2, eq_true c3, z00, q11, g13, cs1, ey, y20, mn, us, eq_true lw, msp5, msp6, updI]
          · simp only [lp_X10_setsSpeeds_3, ng, if_false, if_true, e3, pz_bind, pz_let, g12, cs, msp1, msp2, msp3, msp7, ex, q1, eq_true c1, eq_false c2, eq_true c3, z00, q11, g13, cs1, ey, y20, mn, us, eq_false lw, msp5, msp6, msp7]
  exact ⟨_, inv _, CL _ rfl, ML _ rfl⟩
theorem speeds (hT : RT u v) (hD : RD u v) (hS : SB S) : ∃ S' : cS_t, SB S' ∧ g_X7_setAnew (qcS_put u S) (m_now v) = some (qcS_put u S') ∧ g_X10_setsSpeeds (qmS_put v S) = some (qmS_put v S') := by
  obtain ⟨n, z, t, ⟨S', hS', rfl, rfl⟩, h1, h2⟩ := lpR (fun n (z : Int32 × GS) => lp_X7_setAnew_4 (m_now v) (fun w => some w) n z.1 z.2) (fun n (t : Int32 × MS) => lp_X10_setsSpeeds_3 (fun w => some w) n t.1 t.2) 12 (by decide) (fun i z t => ∃ S' : cS_t, SB S' ∧ z = (dn i, qcS_put u S') ∧ t = (dn i, qmS_put v S')) (by
    rintro n i z t hi ⟨S', hS', rfl, rfl⟩
    obtain ⟨S2, h2, e1, e2⟩ := spStep hT hD hS' (show 11 - i < 12 by omega) (fun w => some w) (fun w => some w) n
    rw [← dn_lt hi, dn_step hi] at e1 e2
    exact ⟨(dn (i + 1), qcS_put u S2), (dn (i + 1), qmS_put v S2), ⟨S2, h2, rfl, rfl⟩, e1, e2⟩) (11, qcS_put u S) (11, qmS_put v S) ⟨S, hS, rfl, rfl⟩
  refine ⟨S', hS', h1.trans ?_, h2.trans ?_⟩
  · show lp_X7_setAnew_4 _ _ (n + 1) (-1) _ = _
    rw [lp_X7_setAnew_4, if_pos (by decide)]
  · show lp_X10_setsSpeeds_3 _ (n + 1) (-1) _ = _
    rw [lp_X10_setsSpeeds_3, if_pos (by decide)]
end RELSF

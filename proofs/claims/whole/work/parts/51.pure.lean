section RELSL
variable {u : GS} {v : MS}
theorem covI {k s l t a b c d e : Nat} (h : mB_worksLane v k = nI a ∧ mB_worksFrom v k = nI b ∧ mB_worksTo v k = nI c ∧ mB_worksBegin v k = nI d ∧ mB_worksEnd v k = nI e) (hb : s ≤ 600 ∧ l ≤ 600 ∧ t ≤ 600 ∧ a ≤ 600 ∧ b ≤ 600 ∧ c ≤ 600 ∧ d ≤ 600 ∧ e ≤ 600) : cov v s l t k ↔ (a = l ∧ b ≤ s ∧ s ≤ c ∧ d ≤ t ∧ t < e) := by
  unfold cov
  rw [h.1, h.2.1, h.2.2.1, h.2.2.2.1, h.2.2.2.2, nI_eq (by omega) (by omega), nI_ltI (by omega) (by omega), nI_ltI (by omega) (by omega), nI_ltI (by omega) (by omega), nI_leI (by omega) (by omega)]
  omega
/-- behind the writing of the next works, not yet counted -/
def wrC (u : GS) (w : Nat) (a b c d e : Int32) : GS := cB_ends_set (cB_begins_set (cB_tos_set (cB_froms_set (cB_lanes_set u (upd (cB_lanes u) w a)) (upd (cB_froms u) w b)) (upd (cB_tos u) w c)) (upd (cB_begins u) w d)) (upd (cB_ends u) w e)
theorem wr_c {w : Nat} (hw : w < 8) (ew : cB_count u = nI w) (a b c d e : Int32) : g_X0_writeNext u a b c d e = some (wrC u w a b c d e) := by
  have i1 : g_X9_isWithin (nI w) 0 7 = some 1 := isw (k := w) (a := 0) (b := 7) _ rfl (Nat.zero_le w) (by omega) (by decide) _ _
  have g8 : ∀ {α : Type} (a : Option α), g_in (nI w) 8 a = a := fun a => pz_inN hw (by decide) a
  have cw := cl_I (show w < 2 ^ 31 by omega)
  have x1 : ∀ f, cB_count (cB_lanes_set u f) = cB_count u := fun _ => rfl
  have x2 : ∀ (y : GS) f, cB_count (cB_froms_set y f) = cB_count y := fun _ _ => rfl
  have x3 : ∀ (y : GS) f, cB_count (cB_tos_set y f) = cB_count y := fun _ _ => rfl
  have x4 : ∀ (y : GS) f, cB_count (cB_begins_set y f) = cB_count y := fun _ _ => rfl
  have y1 : ∀ f, cB_froms (cB_lanes_set u f) = cB_froms u := fun _ => rfl
  have y2 : ∀ f g, cB_tos (cB_froms_set (cB_lanes_set u f) g) = cB_tos u := fun _ _ => rfl
  have y3 : ∀ f g h, cB_begins (cB_tos_set (cB_froms_set (cB_lanes_set u f) g) h) = cB_begins u := fun _ _ _ => rfl
  have y4 : ∀ f g h i, cB_ends (cB_begins_set (cB_tos_set (cB_froms_set (cB_lanes_set u f) g) h) i) = cB_ends u := fun _ _ _ _ => rfl
  simp only [g_X0_writeNext, ew, i1, pz_bind, z10, if_false, g8, cw, pz_let, x1, x2, x3, x4, y1, y2, y3, y4, wrC]
theorem wr_f {w k : Nat} (hk : k ≠ w) {a b c d e : Nat} (A B C D E : Int32) (h : fldC u k a b c d e) : fldC (wrC u w A B C D E) k a b c d e := ⟨(pk_un hk).trans h.1, (pk_un hk).trans h.2.1, (pk_un hk).trans h.2.2.1, (pk_un hk).trans h.2.2.2.1, (pk_un hk).trans h.2.2.2.2⟩
theorem wr_w {w a b c d e : Nat} : fldC (wrC u w (nI a) (nI b) (nI c) (nI d) (nI e)) w a b c d e := ⟨pk_us, pk_us, pk_us, pk_us, pk_us⟩
theorem lo1 {a : Nat} (ha : a < 2 ^ 31) (h : ¬ nI a < 1) : 1 ≤ a := by
  rw [show (1 : Int32) = nI 1 from rfl, nI_ltI ha (by decide)] at h
  omega
theorem pickPQ {a a1 a2 P Q : Nat} (h : (a = 1 ∧ P = 2 ∧ Q = 3) ∨ (a = 2 ∧ P = 1 ∧ Q = 3) ∨ (a = 3 ∧ P = 1 ∧ Q = 2)) (x : 1 ≤ a1 ∧ a1 ≤ 3) (y : 1 ≤ a2 ∧ a2 ≤ 3) (o : a1 ≠ a2 ∧ a1 ≠ a ∧ a2 ≠ a) : (a1 = P ∧ a2 = Q) ∨ (a1 = Q ∧ a2 = P) := by omega
/-- the class's answer and the reference's to 'would all three lanes have works' -/
theorem tooMany (hB : RB u v) {w : Nat} (hw : w < 8) (ew : cB_count u = nI w) {a b c d e : Nat} (ha : 1 ≤ a ∧ a ≤ 3) (hb : 1 ≤ b ∧ b ≤ c ∧ c ≤ 11) (hd : d < e ∧ e ≤ 600) : (g_X0_nextTakesLastLane (wrC u w (nI a) (nI b) (nI c) (nI d) (nI e)) = some 0 ∧ g_X10_areTooMany v (nI a) (nI b) (nI c) (nI d) (nI e) = some 0) ∨ (g_X0_nextTakesLastLane (wrC u w (nI a) (nI b) (nI c) (nI d) (nI e)) = some 1 ∧ g_X10_areTooMany v (nI a) (nI b) (nI c) (nI d) (nI e) = some 1) := by
  obtain ⟨w', hw', e1, e2, hall⟩ := hB
  have : w = w' := by
    rw [e1] at ew
    exact ((nI_eq (by omega) (by omega)).mp ew).symm
  subst this
  have f0 : fldC (wrC u w (nI a) (nI b) (nI c) (nI d) (nI e)) w a b c d e := wr_w
  have tk : ∀ i j : Nat, i < w → j < i → ∃ a1 b1 c1 d1 e1 a2 b2 c2 d2 e2 : Nat, (1 ≤ a1 ∧ a1 ≤ 3 ∧ 1 ≤ b1 ∧ b1 ≤ c1 ∧ c1 ≤ 11 ∧ d1 < e1 ∧ e1 ≤ 600) ∧ (1 ≤ a2 ∧ a2 ≤ 3 ∧ 1 ≤ b2 ∧ b2 ≤ c2 ∧ c2 ≤ 11 ∧ d2 < e2 ∧ e2 ≤ 600) ∧ (mB_worksLane v i = nI a1 ∧ mB_worksFrom v i = nI b1 ∧ mB_worksTo v i = nI c1 ∧ mB_worksBegin v i = nI d1 ∧ mB_worksEnd v i = nI e1) ∧ (mB_worksLane v j = nI a2 ∧ mB_worksFrom v j = nI b2 ∧ mB_worksTo v j = nI c2 ∧ mB_worksBegin v j = nI d2 ∧ mB_worksEnd v j = nI e2) ∧ g_X0_areInThreeLanes (wrC u w (nI a) (nI b) (nI c) (nI d) (nI e)) (nI i) (nI j) (nI w) = some (if a1 ≠ a2 ∧ a1 ≠ a ∧ a2 ≠ a then 1 else 0) ∧ g_X0_doMeet (wrC u w (nI a) (nI b) (nI c) (nI d) (nI e)) (nI i) (nI j) (nI w) = some (if max b1 (max b2 b) ≤ min c1 (min c2 c) ∧ max d1 (max d2 d) < min e1 (min e2 e) then 1 else 0) := by
    intro i j hi hj
    obtain ⟨a1, b1, c1, d1, e1', x1, x2, x3, x4, x5, x6, x7, fc, fm⟩ := hall i hi
    obtain ⟨a2, b2, c2, d2, e2', y1, y2, y3, y4, y5, y6, y7, gc, gm⟩ := hall j (by omega)
    have fc' := wr_f (u := u) (w := w) (show i ≠ w by omega) (nI a) (nI b) (nI c) (nI d) (nI e) fc
    have gc' := wr_f (u := u) (w := w) (show j ≠ w by omega) (nI a) (nI b) (nI c) (nI d) (nI e) gc
    exact ⟨a1, b1, c1, d1, e1', a2, b2, c2, d2, e2', ⟨x1, x2, x3, x4, x5, x6, x7⟩, ⟨y1, y2, y3, y4, y5, y6, y7⟩, fm, gm, three_c (by omega) (by omega) hw fc' gc' f0 (by omega) (by omega) (by omega), meet_c (by omega) (by omega) hw fc' gc' f0 (by omega)⟩
  have bi : binC (wrC u w (nI a) (nI b) (nI c) (nI d) (nI e)) w := by
    intro i j hi hj
    obtain ⟨a1, b1, c1, d1, e1', a2, b2, c2, d2, e2', -, -, -, -, t1, t2⟩ := tk i j hi hj
    refine ⟨?_, ?_⟩
    · rw [t1]
      by_cases q : a1 ≠ a2 ∧ a1 ≠ a ∧ a2 ≠ a
      · exact Or.inl (by rw [if_pos q])
      · exact Or.inr (by rw [if_neg q])
    · rw [t2]
      by_cases q : max b1 (max b2 b) ≤ min c1 (min c2 c) ∧ max d1 (max d2 d) < min e1' (min e2' e)
      · exact Or.inl (by rw [if_pos q])
      · exact Or.inr (by rw [if_neg q])
  have t10 : ∀ {P : Prop} [Decidable P], (some (if P then (1 : Int32) else 0) = some 1) → P := fun {P} _ h => Classical.byContradiction fun q => by
    rw [if_neg q] at h
    exact absurd (Option.some.inj h) (by decide)
  obtain ⟨P, Q, hPQ, em⟩ : ∃ P Q : Nat, ((a = 1 ∧ P = 2 ∧ Q = 3) ∨ (a = 2 ∧ P = 1 ∧ Q = 3) ∨ (a = 3 ∧ P = 1 ∧ Q = 2)) ∧ g_X10_areTooMany v (nI a) (nI b) (nI c) (nI d) (nI e) = lp_X10_areTooMany_30 v (nI c) (nI d) (nI e) (nI P) (nI Q) (fun (x : Int32) => g_bo x (some x)) FU 0 (nI b) := by
    have h3 : a = 1 ∨ a = 2 ∨ a = 3 := by omega
    rcases h3 with rfl | rfl | rfl
    · refine ⟨2, 3, Or.inl ⟨rfl, rfl, rfl⟩, ?_⟩
      simp (decide := true) only [g_X10_areTooMany, pz_let, if_true, if_false] <;> rfl
    · refine ⟨1, 3, Or.inr (Or.inl ⟨rfl, rfl, rfl⟩), ?_⟩
      simp (decide := true) only [g_X10_areTooMany, pz_let, if_true, if_false] <;> rfl
    · refine ⟨1, 2, Or.inr (Or.inr ⟨rfl, rfl, rfl⟩), ?_⟩
      simp (decide := true) only [g_X10_areTooMany, pz_let, if_true, if_false] <;> rfl
  rw [em]
  rcases next_out (u := wrC u w (nI a) (nI b) (nI c) (nI d) (nI e)) hw e1 bi with ⟨n1, N1⟩ | ⟨n1, i, j, hi, hj, N1⟩
  · rcases many_out (v := v) hw' e2 P Q hb.2.1 hb.2.2 hd.1 hd.2 with ⟨-, s, t, s1, s2, t1, t2, ⟨k1, k1w, K1⟩, k2, k2w, K2⟩ | ⟨m1, -⟩
    · exfalso
      have key : ∀ i j : Nat, i < w → j < i → ∀ l l' : Nat, l ≤ 3 → l' ≤ 3 → l ≠ l' → l ≠ a → l' ≠ a → cov v s l t i → cov v s l' t j → False := by
        intro i j hi hj l l' hl hl' q1 q2 q3 ci cj
        obtain ⟨a1, b1, c1, d1, e1', a2, b2, c2, d2, e2', x, y, fm, gm, r1, r2⟩ := tk i j hi hj
        have ci' := (covI fm (by omega)).mp ci
        have cj' := (covI gm (by omega)).mp cj
        refine N1 i j hi hj ⟨r1.trans ?_, r2.trans ?_⟩
        · rw [if_pos ⟨by omega, by omega, by omega⟩]
        · rw [if_pos ⟨by omega, by omega⟩]
      have ne : k1 ≠ k2 := fun z => by
        rw [z] at K1
        have := K1.1.symm.trans K2.1
        rw [nI_eq (by omega) (by omega)] at this
        omega
      by_cases lt : k2 < k1
      · exact key k1 k2 k1w lt P Q (by omega) (by omega) (by omega) (by omega) (by omega) K1 K2
      · exact key k2 k1 k2w (by omega) Q P (by omega) (by omega) (by omega) (by omega) (by omega) K2 K1
    · exact Or.inl ⟨n1, m1⟩
  · rcases many_out (v := v) hw' e2 P Q hb.2.1 hb.2.2 hd.1 hd.2 with ⟨m1, -⟩ | ⟨-, M1⟩
    · exact Or.inr ⟨n1, m1⟩
    · exfalso
      obtain ⟨a1, b1, c1, d1, e1', a2, b2, c2, d2, e2', x, y, fm, gm, r1, r2⟩ := tk i j hi hj
      have o1 := t10 (r1.symm.trans N1.1)
      have o2 := t10 (r2.symm.trans N1.2)
      refine M1 (max b1 (max b2 b)) (max d1 (max d2 d)) (by omega) (by omega) (by omega) (by omega) ?_
      have ci := (covI (s := max b1 (max b2 b)) (l := a1) (t := max d1 (max d2 d)) fm (by omega)).mpr ⟨rfl, by omega, by omega, by omega, by omega⟩
      have cj := (covI (s := max b1 (max b2 b)) (l := a2) (t := max d1 (max d2 d)) gm (by omega)).mpr ⟨rfl, by omega, by omega, by omega, by omega⟩
      rcases pickPQ hPQ ⟨x.1, x.2.1⟩ ⟨y.1, y.2.1⟩ o1 with ⟨q1, q2⟩ | ⟨q1, q2⟩
      · rw [q1] at ci
        rw [q2] at cj
        exact ⟨⟨i, hi, ci⟩, j, Nat.lt_trans hj hi, cj⟩
      · rw [q1] at ci
        rw [q2] at cj
        exact ⟨⟨j, Nat.lt_trans hj hi, cj⟩, i, hi, ci⟩
end RELSL

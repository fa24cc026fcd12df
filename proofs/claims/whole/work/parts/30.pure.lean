/-! THE PURE PART: class and reference as functions, side by side -/
theorem pz_let {α β : Type} (x : α) (f : α → β) : g_let x f = f x := rfl
theorem pz_bind {α β : Type} (x : α) (f : α → Option β) : g_bind (some x) f = f x := rfl
theorem pz_in {α : Type} {i : Int32} {n : Nat} (h : vp_in i n) (a : Option α) : g_in i n a = a := if_neg h
theorem pz_inN {α : Type} {k n : Nat} (h : k < n) (hn : n < 2 ^ 31) (a : Option α) : g_in (nI k) n a = a := if_neg (vp_in_nI h hn)
theorem pz_nz {α : Type} {v : Int32} (h : ¬ v = 0) (a : Option α) : g_nz v a = a := if_neg h
theorem pz_bo0 {α : Type} (a : Option α) : g_bo 0 a = a := if_pos (by decide)
theorem pz_bo1 {α : Type} (a : Option α) : g_bo 1 a = a := if_pos (by decide)
theorem pz_xl {σ τ : Type} (r : Int32) (w : σ) (up : σ → τ) (f : Int32 → σ → Option (g_X × τ)) : g_xb (some (.inl r, w)) up f = f r w := rfl
theorem pz_xr {σ τ : Type} (E : String) (w : σ) (up : σ → τ) (f : Int32 → σ → Option (g_X × τ)) : g_xb (some (.inr E, w)) up f = some (.inr E, up w) := rfl
theorem z10 : ((1 : Int32) = 0) = False := eq_false (by decide)
theorem z20 : ((2 : Int32) = 0) = False := eq_false (by decide)
theorem z30 : ((3 : Int32) = 0) = False := eq_false (by decide)
theorem z00 : ((0 : Int32) = 0) = True := eq_true rfl
theorem vnb1 : vp_nar .boolean (1 : Int32) = 1 := by decide
theorem vnb0 : vp_nar .boolean (0 : Int32) = 0 := by decide
theorem pz_na (u : GS) : g_X9_needArgument u 0 = some (.inr "java/lang/IllegalArgumentException", u) := if_pos rfl
theorem pz_na1 (u : GS) : g_X9_needArgument u 1 = some (.inl 0, u) := if_neg (by decide)
theorem pz_ns (u : GS) : g_X9_needState u 0 = some (.inr "java/lang/IllegalStateException", u) := if_pos rfl
theorem pz_ns1 (u : GS) : g_X9_needState u 1 = some (.inl 0, u) := if_neg (by decide)
theorem pz_ni (u : GS) : g_X9_needIndex u 0 = some (.inr "java/lang/IndexOutOfBoundsException", u) := if_pos rfl
theorem pz_ni1 (u : GS) : g_X9_needIndex u 1 = some (.inl 0, u) := if_neg (by decide)
theorem pz_h0 (v : MS) : g_X10_holds v 0 = some (1, m_thrown_set v 0) := by rw [g_X10_holds, pz_let, if_pos rfl]
theorem pz_h1 (v : MS) : g_X10_holds v 1 = some (0, m_thrown_set v 1) := by rw [g_X10_holds, pz_let, if_neg (by decide)]
theorem pz_h2 (v : MS) : g_X10_holds v 2 = some (0, m_thrown_set v 2) := by rw [g_X10_holds, pz_let, if_neg (by decide)]
theorem pz_h3 (v : MS) : g_X10_holds v 3 = some (0, m_thrown_set v 3) := by rw [g_X10_holds, pz_let, if_neg (by decide)]
theorem iw1 {p a b : Int32} (h : ¬ p < a) (h2 : ¬ b < p) : g_X9_isWithin p a b = some 1 := by rw [g_X9_isWithin, if_neg h, if_neg h2]
theorem iw0 {p a b : Int32} (h : ¬ (¬ p < a ∧ ¬ b < p)) : g_X9_isWithin p a b = some 0 := by
  rw [g_X9_isWithin]
  by_cases h1 : p < a
  · rw [if_pos h1]
  · rw [if_neg h1, if_pos (Classical.byContradiction fun h2 => h ⟨h1, h2⟩)]
theorem ii1 {p a b : Int32} (h : ¬ p < a) (h2 : ¬ b < p) : g_X10_isIn p a b = some 1 := iw1 h h2
theorem ii0 {p a b : Int32} (h : ¬ (¬ p < a ∧ ¬ b < p)) : g_X10_isIn p a b = some 0 := iw0 h
/-- between two bounds or not, for class and reference -/
theorem iwc (p a b : Int32) : (¬ p < a ∧ ¬ b < p ∧ g_X9_isWithin p a b = some 1 ∧ g_X10_isIn p a b = some 1) ∨ (¬ (¬ p < a ∧ ¬ b < p) ∧ g_X9_isWithin p a b = some 0 ∧ g_X10_isIn p a b = some 0) := by
  by_cases h : ¬ p < a ∧ ¬ b < p
  · exact Or.inl ⟨h.1, h.2, iw1 h.1 h.2, ii1 h.1 h.2⟩
  · exact Or.inr ⟨h, iw0 h, ii0 h⟩
theorem iw_nI {k a b : Nat} (ha : a ≤ k) (hb : k ≤ b) (hk : b < 2 ^ 31) : g_X9_isWithin (nI k) (nI a) (nI b) = some 1 := iw1 (nI_nlt ha (by omega)) (nI_nlt hb (by omega))
theorem iw_nI0 {k a b : Nat} (h : k < a ∨ b < k) (hk : k < 2 ^ 31) (ha : a < 2 ^ 31) (hb : b < 2 ^ 31) : g_X9_isWithin (nI k) (nI a) (nI b) = some 0 := iw0 (fun ⟨p, q⟩ => by
  rw [nI_ltI hk ha] at p
  rw [nI_ltI hb hk] at q
  omega)
theorem isw {k a b : Nat} (p : Int32) (hp : p = nI k) (ha : a ≤ k) (hb : k ≤ b) (hk : b < 2 ^ 31) (A B : Int32) (hA : A = nI a := by rfl) (hB : B = nI b := by rfl) : g_X9_isWithin p A B = some 1 := by
  rw [hp, hA, hB]
  exact iw_nI ha hb hk
/-- an index between 0 and n: a natural behind it -/
theorem ix_of {p : Int32} {n : Nat} (B : Int32) (hB : B = nI n) (hn : n < 2 ^ 31) (h : ¬ p < 0) (h2 : ¬ B < p) : ∃ k : Nat, k ≤ n ∧ p = nI k := by
  obtain ⟨j, hj, rfl⟩ := nI_of h
  refine ⟨j, ?_, rfl⟩
  rw [hB, nI_ltI hn hj] at h2
  omega
/-- a section: refused by both, or a natural below 12 -/
theorem secc (u : GS) (p : Int32) : (g_X9_needSection u p = some (.inr "java/lang/IndexOutOfBoundsException", u) ∧ g_X10_isSection p = some 0) ∨ (∃ k : Nat, k < 12 ∧ p = nI k ∧ g_X9_needSection u p = some (.inl 0, u) ∧ g_X10_isSection p = some 1) := by
  rcases iwc p 0 11 with ⟨h1, h2, e1, e2⟩ | ⟨h, e1, e2⟩
  · obtain ⟨k, hk, e⟩ := ix_of 11 (n := 11) rfl (by decide) h1 h2
    refine Or.inr ⟨k, by omega, e, ?_, ?_⟩
    · rw [g_X9_needSection, e1, pz_bind, pz_ni1, pz_xl]
    · rw [g_X10_isSection, e2, pz_bind, pz_bo1]
  · refine Or.inl ⟨?_, ?_⟩
    · rw [g_X9_needSection, e1, pz_bind, pz_ni, pz_xr, id]
    · rw [g_X10_isSection, e2, pz_bind, pz_bo0]
theorem patc (u : GS) (p : Int32) : (g_X9_needPatrol u p = some (.inr "java/lang/IndexOutOfBoundsException", u) ∧ g_X10_isPatrol p = some 0) ∨ (∃ k : Nat, k < 3 ∧ p = nI k ∧ g_X9_needPatrol u p = some (.inl 0, u) ∧ g_X10_isPatrol p = some 1) := by
  rcases iwc p 0 2 with ⟨h1, h2, e1, e2⟩ | ⟨h, e1, e2⟩
  · obtain ⟨k, hk, e⟩ := ix_of 2 (n := 2) rfl (by decide) h1 h2
    refine Or.inr ⟨k, by omega, e, ?_, ?_⟩
    · rw [g_X9_needPatrol, e1, pz_bind, pz_ni1, pz_xl]
    · rw [g_X10_isPatrol, e2, pz_bind, pz_bo1]
  · refine Or.inl ⟨?_, ?_⟩
    · rw [g_X9_needPatrol, e1, pz_bind, pz_ni, pz_xr, id]
    · rw [g_X10_isPatrol, e2, pz_bind, pz_bo0]
/-- a place: refused by both, or a section and a lane -/
theorem plcc (u : GS) (p q : Int32) : (g_X9_needPlace u p q = some (.inr "java/lang/IndexOutOfBoundsException", u) ∧ g_X10_isPlace p q = some 0) ∨ (∃ s l : Nat, s < 12 ∧ l < 4 ∧ p = nI s ∧ q = nI l ∧ g_X9_needPlace u p q = some (.inl 0, u) ∧ g_X10_isPlace p q = some 1) := by
  rcases secc u p with ⟨a1, a2⟩ | ⟨s, hs, e, a1, a2⟩
  · refine Or.inl ⟨?_, ?_⟩
    · rw [g_X9_needPlace, a1, pz_xr, id]
    · rw [g_X10_isPlace, a2, pz_bind, if_pos rfl]
  · rcases iwc q 0 3 with ⟨h1, h2, e1, e2⟩ | ⟨h, e1, e2⟩
    · obtain ⟨l, hl, el⟩ := ix_of 3 (n := 3) rfl (by decide) h1 h2
      refine Or.inr ⟨s, l, hs, by omega, e, el, ?_, ?_⟩
      · rw [g_X9_needPlace, a1, pz_xl, e1, pz_bind, pz_ni1, pz_xl]
      · rw [g_X10_isPlace, a2, pz_bind, if_neg (by decide), e2, pz_bind, if_neg (by decide)]
    · refine Or.inl ⟨?_, ?_⟩
      · rw [g_X9_needPlace, a1, pz_xl, e1, pz_bind, pz_ni, pz_xr, id]
      · rw [g_X10_isPlace, a2, pz_bind, if_neg (by decide), e2, pz_bind, if_pos rfl]
theorem cpl (s l : Nat) : nI s * (4 : Int32) + nI l = nI (4 * s + l) := by rw [show (4 : Int32) = nI 4 from rfl, pk_mul, nI_add, Nat.mul_comm]
theorem mpl (s l : Nat) : (4 : Int32) * nI s + nI l = nI (4 * s + l) := by rw [show (4 : Int32) = nI 4 from rfl, pk_mul, nI_add]
theorem placeN (s l : Nat) : g_X9_placeOf (nI s) (nI l) = some (nI (4 * s + l)) := congrArg some (cpl s l)
theorem nm1 (k : Nat) (h : k < 2 ^ 31) : ¬ nI k = (-1 : Int32) := fun e => by
  have := congrArg Int32.toInt e
  rw [nI_toInt h] at this
  have z : (-1 : Int32).toInt = -1 := by decide
  omega
/-- two loops in step, or an answer on the way -/
theorem pz_lp2 {σ τ β γ : Type} (L : Nat → σ → Option β) (M : Nat → τ → Option γ) (C : Nat) (P : Nat → σ → τ → Prop) (R : Option β → Option γ → Prop)
    (hs : ∀ n i s t, i < C → P i s t → (∃ s' t', P (i + 1) s' t' ∧ L (n + 1) s = L n s' ∧ M (n + 1) t = M n t') ∨ R (L (n + 1) s) (M (n + 1) t)) :
    ∀ (d i n : Nat) (s : σ) (t : τ), i + d = C → P i s t → (∃ s' t', P C s' t' ∧ L (n + d) s = L n s' ∧ M (n + d) t = M n t') ∨ R (L (n + d) s) (M (n + d) t)
  | 0, i, n, s, t, h, hp => Or.inl ⟨s, t, by rw [← h]; exact hp, rfl, rfl⟩
  | d + 1, i, n, s, t, h, hp => by
    rcases hs (n + d) i s t (by omega) hp with ⟨s', t', hp', e1, e2⟩ | hr
    · rcases pz_lp2 L M C P R hs d (i + 1) n s' t' (by omega) hp' with ⟨s2, t2, h2, e3, e4⟩ | hr
      · exact Or.inl ⟨s2, t2, h2, (show L (n + (d + 1)) s = L (n + d) s' from e1).trans e3, (show M (n + (d + 1)) t = M (n + d) t' from e2).trans e4⟩
      · refine Or.inr ?_
        rw [show L (n + (d + 1)) s = L (n + d) s' from e1, show M (n + (d + 1)) t = M (n + d) t' from e2]
        exact hr
    · exact Or.inr hr
theorem lpR {σ τ β γ : Type} (L : Nat → σ → Option β) (M : Nat → τ → Option γ) (C : Nat) (hC : C < 1000) (P : Nat → σ → τ → Prop)
    (hs : ∀ n i s t, i < C → P i s t → ∃ s' t', P (i + 1) s' t' ∧ L (n + 1) s = L n s' ∧ M (n + 1) t = M n t') (s : σ) (t : τ) (h : P 0 s t) : ∃ n s' t', P C s' t' ∧ L FU s = L (n + 1) s' ∧ M FU t = M (n + 1) t' := by
  obtain ⟨n, hn⟩ : ∃ n, FU = n + 1 + C := ⟨999 - C, by show 1000 = _; omega⟩
  rcases pz_lp2 L M C P (fun _ _ => False) (fun n i s t hi hp => Or.inl (hs n i s t hi hp)) C 0 (n + 1) s t (by omega) h with ⟨s', t', h1, h2, h3⟩ | q
  · exact ⟨n, s', t', h1, by rw [hn]; exact h2, by rw [hn]; exact h3⟩
  · exact q.elim
theorem lpF {σ β : Type} (L : Nat → σ → Option β) (C : Nat) (hC : C < 1000) (P : Nat → σ → Prop)
    (hs : ∀ n i s, i < C → P i s → ∃ s', P (i + 1) s' ∧ L (n + 1) s = L n s') (s : σ) (h : P 0 s) : ∃ n s', P C s' ∧ L FU s = L (n + 1) s' := by
  obtain ⟨n, s', _, h1, h2, _⟩ := lpR L (fun _ (_ : Unit) => (none : Option Unit)) C hC (fun i s _ => P i s) (fun n i s _ hi hp => by
    obtain ⟨s', a, b⟩ := hs n i s hi hp
    exact ⟨s', (), a, b, rfl⟩) s () h
  exact ⟨n, s', h1, h2⟩
theorem lpE {σ β : Type} (L : Nat → σ → Option β) (C : Nat) (hC : C < 1000) (P : Nat → σ → Prop) (R : Option β → Prop)
    (hs : ∀ n i s, i < C → P i s → (∃ s', P (i + 1) s' ∧ L (n + 1) s = L n s') ∨ R (L (n + 1) s)) (s : σ) (h : P 0 s) : (∃ n s', P C s' ∧ L FU s = L (n + 1) s') ∨ R (L FU s) := by
  obtain ⟨n, hn⟩ : ∃ n, FU = n + 1 + C := ⟨999 - C, by show 1000 = _; omega⟩
  rcases pz_lp2 L (fun _ (_ : Unit) => (none : Option Unit)) C (fun i s _ => P i s) (fun x _ => R x) (fun n i s _ hi hp => by
    rcases hs n i s hi hp with ⟨s', a, b⟩ | q
    · exact Or.inl ⟨s', (), a, b, rfl⟩
    · exact Or.inr q) C 0 (n + 1) s () (by omega) h with ⟨s', t', h1, h2, h3⟩ | q
  · exact Or.inl ⟨n, s', h1, by rw [hn]; exact h2⟩
  · exact Or.inr (by rw [hn]; exact q)
theorem lpRE {σ τ β γ : Type} (L : Nat → σ → Option β) (M : Nat → τ → Option γ) (C : Nat) (hC : C < 1000) (P : Nat → σ → τ → Prop) (R : Option β → Option γ → Prop)
    (hs : ∀ n i s t, i < C → P i s t → (∃ s' t', P (i + 1) s' t' ∧ L (n + 1) s = L n s' ∧ M (n + 1) t = M n t') ∨ R (L (n + 1) s) (M (n + 1) t)) (s : σ) (t : τ) (h : P 0 s t) : (∃ n s' t', P C s' t' ∧ L FU s = L (n + 1) s' ∧ M FU t = M (n + 1) t') ∨ R (L FU s) (M FU t) := by
  obtain ⟨n, hn⟩ : ∃ n, FU = n + 1 + C := ⟨999 - C, by show 1000 = _; omega⟩
  rcases pz_lp2 L M C P R hs C 0 (n + 1) s t (by omega) h with ⟨s', t', h1, h2, h3⟩ | q
  · exact Or.inl ⟨n, s', t', h1, by rw [hn]; exact h2, by rw [hn]; exact h3⟩
  · exact Or.inr (by rw [hn]; exact q)
/-! what holds of both states between two calls -/
def RM (u : GS) (v : MS) : Prop := c_minute u = m_now v ∧ ∃ t : Nat, t ≤ 600 ∧ c_minute u = nI t
def RT (u : GS) (v : MS) : Prop := qcT u = qmT v ∧ ∀ p : Nat, p < 48 → ∃ h : Nat, h ≤ 20 ∧ cT_held u p = nI h
def RD (u : GS) (v : MS) : Prop := qcD u = qmD v ∧ ∀ k : Nat, k < 12 → cD_is u k = 0 ∨ cD_is u k = 2 ∨ ∃ x : Nat, x ≤ 120 ∧ cD_stuckAt u k = nI x
def RS (u : GS) (v : MS) : Prop := qcS u = qmS v ∧ (∀ k : Nat, k < 12 → ∃ x : Nat, x ≤ 120 ∧ cS_shown u k = nI x) ∧ (∀ k : Nat, k < 12 → cS_limits u k = -1 ∨ ∃ x : Nat, x ≤ 120 ∧ cS_limits u k = nI x) ∧ ∃ x : Nat, x ≤ 3 ∧ cS_weather u = nI x
def RO (u : GS) (v : MS) : Prop := cL_orders u = qmL v ∧ ∀ p : Nat, p < 48 → cL_orders u p = -1 ∨ ∃ x : Nat, x ≤ 2 ∧ cL_orders u p = nI x
def RH (u : GS) (v : MS) : Prop := cH_open u = mH_isOpen v ∧ (∀ k : Nat, k < 12 → cH_foundClearAt u k = if mH_wasClear v k = 0 then -1000 else mH_looked v k) ∧ ∀ k : Nat, cH_open u k = 0 ∨ cH_open u k = 1
def RI (u : GS) (v : MS) : Prop := ∃ n : Nat, n ≤ 12 ∧ cI_count u = nI n ∧ mI_incidents v = nI n ∧ cI_places u = mI_placed v ∧ cI_how u = mI_state v ∧ (∀ k : Nat, k < n → ∃ q : Nat, q < 48 ∧ cI_places u k = nI q) ∧ (∀ j : Nat, j < 3 → mP_sentTo v j = -1 ∨ ∃ k : Nat, k < n ∧ mP_sentTo v j = nI k ∧ cI_patrols u k = nI j) ∧ (∀ k : Nat, k < n → cI_patrols u k = -1 ∨ ∃ j : Nat, j < 3 ∧ cI_patrols u k = nI j ∧ mP_sentTo v j = nI k)
def RP (u : GS) (v : MS) : Prop := qcP u = qmP v ∧ (∀ j : Nat, j < 3 → ∃ s : Nat, s < 12 ∧ cP_sections u j = nI s) ∧ (∀ j : Nat, j < 3 → (cP_incidents u j = -1 ∧ cP_minutesLeft u j = 0) ∨ (¬ cP_incidents u j = -1 ∧ ∃ x : Nat, 1 ≤ x ∧ x ≤ 1000 ∧ cP_minutesLeft u j = nI x))
def RB (u : GS) (v : MS) : Prop := ∃ w : Nat, w ≤ 8 ∧ cB_count u = nI w ∧ mB_works v = nI w ∧ ∀ k : Nat, k < w → ∃ a b c d e : Nat, 1 ≤ a ∧ a ≤ 3 ∧ 1 ≤ b ∧ b ≤ c ∧ c ≤ 11 ∧ d < e ∧ e ≤ 600 ∧ (cB_lanes u k = nI a ∧ cB_froms u k = nI b ∧ cB_tos u k = nI c ∧ cB_begins u k = nI d ∧ cB_ends u k = nI e) ∧ (mB_worksLane v k = nI a ∧ mB_worksFrom v k = nI b ∧ mB_worksTo v k = nI c ∧ mB_worksBegin v k = nI d ∧ mB_worksEnd v k = nI e)
/-- one minute's row of one section, in both records -/
def rowK (kept pr : Nat → Int32) (t s : Nat) : Prop := ∃ x a b c d : Nat, x ≤ 120 ∧ a < 4 ∧ b < 4 ∧ c < 4 ∧ d < 4 ∧ pr (60 * t + 5 * s) = nI x ∧ pr (60 * t + 5 * s + 1) = nI a ∧ pr (60 * t + 5 * s + 2) = nI b ∧ pr (60 * t + 5 * s + 3) = nI c ∧ pr (60 * t + 5 * s + 4) = nI d ∧ kept (12 * t + s) = nI (256 * x + 64 * d + 16 * c + 4 * b + a)
def RK (u : GS) (v : MS) : Prop := ∀ t s : Nat, t < 60 → s < 12 → rowK (cK_kept u) (mK_proofs v) t s
def Rel (u : GS) (v : MS) : Prop := RM u v ∧ RT u v ∧ RD u v ∧ RS u v ∧ RO u v ∧ RH u v ∧ RI u v ∧ RP u v ∧ RB u v ∧ RK u v
theorem SI_ok {u' : GS} {v' : MS} {cg : Option (g_X × GS)} {mg : Option (Int32 × MS)} {es : List (String × Int32)} (r : Int32) (h1 : cg = some (.inl r, u')) (h2 : mg = some (r, v')) (h3 : m_thrown v' = 0) (h4 : Rel u' v') : SI Rel cg mg es := Or.inl ⟨r, u', v', h1, h2, h3, h4⟩
theorem SI_no {u' : GS} {v' : MS} {cg : Option (g_X × GS)} {mg : Option (Int32 × MS)} {es : List (String × Int32)} (E : String) (k : Int32) (b : Int32) (hm : (E, k) ∈ es) (h1 : cg = some (.inr E, u')) (h2 : mg = some (b, v')) (h3 : m_thrown v' = k) (h4 : Rel u' v') : SI Rel cg mg es := Or.inr ⟨(E, k), u', b, v', hm, h1, h2, h3, h4⟩
theorem SV_ok {u' : GS} {v' : MS} {cg : Option (g_X × GS)} {mg : Option MS} {es : List (String × Int32)} (r : Int32) (h1 : cg = some (.inl r, u')) (h2 : mg = some v') (h3 : m_thrown v' = 0) (h4 : Rel u' v') : SV Rel cg mg es := Or.inl ⟨r, u', v', h1, h2, h3, h4⟩
theorem SV_no {u' : GS} {v' : MS} {cg : Option (g_X × GS)} {mg : Option MS} {es : List (String × Int32)} (E : String) (k : Int32) (hm : (E, k) ∈ es) (h1 : cg = some (.inr E, u')) (h2 : mg = some v') (h3 : m_thrown v' = k) (h4 : Rel u' v') : SV Rel cg mg es := Or.inr ⟨(E, k), u', v', hm, h1, h2, h3, h4⟩

section RELSK
variable {u : GS} {v : MS}
/-- the class's fields of works k -/
def fldC (u : GS) (k a b c d e : Nat) : Prop := cB_lanes u k = nI a ∧ cB_froms u k = nI b ∧ cB_tos u k = nI c ∧ cB_begins u k = nI d ∧ cB_ends u k = nI e
theorem three_c {i j k a a' a'' b b' b'' c c' c'' d d' d'' e e' e'' : Nat} (hi : i < 8) (hj : j < 8) (hk : k < 8) (h1 : fldC u i a b c d e) (h2 : fldC u j a' b' c' d' e') (h3 : fldC u k a'' b'' c'' d'' e'') (ha : a < 2 ^ 31) (ha' : a' < 2 ^ 31) (ha'' : a'' < 2 ^ 31) : g_X0_areInThreeLanes u (nI i) (nI j) (nI k) = some (if a ≠ a' ∧ a ≠ a'' ∧ a' ≠ a'' then 1 else 0) := by
  have gi : ∀ {α : Type} (a : Option α), g_in (nI i) 8 a = a := fun a => pz_inN hi (by decide) a
  have gj : ∀ {α : Type} (a : Option α), g_in (nI j) 8 a = a := fun a => pz_inN hj (by decide) a
  have gk : ∀ {α : Type} (a : Option α), g_in (nI k) 8 a = a := fun a => pz_inN hk (by decide) a
  simp only [g_X0_areInThreeLanes, gi, gj, gk, cl_I (show i < 2 ^ 31 by omega), cl_I (show j < 2 ^ 31 by omega), cl_I (show k < 2 ^ 31 by omega), h1.1, h2.1, h3.1, nI_eq ha ha', nI_eq ha ha'', nI_eq ha' ha'']
  by_cases c1 : a = a'
  · rw [if_pos c1, if_neg (fun z => z.1 c1)]
  · by_cases c2 : a = a''
    · rw [if_neg c1, if_pos c2, if_neg (fun z => z.2.1 c2)]
    · by_cases c3 : a' = a''
      · rw [if_neg c1, if_neg c2, if_pos c3, if_neg (fun z => z.2.2 c3)]
      · rw [if_neg c1, if_neg c2, if_neg c3, if_pos ⟨c1, c2, c3⟩]
theorem meet_c {i j k a a' a'' b b' b'' c c' c'' d d' d'' e e' e'' : Nat} (hi : i < 8) (hj : j < 8) (hk : k < 8) (h1 : fldC u i a b c d e) (h2 : fldC u j a' b' c' d' e') (h3 : fldC u k a'' b'' c'' d'' e'') (hb : b ≤ 600 ∧ b' ≤ 600 ∧ b'' ≤ 600 ∧ c ≤ 600 ∧ c' ≤ 600 ∧ c'' ≤ 600 ∧ d ≤ 600 ∧ d' ≤ 600 ∧ d'' ≤ 600 ∧ e ≤ 600 ∧ e' ≤ 600 ∧ e'' ≤ 600) : g_X0_doMeet u (nI i) (nI j) (nI k) = some (if max b (max b' b'') ≤ min c (min c' c'') ∧ max d (max d' d'') < min e (min e' e'') then 1 else 0) := by
  have gi : ∀ {α : Type} (a : Option α), g_in (nI i) 8 a = a := fun a => pz_inN hi (by decide) a
  have gj : ∀ {α : Type} (a : Option α), g_in (nI j) 8 a = a := fun a => pz_inN hj (by decide) a
  have gk : ∀ {α : Type} (a : Option α), g_in (nI k) 8 a = a := fun a => pz_inN hk (by decide) a
  have m1 := mxI b' b'' (by omega) (by omega)
  have m2 := mxI b (max b' b'') (by omega) (by omega)
  have m3 := mnI c' c'' (by omega) (by omega)
  have m4 := mnI c (min c' c'') (by omega) (by omega)
  have m5 := mxI d' d'' (by omega) (by omega)
  have m6 := mxI d (max d' d'') (by omega) (by omega)
  have m7 := mnI e' e'' (by omega) (by omega)
  have m8 := mnI e (min e' e'') (by omega) (by omega)
  simp only [g_X0_doMeet, gi, gj, gk, cl_I (show i < 2 ^ 31 by omega), cl_I (show j < 2 ^ 31 by omega), cl_I (show k < 2 ^ 31 by omega), h1.2.1, h2.2.1, h3.2.1, h1.2.2.1, h2.2.2.1, h3.2.2.1, h1.2.2.2.1, h2.2.2.2.1, h3.2.2.2.1, h1.2.2.2.2, h2.2.2.2.2, h3.2.2.2.2, pz_let, m1, m2, m3, m4, m5, m6, m7, m8]
  have l1 : (nI (min c (min c' c'')) < nI (max b (max b' b''))) = ¬ (max b (max b' b'') ≤ min c (min c' c'')) := propext ((nI_ltI (by omega) (by omega)).trans (by omega))
  have l2 : (nI (min e (min e' e'')) ≤ nI (max d (max d' d''))) = ¬ (max d (max d' d'') < min e (min e' e'')) := propext ((nI_leI (by omega) (by omega)).trans (by omega))
  by_cases c1 : max b (max b' b'') ≤ min c (min c' c'')
  · by_cases c2 : max d (max d' d'') < min e (min e' e'')
    · rw [if_neg (fun z => by rw [l1] at z; exact z c1), if_neg (fun z => by rw [l2] at z; exact z c2), if_pos ⟨c1, c2⟩]
    · rw [if_neg (fun z => by rw [l1] at z; exact z c1), if_pos (by rw [l2]; exact c2), if_neg (fun z => c2 z.2)]
  · rw [if_pos (by rw [l1]; exact c1), if_neg (fun z => c1 z.1)]
/-- whether the pair (i, j) and the new one take the last lane -/
def tkC (u : GS) (w i j : Nat) : Prop := g_X0_areInThreeLanes u (nI i) (nI j) (nI w) = some 1 ∧ g_X0_doMeet u (nI i) (nI j) (nI w) = some 1
/-- each of the two tests answers 0 or 1 -/
def binC (u : GS) (w : Nat) : Prop := ∀ i j : Nat, i < w → j < i → (g_X0_areInThreeLanes u (nI i) (nI j) (nI w) = some 1 ∨ g_X0_areInThreeLanes u (nI i) (nI j) (nI w) = some 0) ∧ (g_X0_doMeet u (nI i) (nI j) (nI w) = some 1 ∨ g_X0_doMeet u (nI i) (nI j) (nI w) = some 0)
theorem next_in {w i : Nat} (hw : w < 8) (ew : cB_count u = nI w) (hb : binC u w) (hi : i < w) (k : Unit → Option Int32) : (lp_X0_nextTakesLastLane_27 u (nI i) k FU 0 = k () ∧ ∀ j : Nat, j < i → ¬ tkC u w i j) ∨ (lp_X0_nextTakesLastLane_27 u (nI i) k FU 0 = some 1 ∧ ∃ j : Nat, j < i ∧ tkC u w i j) := by
  have main := lpE (fun n (z : Int32) => lp_X0_nextTakesLastLane_27 u (nI i) k n z) i (by omega) (fun j z => z = nI j ∧ ∀ t : Nat, t < j → ¬ tkC u w i t) (fun x => x = some 1 ∧ ∃ j : Nat, j < i ∧ tkC u w i j) (by
    rintro n j z hj ⟨rfl, hz⟩
    have lt : ¬ nI i ≤ nI j := nI_ge hj (by omega)
    have go : ¬ tkC u w i j → ∀ t : Nat, t < j + 1 → ¬ tkC u w i t := fun c t ht => by
      by_cases e : t = j
      · rw [e]
        exact c
      · exact hz t (by omega)
    obtain ⟨b1, b2⟩ := hb i j hi hj
    rcases b1 with b1 | b1
    · rcases b2 with b2 | b2
      · refine Or.inr ⟨?_, j, hj, b1, b2⟩
        show lp_X0_nextTakesLastLane_27 u _ _ (n + 1) (nI j) = _
        simp only [lp_X0_nextTakesLastLane_27, eq_false lt, if_false, ew, b1, b2, pz_bind, pz_let, z10]
      · refine Or.inl ⟨nI (j + 1), ⟨rfl, go (fun z => absurd (Option.some.inj (b2.symm.trans z.2)) (by decide))⟩, ?_⟩
        show lp_X0_nextTakesLastLane_27 u _ _ (n + 1) (nI j) = lp_X0_nextTakesLastLane_27 u _ _ n _
        simp only [lp_X0_nextTakesLastLane_27, eq_false lt, if_false, ew, b1, b2, pz_bind, pz_let, z10, if_true, nI_1]
    · refine Or.inl ⟨nI (j + 1), ⟨rfl, go (fun z => absurd (Option.some.inj (b1.symm.trans z.1)) (by decide))⟩, ?_⟩
      show lp_X0_nextTakesLastLane_27 u _ _ (n + 1) (nI j) = lp_X0_nextTakesLastLane_27 u _ _ n _
      simp only [lp_X0_nextTakesLastLane_27, eq_false lt, if_false, ew, b1, pz_bind, pz_let, if_true, nI_1]) 0 ⟨rfl, fun t ht => absurd ht (Nat.not_lt_zero t)⟩
  rcases main with ⟨n, z, ⟨rfl, hz⟩, h1⟩ | h
  · refine Or.inl ⟨h1.trans ?_, hz⟩
    show lp_X0_nextTakesLastLane_27 u _ _ (n + 1) (nI i) = _
    rw [lp_X0_nextTakesLastLane_27, if_pos (nI_le (Nat.le_refl i) (by omega))]
  · exact Or.inr h
theorem next_out {w : Nat} (hw : w < 8) (ew : cB_count u = nI w) (hb : binC u w) : (g_X0_nextTakesLastLane u = some 0 ∧ ∀ i j : Nat, i < w → j < i → ¬ tkC u w i j) ∨ (g_X0_nextTakesLastLane u = some 1 ∧ ∃ i j : Nat, i < w ∧ j < i ∧ tkC u w i j) := by
  have i1 : g_X9_isWithin (nI w) 0 7 = some 1 := isw (k := w) (a := 0) (b := 7) _ rfl (Nat.zero_le w) (by omega) (by decide) _ _
  have st : g_X0_nextTakesLastLane u = lp_X0_nextTakesLastLane_17 u (fun (_ : Unit) => some (0 : Int32)) FU (0 : Int32) := by
    rw [g_X0_nextTakesLastLane, ew, i1, pz_bind, if_neg (by decide)]
  rw [st]
  have main := lpE (fun n (z : Int32) => lp_X0_nextTakesLastLane_17 u (fun (_ : Unit) => some (0 : Int32)) n z) w (by omega) (fun i z => z = nI i ∧ ∀ t j : Nat, t < i → j < t → ¬ tkC u w t j) (fun x => x = some 1 ∧ ∃ i j : Nat, i < w ∧ j < i ∧ tkC u w i j) (by
    rintro n i z hi ⟨rfl, hz⟩
    have lt : ¬ cB_count u ≤ nI i := by
      rw [ew]
      exact nI_ge hi (by omega)
    rcases next_in hw ew hb hi (fun (_ : Unit) => g_let (nI i + 1) (fun (v14 : Int32) => lp_X0_nextTakesLastLane_17 u (fun (_ : Unit) => some (0 : Int32)) n v14)) with ⟨m1, M1⟩ | ⟨m1, j, hj, M1⟩
    · refine Or.inl ⟨nI (i + 1), ⟨rfl, fun t j ht hj => ?_⟩, ?_⟩
      · by_cases e : t = i
        · rw [e] at hj ⊢
          exact M1 j hj
        · exact hz t j (by omega) hj
      · show lp_X0_nextTakesLastLane_17 u _ (n + 1) (nI i) = lp_X0_nextTakesLastLane_17 u _ n _
        rw [lp_X0_nextTakesLastLane_17, if_neg lt, m1, pz_let, nI_1]
    · refine Or.inr ⟨?_, i, j, hi, hj, M1⟩
      show lp_X0_nextTakesLastLane_17 u _ (n + 1) (nI i) = _
      rw [lp_X0_nextTakesLastLane_17, if_neg lt, m1]) 0 ⟨rfl, fun t j ht => absurd ht (Nat.not_lt_zero t)⟩
  rcases main with ⟨n, z, ⟨rfl, hz⟩, h1⟩ | h
  · refine Or.inl ⟨h1.trans ?_, hz⟩
    show lp_X0_nextTakesLastLane_17 u _ (n + 1) (nI w) = _
    rw [lp_X0_nextTakesLastLane_17, if_pos (by rw [ew]; exact nI_le (Nat.le_refl w) (by omega))]
  · exact Or.inr h
end RELSK

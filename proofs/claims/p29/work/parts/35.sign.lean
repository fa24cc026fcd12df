/-! BESIDE THE CLAIM, NO PART OF IT: p29's words of the speed signs, of the class's own bytecode: behind SpeedSigns.setAnew (its contract is k_X7_setAnew) each sign is at most 20 above the next one, whatever is ordered by hand -/
theorem sg_p1 : ∀ k : Nat, k < 12 → (nI k + (-1)).toInt = (k : Int) - 1 := by decide +kernel
theorem sg_loop (p0 : Int32) : ∀ (n : Nat) (x : Int32) (w r : GS), lp_X7_setAnew_4 p0 (fun (w4 : GS) => some w4) n x w = some r → x.toInt ≤ 11 → (∀ s : Nat, s < 11 → x.toInt < s → cS_shown w s ≤ cS_shown w (s + 1) + 20) → ∀ s : Nat, s < 11 → cS_shown r s ≤ cS_shown r (s + 1) + 20 := by
  intro n
  induction n with
  | zero =>
    intro x w r h
    cases h
  | succ n ih =>
    intro x w r h hx hv
    rw [lp_X7_setAnew_4] at h
    by_cases c : x < 0
    · replace h := gx_t c h
      cases h
      intro s hs
      refine hv s hs ?_
      have h0 : x.toInt < (0 : Int32).toInt := Int32.lt_iff_toInt_lt.mp c
      have h9 : (0 : Int32).toInt = 0 := by decide
      omega
    · replace h := gx_f c h
      obtain ⟨k, hk, rfl⟩ := nI_of c
      rw [nI_toInt hk] at hx hv
      obtain ⟨y2, -, h⟩ := gx_bind h
      obtain ⟨y4, -, h⟩ := gx_bind h
      obtain ⟨y6, -, h⟩ := gx_bind h
      obtain ⟨j48, e48, h⟩ := gx_let h
      have h1 : ∃ z, j48 z = some r := by
        by_cases c6 : y6 = 0
        · exact ⟨_, gx_t c6 h⟩
        · exact ⟨_, (gx_in (gx_f c6 h)).2⟩
      clear h
      obtain ⟨z, h⟩ := h1
      subst e48
      obtain ⟨j78, e78, h⟩ := gx_let h
      have h2 : ∃ v, j78 v = some r ∧ (k < 11 → v ≤ cS_shown w (k + 1) + 20) := by
        by_cases c12 : (12 : Int32) ≤ nI k + 1
        · refine ⟨_, gx_t c12 h, fun hk1 => ?_⟩
          rw [nI_1, show (12 : Int32) = nI 12 from rfl, nI_leI (by decide) (by omega)] at c12
          omega
        · obtain ⟨-, h⟩ := gx_in (gx_f c12 h)
          obtain ⟨v, ev, h⟩ := gx_let h
          refine ⟨v, h, fun hk1 => ?_⟩
          rw [nI_1, nI_clamp (by omega)] at ev
          rw [← ev]
          split
          · exact Int32.le_refl _
          · rename_i q
            exact Int32.not_lt.mp q
      clear h
      obtain ⟨v, h, hle⟩ := h2
      subst e78
      obtain ⟨-, h⟩ := gx_in h
      obtain ⟨j98, e98, h⟩ := gx_let h
      have h3 : ∃ w', cS_shown w' = cS_shown w ∧ j98 w' = some r := by
        by_cases c3 : cS_shown w (nI k).toNatClampNeg ≤ v
        · exact ⟨w, rfl, gx_t c3 h⟩
        · obtain ⟨-, h⟩ := gx_in (gx_f c3 h)
          obtain ⟨u17, e17, h⟩ := gx_let h
          exact ⟨u17, by rw [← e17]; rfl, h⟩
      clear h
      obtain ⟨w', ew, h⟩ := h3
      subst e98
      obtain ⟨-, h⟩ := gx_in h
      obtain ⟨u13, e13, h⟩ := gx_let h
      obtain ⟨v14, e14, h⟩ := gx_let h
      have hs13 : cS_shown u13 = upd (cS_shown w) k v := by
        rw [← e13]
        show upd (cS_shown w') (nI k).toNatClampNeg v = _
        rw [ew, nI_clamp hk]
      have hx14 : v14.toInt = (k : Int) - 1 := by
        rw [← e14]
        exact sg_p1 k (by omega)
      refine ih v14 u13 r h (by omega) (fun s hs hlt => ?_)
      rw [hs13]
      by_cases e : s = k
      · subst e
        have a1 : upd (cS_shown w) s v s = v := if_pos rfl
        have a2 : upd (cS_shown w) s v (s + 1) = cS_shown w (s + 1) := if_neg (by omega)
        rw [a1, a2]
        exact hle hs
      · have a1 : upd (cS_shown w) k v s = cS_shown w s := if_neg e
        have a2 : upd (cS_shown w) k v (s + 1) = cS_shown w (s + 1) := if_neg (by omega)
        rw [a1, a2]
        exact hv s hs (by omega)
theorem sign_next {u w : GS} {m : Int32} (h : g_X7_setAnew u m = some w) : ∀ s : Nat, s < 11 → cS_shown w s ≤ cS_shown w (s + 1) + 20 :=
  sg_loop m FU 11 u w h (by decide) (fun s hs q => by
    have h9 : (11 : Int32).toInt = 11 := by decide
    omega)

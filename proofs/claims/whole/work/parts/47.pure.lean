/-! the patrols of one minute, and the minute itself -/
section RELSH
variable {u : GS} {v : MS}
theorem has1 {n k : Nat} (hn : n ≤ 12) (n1 : cI_count u = nI n) (hk : k < n) : g_X2_has u (nI k) = some 1 := by
  have i1 : g_X9_isWithin (nI k) 0 11 = some 1 := isw (k := k) (a := 0) (b := 11) _ rfl (Nat.zero_le k) (by omega) (by decide) _ _
  simp only [g_X2_has, i1, pz_bind, z10, if_false, n1, eq_false (nI_ge hk (by omega))]
theorem clrS {q : Nat} (hq : q < 48) : g_X8_clearStopped u (nI q) = some (cT_stopped_set u (upd (cT_stopped u) q 0)) := by
  have i1 : g_X9_isWithin (nI q) 0 47 = some 1 := isw (k := q) (a := 0) (b := 47) _ rfl (Nat.zero_le q) (by omega) (by decide) _ _
  simp only [g_X8_clearStopped, i1, pz_bind, z10, if_false, pz_inN hq (show 48 < 2 ^ 31 by decide), cl_I (show q < 2 ^ 31 by omega), pz_let, vnb0]
theorem patStep (h : Rel u v) {j : Nat} (hj : j < 3) (n : Nat) : ∃ (u' : GS) (v' : MS), Rel u' v' ∧ (c_minute u' = c_minute u ∧ m_thrown v' = m_thrown v) ∧ lp_X9_movePatrols_2 (fun w => some w) (n + 1) (nI j) u = lp_X9_movePatrols_2 (fun w => some w) n (nI (j + 1)) u' ∧ lp_X10_patrols_2 (fun w => some w) (n + 1) (nI j) v = lp_X10_patrols_2 (fun w => some w) n (nI (j + 1)) v' := by
  obtain ⟨hM, hT, hD, hS, hO, hH, hI, hP, hB, hK⟩ := id h
  obtain ⟨m, hm, n1, n2, pl, hw, hpl, ha, hb⟩ := id hI
  have g3 : ∀ {α : Type} (a : Option α), g_in (nI j) 3 a = a := fun a => pz_inN hj (by decide) a
  have cj := cl_I (show j < 2 ^ 31 by omega)
  have m1 : mP_sentTo v = cP_incidents u := hP.sent
  have m2 : mP_left v = cP_minutesLeft u := hP.left
  have m3 : mP_at v = cP_sections u := hP.at'
  have m4 : mT_isStopped v = cT_stopped u := hT.stopped
  rcases hP.2.2 j hj with ⟨c1, -⟩ | ⟨c1, x, x1, x2, ex⟩
  · refine ⟨u, v, h, ⟨rfl, rfl⟩, ?_, ?_⟩
    · simp only [lp_X9_movePatrols_2, c_ge 3 3 hj (by decide), if_false, g3, cj, pz_let, eq_true c1, if_true, nI_1]
    · simp only [lp_X10_patrols_2, c_ge 3 3 hj (by decide), if_false, g3, cj, pz_let, m1, eq_true c1, if_true, nI_1]
  · have b4 : nI x - 1 = nI (x - 1) := pk_sub (b := 1) x1
    have lS : ∀ (w : GS) f, cP_minutesLeft (cP_minutesLeft_set w f) = f := fun _ _ => rfl
    have lM : ∀ (w : MS) f, mP_left (mP_left_set w f) = f := fun _ _ => rfl
    have us : upd (cP_minutesLeft u) j (nI (x - 1)) j = nI (x - 1) := pk_us
    by_cases z : x = 1
    · -- its work ends
      have e0 : nI (x - 1) = 0 := by rw [z]; rfl
      have p0 : (0 < nI (x - 1)) = False := eq_false (by rw [e0]; decide)
      obtain ⟨k, hk, sk, pk⟩ : ∃ k : Nat, k < m ∧ cP_incidents u j = nI k ∧ cI_patrols u k = nI j := by
        rcases ha j hj with q | ⟨k, k1, k2, k3⟩
        · rw [m1] at q
          exact absurd q c1
        · exact ⟨k, k1, by rw [← m1]; exact k2, k3⟩
      obtain ⟨q, hq, eq1⟩ := hpl k hk
      have g12 : ∀ {α : Type} (a : Option α), g_in (nI k) 12 a = a := fun a => pz_inN (by omega) (by decide) a
      have g48 : ∀ {α : Type} (a : Option α), g_in (nI q) 48 a = a := fun a => pz_inN hq (by decide) a
      have ck := cl_I (show k < 2 ^ 31 by omega)
      have cq := cl_I (show q < 2 ^ 31 by omega)
      have q4 : nI q / (4 : Int32) = nI (q / 4) := pk_div (d := 4) (by omega) (by omega) (by omega)
      have hs1 := has1 (u := cP_minutesLeft_set u (upd (cP_minutesLeft u) j (nI (x - 1)))) hm n1 hk
      have cl1 := clrS (u := cP_minutesLeft_set u (upd (cP_minutesLeft u) j (nI (x - 1)))) hq
      have so := secOf (u := cI_patrols_set (cI_how_set (cT_stopped_set (cP_minutesLeft_set u (upd (cP_minutesLeft u) j (nI (x - 1)))) (upd (cT_stopped u) q 0)) (upd (cI_how u) k 2)) (upd (cI_patrols u) k (-1))) hm n1 hk hq eq1
      have t1 : ∀ f, cP_incidents (cP_minutesLeft_set u f) = cP_incidents u := fun _ => rfl
      have t2 : ∀ f, cI_places (cP_minutesLeft_set u f) = cI_places u := fun _ => rfl
      have t3 : ∀ f, cT_stopped (cP_minutesLeft_set u f) = cT_stopped u := fun _ => rfl
      have t4 : ∀ f g, cI_how (cT_stopped_set (cP_minutesLeft_set u f) g) = cI_how u := fun _ _ => rfl
      have t5 : ∀ f g h, cI_patrols (cI_how_set (cT_stopped_set (cP_minutesLeft_set u f) g) h) = cI_patrols u := fun _ _ _ => rfl
      have t6 : ∀ f g h i, cP_sections (cI_patrols_set (cI_how_set (cT_stopped_set (cP_minutesLeft_set u f) g) h) i) = cP_sections u := fun _ _ _ _ => rfl
      have t7 : ∀ f g h i s, cP_incidents (cP_sections_set (cI_patrols_set (cI_how_set (cT_stopped_set (cP_minutesLeft_set u f) g) h) i) s) = cP_incidents u := fun _ _ _ _ _ => rfl
      have r1 : ∀ f, mP_sentTo (mP_left_set v f) = mP_sentTo v := fun _ => rfl
      have r2 : ∀ f, mI_state (mP_left_set v f) = mI_state v := fun _ => rfl
      have r3 : ∀ f g, mP_sentTo (mI_state_set (mP_left_set v f) g) = mP_sentTo v := fun _ _ => rfl
      have r4 : ∀ f g, mI_placed (mI_state_set (mP_left_set v f) g) = mI_placed v := fun _ _ => rfl
      have r5 : ∀ f g, mT_isStopped (mI_state_set (mP_left_set v f) g) = mT_isStopped v := fun _ _ => rfl
      have r6 : ∀ f g h, mP_sentTo (mT_isStopped_set (mI_state_set (mP_left_set v f) g) h) = mP_sentTo v := fun _ _ _ => rfl
      have r7 : ∀ f g h, mI_placed (mT_isStopped_set (mI_state_set (mP_left_set v f) g) h) = mI_placed v := fun _ _ _ => rfl
      have r8 : ∀ f g h, mP_at (mT_isStopped_set (mI_state_set (mP_left_set v f) g) h) = mP_at v := fun _ _ _ => rfl
      have r9 : ∀ f g h a, mP_sentTo (mP_at_set (mT_isStopped_set (mI_state_set (mP_left_set v f) g) h) a) = mP_sentTo v := fun _ _ _ _ => rfl
      have pl2 : mI_placed v = cI_places u := pl.symm
      have hw2 : mI_state v = cI_how u := hw.symm
      -- the state behind
      have hA : ∀ j' : Nat, j' < 3 → (upd (cP_incidents u) j (-1) j' = -1 ∨ ∃ k' : Nat, k' < m ∧ upd (cP_incidents u) j (-1) j' = nI k' ∧ upd (cI_patrols u) k (-1) k' = nI j') := by
        intro j' hj'
        by_cases e : j' = j
        · rw [e, pk_us]
          exact Or.inl rfl
        · rw [pk_un e]
          rcases ha j' hj' with w | ⟨k', y1, y2, y3⟩
          · exact Or.inl (by rw [← m1]; exact w)
          · refine Or.inr ⟨k', y1, by rw [← m1]; exact y2, ?_⟩
            rw [pk_un (fun e2 => by
              rw [e2, pk, nI_eq (by omega) (by omega)] at y3
              exact e y3.symm)]
            exact y3
      have hB' : ∀ k' : Nat, k' < m → (upd (cI_patrols u) k (-1) k' = -1 ∨ ∃ j' : Nat, j' < 3 ∧ upd (cI_patrols u) k (-1) k' = nI j' ∧ upd (cP_incidents u) j (-1) j' = nI k') := by
        intro k' hk'
        by_cases e : k' = k
        · rw [e, pk_us]
          exact Or.inl rfl
        · rw [pk_un e]
          rcases hb k' hk' with w | ⟨j', y1, y2, y3⟩
          · exact Or.inl w
          · refine Or.inr ⟨j', y1, y2, ?_⟩
            rw [m1] at y3
            rw [pk_un (fun e2 => by
              rw [e2, sk, nI_eq (by omega) (by omega)] at y3
              exact e y3.symm)]
            exact y3
      have hC : ∀ j' : Nat, j' < 3 → ∃ s : Nat, s < 12 ∧ upd (cP_sections u) j (nI (q / 4)) j' = nI s := by
        intro j' hj'
        by_cases e : j' = j
        · rw [e, pk_us]
          exact ⟨q / 4, by omega, rfl⟩
        · rw [pk_un e]
          exact hP.2.1 j' hj'
      have hE : ∀ j' : Nat, j' < 3 → ((upd (cP_incidents u) j (-1) j' = -1 ∧ upd (cP_minutesLeft u) j (nI (x - 1)) j' = 0) ∨ (¬ upd (cP_incidents u) j (-1) j' = -1 ∧ ∃ x' : Nat, 1 ≤ x' ∧ x' ≤ 1000 ∧ upd (cP_minutesLeft u) j (nI (x - 1)) j' = nI x')) := by
        intro j' hj'
        by_cases e : j' = j
        · rw [e, pk_us, pk_us]
          exact Or.inl ⟨rfl, e0⟩
        · rw [pk_un e, pk_un e]
          exact hP.2.2 j' hj'
      have hT2 : qcT (cP_incidents_set (cP_sections_set (cI_patrols_set (cI_how_set (cT_stopped_set (cP_minutesLeft_set u (upd (cP_minutesLeft u) j (nI (x - 1)))) (upd (cT_stopped u) q 0)) (upd (cI_how u) k 2)) (upd (cI_patrols u) k (-1))) (upd (cP_sections u) j (nI (q / 4)))) (upd (cP_incidents u) j (-1))) = qmT (mP_sentTo_set (mP_at_set (mT_isStopped_set (mI_state_set (mP_left_set v (upd (cP_minutesLeft u) j (nI (x - 1)))) (upd (cI_how u) k 2)) (upd (cT_stopped u) q 0)) (upd (cP_sections u) j (nI (q / 4)))) (upd (cP_incidents u) j (-1))) := congrArg (fun t : cT_t => (t.1, upd (cT_stopped u) q 0, t.2.2)) hT.1
      have hP2 : qcP (cP_incidents_set (cP_sections_set (cI_patrols_set (cI_how_set (cT_stopped_set (cP_minutesLeft_set u (upd (cP_minutesLeft u) j (nI (x - 1)))) (upd (cT_stopped u) q 0)) (upd (cI_how u) k 2)) (upd (cI_patrols u) k (-1))) (upd (cP_sections u) j (nI (q / 4)))) (upd (cP_incidents u) j (-1))) = qmP (mP_sentTo_set (mP_at_set (mT_isStopped_set (mI_state_set (mP_left_set v (upd (cP_minutesLeft u) j (nI (x - 1)))) (upd (cI_how u) k 2)) (upd (cT_stopped u) q 0)) (upd (cP_sections u) j (nI (q / 4)))) (upd (cP_incidents u) j (-1))) := rfl
      have hI2 : RI (cP_incidents_set (cP_sections_set (cI_patrols_set (cI_how_set (cT_stopped_set (cP_minutesLeft_set u (upd (cP_minutesLeft u) j (nI (x - 1)))) (upd (cT_stopped u) q 0)) (upd (cI_how u) k 2)) (upd (cI_patrols u) k (-1))) (upd (cP_sections u) j (nI (q / 4)))) (upd (cP_incidents u) j (-1))) (mP_sentTo_set (mP_at_set (mT_isStopped_set (mI_state_set (mP_left_set v (upd (cP_minutesLeft u) j (nI (x - 1)))) (upd (cI_how u) k 2)) (upd (cT_stopped u) q 0)) (upd (cP_sections u) j (nI (q / 4)))) (upd (cP_incidents u) j (-1))) := ⟨m, hm, n1, n2, pl, rfl, hpl, hA, hB'⟩
      have hR : Rel (cP_incidents_set (cP_sections_set (cI_patrols_set (cI_how_set (cT_stopped_set (cP_minutesLeft_set u (upd (cP_minutesLeft u) j (nI (x - 1)))) (upd (cT_stopped u) q 0)) (upd (cI_how u) k 2)) (upd (cI_patrols u) k (-1))) (upd (cP_sections u) j (nI (q / 4)))) (upd (cP_incidents u) j (-1))) (mP_sentTo_set (mP_at_set (mT_isStopped_set (mI_state_set (mP_left_set v (upd (cP_minutesLeft u) j (nI (x - 1)))) (upd (cI_how u) k 2)) (upd (cT_stopped u) q 0)) (upd (cP_sections u) j (nI (q / 4)))) (upd (cP_incidents u) j (-1))) := ⟨hM, ⟨hT2, hT.2⟩, hD, hS, hO, hH, hI2, ⟨hP2, hC, hE⟩, hB, hK⟩
      refine ⟨cP_incidents_set (cP_sections_set (cI_patrols_set (cI_how_set (cT_stopped_set (cP_minutesLeft_set u (upd (cP_minutesLeft u) j (nI (x - 1)))) (upd (cT_stopped u) q 0)) (upd (cI_how u) k 2)) (upd (cI_patrols u) k (-1))) (upd (cP_sections u) j (nI (q / 4)))) (upd (cP_incidents u) j (-1)), mP_sentTo_set (mP_at_set (mT_isStopped_set (mI_state_set (mP_left_set v (upd (cP_minutesLeft u) j (nI (x - 1)))) (upd (cI_how u) k 2)) (upd (cT_stopped u) q 0)) (upd (cP_sections u) j (nI (q / 4)))) (upd (cP_incidents u) j (-1)), hR, ⟨rfl, rfl⟩, ?_, ?_⟩
      · have ew : g_X9_endWorkOf (cP_minutesLeft_set u (upd (cP_minutesLeft u) j (nI (x - 1)))) (nI j) = some (cP_incidents_set (cP_sections_set (cI_patrols_set (cI_how_set (cT_stopped_set (cP_minutesLeft_set u (upd (cP_minutesLeft u) j (nI (x - 1)))) (upd (cT_stopped u) q 0)) (upd (cI_how u) k 2)) (upd (cI_patrols u) k (-1))) (upd (cP_sections u) j (nI (q / 4)))) (upd (cP_incidents u) j (-1))) := by
          simp only [g_X9_endWorkOf, g3, cj, pz_let, t1, sk, hs1, pz_bind, z10, if_false, g12, ck, t2, eq1, cl1, t3, t4, t5, so, t6, t7]
        simp only [lp_X9_movePatrols_2, c_ge 3 3 hj (by decide), if_false, g3, cj, pz_let, eq_false c1, ex, b4, lS, us, p0, ew, pz_bind, nI_1]
      · have e0' : (nI (x - 1) = 0) = True := eq_true e0
        have c1' : (nI k = -1) = False := eq_false (nm1 k (by omega))
        simp only [lp_X10_patrols_2, c_ge 3 3 hj (by decide), if_false, g3, cj, pz_let, m1, sk, c1', m2, ex, b4, lM, us, e0', if_true, r1, r2, r3, r4, r5, r6, r7, r8, r9, pl2, hw2, m3, m4, g12, ck, eq1, g48, cq, vnb0, q4, nI_1]
    · have e0 : (nI (x - 1) = 0) = False := eq_false (nI_ne0 (by omega) (by omega))
      have p0 : (0 < nI (x - 1)) = True := eq_true (nI_lt (a := 0) (by omega) (by omega))
      refine ⟨cP_minutesLeft_set u (upd (cP_minutesLeft u) j (nI (x - 1))), mP_left_set v (upd (cP_minutesLeft u) j (nI (x - 1))), ⟨hM, hT, hD, hS, hO, hH, hI, ⟨congrArg (fun t : cP_t => (t.1, t.2.1, upd (cP_minutesLeft u) j (nI (x - 1)))) hP.1, hP.2.1, ?_⟩, hB, hK⟩, ⟨rfl, rfl⟩, ?_, ?_⟩
      · intro j' hj'
        show (cP_incidents u j' = -1 ∧ upd (cP_minutesLeft u) j (nI (x - 1)) j' = 0) ∨ (¬ cP_incidents u j' = -1 ∧ ∃ x' : Nat, 1 ≤ x' ∧ x' ≤ 1000 ∧ upd (cP_minutesLeft u) j (nI (x - 1)) j' = nI x')
        by_cases e : j' = j
        · rw [e, pk_us]
          exact Or.inr ⟨c1, x - 1, by omega, by omega, rfl⟩
        · rw [pk_un e]
          exact hP.2.2 j' hj'
      · simp only [lp_X9_movePatrols_2, c_ge 3 3 hj (by decide), if_false, g3, cj, pz_let, eq_false c1, ex, b4, lS, us, p0, if_true, nI_1]
      · simp only [lp_X10_patrols_2, c_ge 3 3 hj (by decide), if_false, g3, cj, pz_let, m1, eq_false c1, m2, ex, b4, lM, us, e0, nI_1]
theorem patAll (h : Rel u v) : ∃ (u' : GS) (v' : MS), Rel u' v' ∧ (c_minute u' = c_minute u ∧ m_thrown v' = m_thrown v) ∧ g_X9_movePatrols u = some u' ∧ g_X10_patrols v = some v' := by
  obtain ⟨n, z, t, ⟨a, b, hab, ⟨e1, e2⟩, rfl, rfl⟩, h1, h2⟩ := lpR (fun n (z : Int32 × GS) => lp_X9_movePatrols_2 (fun w => some w) n z.1 z.2) (fun n (t : Int32 × MS) => lp_X10_patrols_2 (fun w => some w) n t.1 t.2) 3 (by decide) (fun i z t => ∃ (a : GS) (b : MS), Rel a b ∧ (c_minute a = c_minute u ∧ m_thrown b = m_thrown v) ∧ z = (nI i, a) ∧ t = (nI i, b)) (by
    rintro n i z t hi ⟨a, b, hab, ⟨e1, e2⟩, rfl, rfl⟩
    obtain ⟨a', b', h', ⟨e3, e4⟩, s1, s2⟩ := patStep hab hi n
    exact ⟨(nI (i + 1), a'), (nI (i + 1), b'), ⟨a', b', h', ⟨e3.trans e1, e4.trans e2⟩, rfl, rfl⟩, s1, s2⟩) (0, u) (0, v) ⟨u, v, h, ⟨rfl, rfl⟩, rfl, rfl⟩
  refine ⟨a, b, hab, ⟨e1, e2⟩, h1.trans ?_, h2.trans ?_⟩
  · show lp_X9_movePatrols_2 _ (n + 1) (nI 3) _ = _
    rw [lp_X9_movePatrols_2, if_pos (by rw [c_le 3 3 (by decide)]; trivial)]
  · show lp_X10_patrols_2 _ (n + 1) (nI 3) _ = _
    rw [lp_X10_patrols_2, if_pos (by rw [c_le 3 3 (by decide)]; trivial)]
end RELSH

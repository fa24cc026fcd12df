section RELSI
variable {u : GS} {v : MS}
/-- the minute behind the patrols: signs, traffic, speeds, proofs -/
theorem minute2 (h : Rel u v) : ∃ (u' : GS) (v' : MS), Rel u' v' ∧ (c_minute u' = c_minute u ∧ m_thrown v' = m_thrown v) ∧
    g_bind (g_X9_setLaneSigns u) (fun (y4 : GS) => g_bind (g_X8_goOn y4) (fun (y6 : GS) => g_bind (g_X8_arrive y6) (fun (y8 : GS) => g_bind (g_X8_judgeBroken y8) (fun (y10 : GS) => g_bind (g_X7_setAnew y10 (c_minute y10)) (fun (y12 : GS) => g_bind (g_X5_keep y12 (c_minute y12)) (fun (y14 : GS) => some y14)))))) = some u' ∧
    lp_X10_minute_17 (fun (w17 : MS) => g_bind (g_X10_comes w17) (fun (y10 : MS) => lp_X10_minute_52 (fun (w52 : MS) => g_bind (g_X10_setsSpeeds w52) (fun (y25 : MS) => g_bind (g_X10_keeps y25) (fun (y27 : MS) => some y27))) FU (0 : Int32) y10)) FU (11 : Int32) v = some v' := by
  obtain ⟨hM, hT, hD, hS, hO, hH, hI, hP, hB, hK⟩ := id h
  have hv : smV v := smV_of hI hB
  obtain ⟨f, g, e1, hg⟩ := setLane hM hO.1 hH.1 hI hB
  have hU : Rel (cL_shown_set (cL_told_set u f) g) v := ⟨hM, hT, hD, hS, hO, hH, hI, hP, hB, hK⟩
  have hg2 : ∀ p : Nat, p < 48 → cL_shown (cL_shown_set (cL_told_set u f) g) p = sgV v p := hg
  have hm : c_minute (cL_shown_set (cL_told_set u f) g) = c_minute u := rfl
  rw [e1, pz_bind]
  generalize cL_shown_set (cL_told_set u f) g = U at hU hg2 hm ⊢
  obtain ⟨hM, hT, hD, hS, hO, hH, hI, hP, hB, hK⟩ := id hU
  have hTB : TB (qcT U) := hT.2
  obtain ⟨T1, hT1, g1, g2⟩ := goAll (u := U) (T := qcT U) hv hg2 hTB (fun (w17 : MS) => g_bind (g_X10_comes w17) (fun (y10 : MS) => lp_X10_minute_52 (fun (w52 : MS) => g_bind (g_X10_setsSpeeds w52) (fun (y25 : MS) => g_bind (g_X10_keeps y25) (fun (y27 : MS) => some y27))) FU (0 : Int32) y10))
  have vT : qmT_put v (qcT U) = v := by
    rw [hT.1]
    rfl
  rw [vT] at g2
  obtain ⟨T2, hT2, a1, a2⟩ := arrive (u := U) (T := (T1.1, T1.2.1, T1.2.2.1, T1.2.2.2.1, T1.2.2.2.2.1 + T1.2.2.2.1, T1.2.2.2.2.2.1 + T1.2.2.2.1, T1.2.2.2.2.2.2)) hv hg2 hT1
  have a1' : g_X8_arrive (qcT_put U T1) = some (qcT_put U T2) := a1
  have a2' : g_X10_comes (qmT_put v T1) = some (qmT_put v T2) := a2
  obtain ⟨T3, hT3, j1, j2⟩ := judge (u := U) (v := v) hT2 (fun (w52 : MS) => g_bind (g_X10_setsSpeeds w52) (fun (y25 : MS) => g_bind (g_X10_keeps y25) (fun (y27 : MS) => some y27)))
  have hSB : SB (qcS U) := hS.2
  obtain ⟨S4, hS4, s1, s2⟩ := speeds (u := qcT_put U T3) (v := qmT_put v T3) (S := qcS U) ⟨rfl, hT3⟩ hD hSB
  have s1' : g_X7_setAnew (qcT_put U T3) (c_minute (qcT_put U T3)) = some (qcS_put (qcT_put U T3) S4) := by
    rw [show c_minute (qcT_put U T3) = m_now (qmT_put v T3) from hM.1]
    exact s1
  have vS : qmS_put (qmT_put v T3) (qcS U) = qmT_put v T3 := by
    rw [hS.1]
    rfl
  rw [vS] at s2
  obtain ⟨K5, F5, hKF, k1, k2⟩ := keepB (u := qcS_put (qcT_put U T3) S4) (v := qmS_put (qmT_put v T3) S4) hM ⟨rfl, hS4⟩ hO hv hK hg2
  refine ⟨cK_kept_set (qcS_put (qcT_put U T3) S4) K5, mK_proofs_set (qmS_put (qmT_put v T3) S4) F5, ⟨hM, ⟨rfl, hT3⟩, hD, ⟨rfl, hS4⟩, hO, hH, hI, hP, hB, hKF⟩, ⟨hm, rfl⟩, ?_, ?_⟩
  · rw [show g_X8_goOn U = some (qcT_put U T1) from g1, pz_bind, a1', pz_bind, j1, pz_bind, s1', pz_bind, k1, pz_bind]
  · rw [g2, a2', pz_bind, j2, s2, pz_bind, k2, pz_bind]
theorem minute1 (h : Rel u v) {t : Nat} (ht : t < 600) (et : c_minute u = nI t) : ∃ (u' : GS) (v' : MS), Rel u' v' ∧ (c_minute u' = nI (t + 1) ∧ m_thrown v' = m_thrown v) ∧ g_X9_comeToNextMinute u = some u' ∧ g_X10_minute v = some v' := by
  obtain ⟨hM, hT, hD, hS, hO, hH, hI, hP, hB, hK⟩ := id h
  have en : m_now v = nI t := hM.1.symm.trans et
  have h1 : Rel (c_minute_set u (nI (t + 1))) (m_now_set v (nI (t + 1))) := ⟨⟨rfl, t + 1, by omega, rfl⟩, hT, hD, hS, hO, hH, hI, hP, hB, hK⟩
  obtain ⟨u2, v2, h2, ⟨e1, e2⟩, p1, p2⟩ := patAll h1
  obtain ⟨u3, v3, h3, ⟨e3, e4⟩, q1, q2⟩ := minute2 h2
  refine ⟨u3, v3, h3, ⟨e3.trans e1, e4.trans e2⟩, ?_, ?_⟩
  · rw [g_X9_comeToNextMinute, pz_let, et, nI_1, p1, pz_bind]
    exact q1
  · rw [g_X10_minute, pz_let, en, nI_1, p2, pz_bind]
    exact q2
theorem sim_pass (h : Rel u v) (p : Int32) : SI Rel (g_X9_pass u p) (g_X10_pass v p) [("java/lang/IllegalArgumentException", 1), ("java/lang/IllegalStateException", 2)] := by
  obtain ⟨hM, hT, hD, hS, hO, hH, hI, hP, hB, hK⟩ := id h
  obtain ⟨em, t, ht, et⟩ := hM
  have en : m_now v = nI t := em.symm.trans et
  rcases iwc p 1 60 with ⟨h1, h2, e1, e2⟩ | ⟨-, e1, e2⟩
  · obtain ⟨m, hm, rfl⟩ := ix_of 60 (n := 60) rfl (by decide) (ge0 1 (by decide) h1) h2
    have l1 : ((600 : Int32) < nI t + nI m) = (600 < t + m) := propext (by
      rw [nI_add]
      exact nI_ltI (a := 600) (by decide) (by omega))
    have l2 : (nI t + nI m ≤ (600 : Int32)) = (t + m ≤ 600) := propext (by
      rw [nI_add]
      exact nI_leI (b := 600) (by omega) (by decide))
    by_cases c : t + m ≤ 600
    · obtain ⟨n, z, y, ⟨a, b, hab, ⟨i1, i2⟩, rfl, rfl⟩, r1, r2⟩ := lpR (fun n (z : Int32 × GS) => lp_X9_pass_32 (nI m) (fun (w32 : GS) => some (.inl (c_minute w32), w32)) n z.1 z.2) (fun n (y : Int32 × MS) => lp_X10_pass_42 (nI m) (fun (w42 : MS) => some ((m_now w42), w42)) n y.1 y.2) m (by omega) (fun i z y => ∃ (a : GS) (b : MS), Rel a b ∧ (c_minute a = nI (t + i) ∧ m_thrown b = 0) ∧ z = (nI i, a) ∧ y = (nI i, b)) (by
        rintro n i z y hi ⟨a, b, hab, ⟨i1, i2⟩, rfl, rfl⟩
        obtain ⟨a', b', h', ⟨i3, i4⟩, s1, s2⟩ := minute1 hab (show t + i < 600 by omega) i1
        refine ⟨(nI (i + 1), a'), (nI (i + 1), b'), ⟨a', b', h', ⟨i3, i4.trans i2⟩, rfl, rfl⟩, ?_, ?_⟩
        · show lp_X9_pass_32 _ _ (n + 1) (nI i) _ = lp_X9_pass_32 _ _ n _ _
          rw [lp_X9_pass_32, if_neg (nI_ge hi (by omega)), s1, pz_bind, pz_let, nI_1]
        · show lp_X10_pass_42 _ _ (n + 1) (nI i) _ = lp_X10_pass_42 _ _ n _ _
          rw [lp_X10_pass_42, if_neg (nI_ge hi (by omega)), s2, pz_bind, pz_let, nI_1]) (0, u) (0, m_thrown_set v 0) ⟨u, m_thrown_set v 0, h, ⟨et, rfl⟩, rfl, rfl⟩
      have f1 : lp_X9_pass_32 (nI m) (fun (w32 : GS) => some (.inl (c_minute w32), w32)) (n + 1) (nI m) a = some (.inl (c_minute a), a) := by
        rw [lp_X9_pass_32, if_pos (nI_le (Nat.le_refl m) (by omega))]
      have f2 : lp_X10_pass_42 (nI m) (fun (w42 : MS) => some ((m_now w42), w42)) (n + 1) (nI m) b = some (m_now b, b) := by
        rw [lp_X10_pass_42, if_pos (nI_le (Nat.le_refl m) (by omega))]
      refine SI_ok (m_now b) ?_ ?_ i2 hab
      · rw [← hab.1.1]
        refine Eq.trans ?_ (r1.trans f1)
        simp only [g_X9_pass, e1, pz_bind, pz_na1, pz_xl, pz_let, et, l1, eq_false (show ¬ 600 < t + m by omega), if_false, pz_ns1]
      · refine Eq.trans ?_ (r2.trans f2)
        simp only [g_X10_pass, e2, pz_bind, pz_let, z10, if_false, en, l2, eq_true c, if_true, pz_h0]
    · refine SI_no "java/lang/IllegalStateException" 2 0 (u' := u) (v' := m_thrown_set v 2) es2 ?_ ?_ rfl h
      · simp only [g_X9_pass, e1, pz_bind, pz_na1, pz_xl, pz_xr, id, pz_let, et, l1, eq_true (show 600 < t + m by omega), if_true, pz_ns]
      · simp only [g_X10_pass, e2, pz_bind, pz_let, z10, z00, if_false, en, l2, eq_false c, if_true, pz_h2]
  · exact SI_no "java/lang/IllegalArgumentException" 1 0 (v' := m_thrown_set v 1) es1 (by simp only [g_X9_pass, e1, pz_bind, pz_na, pz_xr, id]) (by simp only [g_X10_pass, e2, pz_bind, pz_let, z00, if_true, pz_h1]) rfl h
end RELSI

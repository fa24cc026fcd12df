theorem xor60 : ∀ t : Nat, t < 601 → 0 ≤ (nI t ^^^ (60 : Int32)) := by decide +kernel
theorem sub59 : ∀ t : Nat, t < 601 → (nI t - (60 : Int32)) + (1 : Int32) = nI t - nI 59 := by decide +kernel
theorem slotN {t s : Nat} (ht : t ≤ 600) : g_X5_slotOf (nI t) (nI s) = some (nI (12 * (t % 60) + s)) := by
  have r1 : nI t - nI t / (60 : Int32) * (60 : Int32) = nI (t % 60) := pk_rem (d := 60) (by omega) (by omega) (by omega)
  have f1 : g_J9_floorMod_7cf53 (nI t) 60 = some (nI (t % 60)) := by
    rw [g_J9_floorMod_7cf53, pz_nz (by decide), pz_let, r1, if_pos (xor60 t (by omega))]
  have e1 : nI (t % 60) * (12 : Int32) + nI s = nI (12 * (t % 60) + s) := by
    rw [show (12 : Int32) = nI 12 from rfl, pk_mul, nI_add, Nat.mul_comm]
  simp only [g_X5_slotOf, f1, pz_bind, e1]
theorem proofN {v : MS} {t s w : Nat} (ht : t ≤ 600) (hs : s < 12) (hw : w < 5) : g_X10_proofOf v (nI t) (nI s) (nI w) = some (mK_proofs v (60 * (t % 60) + 5 * s + w)) := by
  have r1 : nI t - nI t / (60 : Int32) * (60 : Int32) = nI (t % 60) := pk_rem (d := 60) (by omega) (by omega) (by omega)
  have e1 : (((60 : Int32) * nI (t % 60)) + ((5 : Int32) * nI s)) + nI w = nI (60 * (t % 60) + 5 * s + w) := by
    rw [show (60 : Int32) = nI 60 from rfl, show (5 : Int32) = nI 5 from rfl, pk_mul, pk_mul, nI_add, nI_add]
  simp only [g_X10_proofOf, r1, e1, pz_inN (show 60 * (t % 60) + 5 * s + w < 3600 by omega) (show 3600 < 2 ^ 31 by decide), cl_I (show 60 * (t % 60) + 5 * s + w < 2 ^ 31 by omega)]
section RELS8
variable {u : GS} {v : MS}
theorem kept (hM : RM u v) (p : Int32) (hp : ¬ p < 0) : (∃ m : Nat, m ≤ 600 ∧ p = nI m ∧ g_X5_isKept p (c_minute u) = some 1 ∧ g_X10_isKept v p = some 1) ∨ (g_X5_isKept p (c_minute u) = some 0 ∧ g_X10_isKept v p = some 0) := by
  obtain ⟨e, t, ht, e2⟩ := hM
  obtain ⟨m, hm, rfl⟩ := nI_of hp
  have s1 := sub59 t (by omega)
  by_cases c1 : t < m
  · refine Or.inr ⟨?_, ?_⟩
    · have i1 : g_X9_isWithin (nI m) (nI t - nI 59) (nI t) = some 0 := iw0 (fun z => z.2 (nI_lt c1 hm))
      simp only [g_X5_isKept, e2, s1, i1, pz_bind, pz_bo0]
    · rw [g_X10_isKept, ← e, e2, if_pos (nI_lt c1 hm)]
  · have l1 : ¬ nI t < nI m := nI_nlt (by omega) (by omega)
    have k1 : (nI m < nI t - nI 59) = (m + 59 < t) := propext (by
      rw [Int32.lt_iff_toInt_lt, pk_sub_toInt (by omega) (by omega), nI_toInt hm]
      omega)
    have k2 : (nI m ≤ nI t - (60 : Int32)) = (m + 60 ≤ t) := propext (by
      rw [show (60 : Int32) = nI 60 from rfl, Int32.le_iff_toInt_le, pk_sub_toInt (by omega) (by omega), nI_toInt hm]
      omega)
    by_cases c2 : m + 60 ≤ t
    · refine Or.inr ⟨?_, ?_⟩
      · have i1 : g_X9_isWithin (nI m) (nI t - nI 59) (nI t) = some 0 := iw0 (fun z => z.1 (by rw [k1]; omega))
        simp only [g_X5_isKept, e2, s1, i1, pz_bind, pz_bo0]
      · rw [g_X10_isKept, ← e, e2, if_neg l1, if_pos (k2.mpr c2)]
    · refine Or.inl ⟨m, by omega, rfl, ?_, ?_⟩
      · have i1 : g_X9_isWithin (nI m) (nI t - nI 59) (nI t) = some 1 := iw1 (by rw [k1]; omega) l1
        simp only [g_X5_isKept, e2, s1, i1, pz_bind, pz_bo1]
      · rw [g_X10_isKept, ← e, e2, if_neg l1, if_neg (fun z => c2 (k2.mp z))]
theorem spd_c (hK : RK u v) {m s : Nat} (hm : m ≤ 600) (hs : s < 12) : ∃ x : Nat, x ≤ 120 ∧ g_X5_speedSign u (nI m) (nI s) = some (nI x) ∧ mK_proofs v (60 * (m % 60) + 5 * s) = nI x := by
  obtain ⟨x, a, b, c, d, hx, ha, hb, hc, hd, p0, p1, p2, p3, p4, kp⟩ := hK (m % 60) s (by omega) hs
  refine ⟨x, hx, ?_, p0⟩
  have sh : nI (256 * x + 64 * d + 16 * c + 4 * b + a) >>> ((8 : Int32) &&& 31) = nI x := by
    rw [pk_shrN (by omega) _ 8 (by decide)]
    exact congrArg nI (by omega)
  simp only [g_X5_speedSign, slotN hm, pz_bind, pz_inN (show 12 * (m % 60) + s < 720 by omega) (show 720 < 2 ^ 31 by decide), cl_I (show 12 * (m % 60) + s < 2 ^ 31 by omega), kp, sh]
theorem lane_c (hK : RK u v) {m s w : Nat} (hm : m ≤ 600) (hs : s < 12) (hw : w < 4) : g_X5_laneSign u (nI m) (nI s) (nI w) = some (mK_proofs v (60 * (m % 60) + 5 * s + (w + 1))) := by
  obtain ⟨x, a, b, c, d, hx, ha, hb, hc, hd, p0, p1, p2, p3, p4, kp⟩ := hK (m % 60) s (by omega) hs
  have fin : ∀ z : Int32, (nI (256 * x + 64 * d + 16 * c + 4 * b + a) >>> (((2 : Int32) * nI w) &&& 31)) &&& (3 : Int32) = z → mK_proofs v (60 * (m % 60) + 5 * s + (w + 1)) = z → g_X5_laneSign u (nI m) (nI s) (nI w) = some (mK_proofs v (60 * (m % 60) + 5 * s + (w + 1))) := fun z h1 h2 => by
    rw [h2, ← h1]
    simp only [g_X5_laneSign, slotN hm, pz_bind, pz_inN (show 12 * (m % 60) + s < 720 by omega) (show 720 < 2 ^ 31 by decide), cl_I (show 12 * (m % 60) + s < 2 ^ 31 by omega), kp]
  have h4 : w = 0 ∨ w = 1 ∨ w = 2 ∨ w = 3 := by omega
  rcases h4 with rfl | rfl | rfl | rfl
  · refine fin (nI a) ?_ p1
    rw [pk_shrN (by omega) _ 0 (by decide), pk_andN (by omega) 2 (by decide)]
    exact congrArg nI (by omega)
  · refine fin (nI b) ?_ p2
    rw [pk_shrN (by omega) _ 2 (by decide), pk_andN (by omega) 2 (by decide)]
    exact congrArg nI (by omega)
  · refine fin (nI c) ?_ p3
    rw [pk_shrN (by omega) _ 4 (by decide), pk_andN (by omega) 2 (by decide)]
    exact congrArg nI (by omega)
  · refine fin (nI d) ?_ p4
    rw [pk_shrN (by omega) _ 6 (by decide), pk_andN (by omega) 2 (by decide)]
    exact congrArg nI (by omega)
theorem sim_proof (h : Rel u v) (p q r : Int32) : SI Rel (g_X9_proof u p q r) (g_X10_proof v p q r) [("java/lang/IndexOutOfBoundsException", 1), ("java/lang/IllegalArgumentException", 2), ("java/lang/IllegalStateException", 3)] := by
  obtain ⟨hM, hT, hD, hS, hO, hH, hI, hP, hB, hK⟩ := id h
  rcases secc u q with ⟨e1, e2⟩ | ⟨s, hs, rfl, e1, e2⟩
  · exact SI_no "java/lang/IndexOutOfBoundsException" 1 0 (v' := m_thrown_set v 1) es1 (by simp only [g_X9_proof, e1, pz_xr, id]) (by simp only [g_X10_proof, e2, pz_bind, pz_let, z00, if_true, pz_h1]) rfl h
  · by_cases p0 : p < 0
    · exact SI_no "java/lang/IllegalArgumentException" 2 0 (v' := m_thrown_set v 2) es2 (by simp only [g_X9_proof, e1, pz_xl, pz_let, eq_true p0, if_true, pz_na, pz_xr, id]) (by simp only [g_X10_proof, e2, pz_bind, pz_let, z10, z00, eq_true p0, if_true, if_false, pz_h2]) rfl h
    · rcases iwc r 0 4 with ⟨h1, h2, f1, f2⟩ | ⟨-, f1, f2⟩
      · rcases kept hM p p0 with ⟨m, hm, rfl, g1, g2⟩ | ⟨g1, g2⟩
        · obtain ⟨w, hw, rfl⟩ := ix_of 4 (n := 4) rfl (by decide) h1 h2
          have pr : g_X10_proofOf (m_thrown_set v 0) (nI m) (nI s) (nI w) = some (mK_proofs v (60 * (m % 60) + 5 * s + w)) := proofN (v := m_thrown_set v 0) hm hs (by omega)
          have mo : g_X10_proof v (nI m) (nI s) (nI w) = some (mK_proofs v (60 * (m % 60) + 5 * s + w), m_thrown_set v 0) := by
            simp only [g_X10_proof, e2, pz_bind, pz_let, z10, z00, eq_false p0, f2, g2, if_false, pz_h0, pr]
          refine SI_ok (u' := u) _ ?_ mo rfl h
          cases w with
          | zero =>
            obtain ⟨x, hx, x1, x2⟩ := spd_c hK hm hs
            simp only [g_X9_proof, e1, pz_xl, pz_let, eq_false p0, if_false, pz_na1, f1, pz_bind, g1, pz_ns1, eq_true (show nI 0 = 0 from rfl), if_true, x1, Nat.add_zero, x2]
          | succ n =>
            have sb : nI (n + 1) - 1 = nI n := nI_pred n
            have nz : (nI (n + 1) = 0) = False := eq_false (nI_ne0 (by omega) (by omega))
            simp only [g_X9_proof, e1, pz_xl, pz_let, eq_false p0, if_false, pz_na1, f1, pz_bind, g1, pz_ns1, nz, sb, lane_c hK hm hs (show n < 4 by omega)]
        · exact SI_no "java/lang/IllegalStateException" 3 0 (v' := m_thrown_set v 3) es3 (by simp only [g_X9_proof, e1, pz_xl, pz_let, eq_false p0, if_false, pz_na1, f1, pz_bind, g1, pz_ns, pz_xr, id]) (by simp only [g_X10_proof, e2, pz_bind, pz_let, z10, z00, eq_false p0, f2, g2, if_true, if_false, pz_h3]) rfl h
      · exact SI_no "java/lang/IllegalArgumentException" 2 0 (v' := m_thrown_set v 2) es2 (by simp only [g_X9_proof, e1, pz_xl, pz_let, eq_false p0, if_false, pz_na1, f1, pz_bind, pz_na, pz_xr, id]) (by simp only [g_X10_proof, e2, pz_bind, pz_let, z10, z00, eq_false p0, f2, if_true, if_false, pz_h2]) rfl h
theorem sim_isFined (h : Rel u v) (p q r : Int32) : SI Rel (g_X9_isFined u p q r) (g_X10_isFined v p q r) [("java/lang/IndexOutOfBoundsException", 1), ("java/lang/IllegalArgumentException", 2), ("java/lang/IllegalStateException", 3)] := by
  obtain ⟨hM, hT, hD, hS, hO, hH, hI, hP, hB, hK⟩ := id h
  rcases secc u q with ⟨e1, e2⟩ | ⟨s, hs, rfl, e1, e2⟩
  · exact SI_no "java/lang/IndexOutOfBoundsException" 1 0 (v' := m_thrown_set v 1) es1 (by simp only [g_X9_isFined, e1, pz_xr, id]) (by simp only [g_X10_isFined, e2, pz_bind, pz_let, z00, if_true, pz_h1]) rfl h
  · by_cases p0 : p < 0
    · exact SI_no "java/lang/IllegalArgumentException" 2 0 (v' := m_thrown_set v 2) es2 (by simp only [g_X9_isFined, e1, pz_xl, pz_let, eq_true p0, if_true, pz_na, pz_xr, id]) (by simp only [g_X10_isFined, e2, pz_bind, pz_let, z10, z00, eq_true p0, if_true, if_false, pz_h2]) rfl h
    · rcases iwc r 0 250 with ⟨h1, h2, f1, f2⟩ | ⟨-, f1, f2⟩
      · rcases kept hM p p0 with ⟨m, hm, rfl, g1, g2⟩ | ⟨g1, g2⟩
        · obtain ⟨w, hw, rfl⟩ := ix_of 250 (n := 250) rfl (by decide) h1 h2
          obtain ⟨x, hx, x1, x2⟩ := spd_c hK hm hs
          have pr : g_X10_proofOf (m_thrown_set v 0) (nI m) (nI s) 0 = some (nI x) := by
            have := proofN (v := m_thrown_set v 0) hm hs (show 0 < 5 by omega)
            rw [Nat.add_zero] at this
            exact this.trans (congrArg some x2)
          have k1 : (nI w - nI x < (10 : Int32)) = (w < x + 10) := propext (by
            rw [Int32.lt_iff_toInt_lt, pk_sub_toInt (by omega) (by omega), show (10 : Int32).toInt = 10 from by decide]
            omega)
          have k2 : (nI w < nI x + (10 : Int32)) = (w < x + 10) := propext (by
            rw [show (10 : Int32) = nI 10 from rfl, nI_add]
            exact nI_ltI (by omega) (by omega))
          by_cases c : w < x + 10
          · refine SI_ok (u' := u) (v' := m_thrown_set v 0) 0 ?_ ?_ rfl h
            · simp only [g_X9_isFined, e1, pz_xl, pz_let, eq_false p0, if_false, pz_na1, f1, pz_bind, g1, pz_ns1, x1, k1, eq_true c, if_true]
            · simp only [g_X10_isFined, e2, pz_bind, pz_let, z10, z00, eq_false p0, f2, g2, if_false, pz_h0, pr, k2, eq_true c, if_true]
          · refine SI_ok (u' := u) (v' := m_thrown_set v 0) 1 ?_ ?_ rfl h
            · simp only [g_X9_isFined, e1, pz_xl, pz_let, eq_false p0, if_false, pz_na1, f1, pz_bind, g1, pz_ns1, x1, k1, eq_false c]
            · simp only [g_X10_isFined, e2, pz_bind, pz_let, z10, z00, eq_false p0, f2, g2, if_false, pz_h0, pr, k2, eq_false c]
        · exact SI_no "java/lang/IllegalStateException" 3 0 (v' := m_thrown_set v 3) es3 (by simp only [g_X9_isFined, e1, pz_xl, pz_let, eq_false p0, if_false, pz_na1, f1, pz_bind, g1, pz_ns, pz_xr, id]) (by simp only [g_X10_isFined, e2, pz_bind, pz_let, z10, z00, eq_false p0, f2, g2, if_true, if_false, pz_h3]) rfl h
      · exact SI_no "java/lang/IllegalArgumentException" 2 0 (v' := m_thrown_set v 2) es2 (by simp only [g_X9_isFined, e1, pz_xl, pz_let, eq_false p0, if_false, pz_na1, f1, pz_bind, pz_na, pz_xr, id]) (by simp only [g_X10_isFined, e2, pz_bind, pz_let, z10, z00, eq_false p0, f2, if_true, if_false, pz_h2]) rfl h
end RELS8

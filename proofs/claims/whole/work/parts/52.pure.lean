section RELSM
variable {u : GS} {v : MS}
def fldM (v : MS) (k a b c d e : Nat) : Prop := mB_worksLane v k = nI a ∧ mB_worksFrom v k = nI b ∧ mB_worksTo v k = nI c ∧ mB_worksBegin v k = nI d ∧ mB_worksEnd v k = nI e
def wrM (v : MS) (w : Nat) (a b c d e : Int32) : MS := mB_worksEnd_set (mB_worksBegin_set (mB_worksTo_set (mB_worksFrom_set (mB_worksLane_set v (upd (mB_worksLane v) w a)) (upd (mB_worksFrom v) w b)) (upd (mB_worksTo v) w c)) (upd (mB_worksBegin v) w d)) (upd (mB_worksEnd v) w e)
theorem wrM_f {w k : Nat} (hk : k ≠ w) {a b c d e : Nat} (A B C D E : Int32) (h : fldM v k a b c d e) : fldM (wrM v w A B C D E) k a b c d e := ⟨(pk_un hk).trans h.1, (pk_un hk).trans h.2.1, (pk_un hk).trans h.2.2.1, (pk_un hk).trans h.2.2.2.1, (pk_un hk).trans h.2.2.2.2⟩
theorem wrM_w {w a b c d e : Nat} : fldM (wrM v w (nI a) (nI b) (nI c) (nI d) (nI e)) w a b c d e := ⟨pk_us, pk_us, pk_us, pk_us, pk_us⟩
theorem putC (w : Nat) (a b c d e n : Int32) : cB_count_set (wrC u w a b c d e) n = qcB_put u (upd (cB_lanes u) w a, upd (cB_froms u) w b, upd (cB_tos u) w c, upd (cB_begins u) w d, upd (cB_ends u) w e, n) := rfl
theorem putM (t9 : MS) (w : Nat) (a b c d e n : Int32) : mB_works_set (mB_worksEnd_set (mB_worksBegin_set (mB_worksTo_set (mB_worksFrom_set (mB_worksLane_set v (upd (mB_worksLane t9) w a)) (upd (mB_worksFrom t9) w b)) (upd (mB_worksTo t9) w c)) (upd (mB_worksBegin t9) w d)) (upd (mB_worksEnd t9) w e)) n = qmB_put v (upd (mB_worksLane t9) w a, upd (mB_worksFrom t9) w b, upd (mB_worksTo t9) w c, upd (mB_worksBegin t9) w d, upd (mB_worksEnd t9) w e, n) := rfl
theorem acc (h : Rel u v) {w : Nat} (hw : w ≤ 8) (w7 : w < 8) (ew : cB_count u = nI w) (ew2 : mB_works v = nI w) (hall : ∀ k : Nat, k < w → ∃ a b c d e : Nat, 1 ≤ a ∧ a ≤ 3 ∧ 1 ≤ b ∧ b ≤ c ∧ c ≤ 11 ∧ d < e ∧ e ≤ 600 ∧ (cB_lanes u k = nI a ∧ cB_froms u k = nI b ∧ cB_tos u k = nI c ∧ cB_begins u k = nI d ∧ cB_ends u k = nI e) ∧ (mB_worksLane v k = nI a ∧ mB_worksFrom v k = nI b ∧ mB_worksTo v k = nI c ∧ mB_worksBegin v k = nI d ∧ mB_worksEnd v k = nI e)) {a b c d e : Nat} (ha : 1 ≤ a ∧ a ≤ 3) (hb : 1 ≤ b ∧ b ≤ c ∧ c ≤ 11) (hd : d < e ∧ e ≤ 600) : Rel (qcB_put u (upd (cB_lanes u) w (nI a), upd (cB_froms u) w (nI b), upd (cB_tos u) w (nI c), upd (cB_begins u) w (nI d), upd (cB_ends u) w (nI e), nI (w + 1))) (qmB_put (m_thrown_set v 0) (upd (mB_worksLane v) w (nI a), upd (mB_worksFrom v) w (nI b), upd (mB_worksTo v) w (nI c), upd (mB_worksBegin v) w (nI d), upd (mB_worksEnd v) w (nI e), nI (w + 1))) := by
  obtain ⟨hM, hT, hD, hS, hO, hH, hI, hP, hB, hK⟩ := id h
  refine ⟨hM, hT, hD, hS, hO, hH, hI, hP, ⟨w + 1, by omega, rfl, rfl, fun k hk => ?_⟩, hK⟩
  by_cases ek : k = w
  · rw [ek]
    exact ⟨a, b, c, d, e, ha.1, ha.2, hb.1, hb.2.1, hb.2.2, hd.1, hd.2, ⟨pk_us, pk_us, pk_us, pk_us, pk_us⟩, ⟨pk_us, pk_us, pk_us, pk_us, pk_us⟩⟩
  · obtain ⟨a1, b1, c1, d1, e1, x1, x2, x3, x4, x5, x6, x7, fc, fm⟩ := hall k (by omega)
    exact ⟨a1, b1, c1, d1, e1, x1, x2, x3, x4, x5, x6, x7, ⟨(pk_un ek).trans fc.1, (pk_un ek).trans fc.2.1, (pk_un ek).trans fc.2.2.1, (pk_un ek).trans fc.2.2.2.1, (pk_un ek).trans fc.2.2.2.2⟩, ⟨(pk_un ek).trans fm.1, (pk_un ek).trans fm.2.1, (pk_un ek).trans fm.2.2.1, (pk_un ek).trans fm.2.2.2.1, (pk_un ek).trans fm.2.2.2.2⟩⟩
theorem putW (w : Nat) (a b c d e : Int32) : wrC u w a b c d e = qcB_put u (upd (cB_lanes u) w a, upd (cB_froms u) w b, upd (cB_tos u) w c, upd (cB_begins u) w d, upd (cB_ends u) w e, cB_count u) := rfl
theorem rej (h : Rel u v) {w : Nat} (hw : w ≤ 8) (w7 : w < 8) (ew : cB_count u = nI w) (ew2 : mB_works v = nI w) (hall : ∀ k : Nat, k < w → ∃ a b c d e : Nat, 1 ≤ a ∧ a ≤ 3 ∧ 1 ≤ b ∧ b ≤ c ∧ c ≤ 11 ∧ d < e ∧ e ≤ 600 ∧ (cB_lanes u k = nI a ∧ cB_froms u k = nI b ∧ cB_tos u k = nI c ∧ cB_begins u k = nI d ∧ cB_ends u k = nI e) ∧ (mB_worksLane v k = nI a ∧ mB_worksFrom v k = nI b ∧ mB_worksTo v k = nI c ∧ mB_worksBegin v k = nI d ∧ mB_worksEnd v k = nI e)) (a b c d e : Int32) : Rel (qcB_put u (upd (cB_lanes u) w a, upd (cB_froms u) w b, upd (cB_tos u) w c, upd (cB_begins u) w d, upd (cB_ends u) w e, cB_count u)) (m_thrown_set v 3) := by
  obtain ⟨hM, hT, hD, hS, hO, hH, hI, hP, hB, hK⟩ := id h
  refine ⟨hM, hT, hD, hS, hO, hH, hI, hP, ⟨w, hw, ew, ew2, fun k hk => ?_⟩, hK⟩
  have ek : k ≠ w := Nat.ne_of_lt hk
  obtain ⟨a1, b1, c1, d1, e1, x1, x2, x3, x4, x5, x6, x7, fc, fm⟩ := hall k hk
  exact ⟨a1, b1, c1, d1, e1, x1, x2, x3, x4, x5, x6, x7, ⟨(pk_un ek).trans fc.1, (pk_un ek).trans fc.2.1, (pk_un ek).trans fc.2.2.1, (pk_un ek).trans fc.2.2.2.1, (pk_un ek).trans fc.2.2.2.2⟩, fm⟩
theorem sim_works (h : Rel u v) (p q r s t : Int32) : SI Rel (g_X9_works u p q r s t) (g_X10_works v p q r s t) [("java/lang/IndexOutOfBoundsException", 1), ("java/lang/IllegalArgumentException", 2), ("java/lang/IllegalStateException", 3)] := by
  obtain ⟨hM, hT, hD, hS, hO, hH, hI, hP, hB, hK⟩ := id h
  have em : m_now v = c_minute u := hM.1.symm
  rcases iwc p 1 3 with ⟨p1, p2, pa, pb⟩ | ⟨-, pa, pb⟩
  · rcases iwc q 1 11 with ⟨q1, q2, qa, qb⟩ | ⟨-, qa, qb⟩
    · rcases iwc r 1 11 with ⟨r1, r2, ra, rb⟩ | ⟨-, ra, rb⟩
      · rcases iwc s (c_minute u) 599 with ⟨s1, s2, sa, sb⟩ | ⟨-, sa, sb⟩
        · -- all there; the begin within its range
          by_cases c1 : r < q
          · exact SI_no "java/lang/IllegalArgumentException" 2 0 (u' := u) (v' := m_thrown_set v 2) es2 (by simp only [g_X9_works, pa, qa, ra, pz_bind, pz_ni1, pz_na, pz_xl, pz_xr, id, pz_let, eq_true c1, if_true]) (by simp only [g_X10_works, pb, qb, rb, pz_bind, pz_let, z00, z10, if_true, if_false, eq_true c1, pz_h2]) rfl h
          · by_cases c2 : t ≤ s
            · exact SI_no "java/lang/IllegalArgumentException" 2 0 (u' := u) (v' := m_thrown_set v 2) es2 (by simp only [g_X9_works, pa, qa, ra, sa, pz_bind, pz_ni1, pz_na, pz_na1, pz_xl, pz_xr, id, pz_let, eq_false c1, eq_true c2, if_true, if_false]) (by simp only [g_X10_works, pb, qb, rb, pz_bind, pz_let, z00, z10, if_true, if_false, eq_false c1, em, sb, eq_true c2, pz_h2]) rfl h
            · by_cases c3 : (600 : Int32) < t
              · exact SI_no "java/lang/IllegalArgumentException" 2 0 (u' := u) (v' := m_thrown_set v 2) es2 (by simp only [g_X9_works, pa, qa, ra, sa, pz_bind, pz_ni1, pz_na, pz_na1, pz_xl, pz_xr, id, pz_let, eq_false c1, eq_false c2, eq_true c3, if_true, if_false]) (by simp only [g_X10_works, pb, qb, rb, pz_bind, pz_let, z00, z10, if_true, if_false, eq_false c1, em, sb, eq_false c2, eq_true c3, pz_h2]) rfl h
              · obtain ⟨w, hw, ew, ew2, hall⟩ := id hB
                have w8 : ((8 : Int32) ≤ nI w) = (8 ≤ w) := propext (nI_leI (a := 8) (by decide) (by omega))
                have w8m : (nI w = (8 : Int32)) = (w = 8) := propext (nI_eq (b := 8) (by omega) (by decide))
                by_cases c4 : w = 8
                · exact SI_no "java/lang/IllegalStateException" 3 0 (u' := u) (v' := m_thrown_set v 3) es3 (by simp only [g_X9_works, pa, qa, ra, sa, pz_bind, pz_ni1, pz_na1, pz_ns, pz_xl, pz_xr, id, pz_let, eq_false c1, eq_false c2, eq_false c3, if_true, if_false, ew, w8, eq_true (show 8 ≤ w by omega)]) (by simp only [g_X10_works, pb, qb, rb, pz_bind, pz_let, z00, z10, if_true, if_false, eq_false c1, em, sb, eq_false c2, eq_false c3, ew2, w8m, eq_true c4, pz_h3]) rfl h
                · obtain ⟨a, ha, rfl⟩ := ix_of 3 (n := 3) rfl (by decide) (ge0 1 (by decide) p1) p2
                  obtain ⟨b, hb, rfl⟩ := ix_of 11 (n := 11) rfl (by decide) (ge0 1 (by decide) q1) q2
                  obtain ⟨c, hc, rfl⟩ := ix_of 11 (n := 11) rfl (by decide) (ge0 1 (by decide) r1) r2
                  obtain ⟨m, hm, etm⟩ := hM.2
                  have s0 : ¬ s < 0 := ge0 (c_minute u) (by rw [etm, nI_toInt (by omega)]; omega) s1
                  obtain ⟨d, hd, rfl⟩ := ix_of 599 (n := 599) rfl (by decide) s0 s2
                  have t0 : ¬ t < 0 := ge0 (nI d) (by rw [nI_toInt (by omega)]; omega) (fun z => c2 (by
                    rw [Int32.lt_iff_toInt_lt] at z
                    rw [Int32.le_iff_toInt_le]
                    omega))
                  obtain ⟨e, he, rfl⟩ := ix_of 600 (n := 600) rfl (by decide) t0 c3
                  have la := lo1 (by omega) p1
                  have lb := lo1 (by omega) q1
                  have lbc : b ≤ c := by
                    rw [nI_ltI (by omega) (by omega)] at c1
                    omega
                  have lde : d < e := by
                    rw [nI_leI (by omega) (by omega)] at c2
                    omega
                  have w7 : w < 8 := by omega
                  have g8 : ∀ {α : Type} (a : Option α), g_in (nI w) 8 a = a := fun a => pz_inN w7 (by decide) a
                  have cw := cl_I (show w < 2 ^ 31 by omega)
                  have cnt : cB_count (wrC u w (nI a) (nI b) (nI c) (nI d) (nI e)) = nI w := ew
                  rcases tooMany hB w7 ew ⟨la, ha⟩ ⟨lb, lbc, hc⟩ ⟨lde, he⟩ with ⟨k1, k2⟩ | ⟨k1, k2⟩
                  · have xs : ∀ f, cB_count (cB_count_set (wrC u w (nI a) (nI b) (nI c) (nI d) (nI e)) f) = f := fun _ => rfl
                    have y0 : mB_works (m_thrown_set v 0) = nI w := ew2
                    have y1 : ∀ f, mB_works (mB_worksLane_set (m_thrown_set v 0) f) = mB_works (m_thrown_set v 0) := fun _ => rfl
                    have y2 : ∀ (y : MS) f, mB_works (mB_worksFrom_set y f) = mB_works y := fun _ _ => rfl
                    have y3 : ∀ (y : MS) f, mB_works (mB_worksTo_set y f) = mB_works y := fun _ _ => rfl
                    have y4 : ∀ (y : MS) f, mB_works (mB_worksBegin_set y f) = mB_works y := fun _ _ => rfl
                    have y5 : ∀ (y : MS) f, mB_works (mB_worksEnd_set y f) = mB_works y := fun _ _ => rfl
                    have y6 : ∀ (y : MS) f, mB_works (mB_works_set y f) = f := fun _ _ => rfl
                    have v1 : mB_worksLane (m_thrown_set v 0) = mB_worksLane v := rfl
                    have v2 : ∀ f, mB_worksFrom (mB_worksLane_set (m_thrown_set v 0) f) = mB_worksFrom v := fun _ => rfl
                    have v3 : ∀ f g, mB_worksTo (mB_worksFrom_set (mB_worksLane_set (m_thrown_set v 0) f) g) = mB_worksTo v := fun _ _ => rfl
                    have v4 : ∀ f g h, mB_worksBegin (mB_worksTo_set (mB_worksFrom_set (mB_worksLane_set (m_thrown_set v 0) f) g) h) = mB_worksBegin v := fun _ _ _ => rfl
                    have v5 : ∀ f g h i, mB_worksEnd (mB_worksBegin_set (mB_worksTo_set (mB_worksFrom_set (mB_worksLane_set (m_thrown_set v 0) f) g) h) i) = mB_worksEnd v := fun _ _ _ _ => rfl
                    refine SI_ok (nI w) ?_ ?_ rfl (acc h hw w7 ew ew2 hall ⟨la, ha⟩ ⟨lb, lbc, hc⟩ ⟨lde, he⟩)
                    · simp only [g_X9_works, pa, qa, ra, sa, pz_bind, pz_ni1, pz_na1, pz_ns1, pz_xl, pz_let, eq_false c1, eq_false c2, eq_false c3, if_false, ew, w8, eq_false (show ¬ 8 ≤ w by omega), wr_c w7 ew, k1, if_true, cnt, nI_1, xs, nI_pred]
                      rw [putC]
                    · simp only [g_X10_works, pb, qb, rb, pz_bind, pz_let, z00, z10, if_true, if_false, eq_false c1, em, sb, eq_false c2, eq_false c3, ew2, w8m, eq_false c4, k2, pz_h0, y0, y1, y2, y3, y4, y5, y6, g8, cw, v1, v2, v3, v4, v5, nI_1, nI_pred]
                      rw [putM]
                  · refine SI_no "java/lang/IllegalStateException" 3 0 (v' := m_thrown_set v 3) es3 ?_ ?_ rfl (rej h hw w7 ew ew2 hall (nI a) (nI b) (nI c) (nI d) (nI e))
                    · simp only [g_X9_works, pa, qa, ra, sa, pz_bind, pz_ni1, pz_na1, pz_ns1, pz_ns, pz_xl, pz_xr, id, pz_let, eq_false c1, eq_false c2, eq_false c3, if_false, ew, w8, eq_false (show ¬ 8 ≤ w by omega), wr_c w7 ew, k1, z10]
                      rw [putW, ew]
                    · simp only [g_X10_works, pb, qb, rb, pz_bind, pz_let, z00, z10, if_true, if_false, eq_false c1, em, sb, eq_false c2, eq_false c3, ew2, w8m, eq_false c4, k2, pz_h3]
        · -- the begin out of its range
          by_cases c1 : r < q
          · exact SI_no "java/lang/IllegalArgumentException" 2 0 (u' := u) (v' := m_thrown_set v 2) es2 (by simp only [g_X9_works, pa, qa, ra, pz_bind, pz_ni1, pz_na, pz_xl, pz_xr, id, pz_let, eq_true c1, if_true]) (by simp only [g_X10_works, pb, qb, rb, pz_bind, pz_let, z00, z10, if_true, if_false, eq_true c1, pz_h2]) rfl h
          · exact SI_no "java/lang/IllegalArgumentException" 2 0 (u' := u) (v' := m_thrown_set v 2) es2 (by simp only [g_X9_works, pa, qa, ra, sa, pz_bind, pz_ni1, pz_na, pz_na1, pz_xl, pz_xr, id, pz_let, eq_false c1, if_false]) (by simp only [g_X10_works, pb, qb, rb, pz_bind, pz_let, z00, z10, if_true, if_false, eq_false c1, em, sb, pz_h2]) rfl h
      · rcases iwc s (c_minute u) 599 with ⟨-, -, -, sb⟩ | ⟨-, -, sb⟩
        · exact SI_no "java/lang/IndexOutOfBoundsException" 1 0 (u' := u) (v' := m_thrown_set v 1) es1 (by simp only [g_X9_works, pa, qa, ra, pz_bind, pz_ni, pz_ni1, pz_xl, pz_xr, id]) (by simp only [g_X10_works, pb, qb, rb, pz_bind, pz_let, z00, z10, if_true, if_false, em, sb, ite_self, pz_h1]) rfl h
        · exact SI_no "java/lang/IndexOutOfBoundsException" 1 0 (u' := u) (v' := m_thrown_set v 1) es1 (by simp only [g_X9_works, pa, qa, ra, pz_bind, pz_ni, pz_ni1, pz_xl, pz_xr, id]) (by simp only [g_X10_works, pb, qb, rb, pz_bind, pz_let, z00, z10, if_true, if_false, em, sb, ite_self, pz_h1]) rfl h
    · rcases iwc s (c_minute u) 599 with ⟨-, -, -, sb⟩ | ⟨-, -, sb⟩
      · exact SI_no "java/lang/IndexOutOfBoundsException" 1 0 (u' := u) (v' := m_thrown_set v 1) es1 (by simp only [g_X9_works, pa, qa, pz_bind, pz_ni, pz_ni1, pz_xl, pz_xr, id]) (by simp only [g_X10_works, pb, qb, pz_bind, pz_let, z00, z10, if_true, if_false, em, sb, ite_self, pz_h1]) rfl h
      · exact SI_no "java/lang/IndexOutOfBoundsException" 1 0 (u' := u) (v' := m_thrown_set v 1) es1 (by simp only [g_X9_works, pa, qa, pz_bind, pz_ni, pz_ni1, pz_xl, pz_xr, id]) (by simp only [g_X10_works, pb, qb, pz_bind, pz_let, z00, z10, if_true, if_false, em, sb, ite_self, pz_h1]) rfl h
  · rcases iwc s (c_minute u) 599 with ⟨-, -, -, sb⟩ | ⟨-, -, sb⟩
    · exact SI_no "java/lang/IndexOutOfBoundsException" 1 0 (u' := u) (v' := m_thrown_set v 1) es1 (by simp only [g_X9_works, pa, pz_bind, pz_ni, pz_ni1, pz_xl, pz_xr, id]) (by simp only [g_X10_works, pb, pz_bind, pz_let, z00, z10, if_true, if_false, em, sb, ite_self, pz_h1]) rfl h
    · exact SI_no "java/lang/IndexOutOfBoundsException" 1 0 (u' := u) (v' := m_thrown_set v 1) es1 (by simp only [g_X9_works, pa, pz_bind, pz_ni, pz_ni1, pz_xl, pz_xr, id]) (by simp only [g_X10_works, pb, pz_bind, pz_let, z00, z10, if_true, if_false, em, sb, ite_self, pz_h1]) rfl h
end RELSM

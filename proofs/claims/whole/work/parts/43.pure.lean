section RELSD
variable {u : GS} {v : MS} {T : cT_t}
theorem updC (f : Nat → Int32) {p q : Nat} (h : p ≠ q) (a b : Int32) : upd (upd f q a) p b = upd (upd f p b) q a := funext fun k => by
  by_cases e : k = p
  · rw [e, pk_us, pk_un h, pk_us]
  · rw [pk_un e]
    by_cases e2 : k = q
    · rw [e2, pk_us, pk_us]
    · rw [pk_un e2, pk_un e2, pk_un e]
theorem goFrom (hv : smV v) (hg : ∀ p : Nat, p < 48 → cL_shown u p = sgV v p) (hT : TB T) {s l : Nat} (hs : s < 12) (hl : l < 4) : ∃ T' : cT_t, TB T' ∧ g_X8_goOnFrom (qcT_put u T) (nI s) (nI l) = some (qcT_put u T') ∧ g_X10_goes (qmT_put v T) (nI s) (nI l) = some (qmT_put v T') := by
  have hk : 4 * s + l < 48 := by omega
  have cp := cl_I (show 4 * s + l < 2 ^ 31 by omega)
  have cs := cl_I (show s < 2 ^ 31 by omega)
  have g48 : ∀ {α : Type} (a : Option α), g_in (nI (4 * s + l)) 48 a = a := fun a => pz_inN hk (by decide) a
  have g12 : ∀ {α : Type} (a : Option α), g_in (nI s) 12 a = a := fun a => pz_inN hs (by decide) a
  obtain ⟨h, hh, eh⟩ := hT (4 * s + l) hk
  obtain ⟨m, hm, e1, e2⟩ : ∃ m : Nat, m ≤ 8 ∧ g_X8_mostThatGoOn (qcT_put u T) (nI s) (nI (4 * s + l)) = some (nI m) ∧ g_X10_goes (qmT_put v T) (nI s) (nI l) = lp_X10_goes_43 (nI s) (nI l) (nI (4 * s + l)) (nI m) (fun (w43 : MS) => some w43) FU (1 : Int32) (0 : Int32) (qmT_put v T) := by
    by_cases c1 : T.2.1 (4 * s + l) = 0
    · have st : g_X8_isStoppedAt (qcT_put u T) (nI (4 * s + l)) = some 0 := (stopd (u := qcT_put u T) hk).trans (by rw [ctp2, if_pos c1])
      by_cases c2 : T.2.2.1 s = 0
      · refine ⟨8, by omega, ?_, ?_⟩
        · simp only [g_X8_mostThatGoOn, st, pz_bind, if_true, g12, cs, ctp3, eq_true c2]
          rfl
        · rw [g_X10_goes, pz_let, mpl, g48, pz_let, mtp2, cp, if_pos c1, g12, mtp3, cs, if_pos c2]
          rfl
      · refine ⟨6, by omega, ?_, ?_⟩
        · simp only [g_X8_mostThatGoOn, st, pz_bind, if_true, g12, cs, ctp3, eq_false c2, if_false]
          rfl
        · rw [g_X10_goes, pz_let, mpl, g48, pz_let, mtp2, cp, if_pos c1, g12, mtp3, cs, if_neg c2]
          rfl
    · have st : g_X8_isStoppedAt (qcT_put u T) (nI (4 * s + l)) = some 1 := (stopd (u := qcT_put u T) hk).trans (by rw [ctp2, if_neg c1])
      refine ⟨0, by omega, ?_, ?_⟩
      · simp only [g_X8_mostThatGoOn, st, pz_bind, z10, if_false]
        rfl
      · rw [g_X10_goes, pz_let, mpl, g48, pz_let, mtp2, cp, if_neg c1]
        rfl
  obtain ⟨N, hN, n1, n2, n3⟩ : ∃ N : Nat, (if nI m < nI h then nI m else nI h) = nI N ∧ N ≤ m ∧ N ≤ h ∧ (N = m ∨ N = h) := by
    by_cases c : m < h
    · exact ⟨m, by rw [if_pos (nI_lt c (by omega))], by omega, by omega, Or.inl rfl⟩
    · exact ⟨h, by rw [if_neg (nI_nlt (by omega) (by omega))], by omega, by omega, Or.inr rfl⟩
  have e3 : g_X8_goOnFrom (qcT_put u T) (nI s) (nI l) = lp_X8_goOnFrom_28 (nI s) (nI l) (nI (4 * s + l)) (nI N) (fun (w28 : GS) => some w28) FU (0 : Int32) (qcT_put u T) := by
    rw [g_X8_goOnFrom, placeN, pz_bind, heldN (u := qcT_put u T) hk, pz_bind, ctp1, eh, e1, pz_bind, pz_let, hN]
  have main := lpX (fun n (z : Int32 × GS) => lp_X8_goOnFrom_28 (nI s) (nI l) (nI (4 * s + l)) (nI N) (fun (w28 : GS) => some w28) n z.1 z.2) (fun n (t : Int32 × Int32 × MS) => lp_X10_goes_43 (nI s) (nI l) (nI (4 * s + l)) (nI m) (fun (w43 : MS) => some w43) n t.1 t.2.1 t.2.2) N (by omega) (fun i z t => ∃ T' : cT_t, TB T' ∧ T'.1 (4 * s + l) = nI (h - i) ∧ z = (nI i, qcT_put u T') ∧ t = (1, nI i, qmT_put v T')) (fun a b => ∃ T' : cT_t, TB T' ∧ a = some (qcT_put u T') ∧ b = some (qmT_put v T')) (by
    rintro n i z t hn hi ⟨T', hT', eT, rfl, rfl⟩
    have b1 := eq_false (nI_ge hi (show N < 2 ^ 31 by omega))
    have b2 := eq_false (nI_ge (show i < m by omega) (show m < 2 ^ 31 by omega))
    have b3 : (nI (h - i) ≤ 0) = False := eq_false (nI_nle (by omega) (by omega))
    have b4 : nI (h - i) - 1 = nI (h - i - 1) := pk_sub (b := 1) (by omega)
    have b5 : h - i - 1 = h - (i + 1) := by omega
    by_cases s11 : s = 11
    · have t11 : (nI s = 11) = True := eq_true (by rw [s11]; rfl)
      refine Or.inl ⟨_, _, ⟨(upd T'.1 (4 * s + l) (nI (h - (i + 1))), T'.2.1, T'.2.2.1, T'.2.2.2.1, T'.2.2.2.2.1, T'.2.2.2.2.2.1, T'.2.2.2.2.2.2 + 1), hT'.upd _ _ (by omega) _, pk_us, rfl, rfl⟩, ?_, ?_⟩
      · show lp_X8_goOnFrom_28 _ _ _ _ _ (n + 1) (nI i) _ = lp_X8_goOnFrom_28 _ _ _ _ _ n _ _
        simp only [lp_X8_goOnFrom_28, b1, if_false, pz_let, g48, cp, t11, if_true, ctp7, ctp6, ctp1, eT, b4, b5, ctp5, nI_1]
      · show lp_X10_goes_43 _ _ _ _ _ (n + 1) 1 (nI i) _ = lp_X10_goes_43 _ _ _ _ _ n 1 _ _
        simp only [lp_X10_goes_43, b2, if_false, z10, g48, cp, mtp1, eT, b3, pz_let, t11, if_true, eq_false (nm1 l (by omega)), b4, b5, mtp5, mtp7, mtp6, nI_1]
    · have t11 : (nI s = 11) = False := eq_false (fun q => s11 ((nI_eq (b := 11) (by omega) (by decide)).mp q))
      rcases goTo (T := T') hv hg (show s < 11 by omega) hl with ⟨g1, g2⟩ | ⟨l', hl', li, g1, g2⟩
      · refine Or.inr ⟨T', hT', ?_, ?_⟩
        · show lp_X8_goOnFrom_28 _ _ _ _ _ (n + 1) (nI i) _ = _
          simp only [lp_X8_goOnFrom_28, b1, if_false, pz_let, t11, g1, pz_bind, if_true]
        · have x1 : lp_X10_goes_43 (nI s) (nI l) (nI (4 * s + l)) (nI m) (fun (w43 : MS) => some w43) (n + 1) 1 (nI i) (qmT_put v T') = lp_X10_goes_43 (nI s) (nI l) (nI (4 * s + l)) (nI m) (fun (w43 : MS) => some w43) n 0 (nI (i + 1)) (qmT_put v T') := by
            simp only [lp_X10_goes_43, b2, if_false, z10, z00, g48, cp, mtp1, eT, b3, pz_let, t11, g2, pz_bind, if_true, nI_1]
          refine x1.trans ?_
          obtain ⟨n, rfl⟩ : ∃ j, n = j + 1 := ⟨n - 1, by omega⟩
          by_cases c : nI m ≤ nI (i + 1)
          · rw [lp_X10_goes_43, if_pos c]
          · rw [lp_X10_goes_43, if_neg c, if_pos rfl]
      · obtain ⟨x, hx, ex⟩ := hT' (4 * (s + 1) + l') (by omega)
        have x20 : x < 20 := Classical.byContradiction fun q => li.2 (by
          rw [ex]
          exact nI_le (a := 20) (by omega) (by omega))
        have ne : 4 * s + l ≠ 4 * (s + 1) + l' := by omega
        have cq := cl_I (show 4 * (s + 1) + l' < 2 ^ 31 by omega)
        have gq : ∀ {α : Type} (a : Option α), g_in (nI (4 * (s + 1) + l')) 48 a = a := fun a => pz_inN (by omega) (by decide) a
        have mi : (((4 : Int32) * nI s) + (4 : Int32)) + nI l' = nI (4 * (s + 1) + l') := by
          rw [show (4 : Int32) = nI 4 from rfl, pk_mul, nI_add, nI_add]
          exact congrArg nI (by omega)
        refine Or.inl ⟨_, _, ⟨(upd (upd T'.1 (4 * (s + 1) + l') (nI (x + 1))) (4 * s + l) (nI (h - (i + 1))), T'.2), ?_, pk_us, rfl, rfl⟩, ?_, ?_⟩
        · exact TB.upd (T := (upd T'.1 (4 * (s + 1) + l') (nI (x + 1)), T'.2)) (hT'.upd _ _ (by omega) T'.2) _ _ (by omega) _
        · show lp_X8_goOnFrom_28 _ _ _ _ _ (n + 1) (nI i) _ = lp_X8_goOnFrom_28 _ _ _ _ _ n _ _
          simp only [lp_X8_goOnFrom_28, b1, if_false, pz_let, t11, g1, pz_bind, eq_false (nm1 (4 * (s + 1) + l') (by omega)), gq, cq, ctp1, ex, nI_1, ctp5, g48, cp, pk_un ne, eT, b4, b5]
        · show lp_X10_goes_43 _ _ _ _ _ (n + 1) 1 (nI i) _ = lp_X10_goes_43 _ _ _ _ _ n 1 _ _
          simp only [lp_X10_goes_43, b2, if_false, z10, g48, cp, mtp1, eT, b3, pz_let, t11, g2, pz_bind, eq_false (nm1 l' (by omega)), b4, b5, mtp5, mi, gq, cq, pk_un (Ne.symm ne), ex, nI_1, updC T'.1 ne]) (0, qcT_put u T) (1, 0, qmT_put v T) ⟨T, hT, eh, rfl, rfl⟩
  rcases main with ⟨n, z, t, ⟨T', hT', eT, rfl, rfl⟩, h1, h2⟩ | ⟨T', hT', h1, h2⟩
  · refine ⟨T', hT', (e3.trans h1).trans ?_, (e2.trans h2).trans ?_⟩
    · show lp_X8_goOnFrom_28 _ _ _ _ _ (n + 1 + 1) (nI N) _ = _
      rw [lp_X8_goOnFrom_28, if_pos (nI_le (Nat.le_refl N) (by omega))]
    · show lp_X10_goes_43 _ _ _ _ _ (n + 1 + 1) 1 (nI N) _ = _
      rcases n3 with c | c
      · rw [lp_X10_goes_43, if_pos (nI_le (by omega) (by omega))]
      · by_cases c2 : nI m ≤ nI N
        · rw [lp_X10_goes_43, if_pos c2]
        · rw [lp_X10_goes_43, if_neg c2, if_neg (by decide), g48, cp, mtp1, eT, c, Nat.sub_self, if_pos (by decide)]
  · exact ⟨T', hT', e3.trans h1, e2.trans h2⟩
/-- a section's lanes, then all sections from the last one on -/
theorem goLanes (hv : smV v) (hg : ∀ p : Nat, p < 48 → cL_shown u p = sgV v p) (hT : TB T) {s : Nat} (hs : s < 12) (k : GS → Option GS) (k' : MS → Option MS) : ∃ T' : cT_t, TB T' ∧ lp_X8_goOn_9 (nI s) k FU 0 (qcT_put u T) = k (qcT_put u T') ∧ lp_X10_minute_23 (nI s) k' FU 0 (qmT_put v T) = k' (qmT_put v T') := by
  obtain ⟨n, z, t, ⟨T', hT', rfl, rfl⟩, h1, h2⟩ := lpR (fun n (z : Int32 × GS) => lp_X8_goOn_9 (nI s) k n z.1 z.2) (fun n (t : Int32 × MS) => lp_X10_minute_23 (nI s) k' n t.1 t.2) 4 (by decide) (fun i z t => ∃ T' : cT_t, TB T' ∧ z = (nI i, qcT_put u T') ∧ t = (nI i, qmT_put v T')) (by
    rintro n i z t hi ⟨T', hT', rfl, rfl⟩
    obtain ⟨T2, h2, e1, e2⟩ := goFrom hv hg hT' hs hi
    refine ⟨_, _, ⟨T2, h2, rfl, rfl⟩, ?_, ?_⟩
    · show lp_X8_goOn_9 _ _ (n + 1) (nI i) _ = lp_X8_goOn_9 _ _ n _ _
      rw [lp_X8_goOn_9, if_neg (fun q => by rw [c_ge 4 4 hi (by decide)] at q; exact q), e1, pz_bind, pz_let, nI_1]
    · show lp_X10_minute_23 _ _ (n + 1) (nI i) _ = lp_X10_minute_23 _ _ n _ _
      rw [lp_X10_minute_23, if_neg (fun q => by rw [c_ge 4 4 hi (by decide)] at q; exact q), e2, pz_bind, pz_let, nI_1]) (0, qcT_put u T) (0, qmT_put v T) ⟨T, hT, rfl, rfl⟩
  refine ⟨T', hT', h1.trans ?_, h2.trans ?_⟩
  · show lp_X8_goOn_9 _ _ (n + 1) (nI 4) _ = _
    rw [lp_X8_goOn_9, if_pos (by rw [c_le 4 4 (by decide)]; trivial)]
  · show lp_X10_minute_23 _ _ (n + 1) (nI 4) _ = _
    rw [lp_X10_minute_23, if_pos (by rw [c_le 4 4 (by decide)]; trivial)]
/-- from the last section on -/
def dn (i : Nat) : Int32 := if i < 12 then nI (11 - i) else -1
theorem dn_lt {i : Nat} (h : i < 12) : dn i = nI (11 - i) := if_pos h
theorem dn_step {i : Nat} (h : i < 12) : dn i + (-1) = dn (i + 1) := by
  rw [dn_lt h]
  by_cases c : i = 11
  · rw [c]
    decide
  · rw [dn_lt (show i + 1 < 12 by omega), show 11 - i = (11 - (i + 1)) + 1 by omega, pk_m1]
theorem goAll (hv : smV v) (hg : ∀ p : Nat, p < 48 → cL_shown u p = sgV v p) (hT : TB T) (k' : MS → Option MS) : ∃ T' : cT_t, TB T' ∧ g_X8_goOn (qcT_put u T) = some (qcT_put u T') ∧ lp_X10_minute_17 k' FU 11 (qmT_put v T) = k' (qmT_put v T') := by
  obtain ⟨n, z, t, ⟨T', hT', rfl, rfl⟩, h1, h2⟩ := lpR (fun n (z : Int32 × GS) => lp_X8_goOn_3 (fun w => some w) n z.1 z.2) (fun n (t : Int32 × MS) => lp_X10_minute_17 k' n t.1 t.2) 12 (by decide) (fun i z t => ∃ T' : cT_t, TB T' ∧ z = (dn i, qcT_put u T') ∧ t = (dn i, qmT_put v T')) (by
    rintro n i z t hi ⟨T', hT', rfl, rfl⟩
    obtain ⟨T2, h2, e1, e2⟩ := goLanes hv hg hT' (show 11 - i < 12 by omega) (fun (w9 : GS) => g_let (nI (11 - i) + (-1)) (fun (v6 : Int32) => lp_X8_goOn_3 (fun w => some w) n v6 w9)) (fun (w23 : MS) => g_let (nI (11 - i) + (-1)) (fun (v9 : Int32) => lp_X10_minute_17 k' n v9 w23))
    have ds : nI (11 - i) + (-1) = dn (i + 1) := by rw [← dn_lt hi, dn_step hi]
    refine ⟨(dn (i + 1), qcT_put u T2), (dn (i + 1), qmT_put v T2), ⟨T2, h2, rfl, rfl⟩, ?_, ?_⟩
    · show lp_X8_goOn_3 _ (n + 1) (dn i) _ = lp_X8_goOn_3 _ n (dn (i + 1)) _
      rw [dn_lt hi, lp_X8_goOn_3, if_neg (nI_pos (by omega)), e1, pz_let, ds]
    · show lp_X10_minute_17 _ (n + 1) (dn i) _ = lp_X10_minute_17 _ n (dn (i + 1)) _
      rw [dn_lt hi, lp_X10_minute_17, if_neg (nI_pos (by omega)), e2, pz_let, ds]) (11, qcT_put u T) (11, qmT_put v T) ⟨T, hT, rfl, rfl⟩
  refine ⟨T', hT', h1.trans ?_, h2.trans ?_⟩
  · show lp_X8_goOn_3 _ (n + 1) (-1) _ = _
    rw [lp_X8_goOn_3, if_pos (by decide)]
  · show lp_X10_minute_17 _ (n + 1) (-1) _ = _
    rw [lp_X10_minute_17, if_pos (by decide)]
end RELSD

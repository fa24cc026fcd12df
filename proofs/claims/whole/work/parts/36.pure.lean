section RELS6
variable {u : GS} {v : MS}
/-- looked at lately, and clear then -/
def goodK (v : MS) (k : Nat) : Prop := ¬ (5 : Int32) ≤ m_now v - mH_looked v k ∧ ¬ mH_wasClear v k = 0
theorem goodC (hM : RM u v) (hH : RH u v) {k : Nat} (hk : k < 12) : (c_minute u - cH_foundClearAt u k < (5 : Int32)) ↔ goodK v k := by
  rw [hH.2.1 k hk]
  obtain ⟨e, t, ht, e2⟩ := hM
  by_cases c : mH_wasClear v k = 0
  · rw [if_pos c]
    refine ⟨fun z => absurd z ?_, fun z => absurd c z.2⟩
    rw [e2, show nI t - (-1000 : Int32) = nI (t + 1000) from by rw [Int32.sub_eq_add_neg]; exact nI_add t 1000]
    exact nI_nlt (a := t + 1000) (b := 5) (by omega) (by omega)
  · rw [if_neg c, e]
    exact ⟨fun z => ⟨Int32.not_le.mpr z, c⟩, fun z => Int32.not_le.mp z.1⟩
theorem canOpen_c (hM : RM u v) (hH : RH u v) {a b : Nat} (hab : a ≤ b) (hb : b < 12) : (g_X6_canOpen u (nI a) (nI b) (c_minute u) = some 1 ∧ ∀ k : Nat, a ≤ k → k ≤ b → goodK v k) ∨ (g_X6_canOpen u (nI a) (nI b) (c_minute u) = some 0 ∧ ∃ k : Nat, a ≤ k ∧ k ≤ b ∧ ¬ goodK v k) := by
  have main := lpE (fun n (z : Int32) => lp_X6_canOpen_3 u (nI a) (nI b) (c_minute u) (fun (_ : Unit) => some (1 : Int32)) n z) 12 (by decide) (fun i z => z = nI i ∧ ∀ k : Nat, k < i → a ≤ k → k ≤ b → goodK v k) (fun x => x = some 0 ∧ ∃ k : Nat, a ≤ k ∧ k ≤ b ∧ ¬ goodK v k) (by
    rintro n i z hi ⟨rfl, hz⟩
    by_cases r : a ≤ i ∧ i ≤ b
    · have i1 : g_X9_isWithin (nI i) (nI a) (nI b) = some 1 := iw_nI r.1 r.2 (by omega)
      by_cases g : goodK v i
      · refine Or.inl ⟨nI (i + 1), ⟨rfl, fun k hk h1 h2 => ?_⟩, ?_⟩
        · by_cases e : k = i
          · rw [e]
            exact g
          · exact hz k (by omega) h1 h2
        · show lp_X6_canOpen_3 u _ _ _ _ (n + 1) (nI i) = lp_X6_canOpen_3 u _ _ _ _ n _
          simp only [lp_X6_canOpen_3, c_ge 12 12 hi (by decide), if_false, i1, pz_bind, pz_let, z10, pz_inN hi (show 12 < 2 ^ 31 by decide), cl_I (show i < 2 ^ 31 by omega), eq_true ((goodC hM hH hi).mpr g), if_true, nI_1]
      · refine Or.inr ⟨?_, i, r.1, r.2, g⟩
        show lp_X6_canOpen_3 u _ _ _ _ (n + 1) (nI i) = _
        simp only [lp_X6_canOpen_3, c_ge 12 12 hi (by decide), if_false, i1, pz_bind, pz_let, z10, pz_inN hi (show 12 < 2 ^ 31 by decide), cl_I (show i < 2 ^ 31 by omega), eq_false (fun q => g ((goodC hM hH hi).mp q))]
    · have i1 : g_X9_isWithin (nI i) (nI a) (nI b) = some 0 := iw_nI0 (by omega) (by omega) (by omega) (by omega)
      refine Or.inl ⟨nI (i + 1), ⟨rfl, fun k hk h1 h2 => ?_⟩, ?_⟩
      · exact hz k (by omega) h1 h2
      · show lp_X6_canOpen_3 u _ _ _ _ (n + 1) (nI i) = lp_X6_canOpen_3 u _ _ _ _ n _
        simp only [lp_X6_canOpen_3, c_ge 12 12 hi (by decide), if_false, i1, pz_bind, pz_let, if_true, nI_1]) 0 ⟨rfl, fun k hk => absurd hk (Nat.not_lt_zero k)⟩
  rcases main with ⟨n, z, ⟨rfl, hz⟩, h1⟩ | ⟨h1, h2⟩
  · refine Or.inl ⟨h1.trans ?_, fun k h1 h2 => hz k (by omega) h1 h2⟩
    show lp_X6_canOpen_3 u _ _ _ _ (n + 1) (nI 12) = _
    simp only [lp_X6_canOpen_3, c_le 12 12 (by decide), if_true]
  · exact Or.inr ⟨h1, h2⟩
theorem canOpen_m {a b : Nat} (hab : a ≤ b) (hb : b < 12) : (g_X10_canOpen v (nI a) (nI b) = some 1 ∧ ∀ k : Nat, a ≤ k → k ≤ b → goodK v k) ∨ (g_X10_canOpen v (nI a) (nI b) = some 0 ∧ ∃ k : Nat, a ≤ k ∧ k ≤ b ∧ ¬ goodK v k) := by
  obtain ⟨n, z, ⟨x, hx, rfl⟩, h1⟩ := lpF (fun n (z : Int32 × Int32) => lp_X10_canOpen_5 v (nI b) (fun (x3_5 : Int32) => g_bo x3_5 (some x3_5)) n z.1 z.2) (b + 1 - a) (by omega) (fun i z => ∃ x : Int32, ((x = 1 ∧ ∀ k : Nat, k < a + i → a ≤ k → goodK v k) ∨ (x = 0 ∧ ∃ k : Nat, a ≤ k ∧ k ≤ b ∧ ¬ goodK v k)) ∧ z = (x, nI (a + i))) (by
    rintro n i z hi ⟨x, hx, rfl⟩
    have lt : ¬ nI b < nI (a + i) := nI_nlt (by omega) (by omega)
    have q1 : nI (a + i) + 1 = nI (a + (i + 1)) := nI_1 (a + i)
    rcases hx with ⟨rfl, hx⟩ | ⟨rfl, hx⟩
    · by_cases c1 : (5 : Int32) ≤ m_now v - mH_looked v (a + i)
      · refine ⟨(0, nI (a + (i + 1))), ⟨0, Or.inr ⟨rfl, a + i, by omega, by omega, fun g => g.1 c1⟩, rfl⟩, ?_⟩
        show lp_X10_canOpen_5 v _ _ (n + 1) 1 (nI (a + i)) = lp_X10_canOpen_5 v _ _ n _ _
        simp only [lp_X10_canOpen_5, eq_false lt, if_false, pz_let, z10, pz_inN (show a + i < 12 by omega) (show 12 < 2 ^ 31 by decide), cl_I (show a + i < 2 ^ 31 by omega), eq_true c1, if_true, q1]
      · by_cases c2 : mH_wasClear v (a + i) = 0
        · refine ⟨(0, nI (a + (i + 1))), ⟨0, Or.inr ⟨rfl, a + i, by omega, by omega, fun g => g.2 c2⟩, rfl⟩, ?_⟩
          show lp_X10_canOpen_5 v _ _ (n + 1) 1 (nI (a + i)) = lp_X10_canOpen_5 v _ _ n _ _
          simp only [lp_X10_canOpen_5, eq_false lt, if_false, pz_let, z10, pz_inN (show a + i < 12 by omega) (show 12 < 2 ^ 31 by decide), cl_I (show a + i < 2 ^ 31 by omega), eq_false c1, eq_true c2, if_true, q1]
        · refine ⟨(1, nI (a + (i + 1))), ⟨1, Or.inl ⟨rfl, fun k hk h2 => ?_⟩, rfl⟩, ?_⟩
          · by_cases e : k = a + i
            · rw [e]
              exact ⟨c1, c2⟩
            · exact hx k (by omega) h2
          · show lp_X10_canOpen_5 v _ _ (n + 1) 1 (nI (a + i)) = lp_X10_canOpen_5 v _ _ n _ _
            simp only [lp_X10_canOpen_5, eq_false lt, if_false, pz_let, z10, pz_inN (show a + i < 12 by omega) (show 12 < 2 ^ 31 by decide), cl_I (show a + i < 2 ^ 31 by omega), eq_false c1, eq_false c2, q1]
    · refine ⟨(0, nI (a + (i + 1))), ⟨0, Or.inr ⟨rfl, hx⟩, rfl⟩, ?_⟩
      show lp_X10_canOpen_5 v _ _ (n + 1) 0 (nI (a + i)) = lp_X10_canOpen_5 v _ _ n _ _
      simp only [lp_X10_canOpen_5, eq_false lt, if_false, pz_let, z00, if_true, q1]) (1, nI a) ⟨1, Or.inl ⟨rfl, fun k hk h2 => by omega⟩, rfl⟩
  have gt : nI b < nI (a + (b + 1 - a)) := nI_lt (by omega) (by omega)
  have e2 : lp_X10_canOpen_5 v (nI b) (fun (x3_5 : Int32) => g_bo x3_5 (some x3_5)) (n + 1) x (nI (a + (b + 1 - a))) = g_bo x (some x) := by
    simp only [lp_X10_canOpen_5, eq_true gt, if_true]
  rcases hx with ⟨rfl, hx⟩ | ⟨rfl, hx⟩
  · exact Or.inl ⟨(h1.trans e2).trans (pz_bo1 _), fun k h1 h2 => hx k (by omega) h1⟩
  · exact Or.inr ⟨(h1.trans e2).trans (pz_bo0 _), hx⟩
/-- how many are shut among those from a to b, below i -/
def ctz (f : Nat → Int32) (a b : Nat) : Nat → Nat
  | 0 => 0
  | i + 1 => ctz f a b i + (if a ≤ i ∧ i ≤ b ∧ f i = 0 then 1 else 0)
def opf (f : Nat → Int32) (a b i : Nat) : Nat → Int32 := fun k => if a ≤ k ∧ k ≤ b ∧ k < i ∧ f k = 0 then 1 else f k
theorem ctz_lo (f : Nat → Int32) (a b : Nat) : ∀ i : Nat, i ≤ a → ctz f a b i = 0
  | 0, _ => rfl
  | i + 1, h => by
    rw [ctz, ctz_lo f a b i (by omega), if_neg (by omega)]
theorem ctz_hi (f : Nat → Int32) (a b : Nat) : ∀ d : Nat, ctz f a b (b + 1 + d) = ctz f a b (b + 1)
  | 0 => rfl
  | d + 1 => by
    rw [← Nat.add_assoc, ctz, ctz_hi f a b d, if_neg (by omega)]
    rfl
theorem opf_lo (f : Nat → Int32) (a b i : Nat) (h : i ≤ a) : opf f a b i = f := funext fun k => if_neg (fun z => by omega)
theorem opf_hi (f : Nat → Int32) (a b i : Nat) (h : b < i) : opf f a b i = opf f a b (b + 1) := funext fun k => by
  unfold opf
  by_cases c : a ≤ k ∧ k ≤ b ∧ f k = 0
  · rw [if_pos ⟨c.1, c.2.1, by omega, c.2.2⟩, if_pos ⟨c.1, c.2.1, by omega, c.2.2⟩]
  · rw [if_neg (fun z => c ⟨z.1, z.2.1, z.2.2.2⟩), if_neg (fun z => c ⟨z.1, z.2.1, z.2.2.2⟩)]
theorem opf_at (f : Nat → Int32) (a b i : Nat) : opf f a b i i = f i := if_neg (fun z => by omega)
theorem opf_up (f : Nat → Int32) {a b i : Nat} (h1 : a ≤ i) (h2 : i ≤ b) (hf : ∀ k : Nat, f k = 0 ∨ f k = 1) : upd (opf f a b i) i 1 = opf f a b (i + 1) := funext fun k => by
  by_cases e : k = i
  · rw [e, pk_us]
    unfold opf
    rcases hf i with c | c
    · rw [if_pos ⟨h1, h2, by omega, c⟩]
    · rw [if_neg (fun z => by rw [c] at z; exact absurd z.2.2.2 (by decide)), c]
  · rw [pk_un e]
    unfold opf
    by_cases c : a ≤ k ∧ k ≤ b ∧ k < i ∧ f k = 0
    · rw [if_pos c, if_pos ⟨c.1, c.2.1, by omega, c.2.2.2⟩]
    · rw [if_neg c, if_neg (fun z => c ⟨z.1, z.2.1, by omega, z.2.2.2⟩)]
theorem opf_st (f : Nat → Int32) {a b i : Nat} (h : ¬ (a ≤ i ∧ i ≤ b ∧ f i = 0)) : opf f a b (i + 1) = opf f a b i := funext fun k => by
  unfold opf
  by_cases c : a ≤ k ∧ k ≤ b ∧ k < i ∧ f k = 0
  · rw [if_pos c, if_pos ⟨c.1, c.2.1, by omega, c.2.2.2⟩]
  · rw [if_neg c, if_neg (fun z => by
      by_cases e : k = i
      · rw [e] at z
        exact h ⟨z.1, z.2.1, z.2.2.2⟩
      · exact c ⟨z.1, z.2.1, by omega, z.2.2.2⟩)]
theorem openA_c (f : Nat → Int32) {a b : Nat} (hab : a ≤ b) (hb : b < 12) (hf : ∀ k : Nat, f k = 0 ∨ f k = 1) (hu : cH_open u = f) : g_X6_openAll u (nI a) (nI b) = some (nI (ctz f a b 12), cH_open_set u (opf f a b 12)) := by
  have o1 : ∀ f, cH_open (cH_open_set u f) = f := fun _ => rfl
  have o2 : ∀ f g, cH_open_set (cH_open_set u f) g = cH_open_set u g := fun _ _ => rfl
  obtain ⟨n, z, rfl, h1⟩ := lpF (fun n (z : Int32 × Int32 × GS) => lp_X6_openAll_5 (nI a) (nI b) (fun (x3_5 : Int32) (w5 : GS) => some (x3_5, w5)) n z.1 z.2.1 z.2.2) 12 (by decide) (fun i z => z = (nI (ctz f a b i), nI i, cH_open_set u (opf f a b i))) (by
    rintro n i z hi rfl
    refine ⟨_, rfl, ?_⟩
    show lp_X6_openAll_5 _ _ _ (n + 1) (nI _) (nI i) _ = lp_X6_openAll_5 _ _ _ n (nI _) (nI (i + 1)) _
    by_cases r : a ≤ i ∧ i ≤ b
    · have i1 : g_X9_isWithin (nI i) (nI a) (nI b) = some 1 := iw_nI r.1 r.2 (by omega)
      by_cases c : f i = 0
      · have e1 : ctz f a b (i + 1) = ctz f a b i + 1 := by rw [ctz, if_pos ⟨r.1, r.2, c⟩]
        simp only [lp_X6_openAll_5, c_ge 12 12 hi (by decide), if_false, i1, pz_bind, pz_let, z10, pz_inN hi (show 12 < 2 ^ 31 by decide), cl_I (show i < 2 ^ 31 by omega), o1, o2, opf_at, eq_true c, if_true, vnb1, opf_up f r.1 r.2 hf, nI_1, e1]
      · have e1 : ctz f a b (i + 1) = ctz f a b i := by rw [ctz, if_neg (fun z => c z.2.2), Nat.add_zero]
        simp only [lp_X6_openAll_5, c_ge 12 12 hi (by decide), if_false, i1, pz_bind, pz_let, z10, pz_inN hi (show 12 < 2 ^ 31 by decide), cl_I (show i < 2 ^ 31 by omega), o1, opf_at, eq_false c, opf_st f (fun z => c z.2.2), nI_1, e1]
    · have i1 : g_X9_isWithin (nI i) (nI a) (nI b) = some 0 := iw_nI0 (by omega) (by omega) (by omega) (by omega)
      have e1 : ctz f a b (i + 1) = ctz f a b i := by rw [ctz, if_neg (fun z => r ⟨z.1, z.2.1⟩), Nat.add_zero]
      simp only [lp_X6_openAll_5, c_ge 12 12 hi (by decide), if_false, i1, pz_bind, pz_let, if_true, opf_st f (fun z => r ⟨z.1, z.2.1⟩), nI_1, e1]) (0, 0, u) (by
    rw [opf_lo f a b 0 (Nat.zero_le a), ← hu]
    rfl)
  refine h1.trans ?_
  show lp_X6_openAll_5 _ _ _ (n + 1) _ (nI 12) _ = _
  simp only [lp_X6_openAll_5, c_le 12 12 (by decide), if_true]
theorem openA_m (f : Nat → Int32) {a b : Nat} (hab : a ≤ b) (hb : b < 12) (hf : ∀ k : Nat, f k = 0 ∨ f k = 1) (hu : mH_isOpen v = f) : lp_X10_openShoulder_66 (nI b) (fun (x : Int32) (w : MS) => some (x, w)) FU 0 (nI a) v = some (nI (ctz f a b 12), mH_isOpen_set v (opf f a b 12)) := by
  have o1 : ∀ f, mH_isOpen (mH_isOpen_set v f) = f := fun _ => rfl
  have o2 : ∀ f g, mH_isOpen_set (mH_isOpen_set v f) g = mH_isOpen_set v g := fun _ _ => rfl
  obtain ⟨n, z, rfl, h1⟩ := lpF (fun n (z : Int32 × Int32 × MS) => lp_X10_openShoulder_66 (nI b) (fun (x : Int32) (w : MS) => some (x, w)) n z.1 z.2.1 z.2.2) (b + 1 - a) (by omega) (fun i z => z = (nI (ctz f a b (a + i)), nI (a + i), mH_isOpen_set v (opf f a b (a + i)))) (by
    rintro n i z hi rfl
    refine ⟨_, rfl, ?_⟩
    show lp_X10_openShoulder_66 _ _ (n + 1) (nI _) (nI (a + i)) _ = lp_X10_openShoulder_66 _ _ n (nI (ctz f a b (a + i + 1))) (nI (a + i + 1)) (mH_isOpen_set v (opf f a b (a + i + 1)))
    have lt : ¬ nI b < nI (a + i) := nI_nlt (by omega) (by omega)
    by_cases c : f (a + i) = 0
    · have e1 : ctz f a b (a + i + 1) = ctz f a b (a + i) + 1 := by rw [ctz, if_pos ⟨by omega, by omega, c⟩]
      simp only [lp_X10_openShoulder_66, eq_false lt, if_false, pz_let, pz_inN (show a + i < 12 by omega) (show 12 < 2 ^ 31 by decide), cl_I (show a + i < 2 ^ 31 by omega), o1, o2, opf_at, eq_true c, if_true, vnb1, opf_up f (show a ≤ a + i by omega) (show a + i ≤ b by omega) hf, nI_1, e1]
    · have e1 : ctz f a b (a + i + 1) = ctz f a b (a + i) := by rw [ctz, if_neg (fun z => c z.2.2), Nat.add_zero]
      simp only [lp_X10_openShoulder_66, eq_false lt, if_false, pz_let, pz_inN (show a + i < 12 by omega) (show 12 < 2 ^ 31 by decide), cl_I (show a + i < 2 ^ 31 by omega), o1, o2, opf_at, eq_false c, vnb1, opf_up f (show a ≤ a + i by omega) (show a + i ≤ b by omega) hf, nI_1, e1, Int32.add_zero]) (0, nI a, v) (by
    rw [Nat.add_zero, opf_lo f a b a (Nat.le_refl a), ctz_lo f a b a (Nat.le_refl a), ← hu]
    rfl)
  refine h1.trans ?_
  have gt : nI b < nI (a + (b + 1 - a)) := nI_lt (by omega) (by omega)
  show lp_X10_openShoulder_66 _ _ (n + 1) _ (nI _) _ = _
  simp only [lp_X10_openShoulder_66, eq_true gt, if_true]
  have e1 : a + (b + 1 - a) = b + 1 := by omega
  obtain ⟨d, hd⟩ : ∃ d, 12 = b + 1 + d := ⟨11 - b, by omega⟩
  rw [e1, hd, ctz_hi, opf_hi f a b (b + 1 + d) (by omega)]
theorem sim_openShoulder (h : Rel u v) (p q : Int32) : SI Rel (g_X9_openShoulder u p q) (g_X10_openShoulder v p q) [("java/lang/IndexOutOfBoundsException", 1), ("java/lang/IllegalArgumentException", 2), ("java/lang/IllegalStateException", 3)] := by
  obtain ⟨hM, hT, hD, hS, hO, hH, hI, hP, hB, hK⟩ := id h
  rcases secc u p with ⟨e1, e2⟩ | ⟨a, ha, rfl, e1, e2⟩
  · exact SI_no "java/lang/IndexOutOfBoundsException" 1 0 (v' := m_thrown_set v 1) es1 (by simp only [g_X9_openShoulder, e1, pz_xr, id]) (by simp only [g_X10_openShoulder, e2, pz_bind, pz_let, z00, if_true, pz_h1]) rfl h
  · rcases secc u q with ⟨f1, f2⟩ | ⟨b, hb, rfl, f1, f2⟩
    · exact SI_no "java/lang/IndexOutOfBoundsException" 1 0 (v' := m_thrown_set v 1) es1 (by simp only [g_X9_openShoulder, e1, f1, pz_xl, pz_xr, id]) (by simp only [g_X10_openShoulder, e2, f2, pz_bind, pz_let, z00, z10, if_true, if_false, pz_h1]) rfl h
    · by_cases hab : a ≤ b
      · have l1 : (nI b < nI a) = False := eq_false (nI_nlt hab (by omega))
        have l2 : (nI a ≤ nI b) = True := eq_true (nI_le hab (by omega))
        rcases canOpen_c hM hH hab hb with ⟨g1, G1⟩ | ⟨g1, G1⟩
        · rcases canOpen_m (v := v) hab hb with ⟨g2, -⟩ | ⟨-, k, k1, k2, k3⟩
          · have c1 := openA_c (u := u) (cH_open u) hab hb hH.2.2 rfl
            have c2 := openA_m (v := m_thrown_set v 0) (cH_open u) hab hb hH.2.2 hH.1.symm
            refine SI_ok (nI (ctz (cH_open u) a b 12)) ?_ ?_ ?_ (⟨hM, hT, hD, hS, hO, ⟨rfl, hH.2.1, fun k => ?_⟩, hI, hP, hB, hK⟩ : Rel (cH_open_set u (opf (cH_open u) a b 12)) (mH_isOpen_set (m_thrown_set v 0) (opf (cH_open u) a b 12)))
            · simp only [g_X9_openShoulder, e1, f1, pz_xl, pz_let, l1, if_false, pz_na1, g1, pz_bind, pz_ns1, c1]
            · simp only [g_X10_openShoulder, e2, f2, pz_bind, pz_let, z10, z00, if_false, if_true, l2, g2, pz_h0, c2]
            · rfl
            · show opf (cH_open u) a b 12 k = 0 ∨ opf (cH_open u) a b 12 k = 1
              unfold opf
              by_cases c : a ≤ k ∧ k ≤ b ∧ k < 12 ∧ cH_open u k = 0
              · rw [if_pos c]
                exact Or.inr rfl
              · rw [if_neg c]
                exact hH.2.2 k
          · exact absurd (G1 k k1 k2) k3
        · rcases canOpen_m (v := v) hab hb with ⟨-, G2⟩ | ⟨g2, -⟩
          · obtain ⟨k, k1, k2, k3⟩ := G1
            exact absurd (G2 k k1 k2) k3
          · refine SI_no "java/lang/IllegalStateException" 3 0 (u' := u) (v' := m_thrown_set v 3) es3 ?_ ?_ rfl h
            · simp only [g_X9_openShoulder, e1, f1, pz_xl, pz_xr, id, pz_let, l1, if_false, pz_na1, g1, pz_bind, pz_ns]
            · simp only [g_X10_openShoulder, e2, f2, pz_bind, pz_let, z10, z00, if_false, if_true, l2, g2, pz_h3]
      · have l1 : (nI b < nI a) = True := eq_true (nI_lt (by omega) (by omega))
        have l2 : (nI a ≤ nI b) = False := eq_false (nI_ge (by omega) (by omega))
        refine SI_no "java/lang/IllegalArgumentException" 2 0 (u' := u) (v' := m_thrown_set v 2) es2 ?_ ?_ rfl h
        · simp only [g_X9_openShoulder, e1, f1, pz_xl, pz_xr, id, pz_let, l1, if_true, pz_na]
        · simp only [g_X10_openShoulder, e2, f2, pz_bind, pz_let, z10, z00, if_false, if_true, l2, pz_h2]
end RELS6

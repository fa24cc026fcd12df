/-! the start: both objects as their first minute is kept -/
def zfil (x : Int32) (i k : Nat) : Int32 := if k < i then x else 0
theorem zfil_o (x : Int32) : zfil x 0 = fun _ => 0 := funext fun k => if_neg (Nat.not_lt_zero k)
theorem zfil_s (x : Int32) (i : Nat) : upd (zfil x i) i x = zfil x (i + 1) := funext fun k => by
  by_cases e : k = i
  · rw [e, pk_us, zfil, if_pos (Nat.lt_succ_self i)]
  · rw [pk_un e]
    by_cases q : k < i
    · rw [zfil, zfil, if_pos q, if_pos (by omega)]
    · rw [zfil, zfil, if_neg q, if_neg (by omega)]
theorem zfil_i {x : Int32} {n k : Nat} (h : k < n) : zfil x n k = x := if_pos h
theorem ini7 : g_X7_init2 u0_X7 = some (zfil (-1) 12, zfil 120 12, zfil (-1000) 12, (0 : Int32)) := by
  obtain ⟨n, z, rfl, h1⟩ := lpF (fun n (z : Int32 × I7) => lp_X7_init2_35 (fun w => some w) n z.1 z.2) 12 (by decide) (fun i z => z = (nI i, (zfil (-1) i, zfil 120 i, zfil (-1000) i, (0 : Int32)))) (by
    rintro n i z hi rfl
    refine ⟨_, rfl, ?_⟩
    show lp_X7_init2_35 _ (n + 1) (nI i) _ = lp_X7_init2_35 _ n (nI (i + 1)) _
    rw [← zfil_s, ← zfil_s, ← zfil_s, ← nI_1]
    simp only [lp_X7_init2_35, c_ge 12 12 hi (by decide), if_false, pz_inN hi (by decide), cl_I (show i < 2 ^ 31 by omega), pz_let]
    rfl) (0, u0_X7) (by
    rw [zfil_o, zfil_o, zfil_o]
    rfl)
  refine h1.trans ?_
  show lp_X7_init2_35 _ (n + 1) (nI 12) _ = _
  rw [lp_X7_init2_35, if_pos (by rw [c_le 12 12 (by decide)]; trivial)]
theorem ini3 : g_X3_init2 u0_X3 = some (zfil (-1) 48, (fun _ => 0), (fun _ => 0)) := by
  obtain ⟨n, z, rfl, h1⟩ := lpF (fun n (z : Int32 × I3) => lp_X3_init2_30 (fun w => some w) n z.1 z.2) 48 (by decide) (fun i z => z = (nI i, (zfil (-1) i, (fun _ => 0), (fun _ => 0)))) (by
    rintro n i z hi rfl
    refine ⟨_, rfl, ?_⟩
    show lp_X3_init2_30 _ (n + 1) (nI i) _ = lp_X3_init2_30 _ n (nI (i + 1)) _
    rw [← zfil_s, ← nI_1]
    simp only [lp_X3_init2_30, c_ge 48 48 hi (by decide), if_false, pz_inN hi (by decide), cl_I (show i < 2 ^ 31 by omega), pz_let]
    rfl) (0, u0_X3) (by
    rw [zfil_o]
    rfl)
  refine h1.trans ?_
  show lp_X3_init2_30 _ (n + 1) (nI 48) _ = _
  rw [lp_X3_init2_30, if_pos (by rw [c_le 48 48 (by decide)]; trivial)]
theorem ini6 : g_X6_init2 u0_X6 = some ((fun _ => 0), zfil (-1000) 12) := by
  obtain ⟨n, z, rfl, h1⟩ := lpF (fun n (z : Int32 × I6) => lp_X6_init2_22 (fun w => some w) n z.1 z.2) 12 (by decide) (fun i z => z = (nI i, ((fun _ => 0), zfil (-1000) i))) (by
    rintro n i z hi rfl
    refine ⟨_, rfl, ?_⟩
    show lp_X6_init2_22 _ (n + 1) (nI i) _ = lp_X6_init2_22 _ n (nI (i + 1)) _
    rw [← zfil_s, ← nI_1]
    simp only [lp_X6_init2_22, c_ge 12 12 hi (by decide), if_false, pz_inN hi (by decide), cl_I (show i < 2 ^ 31 by omega), pz_let]
    rfl) (0, u0_X6) (by
    rw [zfil_o]
    rfl)
  refine h1.trans ?_
  show lp_X6_init2_22 _ (n + 1) (nI 12) _ = _
  rw [lp_X6_init2_22, if_pos (by rw [c_le 12 12 (by decide)]; trivial)]
/-- the reference before its first minute is kept -/
def mzst (ord look lim sp low sent : Nat → Int32) : MS := ((0 : Int32), (0 : Int32), ((fun _ => 0), (fun _ => 0), (fun _ => 0), (0 : Int32), (0 : Int32), (0 : Int32), (0 : Int32)), ((fun _ => 0), (fun _ => 0)), (lim, sp, low, (0 : Int32)), ord, ((fun _ => 0), look, (fun _ => 0)), ((fun _ => 0), (fun _ => 0), (0 : Int32)), ((fun _ => 0), sent, (fun _ => 0)), ((fun _ => 0), (fun _ => 0), (fun _ => 0), (fun _ => 0), (fun _ => 0), (0 : Int32)), (fun _ => 0))
abbrev zze : Nat → Int32 := fun _ => 0
theorem ini10a (k : MS → Option MS) : lp_X10_init2_188 k FU 0 u0_X10 = k (mzst (zfil (-1) 48) zze zze zze zze zze) := by
  obtain ⟨n, z, rfl, h1⟩ := lpF (fun n (z : Int32 × MS) => lp_X10_init2_188 k n z.1 z.2) 48 (by decide) (fun i z => z = (nI i, mzst (zfil (-1) i) zze zze zze zze zze)) (by
    rintro n i z hi rfl
    refine ⟨_, rfl, ?_⟩
    show lp_X10_init2_188 _ (n + 1) (nI i) _ = lp_X10_init2_188 _ n (nI (i + 1)) _
    rw [← zfil_s, ← nI_1]
    simp only [lp_X10_init2_188, c_ge 48 48 hi (by decide), if_false, pz_inN hi (by decide), cl_I (show i < 2 ^ 31 by omega), pz_let]
    rfl) (0, u0_X10) (by
    rw [zfil_o]
    rfl)
  refine h1.trans ?_
  show lp_X10_init2_188 _ (n + 1) (nI 48) _ = _
  rw [lp_X10_init2_188, if_pos (by rw [c_le 48 48 (by decide)]; trivial)]
theorem ini10b (k : MS → Option MS) (o : Nat → Int32) : lp_X10_init2_209 k FU 0 (mzst o zze zze zze zze zze) = k (mzst o (zfil (-1000) 12) (zfil (-1) 12) (zfil 120 12) (zfil (-1000) 12) zze) := by
  obtain ⟨n, z, rfl, h1⟩ := lpF (fun n (z : Int32 × MS) => lp_X10_init2_209 k n z.1 z.2) 12 (by decide) (fun i z => z = (nI i, mzst o (zfil (-1000) i) (zfil (-1) i) (zfil 120 i) (zfil (-1000) i) zze)) (by
    rintro n i z hi rfl
    refine ⟨_, rfl, ?_⟩
    show lp_X10_init2_209 _ (n + 1) (nI i) _ = lp_X10_init2_209 _ n (nI (i + 1)) _
    rw [← zfil_s, ← zfil_s, ← zfil_s, ← nI_1]
    simp only [lp_X10_init2_209, c_ge 12 12 hi (by decide), if_false, pz_inN hi (by decide), cl_I (show i < 2 ^ 31 by omega), pz_let]
    rfl) (0, mzst o zze zze zze zze zze) (by
    rw [zfil_o, zfil_o, zfil_o]
    rfl)
  refine h1.trans ?_
  show lp_X10_init2_209 _ (n + 1) (nI 12) _ = _
  rw [lp_X10_init2_209, if_pos (by rw [c_le 12 12 (by decide)]; trivial)]
theorem ini10c (k : MS → Option MS) (o a b c d : Nat → Int32) : lp_X10_init2_256 k FU 0 (mzst o a b c d zze) = k (mzst o a b c d (zfil (-1) 3)) := by
  obtain ⟨n, z, rfl, h1⟩ := lpF (fun n (z : Int32 × MS) => lp_X10_init2_256 k n z.1 z.2) 3 (by decide) (fun i z => z = (nI i, mzst o a b c d (zfil (-1) i))) (by
    rintro n i z hi rfl
    refine ⟨_, rfl, ?_⟩
    show lp_X10_init2_256 _ (n + 1) (nI i) _ = lp_X10_init2_256 _ n (nI (i + 1)) _
    rw [← zfil_s, ← nI_1]
    simp only [lp_X10_init2_256, c_ge 3 3 hi (by decide), if_false, pz_inN hi (by decide), cl_I (show i < 2 ^ 31 by omega), pz_let]
    rfl) (0, mzst o a b c d zze) (by
    rw [zfil_o]
    rfl)
  refine h1.trans ?_
  show lp_X10_init2_256 _ (n + 1) (nI 3) _ = _
  rw [lp_X10_init2_256, if_pos (by rw [c_le 3 3 (by decide)]; trivial)]
theorem inc_z : upd (upd (upd (fun _ => (0 : Int32)) (0 : Int32).toNatClampNeg (-1)) (1 : Int32).toNatClampNeg (-1)) (2 : Int32).toNatClampNeg (-1) = zfil (-1) 3 := by
  rw [show (0 : Int32).toNatClampNeg = 0 from by decide, show (1 : Int32).toNatClampNeg = 1 from by decide, show (2 : Int32).toNatClampNeg = 2 from by decide, ← zfil_o (-1), zfil_s, zfil_s, zfil_s]
/-- the class's object before its first minute is kept -/
def gzst : GS := u0_X9 (zfil (-1) 12, zfil 120 12, zfil (-1000) 12, (0 : Int32)) (zfil (-1) 48, (fun _ => 0), (fun _ => 0)) ((fun _ => 0), zfil (-1000) 12)
def mzst1 : MS := mzst (zfil (-1) 48) (zfil (-1000) 12) (zfil (-1) 12) (zfil 120 12) (zfil (-1000) 12) (zfil (-1) 3)
theorem rz_M : RM gzst mzst1 := ⟨rfl, 0, by omega, rfl⟩
theorem rz_T : RT gzst mzst1 := ⟨rfl, fun _ _ => ⟨0, by omega, rfl⟩⟩
theorem rz_D : RD gzst mzst1 := ⟨rfl, fun _ _ => Or.inl rfl⟩
theorem rz_S : RS gzst mzst1 := ⟨rfl, fun k hk => ⟨120, by omega, (show zfil 120 12 k = nI 120 from zfil_i hk)⟩, fun k hk => Or.inl (show zfil (-1) 12 k = -1 from zfil_i hk), 0, by omega, rfl⟩
theorem rz_O : RO gzst mzst1 := ⟨rfl, fun p hp => Or.inl (show zfil (-1) 48 p = -1 from zfil_i hp)⟩
theorem rz_H : RH gzst mzst1 := ⟨rfl, fun k hk => (show zfil (-1000) 12 k = if (0 : Int32) = 0 then -1000 else zfil (-1000) 12 k from by rw [if_pos rfl, zfil_i hk]), fun _ => Or.inl rfl⟩
theorem rz_I : RI gzst mzst1 := ⟨0, by omega, rfl, rfl, rfl, rfl, fun k hk => absurd hk (Nat.not_lt_zero k), fun j hj => Or.inl (show zfil (-1) 3 j = -1 from zfil_i hj), fun k hk => absurd hk (Nat.not_lt_zero k)⟩
theorem rz_Pi : cP_incidents gzst = zfil (-1) 3 := inc_z
theorem rz_P : RP gzst mzst1 := ⟨(show ((fun _ => 0), cP_incidents gzst, (fun _ => 0)) = qmP mzst1 from by
    rw [rz_Pi]
    rfl), fun _ _ => ⟨0, by omega, rfl⟩, fun j hj => Or.inl ⟨by rw [rz_Pi, zfil_i hj], rfl⟩⟩
theorem rz_B : RB gzst mzst1 := ⟨0, by omega, rfl, rfl, fun k hk => absurd hk (Nat.not_lt_zero k)⟩
theorem rz_K : RK gzst mzst1 := fun _ _ _ _ => ⟨0, 0, 0, 0, 0, by omega, by omega, by omega, by omega, by omega, rfl, rfl, rfl, rfl, rfl, rfl⟩
theorem rz_all : Rel gzst mzst1 := ⟨rz_M, rz_T, rz_D, rz_S, rz_O, rz_H, rz_I, rz_P, rz_B, rz_K⟩
theorem rel_start : ∃ (w7 : I7) (w3 : I3) (w6 : I6) (w9 : GS) (w10 : MS), g_X7_init2 u0_X7 = some w7 ∧ g_X3_init2 u0_X3 = some w3 ∧ g_X6_init2 u0_X6 = some w6 ∧ g_X9_init2 (u0_X9 w7 w3 w6) = some w9 ∧ g_X10_init2 u0_X10 = some w10 ∧ Rel w9 w10 := by
  obtain ⟨hM, hT, hD, hS, hO, hH, hI, hP, hB, hK⟩ := id rz_all
  have hv : smV mzst1 := smV_of hI hB
  obtain ⟨f, g, e1, hg⟩ := setLane hM hO.1 hH.1 hI hB
  have e2 : g_X3_setAnew gzst (c_minute gzst) = some (cL_shown_set (cL_told_set gzst f) g) := by
    rw [g_X9_setLaneSigns] at e1
    cases q : g_X3_setAnew gzst (c_minute gzst) with
    | none =>
      rw [q] at e1
      exact absurd e1 (by simp [g_bind])
    | some y =>
      rw [q, pz_bind] at e1
      exact e1
  have hU : Rel (cL_shown_set (cL_told_set gzst f) g) mzst1 := ⟨hM, hT, hD, hS, hO, hH, hI, hP, hB, hK⟩
  have hg2 : ∀ p : Nat, p < 48 → cL_shown (cL_shown_set (cL_told_set gzst f) g) p = sgV mzst1 p := hg
  generalize cL_shown_set (cL_told_set gzst f) g = U at hU hg2 e2
  obtain ⟨hM, hT, hD, hS, hO, hH, hI, hP, hB, hK⟩ := id hU
  obtain ⟨K, F, hKF, k1, k2⟩ := keepB hM hS hO hv hK hg2
  refine ⟨_, _, _, cK_kept_set U K, mK_proofs_set mzst1 F, ini7, ini3, ini6, ?_, ?_, ⟨hM, hT, hD, hS, hO, hH, hI, hP, hB, hKF⟩⟩
  · show g_X9_init2 gzst = _
    rw [g_X9_init2, e2, pz_bind, k1, pz_bind]
  · rw [g_X10_init2, ini10a, ini10b, ini10c]
    show g_bind (g_X10_keeps mzst1) _ = _
    rw [k2, pz_bind]

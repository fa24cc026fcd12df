/-! what is kept of a minute -/
theorem tdV_r {u : GS} {v : MS} (hO : RO u v) {p : Nat} (hp : p < 48) : ∃ a : Nat, a ≤ 2 ∧ tdV v p = nI a := by
  have e : mL_ordered v = cL_orders u := hO.1.symm
  by_cases o : mL_ordered v p = -1
  · by_cases c : crV v p
    · exact ⟨2, by omega, tdV_cr o c⟩
    · exact ⟨0, by omega, tdV_no o c⟩
  · rw [tdV_ord o]
    rcases hO.2 p hp with q | q
    · rw [e] at o
      exact absurd q o
    · rw [e]
      exact q
theorem sgV_r {u : GS} {v : MS} (hO : RO u v) {p : Nat} (hp : p < 48) : ∃ a : Nat, a < 4 ∧ sgV v p = nI a := by
  unfold sgV
  by_cases c : tdV v p = 0 ∧ p < 44 ∧ tdV v (p + 4) = 2
  · rw [if_pos c]
    exact ⟨1, by omega, rfl⟩
  · rw [if_neg c]
    obtain ⟨a, ha, e⟩ := tdV_r hO hp
    exact ⟨a, by omega, e⟩
section RELSG
variable {u : GS} {v : MS}
theorem keep_st {s : Nat} (hs : s < 12) (w : GS) (k : Int32 → Option GS) (n x l a : Nat) (hl : l < 4) (ea : cL_shown w (4 * s + l) = nI a) : lp_X5_keep_19 (nI s) w k (n + 1) (nI x) (nI l) = lp_X5_keep_19 (nI s) w k n (nI (x * 4 + a)) (nI l + (-1)) := by
  have e : nI x * (4 : Int32) + nI a = nI (x * 4 + a) := by
    rw [show (4 : Int32) = nI 4 from rfl, pk_mul, nI_add]
  rw [lp_X5_keep_19, if_neg (nI_pos (by omega)), placeN, pz_bind, pz_inN (show 4 * s + l < 48 by omega) (by decide), cl_I (by omega), pz_let, pz_let, ea, e]
theorem keep_in {s : Nat} (hs : s < 12) (w : GS) (k : Int32 → Option GS) (x a b c d : Nat) (ea : cL_shown w (4 * s) = nI a) (eb : cL_shown w (4 * s + 1) = nI b) (ec : cL_shown w (4 * s + 2) = nI c) (ed : cL_shown w (4 * s + 3) = nI d) : lp_X5_keep_19 (nI s) w k FU (nI x) 3 = k (nI (256 * x + 64 * d + 16 * c + 4 * b + a)) := by
  have e3 : nI 3 + (-1) = nI 2 := pk_m1 2
  have e2 : nI 2 + (-1) = nI 1 := pk_m1 1
  have e1 : nI 1 + (-1) = nI 0 := pk_m1 0
  have s3 := keep_st hs w k 999 x 3 d (by omega) ed
  have s2 := keep_st hs w k 998 (x * 4 + d) 2 c (by omega) ec
  have s1 := keep_st hs w k 997 ((x * 4 + d) * 4 + c) 1 b (by omega) eb
  have s0 := keep_st hs w k 996 (((x * 4 + d) * 4 + c) * 4 + b) 0 a (by omega) ea
  rw [e3] at s3
  rw [e2] at s2
  rw [e1] at s1
  have fin : ∀ (n : Nat) (z : Int32), lp_X5_keep_19 (nI s) w k (n + 1) z (nI 0 + (-1)) = k z := fun n z => by
    rw [lp_X5_keep_19, if_pos (by decide)]
  have e : (((x * 4 + d) * 4 + c) * 4 + b) * 4 + a = 256 * x + 64 * d + 16 * c + 4 * b + a := by omega
  exact (s3.trans (s2.trans (s1.trans (s0.trans (fin 995 _))))).trans (congrArg (fun z => k (nI z)) e)
theorem mks1 (v : MS) (f : Nat → Int32) : mK_proofs (mK_proofs_set v f) = f := rfl
theorem mks2 (v : MS) (f g : Nat → Int32) : mK_proofs_set (mK_proofs_set v f) g = mK_proofs_set v g := rfl
theorem cks1 (u : GS) (f : Nat → Int32) : cK_kept (cK_kept_set u f) = f := rfl
theorem cks2 (u : GS) (f g : Nat → Int32) : cK_kept_set (cK_kept_set u f) g = cK_kept_set u g := rfl
theorem keeps_st (hv : smV v) {t s : Nat} (ht : t < 60) (hs : s < 12) (k : MS → Option MS) (n l : Nat) (hl : l < 4) (F : Nat → Int32) : lp_X10_keeps_37 (nI (60 * t)) (nI s) k (n + 1) (nI l) (mK_proofs_set v F) = lp_X10_keeps_37 (nI (60 * t)) (nI s) k n (nI (l + 1)) (mK_proofs_set v (upd F (60 * t + 5 * s + 1 + l) (sgV v (4 * s + l)))) := by
  have e : (((nI (60 * t) + ((5 : Int32) * nI s)) + (1 : Int32)) + nI l) = nI (60 * t + 5 * s + 1 + l) := by
    rw [show (5 : Int32) = nI 5 from rfl, show (1 : Int32) = nI 1 from rfl, pk_mul, nI_add, nI_add, nI_add]
  have sg : g_X10_signOf (mK_proofs_set v F) (nI s) (nI l) = some (sgV v (4 * s + l)) := sign_m (v := mK_proofs_set v F) hv hs hl
  rw [lp_X10_keeps_37, if_neg (fun q => by rw [c_ge 4 4 hl (by decide)] at q; exact q), sg, pz_bind, e, pz_inN (show 60 * t + 5 * s + 1 + l < 3600 by omega) (by decide), cl_I (by omega), pz_let, pz_let, mks1, mks2, nI_1]
theorem keeps_in (hv : smV v) {t s : Nat} (ht : t < 60) (hs : s < 12) (k : MS → Option MS) (F : Nat → Int32) : lp_X10_keeps_37 (nI (60 * t)) (nI s) k FU 0 (mK_proofs_set v F) = k (mK_proofs_set v (upd (upd (upd (upd F (60 * t + 5 * s + 1) (sgV v (4 * s))) (60 * t + 5 * s + 2) (sgV v (4 * s + 1))) (60 * t + 5 * s + 3) (sgV v (4 * s + 2))) (60 * t + 5 * s + 4) (sgV v (4 * s + 3)))) := by
  have s0 := keeps_st hv ht hs k 999 0 (by omega) F
  have s1 := keeps_st hv ht hs k 998 1 (by omega) (upd F (60 * t + 5 * s + 1) (sgV v (4 * s)))
  have s2 := keeps_st hv ht hs k 997 2 (by omega) (upd (upd F (60 * t + 5 * s + 1) (sgV v (4 * s))) (60 * t + 5 * s + 2) (sgV v (4 * s + 1)))
  have s3 := keeps_st hv ht hs k 996 3 (by omega) (upd (upd (upd F (60 * t + 5 * s + 1) (sgV v (4 * s))) (60 * t + 5 * s + 2) (sgV v (4 * s + 1))) (60 * t + 5 * s + 3) (sgV v (4 * s + 2)))
  have fin : ∀ (n : Nat) (w : MS), lp_X10_keeps_37 (nI (60 * t)) (nI s) k (n + 1) (nI 4) w = k w := fun n w => by
    rw [lp_X10_keeps_37, if_pos (by rw [c_le 4 4 (by decide)]; trivial)]
  exact s0.trans (s1.trans (s2.trans (s3.trans (fin 995 _))))
theorem row_old {K F : Nat → Int32} {t s t' s' : Nat} (hs : s < 12) (hs' : s' < 12) (ne : ¬ (t' = t ∧ s' = s)) (h : rowK K F t' s') (z x a b c d : Int32) : rowK (upd K (12 * t + s) z) (upd (upd (upd (upd (upd F (60 * t + 5 * s) x) (60 * t + 5 * s + 1) a) (60 * t + 5 * s + 2) b) (60 * t + 5 * s + 3) c) (60 * t + 5 * s + 4) d) t' s' := by
  obtain ⟨X, A, B, C, D, h1, h2, h3, h4, h5, p0, p1, p2, p3, p4, kp⟩ := h
  refine ⟨X, A, B, C, D, h1, h2, h3, h4, h5, ?_, ?_, ?_, ?_, ?_, ?_⟩
  · rw [pk_un (by omega), pk_un (by omega), pk_un (by omega), pk_un (by omega), pk_un (by omega)]
    exact p0
  · rw [pk_un (by omega), pk_un (by omega), pk_un (by omega), pk_un (by omega), pk_un (by omega)]
    exact p1
  · rw [pk_un (by omega), pk_un (by omega), pk_un (by omega), pk_un (by omega), pk_un (by omega)]
    exact p2
  · rw [pk_un (by omega), pk_un (by omega), pk_un (by omega), pk_un (by omega), pk_un (by omega)]
    exact p3
  · rw [pk_un (by omega), pk_un (by omega), pk_un (by omega), pk_un (by omega), pk_un (by omega)]
    exact p4
  · rw [pk_un (by omega)]
    exact kp
theorem row_new {K F : Nat → Int32} {t s X A B C D : Nat} (h1 : X ≤ 120) (h2 : A < 4) (h3 : B < 4) (h4 : C < 4) (h5 : D < 4) : rowK (upd K (12 * t + s) (nI (256 * X + 64 * D + 16 * C + 4 * B + A))) (upd (upd (upd (upd (upd F (60 * t + 5 * s) (nI X)) (60 * t + 5 * s + 1) (nI A)) (60 * t + 5 * s + 2) (nI B)) (60 * t + 5 * s + 3) (nI C)) (60 * t + 5 * s + 4) (nI D)) t s := by
  refine ⟨X, A, B, C, D, h1, h2, h3, h4, h5, ?_, ?_, ?_, ?_, ?_, pk_us⟩
  · rw [pk_un (by omega), pk_un (by omega), pk_un (by omega), pk_un (by omega), pk_us]
  · rw [pk_un (by omega), pk_un (by omega), pk_un (by omega), pk_us]
  · rw [pk_un (by omega), pk_un (by omega), pk_us]
  · rw [pk_un (by omega), pk_us]
  · rw [pk_us]
/-- a minute is kept, in both alike -/
theorem keepB (hM : RM u v) (hS : RS u v) (hO : RO u v) (hv : smV v) (hK : RK u v) (hg : ∀ p : Nat, p < 48 → cL_shown u p = sgV v p) : ∃ K F : Nat → Int32, (∀ t s : Nat, t < 60 → s < 12 → rowK K F t s) ∧ g_X5_keep u (c_minute u) = some (cK_kept_set u K) ∧ g_X10_keeps v = some (mK_proofs_set v F) := by
  obtain ⟨em, m, hm, em2⟩ := hM
  have r1 : nI m - nI m / (60 : Int32) * (60 : Int32) = nI (m % 60) := pk_rem (d := 60) (by omega) (by omega) (by omega)
  have v2 : (60 : Int32) * nI (m % 60) = nI (60 * (m % 60)) := pk_mul 60 _
  have ht : m % 60 < 60 := Nat.mod_lt _ (by omega)
  obtain ⟨n, z, t, ⟨K, F, hKF, rfl, rfl⟩, h1, h2⟩ := lpR (fun n (z : Int32 × GS) => lp_X5_keep_3 (nI m) (fun w => some w) n z.1 z.2) (fun n (t : Int32 × MS) => lp_X10_keeps_13 (nI (60 * (m % 60))) (fun w => some w) n t.1 t.2) 12 (by decide) (fun i z t => ∃ K F : Nat → Int32, (∀ t s : Nat, t < 60 → s < 12 → rowK K F t s) ∧ z = (nI i, cK_kept_set u K) ∧ t = (nI i, mK_proofs_set v F)) (by
    rintro n i z t hi ⟨K, F, hKF, rfl, rfl⟩
    obtain ⟨x, hx, ex⟩ := hS.2.1 i hi
    have ex2 : mS_speedSign v i = nI x := (congrFun hS.shown i).trans ex
    obtain ⟨a, ha, ea⟩ := sgV_r hO (show 4 * i < 48 by omega)
    obtain ⟨b, hb, eb⟩ := sgV_r hO (show 4 * i + 1 < 48 by omega)
    obtain ⟨c, hc, ec⟩ := sgV_r hO (show 4 * i + 2 < 48 by omega)
    obtain ⟨d, hd, ed⟩ := sgV_r hO (show 4 * i + 3 < 48 by omega)
    have k1 := keep_in hi (cK_kept_set u K) (fun (x5_19 : Int32) => g_bind (g_X5_slotOf (nI m) (nI i)) (fun (y10 : Int32) => g_in y10 720 (g_let (cK_kept_set (cK_kept_set u K) (upd (cK_kept (cK_kept_set u K)) y10.toNatClampNeg x5_19)) (fun (u13 : GS) => g_let (nI i + 1) (fun (v14 : Int32) => lp_X5_keep_3 (nI m) (fun w => some w) n v14 u13))))) x a b c d ((hg _ (by omega)).trans ea) ((hg _ (by omega)).trans eb) ((hg _ (by omega)).trans ec) ((hg _ (by omega)).trans ed)
    have k2 := keeps_in hv ht hi (fun (w37 : MS) => g_let (nI i + 1) (fun (v13 : Int32) => lp_X10_keeps_13 (nI (60 * (m % 60))) (fun w => some w) n v13 w37)) (upd F (60 * (m % 60) + 5 * i) (nI x))
    rw [ea, eb, ec, ed] at k2
    have ix : nI (60 * (m % 60)) + ((5 : Int32) * nI i) = nI (60 * (m % 60) + 5 * i) := by
      rw [show (5 : Int32) = nI 5 from rfl, pk_mul, nI_add]
    refine ⟨_, _, ⟨upd K (12 * (m % 60) + i) (nI (256 * x + 64 * d + 16 * c + 4 * b + a)), upd (upd (upd (upd (upd F (60 * (m % 60) + 5 * i) (nI x)) (60 * (m % 60) + 5 * i + 1) (nI a)) (60 * (m % 60) + 5 * i + 2) (nI b)) (60 * (m % 60) + 5 * i + 3) (nI c)) (60 * (m % 60) + 5 * i + 4) (nI d), fun t' s' h1 h2 => ?_, rfl, rfl⟩, ?_, ?_⟩
    · by_cases e : t' = m % 60 ∧ s' = i
      · rw [e.1, e.2]
        exact row_new hx ha hb hc hd
      · exact row_old hi h2 e (hKF t' s' h1 h2) _ _ _ _ _ _
    · show lp_X5_keep_3 _ _ (n + 1) (nI i) _ = lp_X5_keep_3 _ _ n _ _
      rw [lp_X5_keep_3, if_neg (fun q => by rw [c_ge 12 12 hi (by decide)] at q; exact q), pz_inN hi (by decide), cl_I (by omega), pz_let, show cS_shown (cK_kept_set u K) i = nI x from ex, k1, slotN hm, pz_bind, pz_inN (show 12 * (m % 60) + i < 720 by omega) (by decide), cl_I (by omega), pz_let, pz_let, cks1, cks2, nI_1]
    · show lp_X10_keeps_13 _ _ (n + 1) (nI i) _ = lp_X10_keeps_13 _ _ n _ _
      rw [lp_X10_keeps_13, if_neg (fun q => by rw [c_ge 12 12 hi (by decide)] at q; exact q), pz_inN hi (by decide), ix, pz_inN (show 60 * (m % 60) + 5 * i < 3600 by omega) (by decide), cl_I (show 60 * (m % 60) + 5 * i < 2 ^ 31 by omega), cl_I (show i < 2 ^ 31 by omega), pz_let, show mS_speedSign (mK_proofs_set v F) i = nI x from ex2, mks1, mks2, k2, pz_let, nI_1]) (0, u) (0, v) ⟨cK_kept u, mK_proofs v, hK, rfl, rfl⟩
  refine ⟨K, F, hKF, ?_, ?_⟩
  · rw [g_X5_keep, em2]
    refine h1.trans ?_
    show lp_X5_keep_3 _ _ (n + 1) (nI 12) _ = _
    rw [lp_X5_keep_3, if_pos (by rw [c_le 12 12 (by decide)]; trivial)]
  · rw [g_X10_keeps, pz_let, ← em, em2, r1, v2, pz_let]
    refine h2.trans ?_
    show lp_X10_keeps_13 _ _ (n + 1) (nI 12) _ = _
    rw [lp_X10_keeps_13, if_pos (by rw [c_le 12 12 (by decide)]; trivial)]
end RELSG

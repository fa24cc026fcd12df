/-! THE CLAIM IS FALSE AS IT IS PRINTED: at a script of 210 fives the law returns, and has made 126 cells and more; the claim's frame allows 125. The start is the printed witness's own but for the script. -/
def s5 : Array Value := Array.ofFn (n := 210) fun _ => .int 5
def st5 : State := start1.aboutOf s5
set_option maxRecDepth 100000 in
theorem st5_vm (a b : Array Value) : (start1.aboutOf a).vm = (start1.aboutOf b).vm := rfl
set_option maxRecDepth 100000 in
theorem st5_warm : start1.about.WarmedH st5.vm := by
  have e : st5.vm = start1.about.vm := st5_vm s5 start1.cells0
  rw [e]
  exact State.WarmedH.refl start1.about
set_option maxRecDepth 16384 in
theorem st5_rest : ((Jvm.Cond.code x code maxLocals ret :: tables_1).filter (fun c => !goodWord c)).all (fun c => c.before start1.args0 st5) = true := by decide +kernel
theorem st5_words : ∀ c ∈ (Jvm.Cond.code x code maxLocals ret :: tables_1), c.before start1.args0 st5 = true := by
  intro c hc
  cases hg : goodWord c with
  | true => exact word_at st5_warm (good_of_word hg) (start1.words c hc)
  | false => exact List.all_eq_true.mp st5_rest c (List.mem_filter.mpr ⟨hc, by rw [hg]; rfl⟩)
set_option maxRecDepth 16384 in
theorem st5_atStart : AtStart classFile x code maxLocals ret World_1 tables_1 room_1 Calls_1 rest_1 Pre_1 launch0 start1.p0 start1.e0 st5 ⟨0, 0⟩ start1.args0 Lib.HandBits.below0 :=
  ⟨lists_1, trivial, launch0.admits_env _ _ _, launch0.least_env, fairChoices_fair.cas, fairChoices_fair.clock, rfl, by decide +kernel, by decide +kernel,
    (Spec.applies_iff rfl).mpr ⟨rfl, rfl, rfl, by decide +kernel, by decide +kernel, by decide +kernel, launch0.hasRoom_least _ room_1 (by decide +kernel) (by decide +kernel) (by decide +kernel) (by decide +kernel) (by decide +kernel) (by decide +kernel), atoms_intro st5_words⟩,
    trivial, (show rest_1_c.before start1.args0 st5 = true by decide +kernel), (show (Cond.and given_1 narrow_1).before start1.args0 st5 = true by decide +kernel)⟩
set_option maxRecDepth 16384 in
theorem st5_R9 : (headSpec (Jvm.Cond.code x code maxLocals ret :: tables_1) R9).applies x start1.e0.platform st5 = true :=
  (Spec.applies_iff rfl).mpr ⟨rfl, rfl, rfl, by decide +kernel, by decide +kernel, by decide +kernel, launch0.hasRoom_least _ R9 (by decide +kernel) (by decide +kernel) (by decide +kernel) (by decide +kernel) (by decide +kernel) (by decide +kernel), atoms_intro st5_words⟩
theorem s5_size : s5.size = 210 := by rw [s5, Array.size_ofFn]
theorem s5_at (j : Nat) (hj : j < 210) : s5[j]? = some (.int 5) := by rw [s5, Array.getElem?_ofFn, dif_pos hj]
set_option maxRecDepth 100000 in
theorem st5_cell (a : Array Value) : (start1.aboutOf a).heap[0]? = some { cls := 21, slots := a, vm := .none } := rfl
set_option maxRecDepth 100000 in
theorem st5_arr (a : Array Value) : (start1.aboutOf a).isArrayOf { cls := 21, slots := a, vm := .none } .int := ⟨fun k h => (by cases h), _, rfl, _, rfl⟩
set_option maxRecDepth 100000 in
theorem st5_X : va_X 0 210 (fun _ => 5) st5 st5.heap :=
  ⟨{ cls := 21, slots := s5, vm := .none }, st5_cell s5, st5_arr s5, fun h => (by cases h), s5_size, s5_at⟩
set_option maxRecDepth 16384 in
theorem i_runs : ∃ (n : Nat) (o : Outcome), (∀ k, k < n → Within (stepsAlone start1.p0.tables start1.e0 k st5) Lib.HandBits.below0) ∧ (stepsAlone start1.p0.tables start1.e0 n st5).status = Status.running ∧ Ended (stepsAlone start1.p0.tables start1.e0 n st5) Lib.HandBits.below0 o ∧ st5.heap.size + 126 ≤ (stepsAlone start1.p0.tables start1.e0 n st5).heap.size :=
  i_walk launch0 rfl 0 start1.p0 start1.e0 (launch0.admits_env _ _ _) fairChoices_fair.cas fairChoices_fair.clock st5 ⟨0, 0⟩ start1.args0 Lib.HandBits.below0 rfl ((Spec.applies_iff_loose rfl).mp st5_R9).1 ⟨rfl, st5_X, (show (Cond.and given_1 narrow_1).before start1.args0 st5 = true by decide +kernel)⟩ trivial
/-- the claim's own form of its being false -/
theorem i_refuted_1 : RefutedClaimed_1_1 := by
  obtain ⟨n, o, hw, hrun, hend, hz⟩ := i_runs
  refine ⟨launch0, start1.p0, start1.e0, st5, ⟨0, 0⟩, start1.args0, Lib.HandBits.below0, rfl, st5_atStart, n, o, hw, hrun, hend, ?_⟩
  rintro ⟨-, -, -, -, -, hle, -⟩
  have h1 : (stepsAlone start1.p0.tables start1.e0 n st5).heap.size ≤ st5.heap.size + 125 := hle
  omega
theorem i_refuted_2 : RefutedClaimed_1_2 := by
  obtain ⟨n, o, hw, hrun, hend, hz⟩ := i_runs
  refine ⟨launch0, start1.p0, start1.e0, st5, ⟨0, 0⟩, start1.args0, Lib.HandBits.below0, rfl, st5_atStart, n, o, hw, hrun, hend, ?_⟩
  rintro ⟨-, -, -, -, -, hle, -⟩
  have h1 : (stepsAlone start1.p0.tables start1.e0 n st5).heap.size ≤ st5.heap.size + 125 := hle
  omega
/-- and so what is owed has no proof -/
theorem i_vc_false : ¬ (Claimed_1_1 ∧ Claimed_1_2) := by
  rintro ⟨h, -⟩
  obtain ⟨n, o, hw, hrun, hend, hz⟩ := i_runs
  obtain ⟨hL, hWo, ha, -, hc, hk, hf, hfit, hhp, happ, hcalls, hrest, hpre⟩ := st5_atStart
  obtain ⟨n', o', hw', hrun', hend', hpost⟩ := h launch0 rfl hL hWo start1.p0 start1.e0 ha hc hk st5 ⟨0, 0⟩ start1.args0 Lib.HandBits.below0 hf hfit hhp happ ⟨hcalls, hrest, hpre⟩
  have e : n = n' := by
    rcases Nat.lt_trichotomy n n' with q | q | q
    · exact absurd (hw' n q) hend.not_within
    · exact q
    · exact absurd (hw n' q) hend'.not_within
  subst e
  obtain ⟨-, -, -, -, -, hle, -⟩ := hpost
  have h1 : (stepsAlone start1.p0.tables start1.e0 n st5).heap.size ≤ st5.heap.size + 125 := hle
  omega

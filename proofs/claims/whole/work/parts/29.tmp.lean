/-- how a call of the class and one of the reference agree: both answer, or both refuse -/
def SI (Rel : GS → MS → Prop) (cg : Option (g_X × GS)) (mg : Option (Int32 × MS)) (es : List (String × Int32)) : Prop :=
  (∃ (r : Int32) (u' : GS) (v' : MS), cg = some (.inl r, u') ∧ mg = some (r, v') ∧ m_thrown v' = 0 ∧ Rel u' v') ∨ (∃ (q : String × Int32) (u' : GS) (b : Int32) (v' : MS), q ∈ es ∧ cg = some (.inr q.1, u') ∧ mg = some (b, v') ∧ m_thrown v' = q.2 ∧ Rel u' v')
def SV (Rel : GS → MS → Prop) (cg : Option (g_X × GS)) (mg : Option MS) (es : List (String × Int32)) : Prop :=
  (∃ (r : Int32) (u' : GS) (v' : MS), cg = some (.inl r, u') ∧ mg = some v' ∧ m_thrown v' = 0 ∧ Rel u' v') ∨ (∃ (q : String × Int32) (u' : GS) (v' : MS), q ∈ es ∧ cg = some (.inr q.1, u') ∧ mg = some v' ∧ m_thrown v' = q.2 ∧ Rel u' v')
def lin (i : Int32) (L : Nat) : Prop := vp_in i L ∧ vp_in (i + 1) L ∧ vp_in (i + 2) L ∧ vp_in (i + 3) L ∧ vp_in (i + 4) L ∧ vp_in (i + 5) L

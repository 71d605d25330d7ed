/-- the constructors of nest mates that are called: caller, pool entry, method, host -/
def nestW : List (String × Nat × MethodName × String) := [(RX4, 18, yX3_init, RX4), (RX4, 29, yX2_init, RX4), (RX1, 9, yX3_init, RX4), (RX1, 18, yX2_init, RX4), (RX1, 25, yX0_init, RX4)]
theorem nestW_in : ∀ q ∈ nestW, Cond.methodLinkNest q.1 q.2.1 q.2.2.1 q.2.2.2 ∈ lw_tbl := by decide +kernel

/-! Reader: all depths -/
theorem c_rd_all {g : GT} {z : Nat → Nat} (hA : GA g z) : ∀ f, f ≤ 24 → RDV g z f
  | 0, _ => c_rd_value hA (sub := fun _ => none) (fun _ => rfl) (c_rd_group0 hA)
  | f + 1, h => c_rd_value hA (sub := fun bs => some (rdV bs f)) (fun _ => rfl) (c_rd_group1 hA h (c_rd_all hA f (by omega)))

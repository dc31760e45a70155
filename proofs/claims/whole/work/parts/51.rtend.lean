theorem rt_e0 : ∀ a, a < 6 → ∀ k, k < 60 → rL lr132 (0 + a) k = RT 4 11 18 22 none (0 + a) k := by decide +kernel
theorem rt_e6 : ∀ a, a < 6 → ∀ k, k < 60 → rL lr132 (6 + a) k = RT 4 11 18 22 none (6 + a) k := by decide +kernel
theorem rt_e12 : ∀ a, a < 6 → ∀ k, k < 60 → rL lr132 (12 + a) k = RT 4 11 18 22 none (12 + a) k := by decide +kernel

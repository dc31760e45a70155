theorem rt_e0 : ∀ a, a < 6 → ∀ k, k < 60 → rL lr133 (0 + a) k = RT 3 10 18 22 (some 10) (0 + a) k := by decide +kernel
theorem rt_e6 : ∀ a, a < 6 → ∀ k, k < 60 → rL lr133 (6 + a) k = RT 3 10 18 22 (some 10) (6 + a) k := by decide +kernel
theorem rt_e12 : ∀ a, a < 6 → ∀ k, k < 60 → rL lr133 (12 + a) k = RT 3 10 18 22 (some 10) (12 + a) k := by decide +kernel
theorem rt_e18 : ∀ a, a < 6 → ∀ k, k < 60 → rL lr133 (18 + a) k = RT 3 10 18 22 (some 10) (18 + a) k := by decide +kernel
theorem rt_e24 : ∀ a, a < 6 → ∀ k, k < 60 → rL lr133 (24 + a) k = RT 3 10 18 22 (some 10) (24 + a) k := by decide +kernel
theorem rt_e30 : ∀ a, a < 6 → ∀ k, k < 60 → rL lr133 (30 + a) k = RT 3 10 18 22 (some 10) (30 + a) k := by decide +kernel
theorem rt_e36 : ∀ a, a < 6 → ∀ k, k < 60 → rL lr133 (36 + a) k = RT 3 10 18 22 (some 10) (36 + a) k := by decide +kernel
theorem rt_e42 : ∀ a, a < 6 → ∀ k, k < 60 → rL lr133 (42 + a) k = RT 3 10 18 22 (some 10) (42 + a) k := by decide +kernel
theorem rt_e48 : ∀ a, a < 6 → ∀ k, k < 60 → rL lr133 (48 + a) k = RT 3 10 18 22 (some 10) (48 + a) k := by decide +kernel
theorem rt_e54 : ∀ a, a < 6 → ∀ k, k < 60 → rL lr133 (54 + a) k = RT 3 10 18 22 (some 10) (54 + a) k := by decide +kernel
theorem rt_e60 : ∀ a, a < 6 → ∀ k, k < 60 → rL lr133 (60 + a) k = RT 3 10 18 22 (some 10) (60 + a) k := by decide +kernel
theorem rt_e66 : ∀ a, a < 6 → ∀ k, k < 60 → rL lr133 (66 + a) k = RT 3 10 18 22 (some 10) (66 + a) k := by decide +kernel
theorem rt_e72 : ∀ a, a < 6 → ∀ k, k < 60 → rL lr133 (72 + a) k = RT 3 10 18 22 (some 10) (72 + a) k := by decide +kernel
theorem rt_e78 : ∀ a, a < 6 → ∀ k, k < 60 → rL lr133 (78 + a) k = RT 3 10 18 22 (some 10) (78 + a) k := by decide +kernel
theorem rt_e84 : ∀ a, a < 6 → ∀ k, k < 60 → rL lr133 (84 + a) k = RT 3 10 18 22 (some 10) (84 + a) k := by decide +kernel
theorem rt_e90 : ∀ a, a < 6 → ∀ k, k < 60 → rL lr133 (90 + a) k = RT 3 10 18 22 (some 10) (90 + a) k := by decide +kernel
theorem rt_e96 : ∀ a, a < 6 → ∀ k, k < 60 → rL lr133 (96 + a) k = RT 3 10 18 22 (some 10) (96 + a) k := by decide +kernel
theorem rt_e102 : ∀ a, a < 6 → ∀ k, k < 60 → rL lr133 (102 + a) k = RT 3 10 18 22 (some 10) (102 + a) k := by decide +kernel
theorem rt_e108 : ∀ a, a < 6 → ∀ k, k < 60 → rL lr133 (108 + a) k = RT 3 10 18 22 (some 10) (108 + a) k := by decide +kernel
theorem rt_e114 : ∀ a, a < 6 → ∀ k, k < 60 → rL lr133 (114 + a) k = RT 3 10 18 22 (some 10) (114 + a) k := by decide +kernel
theorem rt_e120 : ∀ a, a < 6 → ∀ k, k < 60 → rL lr133 (120 + a) k = RT 3 10 18 22 (some 10) (120 + a) k := by decide +kernel
theorem rt_end : ∀ a, a < 126 → ∀ k, k < 60 → rL lr133 a k = RT 3 10 18 22 (some 10) a k := by
  intro a ha k hk
  by_cases h0 : a < 6
  · have h := rt_e0 (a - 0) (by omega) k hk; rw [show 0 + (a - 0) = a by omega] at h; exact h
  by_cases h6 : a < 12
  · have h := rt_e6 (a - 6) (by omega) k hk; rw [show 6 + (a - 6) = a by omega] at h; exact h
  by_cases h12 : a < 18
  · have h := rt_e12 (a - 12) (by omega) k hk; rw [show 12 + (a - 12) = a by omega] at h; exact h
  by_cases h18 : a < 24
  · have h := rt_e18 (a - 18) (by omega) k hk; rw [show 18 + (a - 18) = a by omega] at h; exact h
  by_cases h24 : a < 30
  · have h := rt_e24 (a - 24) (by omega) k hk; rw [show 24 + (a - 24) = a by omega] at h; exact h
  by_cases h30 : a < 36
  · have h := rt_e30 (a - 30) (by omega) k hk; rw [show 30 + (a - 30) = a by omega] at h; exact h
  by_cases h36 : a < 42
  · have h := rt_e36 (a - 36) (by omega) k hk; rw [show 36 + (a - 36) = a by omega] at h; exact h
  by_cases h42 : a < 48
  · have h := rt_e42 (a - 42) (by omega) k hk; rw [show 42 + (a - 42) = a by omega] at h; exact h
  by_cases h48 : a < 54
  · have h := rt_e48 (a - 48) (by omega) k hk; rw [show 48 + (a - 48) = a by omega] at h; exact h
  by_cases h54 : a < 60
  · have h := rt_e54 (a - 54) (by omega) k hk; rw [show 54 + (a - 54) = a by omega] at h; exact h
  by_cases h60 : a < 66
  · have h := rt_e60 (a - 60) (by omega) k hk; rw [show 60 + (a - 60) = a by omega] at h; exact h
  by_cases h66 : a < 72
  · have h := rt_e66 (a - 66) (by omega) k hk; rw [show 66 + (a - 66) = a by omega] at h; exact h
  by_cases h72 : a < 78
  · have h := rt_e72 (a - 72) (by omega) k hk; rw [show 72 + (a - 72) = a by omega] at h; exact h
  by_cases h78 : a < 84
  · have h := rt_e78 (a - 78) (by omega) k hk; rw [show 78 + (a - 78) = a by omega] at h; exact h
  by_cases h84 : a < 90
  · have h := rt_e84 (a - 84) (by omega) k hk; rw [show 84 + (a - 84) = a by omega] at h; exact h
  by_cases h90 : a < 96
  · have h := rt_e90 (a - 90) (by omega) k hk; rw [show 90 + (a - 90) = a by omega] at h; exact h
  by_cases h96 : a < 102
  · have h := rt_e96 (a - 96) (by omega) k hk; rw [show 96 + (a - 96) = a by omega] at h; exact h
  by_cases h102 : a < 108
  · have h := rt_e102 (a - 102) (by omega) k hk; rw [show 102 + (a - 102) = a by omega] at h; exact h
  by_cases h108 : a < 114
  · have h := rt_e108 (a - 108) (by omega) k hk; rw [show 108 + (a - 108) = a by omega] at h; exact h
  by_cases h114 : a < 120
  · have h := rt_e114 (a - 114) (by omega) k hk; rw [show 114 + (a - 114) = a by omega] at h; exact h
  have h := rt_e120 (a - 120) (by omega) k hk; rw [show 120 + (a - 120) = a by omega] at h; exact h

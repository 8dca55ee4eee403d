theorem j_bc0 : ∀ a : Fin 128, ∀ b : Fin 64, f_J6_bitCount_0f7a4 (nI (64 * a.val + b.val)) = some (nI (fb_ct (fun i => (64 * a.val + b.val).testBit i) 13)) := by decide +kernel
theorem j_bitCount {m : Nat} (h : m < 8192) : f_J6_bitCount_0f7a4 (nI m) = some (nI (fb_ct (fun i => m.testBit i) 13)) := by
  have := j_bc0 ⟨m / 64, by omega⟩ ⟨m % 64, by omega⟩
  simp only [] at this
  rw [show 64 * (m / 64) + m % 64 = m by omega] at this
  exact this

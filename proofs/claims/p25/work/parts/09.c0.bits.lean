/-- how many writes there are for the first c cells -/
def cw (w : Int32) (c : Nat) : Nat := cn (fun i => if hw w i then 1 else 0) c
theorem cw_0 {w : Int32} (h : sml w 12) (h0 : ¬ w = 0) : cw w 12 ≠ 0 := by
  have key : ∀ a, a < 64 → ∀ b, b < 64 → cw (nI (64 * a + b)) 12 = 0 → nI (64 * a + b) = 0 := by decide +kernel
  obtain ⟨a, ha, rfl⟩ := h
  intro q
  have := key (a / 64) (by omega) (a % 64) (by omega)
  rw [show 64 * (a / 64) + a % 64 = a by omega] at this
  exact h0 (this q)

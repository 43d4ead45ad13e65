/-! At the start. -/
def nF (i : Nat) : Nat → Int32 := fun j => if j = 4 then nI 4 else if j = 8 then nI 12 else if 809 ≤ j ∧ (j - 809) % 3 = 0 ∧ (j - 809) / 3 < i then nI ((j - 809) / 3) else 0
theorem nF_z {j : Nat} (h4 : j ≠ 4) (h8 : j ≠ 8) (h : j < 809) : nF 12 j = 0 := by unfold nF; rw [if_neg h4, if_neg h8, if_neg (by omega)]
theorem nF_r {c : Nat} (hc : c < 12) : rowR (nF 12) c c 0 0 := by
  refine ⟨?_, ?_, ?_⟩
  · unfold nF; rw [if_neg (by omega), if_neg (by omega), if_pos (by omega)]; exact congrArg nI (by omega)
  · unfold nF; rw [if_neg (by omega), if_neg (by omega), if_neg (by omega)]; rfl
  · unfold nF; rw [if_neg (by omega), if_neg (by omega), if_neg (by omega)]
theorem G0_B {j f : Nat} (h : f ≠ 5) : G0 (sB j) f = 0 := G0_sz (o := 0) (by omega) (fun _ => h) (by omega)
theorem first_cur : CurR G0 0 (nF 12) 0 0 12 (fun _ => 1) (fun _ _ => 0) (fun _ => 0) (fun c _ => c) := by
  refine ⟨⟨⟨G0_B (by omega), ?_, ?_, G0_B (by omega), nF_z (by omega) (by omega) (by omega), G0_B (by omega), nF_z (by omega) (by omega) (by omega), ?_, ?_, Or.inl (nF_z (by omega) (by omega) (by omega)), ?_, nF_z (by omega) (by omega) (by omega)⟩, fun r hr => absurd hr (by omega), fun q hq => absurd hq (by omega), fun c hc => ⟨?_, fun p hp => ?_⟩, ⟨fun c hc => ⟨Nat.le_refl 1, by show (1 : Nat) ≤ 10; omega, Nat.zero_le _, fun p q h1 h2 => absurd (show q < 1 from h2) (by omega)⟩, nF_z (by omega) (by omega) (by omega), by omega, by omega, fun r hr => absurd hr (by omega), fun r hr => absurd hr (by omega)⟩, fun c p hc hp _ => ⟨hc, ?_⟩, fun v hv => ⟨v, 0, hv, Nat.one_pos, trivial, rfl⟩⟩, ⟨Nat.le_refl 0, by show (0 : Nat) ≤ 8; omega, by omega⟩, fun c p hc hp => Or.inl (by have hp : p < 1 := hp; omega)⟩
  · rw [G0_B (by omega), nF_z (by omega) (by omega) (by omega)]
  · rw [show G0 (sB 0) 5 = nI 4 from by rw [show sB 0 = 14 + 161 * 0 + 0 from rfl, G0_s (by omega), if_pos ⟨rfl, rfl⟩]]
    unfold nF
    rw [if_pos rfl]
  · rw [G0_B (by omega), nF_z (by omega) (by omega) (by omega)]
  · rw [G0_B (by omega), nF_z (by omega) (by omega) (by omega)]
  · unfold nF
    rw [if_neg (by omega), if_pos rfl]
  · show G0 (cB 0 c) 2 = nI 1
    rw [show cB 0 c = 14 + 161 * 0 + (5 + 3 * c) by unfold cB; omega, G0_s (by omega), if_neg (by omega), if_pos ⟨by omega, by omega, by omega, rfl⟩]
  · show G0 (cM 0 c) p = 0
    rw [show cM 0 c = 14 + 161 * 0 + (7 + 3 * c) by unfold cM; omega, G0_sz (by omega) (by omega) (by omega)]
  · have h : G0 (cV 0 c) p = 0 := by rw [show cV 0 c = 14 + 161 * 0 + (6 + 3 * c) by unfold cV; omega, G0_sz (by omega) (by omega) (by omega)]
    have e : (fun c => G0 (cV 0 c)) c p = 0 := h
    rw [e]
    exact nF_r hc
theorem first_rln (Hs : Nat → Nat → Int32) : RLN G0 (nF 12) 0 Hs :=
  ⟨⟨0, 0, 12, fun _ => 1, fun _ _ => 0, fun _ => 0, fun c _ => c, first_cur⟩, fun t => 3 + t, G0_z (by omega) (by omega) (by omega) 1, by omega, fun t ht => ⟨G0_9 t, by show 3 ≤ 3 + t; omega, by show 3 + t < 7; omega⟩, fun s t _ _ h => by have h : 3 + s = 3 + t := h; omega, fun t ht => absurd ht (by omega)⟩
theorem first_inv : INV (nF 12) (nZ (nF 12 2)) (nZ (nF 12 8)) 0 := by
  obtain ⟨h2, hn, h8, hW, h6, hk, h0, z2, z8, z6⟩ := cur_k first_cur
  rw [z2, z8]
  refine ⟨⟨fun _ => 0, fun _ => 0, fun r hr => absurd hr (by omega), rfl⟩, ⟨4, by omega, ?_⟩, fun v hv => ⟨0, by omega, (nF_r hv).2.2⟩, fun r c hr => absurd hr (by omega)⟩
  unfold nF
  rw [if_pos rfl]

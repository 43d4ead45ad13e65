/-! Stores into locals with gaps and longs, by their shapes. -/
theorem kq_0i1w_3w {n : Nat} {v0 v1 x : Value} : ∀ ls : Array Slot, lv_has ls n ((3, x) :: (([(0, v0), (1, v1)] : List (Nat × Value)).filter (fun q => !(q.1 == 3) && (!(q.1 == 3 + 1) && !(q.1 + 1 == 3 && q.2.category == 2))))) → lv_has ls n [(0, v0), (1, v1), (3, x)] := by
  intro ls h'
  rw [show ([(0, v0), (1, v1)] : List (Nat × Value)).filter (fun q => !(q.1 == 3) && (!(q.1 == 3 + 1) && !(q.1 + 1 == 3 && q.2.category == 2))) = [(0, v0), (1, v1)] from by simp] at h'
  exact lv_sub h' [1, 2, 0] rfl
theorem kq_0i1w3w_5i {n : Nat} {v0 v1 v3 x : Value} : ∀ ls : Array Slot, lv_has ls n ((5, x) :: (([(0, v0), (1, v1), (3, v3)] : List (Nat × Value)).filter (fun q => !(q.1 == 5) && !(q.1 + 1 == 5 && q.2.category == 2)))) → lv_has ls n [(0, v0), (1, v1), (3, v3), (5, x)] := by
  intro ls h'
  rw [show ([(0, v0), (1, v1), (3, v3)] : List (Nat × Value)).filter (fun q => !(q.1 == 5) && !(q.1 + 1 == 5 && q.2.category == 2)) = [(0, v0), (1, v1), (3, v3)] from by simp] at h'
  exact lv_sub h' [1, 2, 3, 0] rfl
theorem kq_0i1w3w5i_3w {n : Nat} {v0 v1 v3 v5 x : Value} : ∀ ls : Array Slot, lv_has ls n ((3, x) :: (([(0, v0), (1, v1), (3, v3), (5, v5)] : List (Nat × Value)).filter (fun q => !(q.1 == 3) && (!(q.1 == 3 + 1) && !(q.1 + 1 == 3 && q.2.category == 2))))) → lv_has ls n [(0, v0), (1, v1), (3, x), (5, v5)] := by
  intro ls h'
  rw [show ([(0, v0), (1, v1), (3, v3), (5, v5)] : List (Nat × Value)).filter (fun q => !(q.1 == 3) && (!(q.1 == 3 + 1) && !(q.1 + 1 == 3 && q.2.category == 2))) = [(0, v0), (1, v1), (5, v5)] from by simp] at h'
  exact lv_sub h' [1, 2, 0, 3] rfl
theorem kq_0i1w3w5i_5i {n : Nat} {v0 v1 v3 v5 x : Value} : ∀ ls : Array Slot, lv_has ls n ((5, x) :: (([(0, v0), (1, v1), (3, v3), (5, v5)] : List (Nat × Value)).filter (fun q => !(q.1 == 5) && !(q.1 + 1 == 5 && q.2.category == 2)))) → lv_has ls n [(0, v0), (1, v1), (3, v3), (5, x)] := by
  intro ls h'
  rw [show ([(0, v0), (1, v1), (3, v3), (5, v5)] : List (Nat × Value)).filter (fun q => !(q.1 == 5) && !(q.1 + 1 == 5 && q.2.category == 2)) = [(0, v0), (1, v1), (3, v3)] from by simp] at h'
  exact lv_sub h' [1, 2, 3, 0] rfl
theorem kq_0i1i2i3i_4i {n : Nat} {v0 v1 v2 v3 x : Value} (h : v3.category = 1) : ∀ ls : Array Slot, lv_has ls n ((4, x) :: (([(0, v0), (1, v1), (2, v2), (3, v3)] : List (Nat × Value)).filter (fun q => !(q.1 == 4) && !(q.1 + 1 == 4 && q.2.category == 2)))) → lv_has ls n [(0, v0), (1, v1), (2, v2), (3, v3), (4, x)] := by
  intro ls h'
  rw [show ([(0, v0), (1, v1), (2, v2), (3, v3)] : List (Nat × Value)).filter (fun q => !(q.1 == 4) && !(q.1 + 1 == 4 && q.2.category == 2)) = [(0, v0), (1, v1), (2, v2), (3, v3)] from by simp [h]] at h'
  exact lv_sub h' [1, 2, 3, 4, 0] rfl
theorem kq_0i_1w {n : Nat} {v0 x : Value} (h : v0.category = 1) : ∀ ls : Array Slot, lv_has ls n ((1, x) :: (([(0, v0)] : List (Nat × Value)).filter (fun q => !(q.1 == 1) && (!(q.1 == 1 + 1) && !(q.1 + 1 == 1 && q.2.category == 2))))) → lv_has ls n [(0, v0), (1, x)] := by
  intro ls h'
  rw [show ([(0, v0)] : List (Nat × Value)).filter (fun q => !(q.1 == 1) && (!(q.1 == 1 + 1) && !(q.1 + 1 == 1 && q.2.category == 2))) = [(0, v0)] from by simp [h]] at h'
  exact lv_sub h' [1, 0] rfl
theorem kq_0i1w_3i {n : Nat} {v0 v1 x : Value} : ∀ ls : Array Slot, lv_has ls n ((3, x) :: (([(0, v0), (1, v1)] : List (Nat × Value)).filter (fun q => !(q.1 == 3) && !(q.1 + 1 == 3 && q.2.category == 2)))) → lv_has ls n [(0, v0), (1, v1), (3, x)] := by
  intro ls h'
  rw [show ([(0, v0), (1, v1)] : List (Nat × Value)).filter (fun q => !(q.1 == 3) && !(q.1 + 1 == 3 && q.2.category == 2)) = [(0, v0), (1, v1)] from by simp] at h'
  exact lv_sub h' [1, 2, 0] rfl
theorem kq_0i1w3i_3i {n : Nat} {v0 v1 v3 x : Value} : ∀ ls : Array Slot, lv_has ls n ((3, x) :: (([(0, v0), (1, v1), (3, v3)] : List (Nat × Value)).filter (fun q => !(q.1 == 3) && !(q.1 + 1 == 3 && q.2.category == 2)))) → lv_has ls n [(0, v0), (1, v1), (3, x)] := by
  intro ls h'
  rw [show ([(0, v0), (1, v1), (3, v3)] : List (Nat × Value)).filter (fun q => !(q.1 == 3) && !(q.1 + 1 == 3 && q.2.category == 2)) = [(0, v0), (1, v1)] from by simp] at h'
  exact lv_sub h' [1, 2, 0] rfl
theorem kq_0i1w3i_4i {n : Nat} {v0 v1 v3 x : Value} (h : v3.category = 1) : ∀ ls : Array Slot, lv_has ls n ((4, x) :: (([(0, v0), (1, v1), (3, v3)] : List (Nat × Value)).filter (fun q => !(q.1 == 4) && !(q.1 + 1 == 4 && q.2.category == 2)))) → lv_has ls n [(0, v0), (1, v1), (3, v3), (4, x)] := by
  intro ls h'
  rw [show ([(0, v0), (1, v1), (3, v3)] : List (Nat × Value)).filter (fun q => !(q.1 == 4) && !(q.1 + 1 == 4 && q.2.category == 2)) = [(0, v0), (1, v1), (3, v3)] from by simp [h]] at h'
  exact lv_sub h' [1, 2, 3, 0] rfl
theorem kq_0i1w3i4i_3i {n : Nat} {v0 v1 v3 v4 x : Value} : ∀ ls : Array Slot, lv_has ls n ((3, x) :: (([(0, v0), (1, v1), (3, v3), (4, v4)] : List (Nat × Value)).filter (fun q => !(q.1 == 3) && !(q.1 + 1 == 3 && q.2.category == 2)))) → lv_has ls n [(0, v0), (1, v1), (3, x), (4, v4)] := by
  intro ls h'
  rw [show ([(0, v0), (1, v1), (3, v3), (4, v4)] : List (Nat × Value)).filter (fun q => !(q.1 == 3) && !(q.1 + 1 == 3 && q.2.category == 2)) = [(0, v0), (1, v1), (4, v4)] from by simp] at h'
  exact lv_sub h' [1, 2, 0, 3] rfl
theorem kq_0i1w3i4i_1w {n : Nat} {v0 v1 v3 v4 x : Value} (h : v0.category = 1) : ∀ ls : Array Slot, lv_has ls n ((1, x) :: (([(0, v0), (1, v1), (3, v3), (4, v4)] : List (Nat × Value)).filter (fun q => !(q.1 == 1) && (!(q.1 == 1 + 1) && !(q.1 + 1 == 1 && q.2.category == 2))))) → lv_has ls n [(0, v0), (1, x), (3, v3), (4, v4)] := by
  intro ls h'
  rw [show ([(0, v0), (1, v1), (3, v3), (4, v4)] : List (Nat × Value)).filter (fun q => !(q.1 == 1) && (!(q.1 == 1 + 1) && !(q.1 + 1 == 1 && q.2.category == 2))) = [(0, v0), (3, v3), (4, v4)] from by simp [h]] at h'
  exact lv_sub h' [1, 0, 2, 3] rfl
theorem kq_0i1w3i4i_4i {n : Nat} {v0 v1 v3 v4 x : Value} (h : v3.category = 1) : ∀ ls : Array Slot, lv_has ls n ((4, x) :: (([(0, v0), (1, v1), (3, v3), (4, v4)] : List (Nat × Value)).filter (fun q => !(q.1 == 4) && !(q.1 + 1 == 4 && q.2.category == 2)))) → lv_has ls n [(0, v0), (1, v1), (3, v3), (4, x)] := by
  intro ls h'
  rw [show ([(0, v0), (1, v1), (3, v3), (4, v4)] : List (Nat × Value)).filter (fun q => !(q.1 == 4) && !(q.1 + 1 == 4 && q.2.category == 2)) = [(0, v0), (1, v1), (3, v3)] from by simp [h]] at h'
  exact lv_sub h' [1, 2, 3, 0] rfl
theorem kq_0i1w3i4i_5i {n : Nat} {v0 v1 v3 v4 x : Value} (h : v4.category = 1) : ∀ ls : Array Slot, lv_has ls n ((5, x) :: (([(0, v0), (1, v1), (3, v3), (4, v4)] : List (Nat × Value)).filter (fun q => !(q.1 == 5) && !(q.1 + 1 == 5 && q.2.category == 2)))) → lv_has ls n [(0, v0), (1, v1), (3, v3), (4, v4), (5, x)] := by
  intro ls h'
  rw [show ([(0, v0), (1, v1), (3, v3), (4, v4)] : List (Nat × Value)).filter (fun q => !(q.1 == 5) && !(q.1 + 1 == 5 && q.2.category == 2)) = [(0, v0), (1, v1), (3, v3), (4, v4)] from by simp [h]] at h'
  exact lv_sub h' [1, 2, 3, 4, 0] rfl
theorem kq_0i1w3i4i5i_4i {n : Nat} {v0 v1 v3 v4 v5 x : Value} (h : v3.category = 1) : ∀ ls : Array Slot, lv_has ls n ((4, x) :: (([(0, v0), (1, v1), (3, v3), (4, v4), (5, v5)] : List (Nat × Value)).filter (fun q => !(q.1 == 4) && !(q.1 + 1 == 4 && q.2.category == 2)))) → lv_has ls n [(0, v0), (1, v1), (3, v3), (4, x), (5, v5)] := by
  intro ls h'
  rw [show ([(0, v0), (1, v1), (3, v3), (4, v4), (5, v5)] : List (Nat × Value)).filter (fun q => !(q.1 == 4) && !(q.1 + 1 == 4 && q.2.category == 2)) = [(0, v0), (1, v1), (3, v3), (5, v5)] from by simp [h]] at h'
  exact lv_sub h' [1, 2, 3, 0, 4] rfl
theorem kq_0i1w3i4i5i_1w {n : Nat} {v0 v1 v3 v4 v5 x : Value} (h : v0.category = 1) : ∀ ls : Array Slot, lv_has ls n ((1, x) :: (([(0, v0), (1, v1), (3, v3), (4, v4), (5, v5)] : List (Nat × Value)).filter (fun q => !(q.1 == 1) && (!(q.1 == 1 + 1) && !(q.1 + 1 == 1 && q.2.category == 2))))) → lv_has ls n [(0, v0), (1, x), (3, v3), (4, v4), (5, v5)] := by
  intro ls h'
  rw [show ([(0, v0), (1, v1), (3, v3), (4, v4), (5, v5)] : List (Nat × Value)).filter (fun q => !(q.1 == 1) && (!(q.1 == 1 + 1) && !(q.1 + 1 == 1 && q.2.category == 2))) = [(0, v0), (3, v3), (4, v4), (5, v5)] from by simp [h]] at h'
  exact lv_sub h' [1, 0, 2, 3, 4] rfl
theorem kq_0i1w3i4i5i_5i {n : Nat} {v0 v1 v3 v4 v5 x : Value} (h : v4.category = 1) : ∀ ls : Array Slot, lv_has ls n ((5, x) :: (([(0, v0), (1, v1), (3, v3), (4, v4), (5, v5)] : List (Nat × Value)).filter (fun q => !(q.1 == 5) && !(q.1 + 1 == 5 && q.2.category == 2)))) → lv_has ls n [(0, v0), (1, v1), (3, v3), (4, v4), (5, x)] := by
  intro ls h'
  rw [show ([(0, v0), (1, v1), (3, v3), (4, v4), (5, v5)] : List (Nat × Value)).filter (fun q => !(q.1 == 5) && !(q.1 + 1 == 5 && q.2.category == 2)) = [(0, v0), (1, v1), (3, v3), (4, v4)] from by simp [h]] at h'
  exact lv_sub h' [1, 2, 3, 4, 0] rfl
theorem kq_0i1w3i_1w {n : Nat} {v0 v1 v3 x : Value} (h : v0.category = 1) : ∀ ls : Array Slot, lv_has ls n ((1, x) :: (([(0, v0), (1, v1), (3, v3)] : List (Nat × Value)).filter (fun q => !(q.1 == 1) && (!(q.1 == 1 + 1) && !(q.1 + 1 == 1 && q.2.category == 2))))) → lv_has ls n [(0, v0), (1, x), (3, v3)] := by
  intro ls h'
  rw [show ([(0, v0), (1, v1), (3, v3)] : List (Nat × Value)).filter (fun q => !(q.1 == 1) && (!(q.1 == 1 + 1) && !(q.1 + 1 == 1 && q.2.category == 2))) = [(0, v0), (3, v3)] from by simp [h]] at h'
  exact lv_sub h' [1, 0, 2] rfl
theorem kq_0i_1i {n : Nat} {v0 x : Value} (h : v0.category = 1) : ∀ ls : Array Slot, lv_has ls n ((1, x) :: (([(0, v0)] : List (Nat × Value)).filter (fun q => !(q.1 == 1) && !(q.1 + 1 == 1 && q.2.category == 2)))) → lv_has ls n [(0, v0), (1, x)] := by
  intro ls h'
  rw [show ([(0, v0)] : List (Nat × Value)).filter (fun q => !(q.1 == 1) && !(q.1 + 1 == 1 && q.2.category == 2)) = [(0, v0)] from by simp [h]] at h'
  exact lv_sub h' [1, 0] rfl
theorem kq_0i1i_2i {n : Nat} {v0 v1 x : Value} (h : v1.category = 1) : ∀ ls : Array Slot, lv_has ls n ((2, x) :: (([(0, v0), (1, v1)] : List (Nat × Value)).filter (fun q => !(q.1 == 2) && !(q.1 + 1 == 2 && q.2.category == 2)))) → lv_has ls n [(0, v0), (1, v1), (2, x)] := by
  intro ls h'
  rw [show ([(0, v0), (1, v1)] : List (Nat × Value)).filter (fun q => !(q.1 == 2) && !(q.1 + 1 == 2 && q.2.category == 2)) = [(0, v0), (1, v1)] from by simp [h]] at h'
  exact lv_sub h' [1, 2, 0] rfl
theorem kq_0i1i2i_3i {n : Nat} {v0 v1 v2 x : Value} (h : v2.category = 1) : ∀ ls : Array Slot, lv_has ls n ((3, x) :: (([(0, v0), (1, v1), (2, v2)] : List (Nat × Value)).filter (fun q => !(q.1 == 3) && !(q.1 + 1 == 3 && q.2.category == 2)))) → lv_has ls n [(0, v0), (1, v1), (2, v2), (3, x)] := by
  intro ls h'
  rw [show ([(0, v0), (1, v1), (2, v2)] : List (Nat × Value)).filter (fun q => !(q.1 == 3) && !(q.1 + 1 == 3 && q.2.category == 2)) = [(0, v0), (1, v1), (2, v2)] from by simp [h]] at h'
  exact lv_sub h' [1, 2, 3, 0] rfl
theorem kq_0i1i2i3i4i_2i {n : Nat} {v0 v1 v2 v3 v4 x : Value} (h : v1.category = 1) : ∀ ls : Array Slot, lv_has ls n ((2, x) :: (([(0, v0), (1, v1), (2, v2), (3, v3), (4, v4)] : List (Nat × Value)).filter (fun q => !(q.1 == 2) && !(q.1 + 1 == 2 && q.2.category == 2)))) → lv_has ls n [(0, v0), (1, v1), (2, x), (3, v3), (4, v4)] := by
  intro ls h'
  rw [show ([(0, v0), (1, v1), (2, v2), (3, v3), (4, v4)] : List (Nat × Value)).filter (fun q => !(q.1 == 2) && !(q.1 + 1 == 2 && q.2.category == 2)) = [(0, v0), (1, v1), (3, v3), (4, v4)] from by simp [h]] at h'
  exact lv_sub h' [1, 2, 0, 3, 4] rfl
theorem kq_0i1i2i3i4i_5i {n : Nat} {v0 v1 v2 v3 v4 x : Value} (h : v4.category = 1) : ∀ ls : Array Slot, lv_has ls n ((5, x) :: (([(0, v0), (1, v1), (2, v2), (3, v3), (4, v4)] : List (Nat × Value)).filter (fun q => !(q.1 == 5) && !(q.1 + 1 == 5 && q.2.category == 2)))) → lv_has ls n [(0, v0), (1, v1), (2, v2), (3, v3), (4, v4), (5, x)] := by
  intro ls h'
  rw [show ([(0, v0), (1, v1), (2, v2), (3, v3), (4, v4)] : List (Nat × Value)).filter (fun q => !(q.1 == 5) && !(q.1 + 1 == 5 && q.2.category == 2)) = [(0, v0), (1, v1), (2, v2), (3, v3), (4, v4)] from by simp [h]] at h'
  exact lv_sub h' [1, 2, 3, 4, 5, 0] rfl
theorem kq_0i1i2i3i4i5i_3i {n : Nat} {v0 v1 v2 v3 v4 v5 x : Value} (h : v2.category = 1) : ∀ ls : Array Slot, lv_has ls n ((3, x) :: (([(0, v0), (1, v1), (2, v2), (3, v3), (4, v4), (5, v5)] : List (Nat × Value)).filter (fun q => !(q.1 == 3) && !(q.1 + 1 == 3 && q.2.category == 2)))) → lv_has ls n [(0, v0), (1, v1), (2, v2), (3, x), (4, v4), (5, v5)] := by
  intro ls h'
  rw [show ([(0, v0), (1, v1), (2, v2), (3, v3), (4, v4), (5, v5)] : List (Nat × Value)).filter (fun q => !(q.1 == 3) && !(q.1 + 1 == 3 && q.2.category == 2)) = [(0, v0), (1, v1), (2, v2), (4, v4), (5, v5)] from by simp [h]] at h'
  exact lv_sub h' [1, 2, 3, 0, 4, 5] rfl
theorem kq_0i1i2i3i4i5i_2i {n : Nat} {v0 v1 v2 v3 v4 v5 x : Value} (h : v1.category = 1) : ∀ ls : Array Slot, lv_has ls n ((2, x) :: (([(0, v0), (1, v1), (2, v2), (3, v3), (4, v4), (5, v5)] : List (Nat × Value)).filter (fun q => !(q.1 == 2) && !(q.1 + 1 == 2 && q.2.category == 2)))) → lv_has ls n [(0, v0), (1, v1), (2, x), (3, v3), (4, v4), (5, v5)] := by
  intro ls h'
  rw [show ([(0, v0), (1, v1), (2, v2), (3, v3), (4, v4), (5, v5)] : List (Nat × Value)).filter (fun q => !(q.1 == 2) && !(q.1 + 1 == 2 && q.2.category == 2)) = [(0, v0), (1, v1), (3, v3), (4, v4), (5, v5)] from by simp [h]] at h'
  exact lv_sub h' [1, 2, 0, 3, 4, 5] rfl
theorem kq_0i1i2i3i4i5i_1i {n : Nat} {v0 v1 v2 v3 v4 v5 x : Value} (h : v0.category = 1) : ∀ ls : Array Slot, lv_has ls n ((1, x) :: (([(0, v0), (1, v1), (2, v2), (3, v3), (4, v4), (5, v5)] : List (Nat × Value)).filter (fun q => !(q.1 == 1) && !(q.1 + 1 == 1 && q.2.category == 2)))) → lv_has ls n [(0, v0), (1, x), (2, v2), (3, v3), (4, v4), (5, v5)] := by
  intro ls h'
  rw [show ([(0, v0), (1, v1), (2, v2), (3, v3), (4, v4), (5, v5)] : List (Nat × Value)).filter (fun q => !(q.1 == 1) && !(q.1 + 1 == 1 && q.2.category == 2)) = [(0, v0), (2, v2), (3, v3), (4, v4), (5, v5)] from by simp [h]] at h'
  exact lv_sub h' [1, 0, 2, 3, 4, 5] rfl
theorem kq_0i1i2i3i4i5i_5i {n : Nat} {v0 v1 v2 v3 v4 v5 x : Value} (h : v4.category = 1) : ∀ ls : Array Slot, lv_has ls n ((5, x) :: (([(0, v0), (1, v1), (2, v2), (3, v3), (4, v4), (5, v5)] : List (Nat × Value)).filter (fun q => !(q.1 == 5) && !(q.1 + 1 == 5 && q.2.category == 2)))) → lv_has ls n [(0, v0), (1, v1), (2, v2), (3, v3), (4, v4), (5, x)] := by
  intro ls h'
  rw [show ([(0, v0), (1, v1), (2, v2), (3, v3), (4, v4), (5, v5)] : List (Nat × Value)).filter (fun q => !(q.1 == 5) && !(q.1 + 1 == 5 && q.2.category == 2)) = [(0, v0), (1, v1), (2, v2), (3, v3), (4, v4)] from by simp [h]] at h'
  exact lv_sub h' [1, 2, 3, 4, 5, 0] rfl
theorem kq_0i1i2i3i4i5w_7w {n : Nat} {v0 v1 v2 v3 v4 v5 x : Value} : ∀ ls : Array Slot, lv_has ls n ((7, x) :: (([(0, v0), (1, v1), (2, v2), (3, v3), (4, v4), (5, v5)] : List (Nat × Value)).filter (fun q => !(q.1 == 7) && (!(q.1 == 7 + 1) && !(q.1 + 1 == 7 && q.2.category == 2))))) → lv_has ls n [(0, v0), (1, v1), (2, v2), (3, v3), (4, v4), (5, v5), (7, x)] := by
  intro ls h'
  rw [show ([(0, v0), (1, v1), (2, v2), (3, v3), (4, v4), (5, v5)] : List (Nat × Value)).filter (fun q => !(q.1 == 7) && (!(q.1 == 7 + 1) && !(q.1 + 1 == 7 && q.2.category == 2))) = [(0, v0), (1, v1), (2, v2), (3, v3), (4, v4), (5, v5)] from by simp] at h'
  exact lv_sub h' [1, 2, 3, 4, 5, 6, 0] rfl
theorem kq_0i1i2i3i4i5w7w_9i {n : Nat} {v0 v1 v2 v3 v4 v5 v7 x : Value} : ∀ ls : Array Slot, lv_has ls n ((9, x) :: (([(0, v0), (1, v1), (2, v2), (3, v3), (4, v4), (5, v5), (7, v7)] : List (Nat × Value)).filter (fun q => !(q.1 == 9) && !(q.1 + 1 == 9 && q.2.category == 2)))) → lv_has ls n [(0, v0), (1, v1), (2, v2), (3, v3), (4, v4), (5, v5), (7, v7), (9, x)] := by
  intro ls h'
  rw [show ([(0, v0), (1, v1), (2, v2), (3, v3), (4, v4), (5, v5), (7, v7)] : List (Nat × Value)).filter (fun q => !(q.1 == 9) && !(q.1 + 1 == 9 && q.2.category == 2)) = [(0, v0), (1, v1), (2, v2), (3, v3), (4, v4), (5, v5), (7, v7)] from by simp] at h'
  exact lv_sub h' [1, 2, 3, 4, 5, 6, 7, 0] rfl
theorem kq_0i1i2w4i5i6i_7i {n : Nat} {v0 v1 v2 v4 v5 v6 x : Value} (h : v6.category = 1) : ∀ ls : Array Slot, lv_has ls n ((7, x) :: (([(0, v0), (1, v1), (2, v2), (4, v4), (5, v5), (6, v6)] : List (Nat × Value)).filter (fun q => !(q.1 == 7) && !(q.1 + 1 == 7 && q.2.category == 2)))) → lv_has ls n [(0, v0), (1, v1), (2, v2), (4, v4), (5, v5), (6, v6), (7, x)] := by
  intro ls h'
  rw [show ([(0, v0), (1, v1), (2, v2), (4, v4), (5, v5), (6, v6)] : List (Nat × Value)).filter (fun q => !(q.1 == 7) && !(q.1 + 1 == 7 && q.2.category == 2)) = [(0, v0), (1, v1), (2, v2), (4, v4), (5, v5), (6, v6)] from by simp [h]] at h'
  exact lv_sub h' [1, 2, 3, 4, 5, 6, 0] rfl
theorem kq_0i1i2w4i5i6i7i_8i {n : Nat} {v0 v1 v2 v4 v5 v6 v7 x : Value} (h : v7.category = 1) : ∀ ls : Array Slot, lv_has ls n ((8, x) :: (([(0, v0), (1, v1), (2, v2), (4, v4), (5, v5), (6, v6), (7, v7)] : List (Nat × Value)).filter (fun q => !(q.1 == 8) && !(q.1 + 1 == 8 && q.2.category == 2)))) → lv_has ls n [(0, v0), (1, v1), (2, v2), (4, v4), (5, v5), (6, v6), (7, v7), (8, x)] := by
  intro ls h'
  rw [show ([(0, v0), (1, v1), (2, v2), (4, v4), (5, v5), (6, v6), (7, v7)] : List (Nat × Value)).filter (fun q => !(q.1 == 8) && !(q.1 + 1 == 8 && q.2.category == 2)) = [(0, v0), (1, v1), (2, v2), (4, v4), (5, v5), (6, v6), (7, v7)] from by simp [h]] at h'
  exact lv_sub h' [1, 2, 3, 4, 5, 6, 7, 0] rfl
theorem kq_0i1i2w4i5i6i7i8i_9i {n : Nat} {v0 v1 v2 v4 v5 v6 v7 v8 x : Value} (h : v8.category = 1) : ∀ ls : Array Slot, lv_has ls n ((9, x) :: (([(0, v0), (1, v1), (2, v2), (4, v4), (5, v5), (6, v6), (7, v7), (8, v8)] : List (Nat × Value)).filter (fun q => !(q.1 == 9) && !(q.1 + 1 == 9 && q.2.category == 2)))) → lv_has ls n [(0, v0), (1, v1), (2, v2), (4, v4), (5, v5), (6, v6), (7, v7), (8, v8), (9, x)] := by
  intro ls h'
  rw [show ([(0, v0), (1, v1), (2, v2), (4, v4), (5, v5), (6, v6), (7, v7), (8, v8)] : List (Nat × Value)).filter (fun q => !(q.1 == 9) && !(q.1 + 1 == 9 && q.2.category == 2)) = [(0, v0), (1, v1), (2, v2), (4, v4), (5, v5), (6, v6), (7, v7), (8, v8)] from by simp [h]] at h'
  exact lv_sub h' [1, 2, 3, 4, 5, 6, 7, 8, 0] rfl
theorem kq_0i1i2w4i5i6i7i8i9i_10i {n : Nat} {v0 v1 v2 v4 v5 v6 v7 v8 v9 x : Value} (h : v9.category = 1) : ∀ ls : Array Slot, lv_has ls n ((10, x) :: (([(0, v0), (1, v1), (2, v2), (4, v4), (5, v5), (6, v6), (7, v7), (8, v8), (9, v9)] : List (Nat × Value)).filter (fun q => !(q.1 == 10) && !(q.1 + 1 == 10 && q.2.category == 2)))) → lv_has ls n [(0, v0), (1, v1), (2, v2), (4, v4), (5, v5), (6, v6), (7, v7), (8, v8), (9, v9), (10, x)] := by
  intro ls h'
  rw [show ([(0, v0), (1, v1), (2, v2), (4, v4), (5, v5), (6, v6), (7, v7), (8, v8), (9, v9)] : List (Nat × Value)).filter (fun q => !(q.1 == 10) && !(q.1 + 1 == 10 && q.2.category == 2)) = [(0, v0), (1, v1), (2, v2), (4, v4), (5, v5), (6, v6), (7, v7), (8, v8), (9, v9)] from by simp [h]] at h'
  exact lv_sub h' [1, 2, 3, 4, 5, 6, 7, 8, 9, 0] rfl
theorem kq_0i1i2w4i5i6i7i8i9i10i_11w {n : Nat} {v0 v1 v2 v4 v5 v6 v7 v8 v9 v10 x : Value} (h : v10.category = 1) : ∀ ls : Array Slot, lv_has ls n ((11, x) :: (([(0, v0), (1, v1), (2, v2), (4, v4), (5, v5), (6, v6), (7, v7), (8, v8), (9, v9), (10, v10)] : List (Nat × Value)).filter (fun q => !(q.1 == 11) && (!(q.1 == 11 + 1) && !(q.1 + 1 == 11 && q.2.category == 2))))) → lv_has ls n [(0, v0), (1, v1), (2, v2), (4, v4), (5, v5), (6, v6), (7, v7), (8, v8), (9, v9), (10, v10), (11, x)] := by
  intro ls h'
  rw [show ([(0, v0), (1, v1), (2, v2), (4, v4), (5, v5), (6, v6), (7, v7), (8, v8), (9, v9), (10, v10)] : List (Nat × Value)).filter (fun q => !(q.1 == 11) && (!(q.1 == 11 + 1) && !(q.1 + 1 == 11 && q.2.category == 2))) = [(0, v0), (1, v1), (2, v2), (4, v4), (5, v5), (6, v6), (7, v7), (8, v8), (9, v9), (10, v10)] from by simp [h]] at h'
  exact lv_sub h' [1, 2, 3, 4, 5, 6, 7, 8, 9, 10, 0] rfl
theorem kq_0i1i2w4i5i6i7i8i9i10i11w_13i {n : Nat} {v0 v1 v2 v4 v5 v6 v7 v8 v9 v10 v11 x : Value} : ∀ ls : Array Slot, lv_has ls n ((13, x) :: (([(0, v0), (1, v1), (2, v2), (4, v4), (5, v5), (6, v6), (7, v7), (8, v8), (9, v9), (10, v10), (11, v11)] : List (Nat × Value)).filter (fun q => !(q.1 == 13) && !(q.1 + 1 == 13 && q.2.category == 2)))) → lv_has ls n [(0, v0), (1, v1), (2, v2), (4, v4), (5, v5), (6, v6), (7, v7), (8, v8), (9, v9), (10, v10), (11, v11), (13, x)] := by
  intro ls h'
  rw [show ([(0, v0), (1, v1), (2, v2), (4, v4), (5, v5), (6, v6), (7, v7), (8, v8), (9, v9), (10, v10), (11, v11)] : List (Nat × Value)).filter (fun q => !(q.1 == 13) && !(q.1 + 1 == 13 && q.2.category == 2)) = [(0, v0), (1, v1), (2, v2), (4, v4), (5, v5), (6, v6), (7, v7), (8, v8), (9, v9), (10, v10), (11, v11)] from by simp] at h'
  exact lv_sub h' [1, 2, 3, 4, 5, 6, 7, 8, 9, 10, 11, 0] rfl
theorem kq_0i1i2w4i5i6i7i8i9i10i11w13i_14i {n : Nat} {v0 v1 v2 v4 v5 v6 v7 v8 v9 v10 v11 v13 x : Value} (h : v13.category = 1) : ∀ ls : Array Slot, lv_has ls n ((14, x) :: (([(0, v0), (1, v1), (2, v2), (4, v4), (5, v5), (6, v6), (7, v7), (8, v8), (9, v9), (10, v10), (11, v11), (13, v13)] : List (Nat × Value)).filter (fun q => !(q.1 == 14) && !(q.1 + 1 == 14 && q.2.category == 2)))) → lv_has ls n [(0, v0), (1, v1), (2, v2), (4, v4), (5, v5), (6, v6), (7, v7), (8, v8), (9, v9), (10, v10), (11, v11), (13, v13), (14, x)] := by
  intro ls h'
  rw [show ([(0, v0), (1, v1), (2, v2), (4, v4), (5, v5), (6, v6), (7, v7), (8, v8), (9, v9), (10, v10), (11, v11), (13, v13)] : List (Nat × Value)).filter (fun q => !(q.1 == 14) && !(q.1 + 1 == 14 && q.2.category == 2)) = [(0, v0), (1, v1), (2, v2), (4, v4), (5, v5), (6, v6), (7, v7), (8, v8), (9, v9), (10, v10), (11, v11), (13, v13)] from by simp [h]] at h'
  exact lv_sub h' [1, 2, 3, 4, 5, 6, 7, 8, 9, 10, 11, 12, 0] rfl
theorem kq_0i1i2w4i5i6i7i8i9i10i11w13i14i_15i {n : Nat} {v0 v1 v2 v4 v5 v6 v7 v8 v9 v10 v11 v13 v14 x : Value} (h : v14.category = 1) : ∀ ls : Array Slot, lv_has ls n ((15, x) :: (([(0, v0), (1, v1), (2, v2), (4, v4), (5, v5), (6, v6), (7, v7), (8, v8), (9, v9), (10, v10), (11, v11), (13, v13), (14, v14)] : List (Nat × Value)).filter (fun q => !(q.1 == 15) && !(q.1 + 1 == 15 && q.2.category == 2)))) → lv_has ls n [(0, v0), (1, v1), (2, v2), (4, v4), (5, v5), (6, v6), (7, v7), (8, v8), (9, v9), (10, v10), (11, v11), (13, v13), (14, v14), (15, x)] := by
  intro ls h'
  rw [show ([(0, v0), (1, v1), (2, v2), (4, v4), (5, v5), (6, v6), (7, v7), (8, v8), (9, v9), (10, v10), (11, v11), (13, v13), (14, v14)] : List (Nat × Value)).filter (fun q => !(q.1 == 15) && !(q.1 + 1 == 15 && q.2.category == 2)) = [(0, v0), (1, v1), (2, v2), (4, v4), (5, v5), (6, v6), (7, v7), (8, v8), (9, v9), (10, v10), (11, v11), (13, v13), (14, v14)] from by simp [h]] at h'
  exact lv_sub h' [1, 2, 3, 4, 5, 6, 7, 8, 9, 10, 11, 12, 13, 0] rfl
theorem kq_0i1i2w4i5i6i7i8i9i10i11w13i14i15i_16i {n : Nat} {v0 v1 v2 v4 v5 v6 v7 v8 v9 v10 v11 v13 v14 v15 x : Value} (h : v15.category = 1) : ∀ ls : Array Slot, lv_has ls n ((16, x) :: (([(0, v0), (1, v1), (2, v2), (4, v4), (5, v5), (6, v6), (7, v7), (8, v8), (9, v9), (10, v10), (11, v11), (13, v13), (14, v14), (15, v15)] : List (Nat × Value)).filter (fun q => !(q.1 == 16) && !(q.1 + 1 == 16 && q.2.category == 2)))) → lv_has ls n [(0, v0), (1, v1), (2, v2), (4, v4), (5, v5), (6, v6), (7, v7), (8, v8), (9, v9), (10, v10), (11, v11), (13, v13), (14, v14), (15, v15), (16, x)] := by
  intro ls h'
  rw [show ([(0, v0), (1, v1), (2, v2), (4, v4), (5, v5), (6, v6), (7, v7), (8, v8), (9, v9), (10, v10), (11, v11), (13, v13), (14, v14), (15, v15)] : List (Nat × Value)).filter (fun q => !(q.1 == 16) && !(q.1 + 1 == 16 && q.2.category == 2)) = [(0, v0), (1, v1), (2, v2), (4, v4), (5, v5), (6, v6), (7, v7), (8, v8), (9, v9), (10, v10), (11, v11), (13, v13), (14, v14), (15, v15)] from by simp [h]] at h'
  exact lv_sub h' [1, 2, 3, 4, 5, 6, 7, 8, 9, 10, 11, 12, 13, 14, 0] rfl
theorem kq_0i1i2w4i5i6i15i_17i {n : Nat} {v0 v1 v2 v4 v5 v6 v15 x : Value} : ∀ ls : Array Slot, lv_has ls n ((17, x) :: (([(0, v0), (1, v1), (2, v2), (4, v4), (5, v5), (6, v6), (15, v15)] : List (Nat × Value)).filter (fun q => !(q.1 == 17) && !(q.1 + 1 == 17 && q.2.category == 2)))) → lv_has ls n [(0, v0), (1, v1), (2, v2), (4, v4), (5, v5), (6, v6), (15, v15), (17, x)] := by
  intro ls h'
  rw [show ([(0, v0), (1, v1), (2, v2), (4, v4), (5, v5), (6, v6), (15, v15)] : List (Nat × Value)).filter (fun q => !(q.1 == 17) && !(q.1 + 1 == 17 && q.2.category == 2)) = [(0, v0), (1, v1), (2, v2), (4, v4), (5, v5), (6, v6), (15, v15)] from by simp] at h'
  exact lv_sub h' [1, 2, 3, 4, 5, 6, 7, 0] rfl
theorem kq_0i1i2w4i5i6i15i17i_6i {n : Nat} {v0 v1 v2 v4 v5 v6 v15 v17 x : Value} (h : v5.category = 1) : ∀ ls : Array Slot, lv_has ls n ((6, x) :: (([(0, v0), (1, v1), (2, v2), (4, v4), (5, v5), (6, v6), (15, v15), (17, v17)] : List (Nat × Value)).filter (fun q => !(q.1 == 6) && !(q.1 + 1 == 6 && q.2.category == 2)))) → lv_has ls n [(0, v0), (1, v1), (2, v2), (4, v4), (5, v5), (6, x), (15, v15), (17, v17)] := by
  intro ls h'
  rw [show ([(0, v0), (1, v1), (2, v2), (4, v4), (5, v5), (6, v6), (15, v15), (17, v17)] : List (Nat × Value)).filter (fun q => !(q.1 == 6) && !(q.1 + 1 == 6 && q.2.category == 2)) = [(0, v0), (1, v1), (2, v2), (4, v4), (5, v5), (15, v15), (17, v17)] from by simp [h]] at h'
  exact lv_sub h' [1, 2, 3, 4, 5, 0, 6, 7] rfl
theorem kq_0i1i2w4i5i6i15i17i_18i {n : Nat} {v0 v1 v2 v4 v5 v6 v15 v17 x : Value} (h : v17.category = 1) : ∀ ls : Array Slot, lv_has ls n ((18, x) :: (([(0, v0), (1, v1), (2, v2), (4, v4), (5, v5), (6, v6), (15, v15), (17, v17)] : List (Nat × Value)).filter (fun q => !(q.1 == 18) && !(q.1 + 1 == 18 && q.2.category == 2)))) → lv_has ls n [(0, v0), (1, v1), (2, v2), (4, v4), (5, v5), (6, v6), (15, v15), (17, v17), (18, x)] := by
  intro ls h'
  rw [show ([(0, v0), (1, v1), (2, v2), (4, v4), (5, v5), (6, v6), (15, v15), (17, v17)] : List (Nat × Value)).filter (fun q => !(q.1 == 18) && !(q.1 + 1 == 18 && q.2.category == 2)) = [(0, v0), (1, v1), (2, v2), (4, v4), (5, v5), (6, v6), (15, v15), (17, v17)] from by simp [h]] at h'
  exact lv_sub h' [1, 2, 3, 4, 5, 6, 7, 8, 0] rfl
theorem kq_0i1i2w4i5i6i15i17i18i_17i {n : Nat} {v0 v1 v2 v4 v5 v6 v15 v17 v18 x : Value} : ∀ ls : Array Slot, lv_has ls n ((17, x) :: (([(0, v0), (1, v1), (2, v2), (4, v4), (5, v5), (6, v6), (15, v15), (17, v17), (18, v18)] : List (Nat × Value)).filter (fun q => !(q.1 == 17) && !(q.1 + 1 == 17 && q.2.category == 2)))) → lv_has ls n [(0, v0), (1, v1), (2, v2), (4, v4), (5, v5), (6, v6), (15, v15), (17, x), (18, v18)] := by
  intro ls h'
  rw [show ([(0, v0), (1, v1), (2, v2), (4, v4), (5, v5), (6, v6), (15, v15), (17, v17), (18, v18)] : List (Nat × Value)).filter (fun q => !(q.1 == 17) && !(q.1 + 1 == 17 && q.2.category == 2)) = [(0, v0), (1, v1), (2, v2), (4, v4), (5, v5), (6, v6), (15, v15), (18, v18)] from by simp] at h'
  exact lv_sub h' [1, 2, 3, 4, 5, 6, 7, 0, 8] rfl
theorem kq_0i1i2w4i5i6i7i8i9i10i11w13i14i15i16i_16i {n : Nat} {v0 v1 v2 v4 v5 v6 v7 v8 v9 v10 v11 v13 v14 v15 v16 x : Value} (h : v15.category = 1) : ∀ ls : Array Slot, lv_has ls n ((16, x) :: (([(0, v0), (1, v1), (2, v2), (4, v4), (5, v5), (6, v6), (7, v7), (8, v8), (9, v9), (10, v10), (11, v11), (13, v13), (14, v14), (15, v15), (16, v16)] : List (Nat × Value)).filter (fun q => !(q.1 == 16) && !(q.1 + 1 == 16 && q.2.category == 2)))) → lv_has ls n [(0, v0), (1, v1), (2, v2), (4, v4), (5, v5), (6, v6), (7, v7), (8, v8), (9, v9), (10, v10), (11, v11), (13, v13), (14, v14), (15, v15), (16, x)] := by
  intro ls h'
  rw [show ([(0, v0), (1, v1), (2, v2), (4, v4), (5, v5), (6, v6), (7, v7), (8, v8), (9, v9), (10, v10), (11, v11), (13, v13), (14, v14), (15, v15), (16, v16)] : List (Nat × Value)).filter (fun q => !(q.1 == 16) && !(q.1 + 1 == 16 && q.2.category == 2)) = [(0, v0), (1, v1), (2, v2), (4, v4), (5, v5), (6, v6), (7, v7), (8, v8), (9, v9), (10, v10), (11, v11), (13, v13), (14, v14), (15, v15)] from by simp [h]] at h'
  exact lv_sub h' [1, 2, 3, 4, 5, 6, 7, 8, 9, 10, 11, 12, 13, 14, 0] rfl
theorem kq_0i1i2w4i5i6i7i8i9i10i11w13i14i15i16i_2w {n : Nat} {v0 v1 v2 v4 v5 v6 v7 v8 v9 v10 v11 v13 v14 v15 v16 x : Value} (h : v1.category = 1) : ∀ ls : Array Slot, lv_has ls n ((2, x) :: (([(0, v0), (1, v1), (2, v2), (4, v4), (5, v5), (6, v6), (7, v7), (8, v8), (9, v9), (10, v10), (11, v11), (13, v13), (14, v14), (15, v15), (16, v16)] : List (Nat × Value)).filter (fun q => !(q.1 == 2) && (!(q.1 == 2 + 1) && !(q.1 + 1 == 2 && q.2.category == 2))))) → lv_has ls n [(0, v0), (1, v1), (2, x), (4, v4), (5, v5), (6, v6), (7, v7), (8, v8), (9, v9), (10, v10), (11, v11), (13, v13), (14, v14), (15, v15), (16, v16)] := by
  intro ls h'
  rw [show ([(0, v0), (1, v1), (2, v2), (4, v4), (5, v5), (6, v6), (7, v7), (8, v8), (9, v9), (10, v10), (11, v11), (13, v13), (14, v14), (15, v15), (16, v16)] : List (Nat × Value)).filter (fun q => !(q.1 == 2) && (!(q.1 == 2 + 1) && !(q.1 + 1 == 2 && q.2.category == 2))) = [(0, v0), (1, v1), (4, v4), (5, v5), (6, v6), (7, v7), (8, v8), (9, v9), (10, v10), (11, v11), (13, v13), (14, v14), (15, v15), (16, v16)] from by simp [h]] at h'
  exact lv_sub h' [1, 2, 0, 3, 4, 5, 6, 7, 8, 9, 10, 11, 12, 13, 14] rfl

/-! Stores into locals with gaps and longs, by their shapes. -/
theorem kq_0i1w_3w {n : Nat} {v0 v1 x : Value} : ∀ ls : Array Slot, lv_has ls n ((3, x) :: (([(0, v0), (1, v1)] : List (Nat × Value)).filter (fun q => !(q.1 == 3) && (!(q.1 == 3 + 1) && !(q.1 + 1 == 3 && q.2.category == 2))))) → lv_has ls n [(0, v0), (1, v1), (3, x)] := by
  intro ls h'
  rw [show ([(0, v0), (1, v1)] : List (Nat × Value)).filter (fun q => !(q.1 == 3) && (!(q.1 == 3 + 1) && !(q.1 + 1 == 3 && q.2.category == 2))) = [(0, v0), (1, v1)] from by simp] at h'
  exact lv_sub h' [1, 2, 0] rfl
theorem kq_0i1w3w_5i {n : Nat} {v0 v1 v3 x : Value} : ∀ ls : Array Slot, lv_has ls n ((5, x) :: (([(0, v0), (1, v1), (3, v3)] : List (Nat × Value)).filter (fun q => !(q.1 == 5) && !(q.1 + 1 == 5 && q.2.category == 2)))) → lv_has ls n [(0, v0), (1, v1), (3, v3), (5, x)] := by
  intro ls h'
  rw [show ([(0, v0), (1, v1), (3, v3)] : List (Nat × Value)).filter (fun q => !(q.1 == 5) && !(q.1 + 1 == 5 && q.2.category == 2)) = [(0, v0), (1, v1), (3, v3)] from by simp] at h'
  exact lv_sub h' [1, 2, 3, 0] rfl
theorem kq_0i1w3w5i_3w {n : Nat} {v0 v1 v3 v5 x : Value} : ∀ ls : Array Slot, lv_has ls n ((3, x) :: (([(0, v0), (1, v1), (3, v3), (5, v5)] : List (Nat × Value)).filter (fun q => !(q.1 == 3) && (!(q.1 == 3 + 1) && !(q.1 + 1 == 3 && q.2.category == 2))))) → lv_has ls n [(0, v0), (1, v1), (3, x), (5, v5)] := by
  intro ls h'
  rw [show ([(0, v0), (1, v1), (3, v3), (5, v5)] : List (Nat × Value)).filter (fun q => !(q.1 == 3) && (!(q.1 == 3 + 1) && !(q.1 + 1 == 3 && q.2.category == 2))) = [(0, v0), (1, v1), (5, v5)] from by simp] at h'
  exact lv_sub h' [1, 2, 0, 3] rfl
theorem kq_0i1w3w5i_5i {n : Nat} {v0 v1 v3 v5 x : Value} : ∀ ls : Array Slot, lv_has ls n ((5, x) :: (([(0, v0), (1, v1), (3, v3), (5, v5)] : List (Nat × Value)).filter (fun q => !(q.1 == 5) && !(q.1 + 1 == 5 && q.2.category == 2)))) → lv_has ls n [(0, v0), (1, v1), (3, v3), (5, x)] := by
  intro ls h'
  rw [show ([(0, v0), (1, v1), (3, v3), (5, v5)] : List (Nat × Value)).filter (fun q => !(q.1 == 5) && !(q.1 + 1 == 5 && q.2.category == 2)) = [(0, v0), (1, v1), (3, v3)] from by simp] at h'
  exact lv_sub h' [1, 2, 3, 0] rfl
theorem kq_0i1i2i3i_4i {n : Nat} {v0 v1 v2 v3 x : Value} (h : v3.category = 1) : ∀ ls : Array Slot, lv_has ls n ((4, x) :: (([(0, v0), (1, v1), (2, v2), (3, v3)] : List (Nat × Value)).filter (fun q => !(q.1 == 4) && !(q.1 + 1 == 4 && q.2.category == 2)))) → lv_has ls n [(0, v0), (1, v1), (2, v2), (3, v3), (4, x)] := by
  intro ls h'
  rw [show ([(0, v0), (1, v1), (2, v2), (3, v3)] : List (Nat × Value)).filter (fun q => !(q.1 == 4) && !(q.1 + 1 == 4 && q.2.category == 2)) = [(0, v0), (1, v1), (2, v2), (3, v3)] from by simp [h]] at h'
  exact lv_sub h' [1, 2, 3, 4, 0] rfl
theorem kq_0i_1w {n : Nat} {v0 x : Value} (h : v0.category = 1) : ∀ ls : Array Slot, lv_has ls n ((1, x) :: (([(0, v0)] : List (Nat × Value)).filter (fun q => !(q.1 == 1) && (!(q.1 == 1 + 1) && !(q.1 + 1 == 1 && q.2.category == 2))))) → lv_has ls n [(0, v0), (1, x)] := by
  intro ls h'
  rw [show ([(0, v0)] : List (Nat × Value)).filter (fun q => !(q.1 == 1) && (!(q.1 == 1 + 1) && !(q.1 + 1 == 1 && q.2.category == 2))) = [(0, v0)] from by simp [h]] at h'
  exact lv_sub h' [1, 0] rfl
theorem kq_0i1w_3i {n : Nat} {v0 v1 x : Value} : ∀ ls : Array Slot, lv_has ls n ((3, x) :: (([(0, v0), (1, v1)] : List (Nat × Value)).filter (fun q => !(q.1 == 3) && !(q.1 + 1 == 3 && q.2.category == 2)))) → lv_has ls n [(0, v0), (1, v1), (3, x)] := by
  intro ls h'
  rw [show ([(0, v0), (1, v1)] : List (Nat × Value)).filter (fun q => !(q.1 == 3) && !(q.1 + 1 == 3 && q.2.category == 2)) = [(0, v0), (1, v1)] from by simp] at h'
  exact lv_sub h' [1, 2, 0] rfl
theorem kq_0i1w3i_3i {n : Nat} {v0 v1 v3 x : Value} : ∀ ls : Array Slot, lv_has ls n ((3, x) :: (([(0, v0), (1, v1), (3, v3)] : List (Nat × Value)).filter (fun q => !(q.1 == 3) && !(q.1 + 1 == 3 && q.2.category == 2)))) → lv_has ls n [(0, v0), (1, v1), (3, x)] := by
  intro ls h'
  rw [show ([(0, v0), (1, v1), (3, v3)] : List (Nat × Value)).filter (fun q => !(q.1 == 3) && !(q.1 + 1 == 3 && q.2.category == 2)) = [(0, v0), (1, v1)] from by simp] at h'
  exact lv_sub h' [1, 2, 0] rfl
theorem kq_0i1w3i_4i {n : Nat} {v0 v1 v3 x : Value} (h : v3.category = 1) : ∀ ls : Array Slot, lv_has ls n ((4, x) :: (([(0, v0), (1, v1), (3, v3)] : List (Nat × Value)).filter (fun q => !(q.1 == 4) && !(q.1 + 1 == 4 && q.2.category == 2)))) → lv_has ls n [(0, v0), (1, v1), (3, v3), (4, x)] := by
  intro ls h'
  rw [show ([(0, v0), (1, v1), (3, v3)] : List (Nat × Value)).filter (fun q => !(q.1 == 4) && !(q.1 + 1 == 4 && q.2.category == 2)) = [(0, v0), (1, v1), (3, v3)] from by simp [h]] at h'
  exact lv_sub h' [1, 2, 3, 0] rfl
theorem kq_0i1w3i4i_3i {n : Nat} {v0 v1 v3 v4 x : Value} : ∀ ls : Array Slot, lv_has ls n ((3, x) :: (([(0, v0), (1, v1), (3, v3), (4, v4)] : List (Nat × Value)).filter (fun q => !(q.1 == 3) && !(q.1 + 1 == 3 && q.2.category == 2)))) → lv_has ls n [(0, v0), (1, v1), (3, x), (4, v4)] := by
  intro ls h'
  rw [show ([(0, v0), (1, v1), (3, v3), (4, v4)] : List (Nat × Value)).filter (fun q => !(q.1 == 3) && !(q.1 + 1 == 3 && q.2.category == 2)) = [(0, v0), (1, v1), (4, v4)] from by simp] at h'
  exact lv_sub h' [1, 2, 0, 3] rfl
theorem kq_0i1w3i4i_1w {n : Nat} {v0 v1 v3 v4 x : Value} (h : v0.category = 1) : ∀ ls : Array Slot, lv_has ls n ((1, x) :: (([(0, v0), (1, v1), (3, v3), (4, v4)] : List (Nat × Value)).filter (fun q => !(q.1 == 1) && (!(q.1 == 1 + 1) && !(q.1 + 1 == 1 && q.2.category == 2))))) → lv_has ls n [(0, v0), (1, x), (3, v3), (4, v4)] := by
  intro ls h'
  rw [show ([(0, v0), (1, v1), (3, v3), (4, v4)] : List (Nat × Value)).filter (fun q => !(q.1 == 1) && (!(q.1 == 1 + 1) && !(q.1 + 1 == 1 && q.2.category == 2))) = [(0, v0), (3, v3), (4, v4)] from by simp [h]] at h'
  exact lv_sub h' [1, 0, 2, 3] rfl
theorem kq_0i1w3i4i_4i {n : Nat} {v0 v1 v3 v4 x : Value} (h : v3.category = 1) : ∀ ls : Array Slot, lv_has ls n ((4, x) :: (([(0, v0), (1, v1), (3, v3), (4, v4)] : List (Nat × Value)).filter (fun q => !(q.1 == 4) && !(q.1 + 1 == 4 && q.2.category == 2)))) → lv_has ls n [(0, v0), (1, v1), (3, v3), (4, x)] := by
  intro ls h'
  rw [show ([(0, v0), (1, v1), (3, v3), (4, v4)] : List (Nat × Value)).filter (fun q => !(q.1 == 4) && !(q.1 + 1 == 4 && q.2.category == 2)) = [(0, v0), (1, v1), (3, v3)] from by simp [h]] at h'
  exact lv_sub h' [1, 2, 3, 0] rfl
theorem kq_0i1w3i4i_5i {n : Nat} {v0 v1 v3 v4 x : Value} (h : v4.category = 1) : ∀ ls : Array Slot, lv_has ls n ((5, x) :: (([(0, v0), (1, v1), (3, v3), (4, v4)] : List (Nat × Value)).filter (fun q => !(q.1 == 5) && !(q.1 + 1 == 5 && q.2.category == 2)))) → lv_has ls n [(0, v0), (1, v1), (3, v3), (4, v4), (5, x)] := by
  intro ls h'
  rw [show ([(0, v0), (1, v1), (3, v3), (4, v4)] : List (Nat × Value)).filter (fun q => !(q.1 == 5) && !(q.1 + 1 == 5 && q.2.category == 2)) = [(0, v0), (1, v1), (3, v3), (4, v4)] from by simp [h]] at h'
  exact lv_sub h' [1, 2, 3, 4, 0] rfl
theorem kq_0i1w3i4i5i_4i {n : Nat} {v0 v1 v3 v4 v5 x : Value} (h : v3.category = 1) : ∀ ls : Array Slot, lv_has ls n ((4, x) :: (([(0, v0), (1, v1), (3, v3), (4, v4), (5, v5)] : List (Nat × Value)).filter (fun q => !(q.1 == 4) && !(q.1 + 1 == 4 && q.2.category == 2)))) → lv_has ls n [(0, v0), (1, v1), (3, v3), (4, x), (5, v5)] := by
  intro ls h'
  rw [show ([(0, v0), (1, v1), (3, v3), (4, v4), (5, v5)] : List (Nat × Value)).filter (fun q => !(q.1 == 4) && !(q.1 + 1 == 4 && q.2.category == 2)) = [(0, v0), (1, v1), (3, v3), (5, v5)] from by simp [h]] at h'
  exact lv_sub h' [1, 2, 3, 0, 4] rfl
theorem kq_0i1w3i4i5i_1w {n : Nat} {v0 v1 v3 v4 v5 x : Value} (h : v0.category = 1) : ∀ ls : Array Slot, lv_has ls n ((1, x) :: (([(0, v0), (1, v1), (3, v3), (4, v4), (5, v5)] : List (Nat × Value)).filter (fun q => !(q.1 == 1) && (!(q.1 == 1 + 1) && !(q.1 + 1 == 1 && q.2.category == 2))))) → lv_has ls n [(0, v0), (1, x), (3, v3), (4, v4), (5, v5)] := by
  intro ls h'
  rw [show ([(0, v0), (1, v1), (3, v3), (4, v4), (5, v5)] : List (Nat × Value)).filter (fun q => !(q.1 == 1) && (!(q.1 == 1 + 1) && !(q.1 + 1 == 1 && q.2.category == 2))) = [(0, v0), (3, v3), (4, v4), (5, v5)] from by simp [h]] at h'
  exact lv_sub h' [1, 0, 2, 3, 4] rfl
theorem kq_0i1w3i4i5i_5i {n : Nat} {v0 v1 v3 v4 v5 x : Value} (h : v4.category = 1) : ∀ ls : Array Slot, lv_has ls n ((5, x) :: (([(0, v0), (1, v1), (3, v3), (4, v4), (5, v5)] : List (Nat × Value)).filter (fun q => !(q.1 == 5) && !(q.1 + 1 == 5 && q.2.category == 2)))) → lv_has ls n [(0, v0), (1, v1), (3, v3), (4, v4), (5, x)] := by
  intro ls h'
  rw [show ([(0, v0), (1, v1), (3, v3), (4, v4), (5, v5)] : List (Nat × Value)).filter (fun q => !(q.1 == 5) && !(q.1 + 1 == 5 && q.2.category == 2)) = [(0, v0), (1, v1), (3, v3), (4, v4)] from by simp [h]] at h'
  exact lv_sub h' [1, 2, 3, 4, 0] rfl
theorem kq_0i1w3i_1w {n : Nat} {v0 v1 v3 x : Value} (h : v0.category = 1) : ∀ ls : Array Slot, lv_has ls n ((1, x) :: (([(0, v0), (1, v1), (3, v3)] : List (Nat × Value)).filter (fun q => !(q.1 == 1) && (!(q.1 == 1 + 1) && !(q.1 + 1 == 1 && q.2.category == 2))))) → lv_has ls n [(0, v0), (1, x), (3, v3)] := by
  intro ls h'
  rw [show ([(0, v0), (1, v1), (3, v3)] : List (Nat × Value)).filter (fun q => !(q.1 == 1) && (!(q.1 == 1 + 1) && !(q.1 + 1 == 1 && q.2.category == 2))) = [(0, v0), (3, v3)] from by simp [h]] at h'
  exact lv_sub h' [1, 0, 2] rfl
theorem kq_0i_1i {n : Nat} {v0 x : Value} (h : v0.category = 1) : ∀ ls : Array Slot, lv_has ls n ((1, x) :: (([(0, v0)] : List (Nat × Value)).filter (fun q => !(q.1 == 1) && !(q.1 + 1 == 1 && q.2.category == 2)))) → lv_has ls n [(0, v0), (1, x)] := by
  intro ls h'
  rw [show ([(0, v0)] : List (Nat × Value)).filter (fun q => !(q.1 == 1) && !(q.1 + 1 == 1 && q.2.category == 2)) = [(0, v0)] from by simp [h]] at h'
  exact lv_sub h' [1, 0] rfl
theorem kq_0i1i_2i {n : Nat} {v0 v1 x : Value} (h : v1.category = 1) : ∀ ls : Array Slot, lv_has ls n ((2, x) :: (([(0, v0), (1, v1)] : List (Nat × Value)).filter (fun q => !(q.1 == 2) && !(q.1 + 1 == 2 && q.2.category == 2)))) → lv_has ls n [(0, v0), (1, v1), (2, x)] := by
  intro ls h'
  rw [show ([(0, v0), (1, v1)] : List (Nat × Value)).filter (fun q => !(q.1 == 2) && !(q.1 + 1 == 2 && q.2.category == 2)) = [(0, v0), (1, v1)] from by simp [h]] at h'
  exact lv_sub h' [1, 2, 0] rfl
theorem kq_0i1i2i_3i {n : Nat} {v0 v1 v2 x : Value} (h : v2.category = 1) : ∀ ls : Array Slot, lv_has ls n ((3, x) :: (([(0, v0), (1, v1), (2, v2)] : List (Nat × Value)).filter (fun q => !(q.1 == 3) && !(q.1 + 1 == 3 && q.2.category == 2)))) → lv_has ls n [(0, v0), (1, v1), (2, v2), (3, x)] := by
  intro ls h'
  rw [show ([(0, v0), (1, v1), (2, v2)] : List (Nat × Value)).filter (fun q => !(q.1 == 3) && !(q.1 + 1 == 3 && q.2.category == 2)) = [(0, v0), (1, v1), (2, v2)] from by simp [h]] at h'
  exact lv_sub h' [1, 2, 3, 0] rfl
theorem kq_0i1i2i3i4i_2i {n : Nat} {v0 v1 v2 v3 v4 x : Value} (h : v1.category = 1) : ∀ ls : Array Slot, lv_has ls n ((2, x) :: (([(0, v0), (1, v1), (2, v2), (3, v3), (4, v4)] : List (Nat × Value)).filter (fun q => !(q.1 == 2) && !(q.1 + 1 == 2 && q.2.category == 2)))) → lv_has ls n [(0, v0), (1, v1), (2, x), (3, v3), (4, v4)] := by
  intro ls h'
  rw [show ([(0, v0), (1, v1), (2, v2), (3, v3), (4, v4)] : List (Nat × Value)).filter (fun q => !(q.1 == 2) && !(q.1 + 1 == 2 && q.2.category == 2)) = [(0, v0), (1, v1), (3, v3), (4, v4)] from by simp [h]] at h'
  exact lv_sub h' [1, 2, 0, 3, 4] rfl
theorem kq_0i1i2i3i4i_5i {n : Nat} {v0 v1 v2 v3 v4 x : Value} (h : v4.category = 1) : ∀ ls : Array Slot, lv_has ls n ((5, x) :: (([(0, v0), (1, v1), (2, v2), (3, v3), (4, v4)] : List (Nat × Value)).filter (fun q => !(q.1 == 5) && !(q.1 + 1 == 5 && q.2.category == 2)))) → lv_has ls n [(0, v0), (1, v1), (2, v2), (3, v3), (4, v4), (5, x)] := by
  intro ls h'
  rw [show ([(0, v0), (1, v1), (2, v2), (3, v3), (4, v4)] : List (Nat × Value)).filter (fun q => !(q.1 == 5) && !(q.1 + 1 == 5 && q.2.category == 2)) = [(0, v0), (1, v1), (2, v2), (3, v3), (4, v4)] from by simp [h]] at h'
  exact lv_sub h' [1, 2, 3, 4, 5, 0] rfl
theorem kq_0i1i2i3i4i5i_3i {n : Nat} {v0 v1 v2 v3 v4 v5 x : Value} (h : v2.category = 1) : ∀ ls : Array Slot, lv_has ls n ((3, x) :: (([(0, v0), (1, v1), (2, v2), (3, v3), (4, v4), (5, v5)] : List (Nat × Value)).filter (fun q => !(q.1 == 3) && !(q.1 + 1 == 3 && q.2.category == 2)))) → lv_has ls n [(0, v0), (1, v1), (2, v2), (3, x), (4, v4), (5, v5)] := by
  intro ls h'
  rw [show ([(0, v0), (1, v1), (2, v2), (3, v3), (4, v4), (5, v5)] : List (Nat × Value)).filter (fun q => !(q.1 == 3) && !(q.1 + 1 == 3 && q.2.category == 2)) = [(0, v0), (1, v1), (2, v2), (4, v4), (5, v5)] from by simp [h]] at h'
  exact lv_sub h' [1, 2, 3, 0, 4, 5] rfl
theorem kq_0i1i2i3i4i5i_2i {n : Nat} {v0 v1 v2 v3 v4 v5 x : Value} (h : v1.category = 1) : ∀ ls : Array Slot, lv_has ls n ((2, x) :: (([(0, v0), (1, v1), (2, v2), (3, v3), (4, v4), (5, v5)] : List (Nat × Value)).filter (fun q => !(q.1 == 2) && !(q.1 + 1 == 2 && q.2.category == 2)))) → lv_has ls n [(0, v0), (1, v1), (2, x), (3, v3), (4, v4), (5, v5)] := by
  intro ls h'
  rw [show ([(0, v0), (1, v1), (2, v2), (3, v3), (4, v4), (5, v5)] : List (Nat × Value)).filter (fun q => !(q.1 == 2) && !(q.1 + 1 == 2 && q.2.category == 2)) = [(0, v0), (1, v1), (3, v3), (4, v4), (5, v5)] from by simp [h]] at h'
  exact lv_sub h' [1, 2, 0, 3, 4, 5] rfl
theorem kq_0i1i2i3i4i5i_1i {n : Nat} {v0 v1 v2 v3 v4 v5 x : Value} (h : v0.category = 1) : ∀ ls : Array Slot, lv_has ls n ((1, x) :: (([(0, v0), (1, v1), (2, v2), (3, v3), (4, v4), (5, v5)] : List (Nat × Value)).filter (fun q => !(q.1 == 1) && !(q.1 + 1 == 1 && q.2.category == 2)))) → lv_has ls n [(0, v0), (1, x), (2, v2), (3, v3), (4, v4), (5, v5)] := by
  intro ls h'
  rw [show ([(0, v0), (1, v1), (2, v2), (3, v3), (4, v4), (5, v5)] : List (Nat × Value)).filter (fun q => !(q.1 == 1) && !(q.1 + 1 == 1 && q.2.category == 2)) = [(0, v0), (2, v2), (3, v3), (4, v4), (5, v5)] from by simp [h]] at h'
  exact lv_sub h' [1, 0, 2, 3, 4, 5] rfl
theorem kq_0i1i2i3i4i5i_5i {n : Nat} {v0 v1 v2 v3 v4 v5 x : Value} (h : v4.category = 1) : ∀ ls : Array Slot, lv_has ls n ((5, x) :: (([(0, v0), (1, v1), (2, v2), (3, v3), (4, v4), (5, v5)] : List (Nat × Value)).filter (fun q => !(q.1 == 5) && !(q.1 + 1 == 5 && q.2.category == 2)))) → lv_has ls n [(0, v0), (1, v1), (2, v2), (3, v3), (4, v4), (5, x)] := by
  intro ls h'
  rw [show ([(0, v0), (1, v1), (2, v2), (3, v3), (4, v4), (5, v5)] : List (Nat × Value)).filter (fun q => !(q.1 == 5) && !(q.1 + 1 == 5 && q.2.category == 2)) = [(0, v0), (1, v1), (2, v2), (3, v3), (4, v4)] from by simp [h]] at h'
  exact lv_sub h' [1, 2, 3, 4, 5, 0] rfl
theorem kq_0i1i2i3i4i5w_7w {n : Nat} {v0 v1 v2 v3 v4 v5 x : Value} : ∀ ls : Array Slot, lv_has ls n ((7, x) :: (([(0, v0), (1, v1), (2, v2), (3, v3), (4, v4), (5, v5)] : List (Nat × Value)).filter (fun q => !(q.1 == 7) && (!(q.1 == 7 + 1) && !(q.1 + 1 == 7 && q.2.category == 2))))) → lv_has ls n [(0, v0), (1, v1), (2, v2), (3, v3), (4, v4), (5, v5), (7, x)] := by
  intro ls h'
  rw [show ([(0, v0), (1, v1), (2, v2), (3, v3), (4, v4), (5, v5)] : List (Nat × Value)).filter (fun q => !(q.1 == 7) && (!(q.1 == 7 + 1) && !(q.1 + 1 == 7 && q.2.category == 2))) = [(0, v0), (1, v1), (2, v2), (3, v3), (4, v4), (5, v5)] from by simp] at h'
  exact lv_sub h' [1, 2, 3, 4, 5, 6, 0] rfl
theorem kq_0i1i2i3i4i5w7w_9i {n : Nat} {v0 v1 v2 v3 v4 v5 v7 x : Value} : ∀ ls : Array Slot, lv_has ls n ((9, x) :: (([(0, v0), (1, v1), (2, v2), (3, v3), (4, v4), (5, v5), (7, v7)] : List (Nat × Value)).filter (fun q => !(q.1 == 9) && !(q.1 + 1 == 9 && q.2.category == 2)))) → lv_has ls n [(0, v0), (1, v1), (2, v2), (3, v3), (4, v4), (5, v5), (7, v7), (9, x)] := by
  intro ls h'
  rw [show ([(0, v0), (1, v1), (2, v2), (3, v3), (4, v4), (5, v5), (7, v7)] : List (Nat × Value)).filter (fun q => !(q.1 == 9) && !(q.1 + 1 == 9 && q.2.category == 2)) = [(0, v0), (1, v1), (2, v2), (3, v3), (4, v4), (5, v5), (7, v7)] from by simp] at h'
  exact lv_sub h' [1, 2, 3, 4, 5, 6, 7, 0] rfl

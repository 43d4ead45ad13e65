/-! The one world of the class and of the law's own row (number 0; 1 to 6 stand for nothing): objects have numbers, a cell's ints are a row; rows over it. -/
def kN : Nat := 1141
/-- the numbers that stand for objects, and their places in the world -/
def kZ (k : Nat) : Prop := k < kN ∧ (k = 0 ∨ 7 ≤ k)
def kpos (k : Nat) : Nat := if k = 0 then 0 else k - 6
def kof (i : Nat) : Nat := if i = 0 then 0 else i + 6
theorem kof_pos {k : Nat} (h : kZ k) : kof (kpos k) = k := by
  obtain ⟨-, h⟩ := h
  unfold kof kpos
  by_cases z : k = 0
  · rw [if_pos z, if_pos rfl, z]
  · rw [if_neg z, if_neg (by omega)]; omega
theorem kZ_of {i : Nat} (h : i < 1135) : kZ (kof i) ∧ kpos (kof i) = i := by
  unfold kZ kof kpos kN
  by_cases z : i = 0
  · subst z; simp
  · rw [if_neg z, if_neg (by omega)]; omega
theorem kpos_lt {k : Nat} (h : kZ k) : kpos k < 1135 := by
  obtain ⟨h1, h⟩ := h
  unfold kN at h1
  unfold kpos
  split <;> omega
def sB (j : Nat) : Nat := 14 + 161 * j
def sC (j : Nat) : Nat := 14 + 161 * j + 1
def sR (j : Nat) : Nat := 14 + 161 * j + 2
def sM (j : Nat) : Nat := 14 + 161 * j + 3
def sD (j : Nat) : Nat := 14 + 161 * j + 4
def cB (j c : Nat) : Nat := 14 + 161 * j + 5 + 3 * c
def cV (j c : Nat) : Nat := 14 + 161 * j + 6 + 3 * c
def cM (j c : Nat) : Nat := 14 + 161 * j + 7 + 3 * c
def rN (j r : Nat) : Nat := 14 + 161 * j + 41 + 2 * r
def rW (j r : Nat) : Nat := 14 + 161 * j + 42 + 2 * r
def mC (j q : Nat) : Nat := 14 + 161 * j + 121 + q
/-- the first objects: the law's row, and the class's own single ones -/
def kE0 (τ : Nat → ClassId) (ad : Nat → Nat) (r : Nat → Int32) (k : Nat) : va_E :=
  match k with
  | 0 => .inl (τ 0, 40, .inl r)
  | 7 => .inr (6, [.ref (ad (sB 0)), .ref (ad (sB 1)), .ref (ad (sB 2)), .ref (ad 8), .ref (ad 10), .int (r 5)])
  | 8 => .inr (2, [.ref (ad 9), .int (r 1)])
  | 9 => .inl (τ 5, 4, .inr (.inr (.inr (.inr (fun i => some (ad (sB (r i).toNatClampNeg)))))))
  | 10 => .inr (5, [.ref (ad 11), .int (r 1), .ref (ad 12), .ref (ad 13), .int (r 4)])
  | 11 => .inl (τ 1, 60, .inl r)
  | 12 => .inl (τ 0, 16, .inl r)
  | _ => .inl (τ 0, 16, .inl r)
/-- the object o of the state j -/
def kE1 (τ : Nat → ClassId) (ad : Nat → Nat) (r : Nat → Int32) (j o : Nat) : va_E :=
  if o = 0 then .inr (4, [.ref (ad (sC j)), .ref (ad (sR j)), .ref (ad (sM j)), .int (r 3), .int (r 4), .int (r 5), .int (r 6), .int (r 7), .int (r 8), .int (r 9), .ref (ad (sD j))])
  else if o = 1 then .inl (τ 2, 12, .inr (.inr (.inr (.inr (fun i => some (ad (cB j i)))))))
  else if o = 2 then .inl (τ 3, 40, .inr (.inr (.inr (.inr (fun i => some (ad (rN j i)))))))
  else if o = 3 then .inl (τ 4, 40, .inr (.inr (.inr (.inr (fun i => some (ad (mC j i)))))))
  else if o = 4 then .inl (τ 0, 40, .inl r)
  else if o < 41 then (if (o - 5) % 3 = 0 then .inr (0, [.ref (ad (cV j ((o - 5) / 3))), .ref (ad (cM j ((o - 5) / 3))), .int (r 2)]) else .inl (τ 0, 10, .inl r))
  else if o < 121 then (if (o - 41) % 2 = 0 then .inr (3, [.ref (ad (rW j ((o - 41) / 2))), .int (r 1), .int (r 2), .int (r 3), .int (r 4), .int (r 5), .int (r 6), .int (r 7), .int (r 8)]) else .inl (τ 0, 12, .inl r))
  else .inr (1, [.int (r 0), .int (r 1), .int (r 2), .int (r 3), .int (r 4), .int (r 5)])
def kE (τ : Nat → ClassId) (ad : Nat → Nat) (r : Nat → Int32) (k : Nat) : va_E := if k < 14 then kE0 τ ad r k else kE1 τ ad r ((k - 14) / 161) ((k - 14) % 161)
def kW (τ : Nat → ClassId) (ad : Nat → Nat) (G : Nat → Nat → Int32) : va_W := (List.range 1135).map (fun i => (ad (kof i), kE τ ad (G (kof i)) (kof i)))
abbrev kT (τ : Nat → ClassId) : List (ClassId × FieldType) := [(τ 0, .int), (τ 1, .char), (τ 2, .object "RentedMoments$Cell"), (τ 3, .object "RentedMoments$Reader"), (τ 4, .object "RentedMoments$Commit"), (τ 5, .object "RentedMoments$State")]
def kInj (ad : Nat → Nat) : Prop := ∀ i j : Nat, kZ i → kZ j → ad i = ad j → i = j
def kAd (ad : Nat → Nat) : Nat → Prop := fun q => ∃ k : Nat, kZ k ∧ q = ad k
/-- one int of one row -/
def gs (G : Nat → Nat → Int32) (k f : Nat) (x : Int32) : Nat → Nat → Int32 := fun k' f' => if k' = k ∧ f' = f then x else G k' f'
theorem gs_up (G : Nat → Nat → Int32) (k f : Nat) (x : Int32) : gs G k f x k = upd (G k) f x := by
  funext f'
  by_cases h : f' = f <;> simp [gs, upd, h]
theorem gs_other {G : Nat → Nat → Int32} {k f : Nat} {x : Int32} {k' : Nat} (h : k' ≠ k) : gs G k f x k' = G k' := by
  funext f'
  simp [gs, h]
theorem kW_get {τ : Nat → ClassId} {ad : Nat → Nat} {G : Nat → Nat → Int32} {k : Nat} (h : kZ k) : (kW τ ad G)[kpos k]? = some (ad k, kE τ ad (G k) k) := by
  unfold kW
  rw [List.getElem?_map, List.getElem?_range (kpos_lt h)]
  show some (ad (kof (kpos k)), kE τ ad (G (kof (kpos k))) (kof (kpos k))) = _
  rw [kof_pos h]
theorem kW_none {τ : Nat → ClassId} {ad : Nat → Nat} {G : Nat → Nat → Int32} {i : Nat} (h : ¬ i < 1135) : (kW τ ad G)[i]? = none := List.getElem?_eq_none (by unfold kW; simp; omega)
theorem kW_set {τ : Nat → ClassId} {ad : Nat → Nat} {G G' : Nat → Nat → Int32} {k : Nat} {e : va_E} (h : kZ k) (he : e = kE τ ad (G' k) k) (ho : ∀ i, i ≠ k → G' i = G i) : (kW τ ad G).set (kpos k) (ad k, e) = kW τ ad G' := by
  apply List.ext_getElem?
  intro i
  by_cases hik : i = kpos k
  · subst hik
    rw [kW_get h, List.getElem?_set_self (by unfold kW; simpa using kpos_lt h), he]
  · rw [List.getElem?_set_ne (Ne.symm hik)]
    by_cases hi : i < 1135
    · obtain ⟨h1, h2⟩ := kZ_of hi
      have hne : kof i ≠ k := fun e => hik (by rw [← e, h2])
      have q1 := kW_get (τ := τ) (ad := ad) (G := G) h1
      have q2 := kW_get (τ := τ) (ad := ad) (G := G') h1
      rw [h2] at q1 q2
      rw [q1, q2, ho _ hne]
    · rw [kW_none hi, kW_none hi]
theorem kW_D {τ : Nat → ClassId} {ad : Nat → Nat} {G : Nat → Nat → Int32} (hI : kInj ad) : va_D (kAd ad) (kW τ ad G) := by
  have key : ∀ (i : Nat) (p : Nat × va_E), (kW τ ad G)[i]? = some p → i < 1135 ∧ p.1 = ad (kof i) := by
    intro i p hp
    by_cases hi : i < 1135
    · obtain ⟨h1, h2⟩ := kZ_of hi
      have q1 := kW_get (τ := τ) (ad := ad) (G := G) h1
      rw [h2, hp] at q1
      cases q1
      exact ⟨hi, rfl⟩
    · rw [kW_none hi] at hp
      cases hp
  refine ⟨fun i j p q hp hq hpq => ?_, fun k q hk => ?_⟩
  · obtain ⟨h1, h2⟩ := key i p hp
    obtain ⟨h3, h4⟩ := key j q hq
    have e := hI (kof i) (kof j) (kZ_of h1).1 (kZ_of h3).1 (by rw [← h2, ← h4]; exact hpq)
    rw [← (kZ_of h1).2, ← (kZ_of h3).2, e]
  · obtain ⟨h1, h2⟩ := key k q hk
    exact ⟨kof k, (kZ_of h1).1, h2⟩
/-- the object k is of a class: its fields, of its row -/
def kO (τ : Nat → ClassId) (ad : Nat → Nat) (k ci : Nat) (C : String) (T : u_T) (N : Nat) (F : (Nat → Int32) → List Value) : Prop := kZ k ∧ vwCl[ci]? = some (C, T, N) ∧ ∀ r, kE τ ad r k = .inr (ci, F r)
/-- the object k is an array of numbers -/
def kAr (τ : Nat → ClassId) (ad : Nat → Nat) (k t : Nat) (ty : FieldType) (n : Nat) : Prop := kZ k ∧ n < 65536 ∧ ∃ cA, (kT τ)[t]? = some (cA, ty) ∧ ∀ r, kE τ ad r k = .inl (cA, n, .inl r)
/-- the object k is an array of references -/
def kQr (τ : Nat → ClassId) (ad : Nat → Nat) (k t : Nat) (C : String) (n : Nat) (f : (Nat → Int32) → Nat → Nat) : Prop := kZ k ∧ n < 65536 ∧ ∃ cA, (kT τ)[t]? = some (cA, .object C) ∧ ∀ r, kE τ ad r k = .inl (cA, n, .inr (.inr (.inr (.inr (fun i => some (ad (f r i)))))))
theorem kE_j {τ : Nat → ClassId} {ad : Nat → Nat} {r : Nat → Int32} {j o : Nat} (ho : o < 161) : kE τ ad r (14 + 161 * j + o) = kE1 τ ad r j o := by
  unfold kE
  rw [if_neg (by omega), show (14 + 161 * j + o - 14) / 161 = j by omega, show (14 + 161 * j + o - 14) % 161 = o by omega]
theorem kN_j {j o : Nat} (hj : j < 7) (ho : o < 161) : kZ (14 + 161 * j + o) := by unfold kZ kN; omega
section KOBJ
variable {τ : Nat → ClassId} {ad : Nat → Nat} {j c r q : Nat}
theorem oS (hj : j < 7) : kO τ ad (sB j) 4 RX4 TX4 11 (fun r => [.ref (ad (sC j)), .ref (ad (sR j)), .ref (ad (sM j)), .int (r 3), .int (r 4), .int (r 5), .int (r 6), .int (r 7), .int (r 8), .int (r 9), .ref (ad (sD j))]) :=
  ⟨kN_j (o := 0) hj (by omega), rfl, fun r => (kE_j (o := 0) (by omega)).trans (by unfold kE1; rw [if_pos rfl])⟩
theorem qC (hj : j < 7) : kQr τ ad (sC j) 2 "RentedMoments$Cell" 12 (fun _ i => cB j i) :=
  ⟨kN_j (o := 1) hj (by omega), by omega, τ 2, rfl, fun r => (kE_j (o := 1) (by omega)).trans (by unfold kE1; rw [if_neg (by omega), if_pos rfl])⟩
theorem qR (hj : j < 7) : kQr τ ad (sR j) 3 "RentedMoments$Reader" 40 (fun _ i => rN j i) :=
  ⟨kN_j (o := 2) hj (by omega), by omega, τ 3, rfl, fun r => (kE_j (o := 2) (by omega)).trans (by unfold kE1; rw [if_neg (by omega), if_neg (by omega), if_pos rfl])⟩
theorem qM (hj : j < 7) : kQr τ ad (sM j) 4 "RentedMoments$Commit" 40 (fun _ i => mC j i) :=
  ⟨kN_j (o := 3) hj (by omega), by omega, τ 4, rfl, fun r => (kE_j (o := 3) (by omega)).trans (by unfold kE1; rw [if_neg (by omega), if_neg (by omega), if_neg (by omega), if_pos rfl])⟩
theorem aD (hj : j < 7) : kAr τ ad (sD j) 0 .int 40 :=
  ⟨kN_j (o := 4) hj (by omega), by omega, τ 0, rfl, fun r => (kE_j (o := 4) (by omega)).trans (by unfold kE1; rw [if_neg (by omega), if_neg (by omega), if_neg (by omega), if_neg (by omega), if_pos rfl])⟩
theorem kE_c {r : Nat → Int32} {o : Nat} (h1 : 4 < o) (h2 : o < 41) : kE τ ad r (14 + 161 * j + o) = (if (o - 5) % 3 = 0 then .inr (0, [.ref (ad (cV j ((o - 5) / 3))), .ref (ad (cM j ((o - 5) / 3))), .int (r 2)]) else .inl (τ 0, 10, .inl r)) :=
  (kE_j (by omega)).trans (by unfold kE1; rw [if_neg (by omega), if_neg (by omega), if_neg (by omega), if_neg (by omega), if_neg (by omega), if_pos h2])
theorem kE_r {r : Nat → Int32} {o : Nat} (h1 : 40 < o) (h2 : o < 121) : kE τ ad r (14 + 161 * j + o) = (if (o - 41) % 2 = 0 then .inr (3, [.ref (ad (rW j ((o - 41) / 2))), .int (r 1), .int (r 2), .int (r 3), .int (r 4), .int (r 5), .int (r 6), .int (r 7), .int (r 8)]) else .inl (τ 0, 12, .inl r)) :=
  (kE_j (by omega)).trans (by unfold kE1; rw [if_neg (by omega), if_neg (by omega), if_neg (by omega), if_neg (by omega), if_neg (by omega), if_neg (by omega), if_pos h2])
theorem oC (hj : j < 7) (hc : c < 12) : kO τ ad (cB j c) 0 RX0 TX0 3 (fun r => [.ref (ad (cV j c)), .ref (ad (cM j c)), .int (r 2)]) := by
  have h := kN_j (o := 5 + 3 * c) hj (by omega)
  refine ⟨by unfold kZ kN at h ⊢; unfold cB; omega, rfl, fun r => ?_⟩
  rw [show cB j c = 14 + 161 * j + (5 + 3 * c) by unfold cB; omega, kE_c (by omega) (by omega), if_pos (by omega), show (5 + 3 * c - 5) / 3 = c by omega]
theorem aV (hj : j < 7) (hc : c < 12) : kAr τ ad (cV j c) 0 .int 10 := by
  have h := kN_j (o := 6 + 3 * c) hj (by omega)
  refine ⟨by unfold kZ kN at h ⊢; unfold cV; omega, by omega, τ 0, rfl, fun r => ?_⟩
  rw [show cV j c = 14 + 161 * j + (6 + 3 * c) by unfold cV; omega, kE_c (by omega) (by omega), if_neg (by omega)]
theorem aM (hj : j < 7) (hc : c < 12) : kAr τ ad (cM j c) 0 .int 10 := by
  have h := kN_j (o := 7 + 3 * c) hj (by omega)
  refine ⟨by unfold kZ kN at h ⊢; unfold cM; omega, by omega, τ 0, rfl, fun r => ?_⟩
  rw [show cM j c = 14 + 161 * j + (7 + 3 * c) by unfold cM; omega, kE_c (by omega) (by omega), if_neg (by omega)]
theorem oR (hj : j < 7) (hr : r < 40) : kO τ ad (rN j r) 3 RX3 TX3 9 (fun q => [.ref (ad (rW j r)), .int (q 1), .int (q 2), .int (q 3), .int (q 4), .int (q 5), .int (q 6), .int (q 7), .int (q 8)]) := by
  have h := kN_j (o := 41 + 2 * r) hj (by omega)
  refine ⟨by unfold kZ kN at h ⊢; unfold rN; omega, rfl, fun q => ?_⟩
  rw [show rN j r = 14 + 161 * j + (41 + 2 * r) by unfold rN; omega, kE_r (by omega) (by omega), if_pos (by omega), show (41 + 2 * r - 41) / 2 = r by omega]
theorem aW (hj : j < 7) (hr : r < 40) : kAr τ ad (rW j r) 0 .int 12 := by
  have h := kN_j (o := 42 + 2 * r) hj (by omega)
  refine ⟨by unfold kZ kN at h ⊢; unfold rW; omega, by omega, τ 0, rfl, fun q => ?_⟩
  rw [show rW j r = 14 + 161 * j + (42 + 2 * r) by unfold rW; omega, kE_r (by omega) (by omega), if_neg (by omega)]
theorem oM (hj : j < 7) (hq : q < 40) : kO τ ad (mC j q) 1 RX1 TX1 6 (fun r => [.int (r 0), .int (r 1), .int (r 2), .int (r 3), .int (r 4), .int (r 5)]) := by
  have h := kN_j (o := 121 + q) hj (by omega)
  refine ⟨by unfold kZ kN at h ⊢; unfold mC; omega, rfl, fun r => ?_⟩
  rw [show mC j q = 14 + 161 * j + (121 + q) by unfold mC; omega, kE_j (by omega)]
  unfold kE1
  rw [if_neg (by omega), if_neg (by omega), if_neg (by omega), if_neg (by omega), if_neg (by omega), if_neg (by omega), if_neg (by omega)]
theorem oX : kO τ ad 7 6 RX6 TX6 6 (fun r => [.ref (ad (sB 0)), .ref (ad (sB 1)), .ref (ad (sB 2)), .ref (ad 8), .ref (ad 10), .int (r 5)]) := ⟨by unfold kZ kN; omega, rfl, fun _ => rfl⟩
theorem oH : kO τ ad 8 2 RX2 TX2 2 (fun r => [.ref (ad 9), .int (r 1)]) := ⟨by unfold kZ kN; omega, rfl, fun _ => rfl⟩
theorem qH : kQr τ ad 9 5 "RentedMoments$State" 4 (fun r i => sB (r i).toNatClampNeg) := ⟨by unfold kZ kN; omega, by omega, τ 5, rfl, fun _ => rfl⟩
theorem oT : kO τ ad 10 5 RX5 TX5 5 (fun r => [.ref (ad 11), .int (r 1), .ref (ad 12), .ref (ad 13), .int (r 4)]) := ⟨by unfold kZ kN; omega, rfl, fun _ => rfl⟩
theorem aT : kAr τ ad 11 1 .char 60 := ⟨by unfold kZ kN; omega, by omega, τ 1, rfl, fun _ => rfl⟩
theorem aTc : kAr τ ad 12 0 .int 16 := ⟨by unfold kZ kN; omega, by omega, τ 0, rfl, fun _ => rfl⟩
theorem aTv : kAr τ ad 13 0 .int 16 := ⟨by unfold kZ kN; omega, by omega, τ 0, rfl, fun _ => rfl⟩
theorem aS : kAr τ ad 0 0 .int 40 := ⟨by unfold kZ kN; omega, by omega, τ 0, rfl, fun _ => rfl⟩
end KOBJ

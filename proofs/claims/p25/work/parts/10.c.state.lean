/-! A state's constructor: 161 objects in the order in which they are made. -/
abbrev rfs (c : ClassId) (n : Nat) (f : Nat → Option Nat) : va_E := .inl (c, n, .inr (.inr (.inr (.inr f))))
def YE (τ : Nat → ClassId) (b : Nat → Nat) (i r : Nat) (o : Nat) : va_E :=
  if o = 0 then .inr (4, [.ref (b 1), .ref (b 2), .ref (b 3), .int 0, .int 0, .int (nI 4), .int 0, .int 0, .int 0, .int 0, .ref (b 4)])
  else if o = 1 then rfs (τ 2) 12 (fun p => if p < i then some (b (5 + 3 * p)) else none)
  else if o = 2 then rfs (τ 3) 40 (fun p => if p < r then some (b (41 + 3 * p)) else none)
  else if o = 3 then rfs (τ 4) 40 (fun p => if p < r then some (b (43 + 3 * p)) else none)
  else if o = 4 then .inl (τ 0, 40, .inl (fun _ => 0))
  else if o < 41 then (if (o - 5) % 3 = 0 then .inr (0, [.ref (b (o + 1)), .ref (b (o + 2)), .int (nI 1)]) else .inl (τ 0, 10, .inl (fun _ => 0)))
  else if (o - 41) % 3 = 0 then .inr (3, [.ref (b (o + 1)), .int 0, .int 0, .int 0, .int 0, .int 0, .int 0, .int 0, .int 0]) else if (o - 41) % 3 = 1 then .inl (τ 0, 12, .inl (fun _ => 0)) else .inr (1, [.int 0, .int 0, .int 0, .int 0, .int 0, .int 0])
theorem rfs_cg {c : ClassId} {n : Nat} {f g : Nat → Option Nat} (h : ∀ p, f p = g p) : rfs c n f = rfs c n g := by rw [show f = g from funext h]
section YEL
variable {τ : Nat → ClassId} {b b' : Nat → Nat} {i r o : Nat}
theorem YE_0 : YE τ b i r 0 = .inr (4, [.ref (b 1), .ref (b 2), .ref (b 3), .int 0, .int 0, .int (nI 4), .int 0, .int 0, .int 0, .int 0, .ref (b 4)]) := by unfold YE; rw [if_pos rfl]
theorem YE_1 : YE τ b i r 1 = rfs (τ 2) 12 (fun p => if p < i then some (b (5 + 3 * p)) else none) := by unfold YE; rw [if_neg (by omega), if_pos rfl]
theorem YE_2 : YE τ b i r 2 = rfs (τ 3) 40 (fun p => if p < r then some (b (41 + 3 * p)) else none) := by unfold YE; rw [if_neg (by omega), if_neg (by omega), if_pos rfl]
theorem YE_3 : YE τ b i r 3 = rfs (τ 4) 40 (fun p => if p < r then some (b (43 + 3 * p)) else none) := by unfold YE; rw [if_neg (by omega), if_neg (by omega), if_neg (by omega), if_pos rfl]
theorem YE_4 : YE τ b i r 4 = .inl (τ 0, 40, .inl (fun _ => 0)) := by unfold YE; rw [if_neg (by omega), if_neg (by omega), if_neg (by omega), if_neg (by omega), if_pos rfl]
theorem YE_c (h : 4 < o) (h2 : o < 41) : YE τ b i r o = if (o - 5) % 3 = 0 then .inr (0, [.ref (b (o + 1)), .ref (b (o + 2)), .int (nI 1)]) else .inl (τ 0, 10, .inl (fun _ => 0)) := by unfold YE; rw [if_neg (by omega), if_neg (by omega), if_neg (by omega), if_neg (by omega), if_neg (by omega), if_pos h2]
theorem YE_r (h : 40 < o) : YE τ b i r o = if (o - 41) % 3 = 0 then .inr (3, [.ref (b (o + 1)), .int 0, .int 0, .int 0, .int 0, .int 0, .int 0, .int 0, .int 0]) else if (o - 41) % 3 = 1 then .inl (τ 0, 12, .inl (fun _ => 0)) else .inr (1, [.int 0, .int 0, .int 0, .int 0, .int 0, .int 0]) := by unfold YE; rw [if_neg (by omega), if_neg (by omega), if_neg (by omega), if_neg (by omega), if_neg (by omega), if_neg (by omega)]
/-- the same objects, seen from another list of places; a little more in the arrays -/
theorem YE_cg {K i2 r2 : Nat} (hb : ∀ k, k < K → b' k = b k) (hK : 5 ≤ K) (hi : ∀ p, p < i → 5 + 3 * p + 2 < K) (hr : ∀ p, p < r → 41 + 3 * p + 2 < K) (ho : o < K) (hc : 4 < o → o < 41 → (o - 5) % 3 = 0 → o + 2 < K) (hd : 40 < o → (o - 41) % 3 = 0 → o + 1 < K) (h1 : o = 1 → i2 = i) (h2 : o = 2 ∨ o = 3 → r2 = r) : YE τ b' i2 r2 o = YE τ b i r o := by
  rcases (show o = 0 ∨ o = 1 ∨ o = 2 ∨ o = 3 ∨ o = 4 ∨ (4 < o ∧ o < 41) ∨ 40 < o by omega) with z | z | z | z | z | z | z
  · subst z; rw [YE_0, YE_0, hb 1 (by omega), hb 2 (by omega), hb 3 (by omega), hb 4 (by omega)]
  · subst z
    rw [YE_1, YE_1, h1 rfl]
    exact rfs_cg (fun p => by
      by_cases q : p < i
      · rw [if_pos q, if_pos q, hb _ (by have := hi p q; omega)]
      · rw [if_neg q, if_neg q])
  · subst z
    rw [YE_2, YE_2, h2 (Or.inl rfl)]
    exact rfs_cg (fun p => by
      by_cases q : p < r
      · rw [if_pos q, if_pos q, hb _ (by have := hr p q; omega)]
      · rw [if_neg q, if_neg q])
  · subst z
    rw [YE_3, YE_3, h2 (Or.inr rfl)]
    exact rfs_cg (fun p => by
      by_cases q : p < r
      · rw [if_pos q, if_pos q, hb _ (by have := hr p q; omega)]
      · rw [if_neg q, if_neg q])
  · subst z; rw [YE_4, YE_4]
  · rw [YE_c z.1 z.2, YE_c z.1 z.2]
    by_cases q : (o - 5) % 3 = 0
    · have := hc z.1 z.2 q
      rw [if_pos q, if_pos q, hb _ (by omega), hb _ (by omega)]
    · rw [if_neg q, if_neg q]
  · rw [YE_r z, YE_r z]
    by_cases q : (o - 41) % 3 = 0
    · have := hd z q
      rw [if_pos q, if_pos q, hb _ (by omega)]
    · rw [if_neg q, if_neg q]
end YEL
/-- lists of places, one behind the other -/
def bap (K : Nat) (b b' : Nat → Nat) : Nat → Nat := fun k => if k < K then b k else b' (k - K)
theorem bap_lt {K k : Nat} {b b' : Nat → Nat} (h : k < K) : bap K b b' k = b k := if_pos h
theorem bap_ge {K : Nat} {b b' : Nat → Nat} (k : Nat) : bap K b b' (K + k) = b' k := by unfold bap; rw [if_neg (by omega), show K + k - K = k by omega]
theorem se_cell {τ : Nat → ClassId} {b b' : Nat → Nat} {i q : Nat} (hi : i < 12) (h0 : b' 0 = q) : (gW (5 + 3 * i) b (YE τ b i 0) ++ gW 3 b' (EC τ b')).set 1 (b 1, rfs (τ 2) 12 (va_up (fun p => if p < i then some (b (5 + 3 * p)) else none) i (some q))) = gW (5 + 3 * (i + 1)) (bap (5 + 3 * i) b b') (YE τ (bap (5 + 3 * i) b b') (i + 1) 0) := by
  rw [gW_app]
  have e1 : b 1 = (fun k => if k < 5 + 3 * i then b k else b' (k - (5 + 3 * i))) 1 := (if_pos (by omega)).symm
  rw [e1, gW_set (by omega)]
  refine gW_cg (fun k hk => ⟨rfl, ?_⟩)
  by_cases k1 : k = 1
  · rw [if_pos k1, k1, YE_1]
    refine rfs_cg (fun p => ?_)
    unfold va_up
    by_cases z : p = i
    · rw [if_pos z, if_pos (by omega), z, ← h0]; exact congrArg some (bap_ge 0).symm
    · rw [if_neg z]
      dsimp only
      by_cases z2 : p < i
      · rw [if_pos z2, if_pos (by omega), bap_lt (by omega)]
      · rw [if_neg z2, if_neg (by omega)]
  · rw [if_neg k1]
    by_cases k2 : k < 5 + 3 * i
    · rw [if_pos k2]
      exact (YE_cg (K := 5 + 3 * i) (fun k hk => bap_lt hk) (by omega) (fun p hp => by omega) (fun p hp => by omega) k2 (fun _ _ _ => by omega) (fun _ _ => by omega) (fun z => absurd z k1) (fun _ => rfl)).symm
    · rw [if_neg k2, YE_c (by omega) (by omega)]
      rcases (show k = 5 + 3 * i ∨ k = 5 + 3 * i + 1 ∨ k = 5 + 3 * i + 2 by omega) with z | z | z
      · rw [if_pos (by omega), z, show 5 + 3 * i - (5 + 3 * i) = 0 by omega, bap_ge 1, bap_ge 2]; rfl
      · rw [if_neg (by omega), z, show 5 + 3 * i + 1 - (5 + 3 * i) = 1 by omega]; rfl
      · rw [if_neg (by omega), z, show 5 + 3 * i + 2 - (5 + 3 * i) = 2 by omega]; rfl
/-- a reader is made, and stands in the array of the readers -/
def YF (τ : Nat → ClassId) (b : Nat → Nat) (r : Nat) (o : Nat) : va_E := if o = 2 then rfs (τ 3) 40 (fun p => if p < r + 1 then some (b (41 + 3 * p)) else none) else YE τ b 12 r o
theorem se_rd {τ : Nat → ClassId} {b b' : Nat → Nat} {r q : Nat} (h0 : b' 0 = q) : (gW (41 + 3 * r) b (YE τ b 12 r) ++ gW 2 b' (ER τ b')).set 2 (b 2, rfs (τ 3) 40 (va_up (fun p => if p < r then some (b (41 + 3 * p)) else none) r (some q))) = gW (41 + 3 * r + 2) (bap (41 + 3 * r) b b') (YF τ (bap (41 + 3 * r) b b') r) := by
  rw [gW_app]
  have e1 : b 2 = (fun k => if k < 41 + 3 * r then b k else b' (k - (41 + 3 * r))) 2 := (if_pos (by omega)).symm
  rw [e1, gW_set (by omega)]
  refine gW_cg (fun k hk => ⟨rfl, ?_⟩)
  unfold YF
  by_cases k1 : k = 2
  · rw [if_pos k1, if_pos k1]
    refine rfs_cg (fun p => ?_)
    unfold va_up
    by_cases z : p = r
    · rw [if_pos z, if_pos (by omega), z, ← h0]; exact congrArg some (bap_ge 0).symm
    · rw [if_neg z]
      dsimp only
      by_cases z2 : p < r
      · rw [if_pos z2, if_pos (by omega), bap_lt (by omega)]
      · rw [if_neg z2, if_neg (by omega)]
  · rw [if_neg k1, if_neg k1]
    by_cases k2 : k < 41 + 3 * r
    · rw [if_pos k2]
      exact (YE_cg (K := 41 + 3 * r) (fun k hk => bap_lt hk) (by omega) (fun p hp => by omega) (fun p hp => by omega) k2 (fun _ _ _ => by omega) (fun _ _ => by omega) (fun _ => rfl) (fun _ => rfl)).symm
    · rw [if_neg k2, YE_r (by omega)]
      rcases (show k = 41 + 3 * r ∨ k = 41 + 3 * r + 1 by omega) with z | z
      · rw [if_pos (by omega), z, show 41 + 3 * r - (41 + 3 * r) = 0 by omega, bap_ge 1]; rfl
      · rw [if_neg (by omega), if_pos (by omega), z, show 41 + 3 * r + 1 - (41 + 3 * r) = 1 by omega]; rfl
theorem se_cm {τ : Nat → ClassId} {b b' : Nat → Nat} {r q : Nat} (h0 : b' 0 = q) : (gW (41 + 3 * r + 2) b (YF τ b r) ++ gW 1 b' (EM b')).set 3 (b 3, rfs (τ 4) 40 (va_up (fun p => if p < r then some (b (43 + 3 * p)) else none) r (some q))) = gW (41 + 3 * (r + 1)) (bap (41 + 3 * r + 2) b b') (YE τ (bap (41 + 3 * r + 2) b b') 12 (r + 1)) := by
  rw [gW_app]
  have e1 : b 3 = (fun k => if k < 41 + 3 * r + 2 then b k else b' (k - (41 + 3 * r + 2))) 3 := (if_pos (by omega)).symm
  rw [e1, gW_set (by omega)]
  refine gW_cg (fun k hk => ⟨rfl, ?_⟩)
  by_cases k1 : k = 3
  · rw [if_pos k1, k1, YE_3]
    refine rfs_cg (fun p => ?_)
    unfold va_up
    by_cases z : p = r
    · rw [if_pos z, if_pos (by omega), z, ← h0, show 43 + 3 * r = (41 + 3 * r + 2) + 0 by omega]; exact congrArg some (bap_ge 0).symm
    · rw [if_neg z]
      dsimp only
      by_cases z2 : p < r
      · rw [if_pos z2, if_pos (by omega), bap_lt (by omega)]
      · rw [if_neg z2, if_neg (by omega)]
  · rw [if_neg k1]
    by_cases k2 : k < 41 + 3 * r + 2
    · rw [if_pos k2]
      unfold YF
      by_cases k3 : k = 2
      · rw [if_pos k3, k3, YE_2]
        refine rfs_cg (fun p => ?_)
        by_cases z : p < r + 1
        · rw [if_pos z, if_pos z, bap_lt (by omega)]
        · rw [if_neg z, if_neg z]
      · rw [if_neg k3]
        exact (YE_cg (K := 41 + 3 * r + 2) (fun k hk => bap_lt hk) (by omega) (fun p hp => by omega) (fun p hp => by omega) k2 (fun _ _ _ => by omega) (fun _ _ => by omega) (fun _ => rfl) (fun z => by omega)).symm
    · rw [if_neg k2, YE_r (by omega), show k = 41 + 3 * r + 2 by omega, if_neg (by omega), if_neg (by omega)]; rfl
set_option maxHeartbeats 4000000 in
set_option maxRecDepth 100000 in
/-- State() -/
theorem c_X4_init (l : Launch) {D : va_G} {τ : Nat → ClassId} (h : Nat) : kNc l yX4_init cX4_init 2 { frames := 2, cells := 160, slots := 1488, locals := 32 } D τ h (.inr (4, [.null, .null, .null, .int 0, .int 0, .int 0, .int 0, .int 0, .int 0, .int 0, .null])) 161 (fun b => YE τ b 12 40) := by
  refine kNet (own := RX4) (by decide) rfl rfl (Nat.le_of_ble_eq_true rfl) ?_
  intro p9 e9 s9 m9 args9 below9 meth9 c9 Q9 A X hao hx hb hin hA hP hD hS hret ls hl
  refine lv_aload_n hx hb dX4_init_0 rfl (lv_at hl 0 rfl) ?_
  refine bobj X ⟨kWs_of 23 (by decide +kernel) rfl, kWs_of 16 (by decide +kernel) rfl, kWs_of 17 (by decide +kernel) rfl⟩ hl.1 dX4_init_1 ⟨Nat.le_of_ble_eq_true rfl, Nat.le_of_ble_eq_true rfl⟩ ?_
  refine lv_aload_n hx hb dX4_init_4 rfl (lv_at hl 0 rfl) ?_
  refine lv_bipush (v := nI 12) hx hb dX4_init_5 (by decide) ?_
  refine bnewQ X hP hD hS hA (t := 2) rfl hao.1 (kWs_of 24 (by decide +kernel) rfl) (by omega) (by dsimp only; omega) (by dsimp only; omega) dX4_init_7 (fun q1 H hP hD hS => ?_)
  refine bputF X hP hD hS 0 (ci := 4) (T := TX4) rfl rfl g_X4_11 (kWs_of 140 (by decide +kernel) rfl) rfl rfl hin rfl rfl (Nat.le_of_ble_eq_true rfl) dX4_init_10 (fun H locs hP hD hS => ?_)
  have hP : va_P D vwCl [(h, .inr (4, [.ref q1, .null, .null, .int 0, .int 0, .int 0, .int 0, .int 0, .int 0, .int 0, .null])), (q1, rfs (τ 2) 12 (fun _ => none))] H := hP
  have hD : va_D A [(h, .inr (4, [.ref q1, .null, .null, .int 0, .int 0, .int 0, .int 0, .int 0, .int 0, .int 0, .null])), (q1, rfs (τ 2) 12 (fun _ => none))] := hD
  refine lv_aload_n hx hb dX4_init_13 rfl (lv_at hl 0 rfl) ?_
  refine lv_bipush (v := nI 40) hx hb dX4_init_14 (by decide) ?_
  refine bnewQ X hP hD hS hA (t := 3) rfl hao.2.1 (kWs_of 26 (by decide +kernel) rfl) (by omega) (by dsimp only; omega) (by dsimp only; omega) dX4_init_16 (fun q2 H hP hD hS => ?_)
  refine bputF X hP hD hS 0 (ci := 4) (T := TX4) rfl rfl g_X4_19 (kWs_of 142 (by decide +kernel) rfl) rfl rfl hin rfl rfl (Nat.le_of_ble_eq_true rfl) dX4_init_19 (fun H locs hP hD hS => ?_)
  have hP : va_P D vwCl [(h, .inr (4, [.ref q1, .ref q2, .null, .int 0, .int 0, .int 0, .int 0, .int 0, .int 0, .int 0, .null])), (q1, rfs (τ 2) 12 (fun _ => none)), (q2, rfs (τ 3) 40 (fun _ => none))] H := hP
  have hD : va_D A [(h, .inr (4, [.ref q1, .ref q2, .null, .int 0, .int 0, .int 0, .int 0, .int 0, .int 0, .int 0, .null])), (q1, rfs (τ 2) 12 (fun _ => none)), (q2, rfs (τ 3) 40 (fun _ => none))] := hD
  refine lv_aload_n hx hb dX4_init_22 rfl (lv_at hl 0 rfl) ?_
  refine lv_bipush (v := nI 40) hx hb dX4_init_23 (by decide) ?_
  refine bnewQ X hP hD hS hA (t := 4) rfl hao.2.2.1 (kWs_of 28 (by decide +kernel) rfl) (by omega) (by dsimp only; omega) (by dsimp only; omega) dX4_init_25 (fun q3 H hP hD hS => ?_)
  refine bputF X hP hD hS 0 (ci := 4) (T := TX4) rfl rfl g_X4_25 (kWs_of 144 (by decide +kernel) rfl) rfl rfl hin rfl rfl (Nat.le_of_ble_eq_true rfl) dX4_init_28 (fun H locs hP hD hS => ?_)
  have hP : va_P D vwCl [(h, .inr (4, [.ref q1, .ref q2, .ref q3, .int 0, .int 0, .int 0, .int 0, .int 0, .int 0, .int 0, .null])), (q1, rfs (τ 2) 12 (fun _ => none)), (q2, rfs (τ 3) 40 (fun _ => none)), (q3, rfs (τ 4) 40 (fun _ => none))] H := hP
  have hD : va_D A [(h, .inr (4, [.ref q1, .ref q2, .ref q3, .int 0, .int 0, .int 0, .int 0, .int 0, .int 0, .int 0, .null])), (q1, rfs (τ 2) 12 (fun _ => none)), (q2, rfs (τ 3) 40 (fun _ => none)), (q3, rfs (τ 4) 40 (fun _ => none))] := hD
  refine lv_aload_n hx hb dX4_init_31 rfl (lv_at hl 0 rfl) ?_
  refine lv_iconst (v := nI 4) hx hb dX4_init_32 (by decide) ?_
  refine bputI X hP hD hS 0 (ci := 4) (T := TX4) rfl rfl g_X4_29 (kWs_of 150 (by decide +kernel) rfl) rfl rfl rfl (Nat.le_of_ble_eq_true rfl) dX4_init_33 (fun H locs hP hD hS => ?_)
  have hP : va_P D vwCl [(h, .inr (4, [.ref q1, .ref q2, .ref q3, .int 0, .int 0, .int (nI 4), .int 0, .int 0, .int 0, .int 0, .null])), (q1, rfs (τ 2) 12 (fun _ => none)), (q2, rfs (τ 3) 40 (fun _ => none)), (q3, rfs (τ 4) 40 (fun _ => none))] H := hP
  have hD : va_D A [(h, .inr (4, [.ref q1, .ref q2, .ref q3, .int 0, .int 0, .int (nI 4), .int 0, .int 0, .int 0, .int 0, .null])), (q1, rfs (τ 2) 12 (fun _ => none)), (q2, rfs (τ 3) 40 (fun _ => none)), (q3, rfs (τ 4) 40 (fun _ => none))] := hD
  refine lv_aload_n hx hb dX4_init_36 rfl (lv_at hl 0 rfl) ?_
  refine lv_bipush (v := nI 40) hx hb dX4_init_37 (by decide) ?_
  refine bnewI X hP hD hS hA (kWs_of 50 (by decide +kernel) rfl) (by omega) (by dsimp only; omega) (by dsimp only; omega) dX4_init_39 (fun q4 H hP hD hS => ?_)
  refine bputF X hP hD hS 0 (ci := 4) (T := TX4) rfl rfl g_X4_33 (kWs_of 160 (by decide +kernel) rfl) rfl rfl hin rfl rfl (Nat.le_of_ble_eq_true rfl) dX4_init_41 (fun H locs hP hD hS => ?_)
  have hP : va_P D vwCl [(h, .inr (4, [.ref q1, .ref q2, .ref q3, .int 0, .int 0, .int (nI 4), .int 0, .int 0, .int 0, .int 0, .ref q4])), (q1, rfs (τ 2) 12 (fun _ => none)), (q2, rfs (τ 3) 40 (fun _ => none)), (q3, rfs (τ 4) 40 (fun _ => none)), (q4, .inl (τ 0, 40, .inl (fun _ => 0)))] H := hP
  have hD : va_D A [(h, .inr (4, [.ref q1, .ref q2, .ref q3, .int 0, .int 0, .int (nI 4), .int 0, .int 0, .int 0, .int 0, .ref q4])), (q1, rfs (τ 2) 12 (fun _ => none)), (q2, rfs (τ 3) 40 (fun _ => none)), (q3, rfs (τ 4) 40 (fun _ => none)), (q4, .inl (τ 0, 40, .inl (fun _ => 0)))] := hD
  have e5 : gW 5 (nth [h, q1, q2, q3, q4]) (YE τ (nth [h, q1, q2, q3, q4]) 0 0) = [(h, .inr (4, [.ref q1, .ref q2, .ref q3, .int 0, .int 0, .int (nI 4), .int 0, .int 0, .int 0, .int 0, .ref q4])), (q1, rfs (τ 2) 12 (fun _ => none)), (q2, rfs (τ 3) 40 (fun _ => none)), (q3, rfs (τ 4) 40 (fun _ => none)), (q4, .inl (τ 0, 40, .inl (fun _ => 0)))] := by
    show [(_, YE τ _ 0 0 0), (_, YE τ _ 0 0 1), (_, YE τ _ 0 0 2), (_, YE τ _ 0 0 3), (_, YE τ _ 0 0 4)] = _
    rw [YE_0, YE_1, YE_2, YE_3, YE_4]
    simp only [Nat.not_lt_zero, if_false]
    rfl
  rw [← e5] at hP hD
  have hb00 : nth [h, q1, q2, q3, q4] 0 = h := rfl
  generalize nth [h, q1, q2, q3, q4] = b at hP hD hb00
  refine W.widen (k := 4) (n := 132) (by omega) (by omega) ?_
  refine lv_iconst (v := nI 0) hx hb dX4_init_44 (by decide) ?_
  refine kist hx hb dX4_init_45 rfl hl (by decide) (kp_1_1 rfl) (fun ls hl => ?_)
  -- the readers and the commits
  have lp2 : ∀ (d : Nat) (r : Nat) (b : Nat → Nat) (H : Heap) (locs : List Loc) (ls : Array Slot), 40 - r < d → r ≤ 40 → b 0 = h → va_P D vwCl (gW (41 + 3 * r) b (YE τ b 12 r)) H → va_D A (gW (41 + 3 * r) b (YE τ b 12 r)) → va_S A s9.heap H locs → lv_has ls 2 [(0, .ref h), (1, .int (nI r))] → W p9 l e9 { frames := 2, cells := 160, slots := 1488, locals := 32 } s9 m9 args9 below9 meth9 c9 H locs (40 + 3 * r) (408 + 27 * r) Q9 (F0 m9 73 ls []) := by
    intro d
    induction d with
    | zero => intro r b H locs ls hd; omega
    | succ d ih =>
      intro r b H locs ls hd hr40 hb00 hP hD hS hl
      refine lv_iload_n hx hb dX4_init_73 rfl (lv_at hl 1 rfl) ?_
      refine lv_bipush (v := nI 40) hx hb dX4_init_74 (by decide) ?_
      refine kic_ge (tgt := 111) hx hb dX4_init_76 (by decide) (by with_reducible rfl) (by with_reducible rfl) (by omega) (by omega) (fun c_76 => ?_) (fun c_76 => ?_)
      · have er : r = 40 := by omega
        subst er
        exact hret b H locs 111 ls hb00 hP hD hS dX4_init_111
      · refine lv_aload_n hx hb dX4_init_79 rfl (lv_at hl 0 rfl) ?_
        refine bget X hP 0 (a := h) (ci := 4) (T := TX4) (v := .ref (b 2)) ((gW_get (by omega)).trans (by rw [YE_0, hb00])) rfl g_X4_19 (kWs_of 142 (by decide +kernel) rfl) rfl dX4_init_80 ?_
        refine lv_iload_n hx hb dX4_init_83 rfl (lv_at hl 1 rfl) ?_
        refine bnew X hP hD hS hA (ci := 3) (T := TX3) rfl inK3 tyX3 tyX3_ok ⟨kWs_of 26 (by decide +kernel) rfl, kWs_of 51 (by decide +kernel) rfl, mw_X3_init.2.2⟩ [.null, .int 0, .int 0, .int 0, .int 0, .int 0, .int 0, .int 0, .int 0] (fun j hj => by rcases (show j = 0 ∨ j = 1 ∨ j = 2 ∨ j = 3 ∨ j = 4 ∨ j = 5 ∨ j = 6 ∨ j = 7 ∨ j = 8 by omega) with rfl | rfl | rfl | rfl | rfl | rfl | rfl | rfl | rfl <;> rfl) (by dsimp only; omega) (by dsimp only; omega) dX4_init_84 (fun q6 H hP hD hS => ?_)
        refine lv_dup hx hb dX4_init_87 rfl ?_
        refine bcallN X hao hP hD hS hA (c_X3_init l q6) ⟨List.mem_of_getElem? (i := 6) rfl, mw_X3_init.2.1, mw_X3_init.2.2, mw_X3_init.1⟩ ⟨rfl, by decide, by decide, by decide +kernel⟩ ⟨Nat.le_of_ble_eq_true rfl, Nat.le_of_ble_eq_true rfl⟩ (Nat.le_of_ble_eq_true rfl) hl.1 ⟨by dsimp only; omega, by dsimp only; omega⟩ dX4_init_88 (fun b6 H locs hb0 hP hD hS => ?_)
        refine bast X hP hD hS 2 (41 + 3 * r) (a := b 2) (v := q6) (ci := 3) (C := RX3) (T := TX3) (t := 3) (n := 40) (i := r) (by rw [List.getElem?_append_left (by rw [gW_len]; omega), gW_get (by omega), YE_2]) rfl (by rw [List.getElem?_append_right (by rw [gW_len]; omega), gW_len, Nat.sub_self, gW_get (by omega), hb0]; rfl) rfl c_76 (by omega) dX4_init_91 (fun H locs hP hD hS => ?_)
        rw [se_rd hb0] at hP hD
        obtain ⟨b2, eb2⟩ : ∃ z, z = bap (41 + 3 * r) b b6 := ⟨_, rfl⟩
        rw [← eb2] at hP hD
        have hb20 : b2 0 = h := by rw [eb2, bap_lt (by omega)]; exact hb00
        refine lv_aload_n hx hb dX4_init_92 rfl (lv_at hl 0 rfl) ?_
        refine bget X hP 0 (a := h) (ci := 4) (T := TX4) (v := .ref (b2 3)) ((gW_get (by omega)).trans (by unfold YF; rw [if_neg (by omega), YE_0, hb20])) rfl g_X4_25 (kWs_of 144 (by decide +kernel) rfl) rfl dX4_init_93 ?_
        refine lv_iload_n hx hb dX4_init_96 rfl (lv_at hl 1 rfl) ?_
        refine bnew X hP hD hS hA (ci := 1) (T := TX1) rfl inK1 tyX1 tyX1_ok ⟨kWs_of 28 (by decide +kernel) rfl, kWs_of 104 (by decide +kernel) rfl, mw_X1_init.2.2⟩ [.int 0, .int 0, .int 0, .int 0, .int 0, .int 0] (fun j hj => by rcases (show j = 0 ∨ j = 1 ∨ j = 2 ∨ j = 3 ∨ j = 4 ∨ j = 5 by omega) with rfl | rfl | rfl | rfl | rfl | rfl <;> rfl) (by dsimp only; omega) (by dsimp only; omega) dX4_init_97 (fun q7 H hP hD hS => ?_)
        refine lv_dup hx hb dX4_init_100 rfl ?_
        refine bcallN X hao hP hD hS hA (c_X1_init l q7) ⟨List.mem_of_getElem? (i := 27) rfl, mw_X1_init.2.1, mw_X1_init.2.2, mw_X1_init.1⟩ ⟨rfl, by decide, by decide, by decide +kernel⟩ ⟨Nat.le_of_ble_eq_true rfl, Nat.le_of_ble_eq_true rfl⟩ (Nat.le_of_ble_eq_true rfl) hl.1 ⟨by dsimp only; omega, by dsimp only; omega⟩ dX4_init_101 (fun b7 H locs hb0 hP hD hS => ?_)
        refine bast X hP hD hS 3 (41 + 3 * r + 2) (a := b2 3) (v := q7) (ci := 1) (C := RX1) (T := TX1) (t := 4) (n := 40) (i := r) (by rw [List.getElem?_append_left (by rw [gW_len]; omega), gW_get (by omega)]; unfold YF; rw [if_neg (by omega), YE_3]) rfl (by rw [List.getElem?_append_right (by rw [gW_len]; omega), gW_len, Nat.sub_self, gW_get (by omega), hb0]; rfl) rfl c_76 (by omega) dX4_init_104 (fun H locs hP hD hS => ?_)
        rw [se_cm hb0] at hP hD
        refine kinc (q := 1) hx hb dX4_init_105 hl rfl (by decide) (kp_2_1 rfl) (fun ls hl => ?_)
        refine lv_goto (tgt := 73) hx hb dX4_init_108 (by decide) ?_
        refine W.widen (k := 40 + 3 * (r + 1)) (n := 408 + 27 * (r + 1)) (by dsimp only; omega) (by dsimp only; omega) ?_
        exact ih (r + 1) _ _ _ _ (by omega) (by omega) (by rw [bap_lt (by omega)]; exact hb20) hP hD hS hl
  -- the cells
  have lp1 : ∀ (d : Nat) (i : Nat) (b : Nat → Nat) (H : Heap) (locs : List Loc) (ls : Array Slot), 12 - i < d → i ≤ 12 → b 0 = h → va_P D vwCl (gW (5 + 3 * i) b (YE τ b i 0)) H → va_D A (gW (5 + 3 * i) b (YE τ b i 0)) → va_S A s9.heap H locs → lv_has ls 2 [(0, .ref h), (1, .int (nI i))] → W p9 l e9 { frames := 2, cells := 160, slots := 1488, locals := 32 } s9 m9 args9 below9 meth9 c9 H locs (4 + 3 * i) (132 + 23 * i) Q9 (F0 m9 46 ls []) := by
    intro d
    induction d with
    | zero => intro i b H locs ls hd; omega
    | succ d ih =>
      intro i b H locs ls hd hi12 hb00 hP hD hS hl
      refine lv_iload_n hx hb dX4_init_46 rfl (lv_at hl 1 rfl) ?_
      refine lv_bipush (v := nI 12) hx hb dX4_init_47 (by decide) ?_
      refine kic_ge (tgt := 71) hx hb dX4_init_49 (by decide) (by with_reducible rfl) (by with_reducible rfl) (by omega) (by omega) (fun c_49 => ?_) (fun c_49 => ?_)
      · have er : i = 12 := by omega
        subst er
        refine lv_iconst (v := nI 0) hx hb dX4_init_71 (by decide) ?_
        refine kist hx hb dX4_init_72 rfl hl (by decide) (kp_2_1 rfl) (fun ls hl => ?_)
        exact lp2 41 0 b H locs ls (by omega) (by omega) hb00 hP hD hS hl
      · refine lv_aload_n hx hb dX4_init_52 rfl (lv_at hl 0 rfl) ?_
        refine bget X hP 0 (a := h) (ci := 4) (T := TX4) (v := .ref (b 1)) ((gW_get (by omega)).trans (by rw [YE_0, hb00])) rfl g_X4_11 (kWs_of 140 (by decide +kernel) rfl) rfl dX4_init_53 ?_
        refine lv_iload_n hx hb dX4_init_56 rfl (lv_at hl 1 rfl) ?_
        refine bnew X hP hD hS hA (ci := 0) (T := TX0) rfl inK0 tyX0 tyX0_ok ⟨kWs_of 24 (by decide +kernel) rfl, kWs_of 30 (by decide +kernel) rfl, mw_X0_init.2.2⟩ [.null, .null, .int 0] (fun j hj => by rcases (show j = 0 ∨ j = 1 ∨ j = 2 by omega) with rfl | rfl | rfl <;> rfl) (by dsimp only; omega) (by dsimp only; omega) dX4_init_57 (fun q5 H hP hD hS => ?_)
        refine lv_dup hx hb dX4_init_60 rfl ?_
        refine bcallN X hao hP hD hS hA (c_X0_init l q5) ⟨List.mem_of_getElem? (i := 0) rfl, mw_X0_init.2.1, mw_X0_init.2.2, mw_X0_init.1⟩ ⟨rfl, by decide, by decide, by decide +kernel⟩ ⟨Nat.le_of_ble_eq_true rfl, Nat.le_of_ble_eq_true rfl⟩ (Nat.le_of_ble_eq_true rfl) hl.1 ⟨by dsimp only; omega, by dsimp only; omega⟩ dX4_init_61 (fun b5 H locs hb0 hP hD hS => ?_)
        refine bast X hP hD hS 1 (5 + 3 * i) (a := b 1) (v := q5) (ci := 0) (C := RX0) (T := TX0) (t := 2) (n := 12) (i := i) (by rw [List.getElem?_append_left (by rw [gW_len]; omega), gW_get (by omega), YE_1]) rfl (by rw [List.getElem?_append_right (by rw [gW_len]; omega), gW_len, Nat.sub_self, gW_get (by omega), hb0]; rfl) rfl c_49 (by omega) dX4_init_64 (fun H locs hP hD hS => ?_)
        rw [se_cell c_49 hb0] at hP hD
        refine kinc (q := 1) hx hb dX4_init_65 hl rfl (by decide) (kp_2_1 rfl) (fun ls hl => ?_)
        refine lv_goto (tgt := 46) hx hb dX4_init_68 (by decide) ?_
        refine W.widen (k := 4 + 3 * (i + 1)) (n := 132 + 23 * (i + 1)) (by dsimp only; omega) (by dsimp only; omega) ?_
        exact ih (i + 1) _ _ _ _ (by omega) (by omega) (by rw [bap_lt (by omega)]; exact hb00) hP hD hS hl
  exact lp1 13 0 b H _ ls (by omega) (by omega) hb00 hP hD hS hl

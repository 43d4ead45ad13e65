
theorem and_1 {x : Int32} : x &&& nI 1 = nI 1 ↔ ¬ (x &&& nI 1 = 0) := by
  constructor
  · intro h q; rw [h] at q; exact absurd q (by decide)
  · intro h
    obtain ⟨j, h1, h2⟩ := pk_andE x (m := nI 1) 1 (by decide)
    rw [h2] at h ⊢
    rcases (show j = 0 ∨ j = 1 by omega) with rfl | rfl
    · exact absurd rfl h
    · rfl
/-- the reference's table of versions: the row with the greatest moment that is not greater than y -/
def vaS (N : Nat → Int32) (x y : Int32) : Nat → Nat × Int32
  | 0 => (0, -1)
  | v + 1 => if N (809 + 3 * v + 0) = x ∧ N (809 + 3 * v + 1) ≤ y ∧ (vaS N x y v).2 < N (809 + 3 * v + 1) then (v, N (809 + 3 * v + 1)) else vaS N x y v
theorem vaS_le (N : Nat → Int32) (x y : Int32) (W : Nat) : (vaS N x y W).1 ≤ W := by
  induction W with
  | zero => exact Nat.le_refl _
  | succ W ih =>
    rw [vaS]
    split
    · exact Nat.le_succ _
    · omega
theorem vaS_lt (N : Nat → Int32) (x y : Int32) (W : Nat) (h : 0 < W) : (vaS N x y W).1 < W := by
  induction W with
  | zero => omega
  | succ W ih =>
    rw [vaS]
    split
    · exact Nat.lt_succ_self _
    · have := vaS_le N x y W; omega
theorem vaS_p {N : Nat → Int32} {x y : Int32} {v a : Nat} {b : Int32} (h : (a, b) = vaS N x y v) (h1 : N (809 + 3 * v + 0) = x) (h2 : N (809 + 3 * v + 1) ≤ y) (h3 : b < N (809 + 3 * v + 1)) : (v, N (809 + 3 * v + 1)) = vaS N x y (v + 1) := by
  rw [vaS, ← h, if_pos ⟨h1, h2, h3⟩]
theorem vaS_z {N : Nat → Int32} {x y : Int32} {v a : Nat} {b : Int32} (h : (a, b) = vaS N x y v) (h1 : ¬ (N (809 + 3 * v + 0) = x ∧ N (809 + 3 * v + 1) ≤ y ∧ b < N (809 + 3 * v + 1))) : (a, b) = vaS N x y (v + 1) := by
  rw [vaS, ← h, if_neg h1]
def vA (N : Nat → Int32) (W : Nat) (x y : Int32) : Nat := (vaS N x y W).1
theorem vA_lt {N : Nat → Int32} {W : Nat} {x y : Int32} (h : 0 < W) : vA N W x y < W := vaS_lt N x y W h
/-- who sees, of the reference -/
abbrev seM (N : Nat → Int32) (W r v : Nat) : Prop := N (9 + 20 * r + 2) = 0 ∧ vA N W (N (809 + 3 * v + 0)) (N (9 + 20 * r + 0)) = v
def sbM (N : Nat → Int32) (W v : Nat) (w : Int32) : Nat → Nat := fun r => if seM N W r v ∧ (¬ w = 0 ∨ ¬ 0 < N (9 + 20 * r + 5)) then 1 else 0
def reM (N : Nat → Int32) (W n v : Nat) : Int32 := if nI (cn (sbM N W v (nI 0)) n) = 0 then nI 0 else (N 4 + nI (cn (sbM N W v (nI 0)) n) - nI 1) / nI (cn (sbM N W v (nI 0)) n)
abbrev olM (N : Nat → Int32) (W v : Nat) : Prop := vA N W (N (809 + 3 * v + 0)) (N 0) ≠ v
def duM (N : Nat → Int32) (W n r : Nat) : Nat → Int32 := fun v => if olM N W v ∧ seM N W r v then reM N W n v else nI 0
def dueM (N : Nat → Int32) (W n r : Nat) : Int32 := if N (9 + 20 * r + 2) = 0 ∧ ¬ 0 < N (9 + 20 * r + 5) then sm (duM N W n r) W else nI 0
abbrev skM (a b c d : Int32) : Prop := ¬ (b &&& c = 0) ∧ ¬ (d &&& a = 0) ∧ a &&& c = 0
def ssM (N : Nat → Int32) (r : Nat) : Nat → Nat := fun c => if (N (9 + 20 * r + 0) < N (1001 + 5 * c + 2) ∧ N (1001 + 5 * c + 1) < N 0 + nI 1) ∧ skM (N (9 + 20 * r + 4)) (N (9 + 20 * r + 3)) (N (1001 + 5 * c + 3)) (N (1001 + 5 * c + 4)) then 1 else 0
def swM (N : Nat → Int32) (q : Nat) : Nat → Nat := fun c => if (N (1001 + 5 * q + 1) < N (1001 + 5 * c + 2) ∧ N (1001 + 5 * c + 1) < N (1001 + 5 * q + 2)) ∧ skM (N (1001 + 5 * q + 3)) (N (1001 + 5 * q + 4)) (N (1001 + 5 * c + 3)) (N (1001 + 5 * c + 4)) then 1 else 0
def cfM (N : Nat → Int32) (W r : Nat) : Nat → Nat := fun c => if hw (N (9 + 20 * r + 4)) c ∧ N (9 + 20 * r + 0) < N (809 + 3 * vA N W (nI c) (N 0) + 1) then 1 else 0
def snM (N : Nat → Int32) (W r : Nat) (w : Int32) : Nat → Int32 := fun c => if w = 0 then N (809 + 3 * vA N W (nI c) (N (9 + 20 * r + 0)) + 2) else if olM N W (vA N W (nI c) (N (9 + 20 * r + 0))) then nI 1 else nI 0

def kpF (G : Nat → Nat → Int32) (c i : Nat) : Nat → Nat → Int32 := fun k f => if k = 2 ∧ c * 1201 ≤ f ∧ f < c * 1201 + i then G 1 (f - c * 1201) else G k f
def brF (G : Nat → Nat → Int32) (c i : Nat) : Nat → Nat → Int32 := fun k f => if k = 1 ∧ f < i then G 2 (c * 1201 + f) else G k f
def shF2 (G : Nat → Nat → Int32) (i : Nat) : Nat → Nat → Int32 := fun k f => if k = 2 ∧ f < i then G 2 (f + 1201) else G k f
theorem kpF_0 (G : Nat → Nat → Int32) (c : Nat) : kpF G c 0 = G := by
  funext k f
  unfold kpF
  rw [if_neg (by omega)]
theorem brF_0 (G : Nat → Nat → Int32) (c : Nat) : brF G c 0 = G := by
  funext k f
  unfold brF
  rw [if_neg (by omega)]
theorem shF2_0 (G : Nat → Nat → Int32) : shF2 G 0 = G := by
  funext k f
  unfold shF2
  rw [if_neg (by omega)]
theorem kpF_s (G : Nat → Nat → Int32) (c i : Nat) : gs (kpF G c i) 2 (c * 1201 + i) (kpF G c i 1 i) = kpF G c (i + 1) := by
  funext k f
  have e : kpF G c i 1 i = G 1 i := by unfold kpF; rw [if_neg (by omega)]
  rw [e]
  unfold gs kpF
  by_cases h : k = 2 ∧ f = c * 1201 + i
  · rw [if_pos h, if_pos (by omega), show f - c * 1201 = i by omega]
  · rw [if_neg h]
    by_cases h2 : k = 2 ∧ c * 1201 ≤ f ∧ f < c * 1201 + i
    · rw [if_pos h2, if_pos (by omega)]
    · rw [if_neg h2, if_neg (by omega)]
theorem brF_s (G : Nat → Nat → Int32) (c i : Nat) : gs (brF G c i) 1 i (brF G c i 2 (c * 1201 + i)) = brF G c (i + 1) := by
  funext k f
  have e : brF G c i 2 (c * 1201 + i) = G 2 (c * 1201 + i) := by unfold brF; rw [if_neg (by omega)]
  rw [e]
  unfold gs brF
  by_cases h : k = 1 ∧ f = i
  · rw [if_pos h, if_pos (by omega), h.2]
  · rw [if_neg h]
    by_cases h2 : k = 1 ∧ f < i
    · rw [if_pos h2, if_pos (by omega)]
    · rw [if_neg h2, if_neg (by omega)]
theorem shF2_s (G : Nat → Nat → Int32) (i : Nat) : gs (shF2 G i) 2 i (shF2 G i 2 (i + 1201)) = shF2 G (i + 1) := by
  funext k f
  have e : shF2 G i 2 (i + 1201) = G 2 (i + 1201) := by unfold shF2; rw [if_neg (by omega)]
  rw [e]
  unfold gs shF2
  by_cases h : k = 2 ∧ f = i
  · rw [if_pos h, if_pos (by omega), h.2]
  · rw [if_neg h]
    by_cases h2 : k = 2 ∧ f < i
    · rw [if_pos h2, if_pos (by omega)]
    · rw [if_neg h2, if_neg (by omega)]
/-- the history of the reference, with one more state -/
def recM (G : Nat → Nat → Int32) (L : Nat) : Nat → Nat → Int32 := gs (kpF (if L = 4 then gs (shF2 G 3603) 0 2 (nI 3) else G) (rotL L) 1201) 0 2 (nI (rotL L + 1))
def rw1 (G : Nat → Nat → Int32) (N : Nat → Int32) : Nat → Nat → Int32 := fun k f => if k = 1 then N f else G k f
theorem rw1_1 (G : Nat → Nat → Int32) (N : Nat → Int32) : rw1 G N 1 = N := by funext f; simp [rw1]
theorem rw1_o {G : Nat → Nat → Int32} {N : Nat → Int32} {k : Nat} (h : k ≠ 1) : rw1 G N k = G k := by funext f; simp [rw1, h]
theorem rw1_s (G : Nat → Nat → Int32) (N : Nat → Int32) (f : Nat) (x : Int32) : gs (rw1 G N) 1 f x = rw1 G (upd N f x) := by
  funext k g
  by_cases h : k = 1
  · subst h
    by_cases h2 : g = f <;> simp [gs, rw1, upd, h2]
  · simp [gs, rw1, h]
theorem rw1_id (G : Nat → Nat → Int32) : rw1 G (G 1) = G := by
  funext k f
  by_cases h : k = 1
  · subst h; simp [rw1]
  · simp [rw1, h]

/-- the table without its row v, while it is moved: kk ints are done -/
def shK (N : Nat → Int32) (V v kk : Nat) : Nat → Int32 := fun f => if f = 8 then nI (V - 1) else if 809 + 3 * v ≤ f ∧ f < 809 + kk then N (f + 3) else N f
theorem shK_0 (N : Nat → Int32) (V v : Nat) : upd N 8 (nI (V - 1)) = shK N V v (3 * v) := by
  funext f
  unfold upd shK
  by_cases h : f = 8
  · rw [if_pos h, if_pos h]
  · rw [if_neg h, if_neg h, if_neg (by omega)]
theorem shK_s {N : Nat → Int32} {V v kk : Nat} (h : 3 * v ≤ kk) : upd (shK N V v kk) (809 + kk) (shK N V v kk (809 + kk + 3)) = shK N V v (kk + 1) := by
  funext f
  have e : shK N V v kk (809 + kk + 3) = N (809 + kk + 3) := by unfold shK; rw [if_neg (by omega), if_neg (by omega)]
  rw [e]
  unfold upd shK
  by_cases h8 : f = 8
  · rw [if_neg (by omega), if_pos h8, if_pos h8]
  · rw [if_neg h8, if_neg h8]
    by_cases h1 : f = 809 + kk
    · rw [if_pos h1, if_pos (by omega), h1]
    · rw [if_neg h1]
      by_cases h2 : 809 + 3 * v ≤ f ∧ f < 809 + kk
      · rw [if_pos h2, if_pos (by omega)]
      · rw [if_neg h2, if_neg (by omega)]
def rmS (n : Nat) (s : (Nat → Int32) × Nat × Nat) (v : Nat) : (Nat → Int32) × Nat × Nat :=
  if olM s.1 s.2.1 v ∧ nI (cn (sbM s.1 s.2.1 v (nI 1)) n) = 0 then (shK s.1 s.2.1 v (3 * (s.2.1 - 1)), s.2.1 - 1, s.2.2 + 1) else s
/-- the rows from the last on, d of them -/
def rmD (N : Nat → Int32) (n V0 : Nat) : Nat → (Nat → Int32) × Nat × Nat
  | 0 => (N, V0, 0)
  | d + 1 => rmS n (rmD N n V0 d) (V0 - 1 - d)
theorem rmS_z {n : Nat} {N : Nat → Int32} {V c v : Nat} (h : ¬ (olM N V v ∧ nI (cn (sbM N V v (nI 1)) n) = 0)) : rmS n (N, V, c) v = (N, V, c) := if_neg h
theorem rmS_p {n : Nat} {N : Nat → Int32} {V c v : Nat} (h : olM N V v ∧ nI (cn (sbM N V v (nI 1)) n) = 0) : rmS n (N, V, c) v = (shK N V v (3 * (V - 1)), V - 1, c + 1) := if_pos h
theorem rmD_s {N N1 : Nat → Int32} {n V0 V1 c v : Nat} {s : (Nat → Int32) × Nat × Nat} (h : (N1, V1, c) = rmD N n V0 (V0 - (v + 1))) (hv : v + 1 ≤ V0) (hs : rmS n (N1, V1, c) v = s) : s = rmD N n V0 (V0 - v) := by
  rw [show V0 - v = (V0 - (v + 1)) + 1 by omega, rmD, ← h, show V0 - 1 - (V0 - (v + 1)) = v by omega, hs]
/-- all that removes() does -/
def rmN (N : Nat → Int32) (n V : Nat) : Nat → Int32 := upd (rmD N n V V).1 3 ((rmD N n V V).1 3 + nI (rmD N n V V).2.2)
/-- a tick's payments, of one reader -/
def pyS (d : Nat → Int32) (s : (Nat → Int32) × Nat) (r : Nat) : (Nat → Int32) × Nat :=
  if s.1 (9 + 20 * r + 2) = 0 ∧ ¬ 0 < s.1 (9 + 20 * r + 5) then
    (if d r ≤ s.1 (9 + 20 * r + 1) then (upd (upd (upd s.1 (9 + 20 * r + 1) (s.1 (9 + 20 * r + 1) - d r)) (9 + 20 * r + 7) (s.1 (9 + 20 * r + 7) + d r)) 5 (s.1 5 + d r), s.2)
     else (upd s.1 (9 + 20 * r + 2) (nI 3), s.2 + 1))
  else if s.1 (9 + 20 * r + 2) = 0 then (upd s.1 (9 + 20 * r + 5) (s.1 (9 + 20 * r + 5) - nI 1), s.2) else s
def pyA (N d : Nat → Int32) : Nat → (Nat → Int32) × Nat
  | 0 => (N, 0)
  | r + 1 => pyS d (pyA N d r) r
theorem pyA_s {N d N1 : Nat → Int32} {c r : Nat} {s : (Nat → Int32) × Nat} (h : (N1, c) = pyA N d r) (hs : pyS d (N1, c) r = s) : s = pyA N d (r + 1) := by rw [pyA, ← h, hs]
def duR (G : Nat → Nat → Int32) (V n i : Nat) : Nat → Nat → Int32 := fun k f => if k = 6 ∧ f < i then dueM (G 1) V n f else G k f
theorem duR_0 (G : Nat → Nat → Int32) (V n : Nat) : duR G V n 0 = G := by
  funext k f
  unfold duR
  rw [if_neg (by omega)]
theorem duR_1 (G : Nat → Nat → Int32) (V n i : Nat) : duR G V n i 1 = G 1 := by
  funext f
  unfold duR
  rw [if_neg (by omega)]
theorem duR_s (G : Nat → Nat → Int32) (V n i : Nat) : gs (duR G V n i) 6 i (dueM (G 1) V n i) = duR G V n (i + 1) := by
  funext k f
  unfold gs duR
  by_cases h : k = 6 ∧ f = i
  · rw [if_pos h, if_pos (by omega), h.2]
  · rw [if_neg h]
    by_cases h2 : k = 6 ∧ f < i
    · rw [if_pos h2, if_pos (by omega)]
    · rw [if_neg h2, if_neg (by omega)]
theorem duR_6 {G : Nat → Nat → Int32} {V n i : Nat} (N : Nat → Int32) (h : i < n) : rw1 (duR G V n n) N 6 i = dueM (G 1) V n i := by
  unfold rw1 duR
  rw [if_neg (by omega), if_pos ⟨rfl, h⟩]
def paidN (N : Nat → Int32) (V n : Nat) : Nat → Int32 := (pyA N (dueM N V n) n).1
/-- all that passes() does to the row of numbers -/
def tkN (N : Nat → Int32) (V n : Nat) : Nat → Int32 := upd (rmN (paidN N V n) n V) 1 (rmN (paidN N V n) n V 1 + nI 1)
theorem pyS_lo (d : Nat → Int32) (s : (Nat → Int32) × Nat) (r f : Nat) (hf : f ≠ 5) (hf2 : f < 9 + 20 * r + 1 ∨ 9 + 20 * r + 7 < f) : (pyS d s r).1 f = s.1 f := by
  unfold pyS
  split
  · split
    · show upd (upd (upd _ _ _) _ _) _ _ f = _
      unfold upd
      rw [if_neg hf, if_neg (by omega), if_neg (by omega)]
    · show upd _ _ _ f = _
      unfold upd
      rw [if_neg (by omega)]
  · split
    · show upd _ _ _ f = _
      unfold upd
      rw [if_neg (by omega)]
    · rfl
theorem pyA_lo (N d : Nat → Int32) (n f : Nat) (hn : n ≤ 40) (hf : f ≠ 5) (hf2 : f < 9 ∨ 809 ≤ f) : (pyA N d n).1 f = N f := by
  induction n with
  | zero => rfl
  | succ n ih => rw [pyA, pyS_lo _ _ _ _ hf (by omega), ih (by omega)]

theorem rw1_rw1 (G : Nat → Nat → Int32) (N M : Nat → Int32) : rw1 (rw1 G N) M = rw1 G M := by
  funext k f
  unfold rw1
  by_cases h : k = 1
  · rw [if_pos h, if_pos h]
  · rw [if_neg h, if_neg h, if_neg h]

theorem upd_ne {N : Nat → Int32} {k f : Nat} {x : Int32} (h : f ≠ k) : upd N k x f = N f := if_neg h
theorem upd_eq {N : Nat → Int32} {k : Nat} {x : Int32} : upd N k x k = x := if_pos rfl
def chN (N : Nat → Int32) (r k mm : Nat) : Nat → Int32 := upd (upd (upd (upd (upd (upd (upd N 0 (nI (mm + 1))) (1001 + 5 * k) (nI r)) (1001 + 5 * k + 1) (N (9 + 20 * r + 0))) (1001 + 5 * k + 2) (nI (mm + 1))) (1001 + 5 * k + 3) (N (9 + 20 * r + 4))) (1001 + 5 * k + 4) (N (9 + 20 * r + 3))) 6 (nI (k + 1))
theorem chN_lo {N : Nat → Int32} {r k mm f : Nat} (h : f ≠ 0 ∧ f ≠ 6 ∧ f < 1001) : chN N r k mm f = N f := by
  unfold chN
  rw [upd_ne (by omega), upd_ne (by omega), upd_ne (by omega), upd_ne (by omega), upd_ne (by omega), upd_ne (by omega), upd_ne (by omega)]
def caS (N : Nat → Int32) (r mm : Nat) (s : (Nat → Int32) × Nat) (c : Nat) : (Nat → Int32) × Nat :=
  if hw (N (9 + 20 * r + 4)) c then (upd (upd (upd (upd s.1 (809 + 3 * s.2) (nI c)) (809 + 3 * s.2 + 1) (nI (mm + 1))) (809 + 3 * s.2 + 2) (N (9 + 20 * r + (8 + c)))) 8 (nI (s.2 + 1)), s.2 + 1) else s
def caA (N : Nat → Int32) (r k mm V : Nat) : Nat → (Nat → Int32) × Nat
  | 0 => (chN N r k mm, V)
  | c + 1 => caS N r mm (caA N r k mm V c) c
theorem caA_s {N N1 : Nat → Int32} {r k mm V V1 c : Nat} {s : (Nat → Int32) × Nat} (h : (N1, V1) = caA N r k mm V c) (hs : caS N r mm (N1, V1) c = s) : s = caA N r k mm V (c + 1) := by rw [caA, ← h, hs]
/-- all that commits() does -/
def coN (N : Nat → Int32) (r k mm V : Nat) : Nat → Int32 := (caA N r k mm V 12).1

/-- an argument that is one of n numbers, or none -/
def rdP (n : Nat) (x : Int32) (miss : Prop) (hit : Nat → Prop) : Prop := (∀ r, r < n → x = nI r → hit r) ∧ ((∀ r, r < n → ¬ x = nI r) → miss)
theorem rdP_m {n : Nat} {x : Int32} {miss : Prop} {hit : Nat → Prop} (h : ∀ r, r < n → ¬ x = nI r) (m : miss) : rdP n x miss hit := ⟨fun r hr e => absurd e (h r hr), fun _ => m⟩
theorem rdP_h {n r : Nat} {miss : Prop} {hit : Nat → Prop} (hr : r < n) (hn : n ≤ 40) (m : hit r) : rdP n (nI r) miss hit := ⟨fun q hq e => by
  rw [show q = r from ((nI_eq (by omega) (by omega)).mp e).symm]; exact m, fun h => absurd rfl (h r hr)⟩
theorem isR_yes {n : Nat} {x : Int32} (hn : n ≤ 40) (h : nI 0 ≤ x ∧ x ≤ nI n - nI 1) : ∃ r, r < n ∧ x = nI r := by
  obtain ⟨h1, h2⟩ := h
  rcases Nat.eq_zero_or_pos n with rfl | hp
  · exact absurd (Int32.le_trans h1 h2) (by decide)
  · rw [pk_sub hp] at h2
    obtain ⟨q, q1, q2⟩ := nI_of2 (x := x) (M := nI (n - 1)) (n := n - 1) (nI_toInt (by omega)) (Int32.not_lt.mpr h1) h2
    exact ⟨q, by omega, q2⟩
theorem isR_no {n : Nat} {x : Int32} (hn : n ≤ 40) (h : ¬ (nI 0 ≤ x ∧ x ≤ nI n - nI 1)) : ∀ r, r < n → ¬ x = nI r := by
  intro r hr e
  apply h
  rw [e, pk_sub (by omega)]
  exact ⟨nI_le (by omega) (by omega), nI_le (by omega) (by omega)⟩
theorem isC_yes {x : Int32} (h : nI 0 ≤ x ∧ x ≤ nI 11) : ∃ c, c < 12 ∧ x = nI c := isR_yes (n := 12) (by omega) (by rw [pk_sub (by omega)]; exact h)
theorem isC_no {x : Int32} (h : ¬ (nI 0 ≤ x ∧ x ≤ nI 11)) : ∀ c, c < 12 → ¬ x = nI c := isR_no (n := 12) (by omega) (by rw [pk_sub (by omega)]; exact h)
theorem recM_o {G : Nat → Nat → Int32} {L k : Nat} (h0 : k ≠ 0) (h2 : k ≠ 2) : recM G L k = G k := by
  unfold recM
  rw [gs_other h0]
  funext f
  unfold kpF
  rw [if_neg (by omega)]
  by_cases h : L = 4
  · rw [if_pos h, gs_other h0]
    unfold shF2
    rw [if_neg (by omega)]
  · rw [if_neg h]
theorem recM_1 {G : Nat → Nat → Int32} {L : Nat} : recM G L 1 = G 1 := recM_o (by omega) (by omega)

def zrF (G : Nat → Nat → Int32) (n k : Nat) : Nat → Nat → Int32 := fun q f => if q = 1 ∧ 9 + 20 * n ≤ f ∧ f < 9 + 20 * n + k then nI 0 else G q f
theorem zrF_0 (G : Nat → Nat → Int32) (n : Nat) : zrF G n 0 = G := by
  funext q f
  unfold zrF
  rw [if_neg (by omega)]
theorem zrF_s (G : Nat → Nat → Int32) (n k : Nat) : gs (zrF G n k) 1 (9 + 20 * n + k) (nI 0) = zrF G n (k + 1) := by
  funext q f
  unfold gs zrF
  by_cases h : q = 1 ∧ f = 9 + 20 * n + k
  · rw [if_pos h, if_pos (by omega)]
  · rw [if_neg h]
    by_cases h2 : q = 1 ∧ 9 + 20 * n ≤ f ∧ f < 9 + 20 * n + k
    · rw [if_pos h2, if_pos (by omega)]
    · rw [if_neg h2, if_neg (by omega)]
/-- a tick of the reference: the numbers, how many versions, how many evicted so far -/
def tkS (n : Nat) (s : (Nat → Int32) × Nat × Nat) : (Nat → Int32) × Nat × Nat := (tkN s.1 s.2.1 n, (rmD (paidN s.1 s.2.1 n) n s.2.1 s.2.1).2.1, s.2.2 + (pyA s.1 (dueM s.1 s.2.1 n) n).2)
def tkI (n : Nat) (s : (Nat → Int32) × Nat × Nat) : Nat → (Nat → Int32) × Nat × Nat
  | 0 => s
  | t + 1 => tkS n (tkI n s t)
theorem rmD_k {N : Nat → Int32} {n V0 : Nat} (hV : N 8 = nI V0) (h2 : N 2 = nI n) (h1 : 1 ≤ V0) : ∀ d, d ≤ V0 → (rmD N n V0 d).1 8 = nI (rmD N n V0 d).2.1 ∧ (rmD N n V0 d).1 2 = nI n ∧ 1 ≤ (rmD N n V0 d).2.1 ∧ V0 - d ≤ (rmD N n V0 d).2.1 ∧ (rmD N n V0 d).2.1 ≤ V0 := by
  intro d
  induction d with
  | zero => intro _; exact ⟨hV, h2, h1, show V0 - 0 ≤ V0 from Nat.sub_le _ _, Nat.le_refl _⟩
  | succ d ih =>
    intro hd
    obtain ⟨a, b, c, e, f⟩ := ih (by omega)
    rw [rmD, rmS]
    by_cases q : olM (rmD N n V0 d).1 (rmD N n V0 d).2.1 (V0 - 1 - d) ∧ nI (cn (sbM (rmD N n V0 d).1 (rmD N n V0 d).2.1 (V0 - 1 - d) (nI 1)) n) = 0
    · rw [if_pos q]
      have h3 : 2 ≤ (rmD N n V0 d).2.1 := by
        rcases Nat.lt_or_ge 1 (rmD N n V0 d).2.1 with z | z
        · exact z
        · exfalso
          have e1 : (rmD N n V0 d).2.1 = 1 := by omega
          have q1 := q.1
          unfold olM at q1
          have := vA_lt (N := (rmD N n V0 d).1) (W := (rmD N n V0 d).2.1) (x := (rmD N n V0 d).1 (809 + 3 * (V0 - 1 - d) + 0)) (y := (rmD N n V0 d).1 0) (by omega)
          omega
      refine ⟨by simp [shK], ?_, by show 1 ≤ _ - 1; omega, by show _ ≤ _ - 1; omega, by show _ - 1 ≤ _; omega⟩
      dsimp only
      unfold shK
      rw [if_neg (by omega), if_neg (by omega)]
      exact b
    · rw [if_neg q]
      exact ⟨a, b, c, by omega, f⟩
theorem rmN_8 {N : Nat → Int32} {n V : Nat} (hV : N 8 = nI V) (h2 : N 2 = nI n) (h1 : 1 ≤ V) : rmN N n V 8 = nI (rmD N n V V).2.1 ∧ rmN N n V 2 = nI n ∧ 1 ≤ (rmD N n V V).2.1 ∧ (rmD N n V V).2.1 ≤ V := by
  obtain ⟨a, b, c, e, f⟩ := rmD_k hV h2 h1 V (Nat.le_refl _)
  refine ⟨?_, ?_, c, f⟩
  · unfold rmN; rw [upd_ne (by omega)]; exact a
  · unfold rmN; rw [upd_ne (by omega)]; exact b
theorem tkN_8 {N : Nat → Int32} {n V : Nat} (hV : N 8 = nI V) (h2 : N 2 = nI n) (h1 : 1 ≤ V) (hn : n ≤ 40) : tkN N V n 8 = nI (rmD (paidN N V n) n V V).2.1 ∧ tkN N V n 2 = nI n ∧ 1 ≤ (rmD (paidN N V n) n V V).2.1 ∧ (rmD (paidN N V n) n V V).2.1 ≤ V := by
  have p8 : paidN N V n 8 = nI V := by unfold paidN; rw [pyA_lo _ _ _ _ hn (by omega) (by omega)]; exact hV
  have p2 : paidN N V n 2 = nI n := by unfold paidN; rw [pyA_lo _ _ _ _ hn (by omega) (by omega)]; exact h2
  obtain ⟨a, b, c, f⟩ := rmN_8 p8 p2 h1
  refine ⟨?_, ?_, c, f⟩
  · unfold tkN; rw [upd_ne (by omega)]; exact a
  · unfold tkN; rw [upd_ne (by omega)]; exact b
def lsR (n r : Nat) : Nat → (Nat → Int32) × Nat × Nat → Nat → Nat
  | 0, _, t => t
  | k + 1, s, t => if s.1 (9 + 20 * r + 2) = 0 ∧ t ≤ 200 then lsR n r k (tkS n s) (t + 1) else t
theorem lsR_s {n r k t : Nat} {s : (Nat → Int32) × Nat × Nat} (hk : 0 < k) (h : s.1 (9 + 20 * r + 2) = 0) (ht : t ≤ 200) : lsR n r k s t = lsR n r (k - 1) (tkS n s) (t + 1) := by
  obtain ⟨q, rfl⟩ : ∃ q, k = q + 1 := ⟨k - 1, by omega⟩
  rw [lsR, if_pos ⟨h, ht⟩]; rfl
theorem lsR_z {n r k t : Nat} {s : (Nat → Int32) × Nat × Nat} (h : ¬ (s.1 (9 + 20 * r + 2) = 0 ∧ t ≤ 200)) : lsR n r k s t = t := by
  cases k with
  | zero => rfl
  | succ k => rw [lsR, if_neg h]

theorem pyA_le (N d : Nat → Int32) (n : Nat) : (pyA N d n).2 ≤ n := by
  induction n with
  | zero => exact Nat.le_refl _
  | succ n ih =>
    rw [pyA, pyS]
    split
    · split
      · show (pyA N d n).2 ≤ _; omega
      · show (pyA N d n).2 + 1 ≤ _; omega
    · split
      · show (pyA N d n).2 ≤ _; omega
      · omega

def clM (N : Nat → Int32) (V n c : Nat) (y : Int32) : Int32 := if y = nI 0 then N (809 + 3 * vA N V (nI c) (N 0) + 2) else if y = nI 1 then N (809 + 3 * vA N V (nI c) (N 0) + 1) else if y = nI 2 then nI (cn (fun q => if N (809 + 3 * q + 0) = nI c then 1 else 0) V) else if y = nI 3 then nI (cn (sbM N V (vA N V (nI c) (N 0)) (nI 1)) n) else if y = nI 4 then nI (cn (fun r => if N (9 + 20 * r + 2) = 0 ∧ hw (N (9 + 20 * r + 4)) c then 1 else 0) n) else -2
def rdM (N : Nat → Int32) (V n k r : Nat) (y : Int32) : Int32 := if y = nI 0 then N (9 + 20 * r + 2) else if y = nI 1 then N (9 + 20 * r + 0) else if y = nI 2 then N (9 + 20 * r + 1) else if y = nI 3 then dueM N V n r else if y = nI 4 then N (9 + 20 * r + 3) else if y = nI 5 then N (9 + 20 * r + 4) else if y = nI 6 then N (9 + 20 * r + 5) else if y = nI 7 then N (9 + 20 * r + 7) else if y = nI 8 then (if N (9 + 20 * r + 2) = 0 then sm (snM N V r (nI 1)) 12 else nI 0) else if y = nI 9 then (if N (9 + 20 * r + 2) = 0 then sm (snM N V r (nI 0)) 12 else nI 0) else if y = nI 10 then (if N (9 + 20 * r + 2) = 0 ∧ cn (cfM N V r) 12 ≠ 0 then nI 1 else nI 0) else if y = nI 11 then (if N (9 + 20 * r + 2) = 0 then nI (cn (ssM N r) k) else nI 0) else -2
def ctM (G : Nat → Nat → Int32) (V n k : Nat) (y : Int32) : Int32 := if y = nI 0 then G 1 0 else if y = nI 1 then G 1 1 else if y = nI 2 then G 1 2 else if y = nI 3 then nI (cn (fun r => if G 1 (9 + 20 * r + 2) = nI 0 then 1 else 0) n) else if y = nI 4 then nI (cn (fun r => if G 1 (9 + 20 * r + 2) = nI 1 then 1 else 0) n) else if y = nI 5 then nI (cn (fun r => if G 1 (9 + 20 * r + 2) = nI 2 then 1 else 0) n) else if y = nI 6 then nI (cn (fun r => if G 1 (9 + 20 * r + 2) = nI 3 then 1 else 0) n) else if y = nI 7 then nI V - nI 12 else if y = nI 8 then G 1 3 else if y = nI 9 then G 1 4 else if y = nI 10 then G 1 5 else if y = nI 11 then G 1 6 else if y = nI 12 then nI (cn (fun q => cn (swM (G 1) q) q) k) else if y = nI 13 then G 1 7 else if y = nI 14 then nI (cn (fun r => if G 1 (9 + 20 * r + 2) = 0 ∧ 0 < G 1 (9 + 20 * r + 5) then 1 else 0) n) else if y = nI 15 then G 0 2 else if y = nI 16 then G 0 5 else -2
def vwF (N : Nat → Int32) (V c : Nat) : Nat → Nat
  | 0 => vA N V (nI c) (N 0)
  | k + 1 => vA N V (nI c) (N (809 + 3 * vwF N V c k + 1) - nI 1)
theorem vwF_lt {N : Nat → Int32} {V c k : Nat} (h : 0 < V) : vwF N V c k < V := by
  cases k with
  | zero => exact vA_lt h
  | succ k => exact vA_lt h
def vrM (N : Nat → Int32) (V n q : Nat) (p y : Int32) : Int32 := if y = nI 0 then N (809 + 3 * q + 2) else if y = nI 1 then N (809 + 3 * q + 1) else if y = nI 2 then nI (cn (sbM N V q (nI 1)) n) else if y = nI 3 then nI (cn (sbM N V q (nI 0)) n) else if p = 0 then nI 0 else reM N V n q
def vcM (N : Nat → Int32) (V c : Nat) : Nat := cn (fun q => if N (809 + 3 * q + 0) = nI c then 1 else 0) V

theorem gs1_rw1 (G : Nat → Nat → Int32) (f : Nat) (x : Int32) : gs G 1 f x = rw1 G (upd (G 1) f x) := by
  rw [← rw1_s, rw1_id]
theorem brF_o {G : Nat → Nat → Int32} {c i k : Nat} (h : k ≠ 1) : brF G c i k = G k := by
  funext f
  unfold brF
  rw [if_neg (by omega)]
theorem caA_k {N : Nat → Int32} {r k mm V n : Nat} (hV : N 8 = nI V) (h2 : N 2 = nI n) : ∀ c, (caA N r k mm V c).1 8 = nI (caA N r k mm V c).2 ∧ (caA N r k mm V c).1 2 = nI n ∧ V ≤ (caA N r k mm V c).2 ∧ (caA N r k mm V c).2 ≤ V + c := by
  intro c
  induction c with
  | zero => exact ⟨by rw [caA]; dsimp only; rw [chN_lo (by omega)]; exact hV, by rw [caA]; dsimp only; rw [chN_lo (by omega)]; exact h2, Nat.le_refl _, Nat.le_refl _⟩
  | succ c ih =>
    obtain ⟨a, b, d, e⟩ := ih
    rw [caA, caS]
    split
    · refine ⟨by dsimp only; exact upd_eq, ?_, by show V ≤ _ + 1; omega, by show _ + 1 ≤ _; omega⟩
      dsimp only
      rw [upd_ne (by omega), upd_ne (by omega), upd_ne (by omega), upd_ne (by omega)]; exact b
    · exact ⟨a, b, d, by omega⟩
/-- the reader committed, its writes among the versions -/
def cdN (N : Nat → Int32) (r k mm V : Nat) : (Nat → Int32) × Nat := if N (9 + 20 * r + 4) = 0 then (upd N (9 + 20 * r + 2) (nI 1), V) else caA (upd N (9 + 20 * r + 2) (nI 1)) r k mm V 12
def cmN (N : Nat → Int32) (r k mm n V : Nat) : Nat → Int32 := rmN (cdN N r k mm V).1 n (cdN N r k mm V).2
def cmV (N : Nat → Int32) (r k mm n V : Nat) : Nat := (rmD (cdN N r k mm V).1 n (cdN N r k mm V).2 (cdN N r k mm V).2).2.1
theorem cdN_k {N : Nat → Int32} {r k mm V n : Nat} (hV : N 8 = nI V) (h2 : N 2 = nI n) : (cdN N r k mm V).1 8 = nI (cdN N r k mm V).2 ∧ (cdN N r k mm V).1 2 = nI n ∧ V ≤ (cdN N r k mm V).2 ∧ (cdN N r k mm V).2 ≤ V + 12 := by
  unfold cdN
  split
  · exact ⟨by dsimp only; rw [upd_ne (by omega)]; exact hV, by dsimp only; rw [upd_ne (by omega)]; exact h2, Nat.le_refl _, Nat.le_add_right _ _⟩
  · exact caA_k (by rw [upd_ne (by omega)]; exact hV) (by rw [upd_ne (by omega)]; exact h2) 12
theorem cmN_k {N : Nat → Int32} {r k mm V n : Nat} (hV : N 8 = nI V) (h2 : N 2 = nI n) (h1 : 1 ≤ V) : cmN N r k mm n V 8 = nI (cmV N r k mm n V) ∧ cmN N r k mm n V 2 = nI n ∧ 1 ≤ cmV N r k mm n V ∧ cmV N r k mm n V ≤ V + 12 := by
  obtain ⟨a, b, c, d⟩ := cdN_k (r := r) (k := k) (mm := mm) hV h2
  obtain ⟨e, f, g, h⟩ := rmN_8 a b (by omega)
  exact ⟨e, f, g, Nat.le_trans h d⟩
/-- as before, where the program looks -/
def agR (G Gt : Nat → Nat → Int32) : Prop := (∀ q, q ≠ 1 → q ≠ 2 → Gt q = G q) ∧ (∀ f, f < 1201 → Gt 1 f = G 1 f) ∧ ∀ f, f < 6005 → Gt 2 f = G 2 f
theorem agR_b (G : Nat → Nat → Int32) (N : Nat → Int32) : agR G (brF (rw1 (kpF G 5 1201) N) 5 1201) := by
  refine ⟨fun q h1 h2 => ?_, fun f hf => ?_, fun f hf => ?_⟩
  · rw [brF_o h1, rw1_o h1]
    funext f
    unfold kpF
    rw [if_neg (by omega)]
  · unfold brF
    rw [if_pos ⟨rfl, hf⟩, rw1_o (by omega)]
    unfold kpF
    rw [if_pos (by omega), show 5 * 1201 + f - 5 * 1201 = f by omega]
  · rw [brF_o (by omega), rw1_o (by omega)]
    unfold kpF
    rw [if_neg (by omega)]theorem gs_row {G : Nat → Nat → Int32} {k f g : Nat} {x : Int32} (h : g ≠ f) : gs G k f x k g = G k g := by simp [gs, h]

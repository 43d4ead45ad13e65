/-! The relation of the whole memory: a row of numbers stands for what is now, others for the history. -/
def CurE (G : Nat → Nat → Int32) (j : Nat) (N : Nat → Int32) : Prop := ∃ n k W P mo ow vx, CurR G j N n k W P mo ow vx
def HisN (G : Nat → Nat → Int32) (L : Nat) (pi : Nat → Nat) (Hs : Nat → Nat → Int32) : Prop := G 8 1 = nI L ∧ L ≤ 4 ∧ (∀ t, t < 4 → G 9 t = nI (pi t) ∧ 3 ≤ pi t ∧ pi t < 7) ∧ (∀ s t, s < 4 → t < 4 → pi s = pi t → s = t) ∧ ∀ t, t < L → CurE G (pi t) (Hs t)
def RLN (G : Nat → Nat → Int32) (N : Nat → Int32) (L : Nat) (Hs : Nat → Nat → Int32) : Prop := CurE G 0 N ∧ ∃ pi, HisN G L pi Hs
/-- one more state in the history -/
def psh (L : Nat) (Hs : Nat → Nat → Int32) (N : Nat → Int32) : Nat → Nat → Int32 := fun t => if t = rotL L then N else if L = 4 then Hs (t + 1) else Hs t
theorem curE_g {G G' : Nat → Nat → Int32} {j : Nat} {N : Nat → Int32} (h : CurE G j N) (hG : ∀ o, o < 161 → G' (sB j + o) = G (sB j + o)) : CurE G' j N := by
  obtain ⟨n, k, W, P, mo, ow, vx, h⟩ := h
  exact ⟨n, k, W, P, mo, ow, vx, cur_G h hG⟩
theorem rotP_inj {pi : Nat → Nat} {L : Nat} (h : ∀ s t, s < 4 → t < 4 → pi s = pi t → s = t) : ∀ s t, s < 4 → t < 4 → rotP pi L s = rotP pi L t → s = t := by
  intro s t hs ht e
  unfold rotP at e
  by_cases z : L = 4
  · rw [if_pos z, if_pos z] at e
    split at e <;> split at e
    · have := h _ _ (by omega) (by omega) e; omega
    · have := h _ _ (by omega) (by omega) e; omega
    · have := h _ _ (by omega) (by omega) e; omega
    · omega
  · rw [if_neg z, if_neg z] at e
    exact h s t hs ht e
theorem cur_r {G Gr : Nat → Nat → Int32} {L : Nat} {pi : Nat → Nat} {n k W n2 k2 : Nat} {P : Nat → Nat} {mo : Nat → Nat → Nat} {ow : Nat → Nat} {vx : Nat → Nat → Nat} {N : Nat → Int32} (hC : CurR G 0 N n k W P mo ow vx) (hr : rcR G Gr pi L n2 k2) (hL4 : L ≤ 4) (hne : ∀ t, t < 4 → pi t ≠ 0) : CurR Gr 0 N n k W P mo ow vx :=
  cur_G hC (fun o ho => rcR_0 hr hL4 hne _ (by unfold sB; omega) (by unfold sB; omega) (by unfold sB; omega))
/-- an act is recorded -/
theorem act_n {G Gr G1 : Nat → Nat → Int32} {L : Nat} {pi : Nat → Nat} {n k W : Nat} {P : Nat → Nat} {mo : Nat → Nat → Nat} {ow : Nat → Nat} {vx : Nat → Nat → Nat} {N N' : Nat → Int32} {Hs : Nat → Nat → Int32} (hH : HisN G L pi Hs) (hC : CurR G 0 N n k W P mo ow vx) (hr : rcR G Gr pi L n k) (h1 : ∀ q, q < 14 ∨ 175 ≤ q → G1 q = Gr q) (hE : CurE G1 0 N') : RLN G1 N' (rotL L + 1) (psh L Hs N) ∧ G1 0 = G 0 := by
  obtain ⟨a1, a3, a4, a5, a6⟩ := hH
  obtain ⟨r1, r2, r3, r4⟩ := hr
  have hj3 : ∀ t, t < 4 → 3 ≤ rotP pi L t ∧ rotP pi L t < 7 := fun t ht => rotP_all (Z := fun q => 3 ≤ q ∧ q < 7) (fun t ht => (a4 t ht).2) ht
  have hrl := rotL_lt a3
  have hjs := hj3 _ hrl
  have hblk : ∀ j o, 2 ≤ j → j < 7 → o < 161 → j ≠ rotP pi L (rotL L) → G1 (sB j + o) = G (sB j + o) := fun j o hj hj7 ho hne => by
    rw [h1 _ (Or.inr (by unfold sB; omega))]
    exact r3 _ (by unfold sB; omega) (by unfold sB; omega) (by unfold sB; omega)
  refine ⟨⟨hE, rotP pi L, ?_, by omega, fun t ht => ⟨?_, hj3 t ht⟩, rotP_inj a5, fun t ht => ?_⟩, ?_⟩
  · rw [h1 8 (Or.inl (by omega))]; exact r1
  · rw [h1 9 (Or.inl (by omega))]; exact r2 t ht
  · by_cases z : t = rotL L
    · subst z
      have hcb := cur_CB hC r4
      unfold psh
      rw [if_pos rfl]
      exact curE_g ⟨n, k, W, P, mo, ow, vx, hcb⟩ (fun o ho => h1 _ (Or.inr (by unfold sB; omega)))
    · have hne : rotP pi L t ≠ rotP pi L (rotL L) := fun e => z (rotP_inj a5 t _ (by omega) hrl e)
      have hjt := hj3 t (by omega)
      unfold psh
      rw [if_neg z]
      by_cases q : L = 4
      · have e : rotP pi L t = pi (t + 1) := by
          have hr3 : rotL L = 3 := by rw [q]; rfl
          unfold rotP; rw [if_pos q, if_pos (by omega)]
        have hr3 : rotL L = 3 := by rw [q]; rfl
        rw [e] at hne hjt ⊢
        rw [if_pos q]
        exact curE_g (a6 (t + 1) (by omega)) (fun o ho => hblk _ o (by omega) (by omega) ho hne)
      · have e : rotP pi L t = pi t := by unfold rotP; rw [if_neg q]
        have hrL : rotL L = L := by unfold rotL; rw [if_neg q]
        rw [e] at hne hjt ⊢
        rw [if_neg q]
        exact curE_g (a6 t (by omega)) (fun o ho => hblk _ o (by omega) (by omega) ho hne)
  · rw [h1 0 (Or.inl (by omega))]
    exact r3 0 (by omega) (by omega) (Or.inl (by unfold sB; omega))
/-- what the contracts want of the relation -/
def PREN (G : Nat → Nat → Int32) (N : Nat → Int32) (n k W L : Nat) (P : Nat → Nat) (pi : Nat → Nat) : Prop :=
  G 8 1 = nI L ∧ L ≤ 4 ∧ (∀ t, t < 4 → G 9 t = nI (pi t) ∧ pi t < 7) ∧ (∀ t, t < 4 → pi t ≠ 0) ∧ (G (sB 0) 6 = nI n ∧ n ≤ 40 ∧ G (sB 0) 7 = nI k ∧ k ≤ 40) ∧ (∀ r, r < n → G (rN 0 r) 8 = 0 ∨ G (rN 0 r) 8 = 1) ∧ (G (sB 0) 9 = 0 ∨ G (sB 0) 9 = 1) ∧ (∀ c, c < 12 → G (cB 0 c) 2 = nI (P c) ∧ 1 ≤ P c ∧ P c ≤ 9) ∧ (N 8 = nI W ∧ 1 ≤ W ∧ W ≤ 52) ∧ N 2 = nI n ∧ N 6 = nI k ∧ N 0 = nI k ∧ G (sB 0) 3 = nI k
def nZ (x : Int32) : Nat := x.toNatClampNeg
theorem pre_n {G : Nat → Nat → Int32} {N : Nat → Int32} {n k W L : Nat} {P : Nat → Nat} {pi : Nat → Nat} {Hs : Nat → Nat → Int32} {mo : Nat → Nat → Nat} {ow : Nat → Nat} {vx : Nat → Nat → Nat} (hC : CurR G 0 N n k W P mo ow vx) (hH : HisN G L pi Hs) : PREN G N n k W L P pi := by
  obtain ⟨a1, a3, a4, a5, a6⟩ := hH
  obtain ⟨s1, s2, s3, s4, s5, s6, s7, s8, s9, s10, s11, s12⟩ := cu_sc hC.1
  have hn4 := (cu_ab hC.1).2.2.2.1
  have hk := hC.2.1.1
  refine ⟨a1, a3, fun t ht => ⟨(a4 t ht).1, (a4 t ht).2.2⟩, fun t ht => by have := (a4 t ht).2.1; omega, ⟨s4, hn4, s6, by omega⟩, fun r hr => ?_, ?_, cu_P9 hC, ⟨s11, ?_, hC.2.1.2.2⟩, s5, s7, (cu_ab hC.1).2.1, s1⟩
  · obtain ⟨-, -, -, -, -, -, -, c8, c9, -⟩ := cu_rd hC.1 hr
    rw [c8]; exact c9
  · rw [s9]; exact s10
  · have := ((cu_tb hC.1).1 0 0 (by omega) (cu_1 hC.1 (by omega)) trivial).1
    omega
theorem nZ_of {x : Int32} {n : Nat} (h : x = nI n) (hn : n < 1000) : nZ x = n := by
  unfold nZ
  rw [h, nI_clamp (by omega)]
theorem rdP_yn {n : Nat} {x : Int32} {miss : Prop} {hit : Nat → Prop} (h : rdP n x miss hit) : (∃ r, r < n ∧ x = nI r ∧ hit r) ∨ ((∀ r, r < n → ¬ x = nI r) ∧ miss) := by
  by_cases z : ∃ r, r < n ∧ x = nI r
  · obtain ⟨r, a, b⟩ := z
    exact Or.inl ⟨r, a, b, h.1 r a b⟩
  · have w : ∀ r, r < n → ¬ x = nI r := fun r a b => z ⟨r, a, b⟩
    exact Or.inr ⟨w, h.2 w⟩
theorem kM_mono {l : Launch} {y : MethodName} {bytes : ByteArray} {maxL : Nat} {ret : Option FieldType} {rm : Room} {D : va_G} {τ : Nat → ClassId} {ad : Nat → Nat} {As : List Value} {G : Nat → Nat → Int32} {R R' : Int32 → (Nat → Nat → Int32) → Prop} (h : kM l y bytes maxL ret rm D τ ad As G R) (hh : ∀ v G', R v G' → R' v G') : kM l y bytes maxL ret rm D τ ad As G R' := by
  unfold kM Met at h ⊢
  intro p e ha hc hk s m args below hf happ hp hk'
  obtain ⟨n, o, h1, h2, h3, h4⟩ := h p e ha hc hk s m args below hf happ hp hk'
  refine ⟨n, o, h1, h2, h3, ?_⟩
  obtain ⟨⟨⟨r, u, e1, e2, e3⟩, e4⟩, e5⟩ := h4
  exact ⟨⟨⟨r, u, e1, hh r u e2, e3⟩, e4⟩, e5⟩
/-- a reader, a cell, a commit by its number -/
def rdS {α : Type} (n : Nat) (x : Int32) (f : Nat → α) (m : α) : α := if 0 ≤ x ∧ x < nI n then f (nZ x) else m
theorem rdS_h {α : Type} {n r : Nat} {x : Int32} {f : Nat → α} {m : α} (hr : r < n) (hn : n ≤ 40) (h : x = nI r) : rdS n x f m = f r := by
  unfold rdS
  rw [nZ_of h (by omega), if_pos ⟨by rw [h]; exact nI_pos' (by omega), by rw [h]; exact nI_lt hr (by omega)⟩]
theorem rdS_m {α : Type} {n : Nat} {x : Int32} {f : Nat → α} {m : α} (hn : n ≤ 40) (h : ∀ r, r < n → ¬ x = nI r) : rdS n x f m = m := by
  unfold rdS
  rw [if_neg]
  intro z
  obtain ⟨r, h1, h2⟩ := hsR_yes hn z
  exact h r h1 h2
theorem rdP_S {α : Type} {n : Nat} {x : Int32} {f : Nat → α} {m v : α} (hn : n ≤ 40) (h : rdP n x (v = m) (fun r => v = f r)) : v = rdS n x f m := by
  rcases rdP_yn h with ⟨r, h1, h2, h3⟩ | ⟨h1, h2⟩
  · rw [rdS_h h1 hn h2]; exact h3
  · rw [rdS_m hn h1]; exact h2
/-- what a call leaves: its answer and the state's numbers behind it, or nothing new -/
def PSTn (G : Nat → Nat → Int32) (N : Nat → Int32) (L : Nat) (Hs : Nat → Nat → Int32) (st : Int32 × Option (Nat → Int32)) (v : Int32) (G' : Nat → Nat → Int32) : Prop :=
  v = st.1 ∧ G' 0 = G 0 ∧ (st.2 = none → G' = G) ∧ ∀ N', st.2 = some N' → RLN G' N' (rotL L + 1) (psh L Hs N)
theorem pn_e {G : Nat → Nat → Int32} {N : Nat → Int32} {L : Nat} {Hs : Nat → Nat → Int32} {st : Int32 × Option (Nat → Int32)} {v : Int32} (h : st = (v, none)) : PSTn G N L Hs st v G := by
  subst h
  exact ⟨rfl, rfl, fun _ => rfl, fun _ h => by cases h⟩
theorem pn_a {G G1 : Nat → Nat → Int32} {N N' : Nat → Int32} {L : Nat} {Hs : Nat → Nat → Int32} {st : Int32 × Option (Nat → Int32)} {v : Int32} (h : st = (v, some N')) (hE : RLN G1 N' (rotL L + 1) (psh L Hs N) ∧ G1 0 = G 0) : PSTn G N L Hs st v G1 := by
  subst h
  exact ⟨rfl, hE.2, (fun h => by cases h), (fun N2 h => by cases h; exact hE.1)⟩

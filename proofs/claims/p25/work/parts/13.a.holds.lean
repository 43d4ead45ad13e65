/-! What the law asks of the numbers holds. -/
section HOLD
variable {G : Nat → Nat → Int32} {N N' : Nat → Int32} {n k W put d L : Nat} {P : Nat → Nat} {mo : Nat → Nat → Nat} {ow : Nat → Nat} {vx : Nat → Nat → Nat} {Hs : Nat → Nat → Int32}
theorem pcN_at (hC : CurR G 0 N n k W P mo ow vx) {c : Nat} (hc : c < 12) : pcN N c = P c := by
  obtain ⟨h2, hn, h8, hW, h6, hk, h0, z2, z8, z6⟩ := cur_k hC
  have h10 := cu_P10 hC.1 hc
  unfold pcN aCl
  rw [rdS_h hc (by omega) rfl, z8]
  unfold clM
  rw [if_neg (by decide), if_neg (by decide), if_pos rfl, cu_vers hC.1 hc]
  exact nZ_of2 (by omega)
theorem aVr_at (hC : CurR G 0 N n k W P mo ow vx) {c p y : Nat} (hc : c < 12) (hp : p < P c) (hy : y ≤ 4) : aVr N (nI c) (nI p) (nI y) = vrM N W n (vx c p) (nI p) (nI y) := by
  obtain ⟨h2, hn, h8, hW, h6, hk, h0, z2, z8, z6⟩ := cur_k hC
  have h10 := cu_P10 hC.1 hc
  have hv : vcM N W c = P c := cu_vers hC.1 hc
  unfold aVr
  rw [rdS_h hc (by omega) rfl, z8, z2, hv, if_pos ⟨nI_pos (by omega), nI_le (by omega) (by omega), nI_le hy (by omega)⟩, if_neg (fun z => by have := (nI_leI (by omega) (by omega)).mp z; omega), nZ_of2 (by omega), cu_vw hC.1 hc p hp]
theorem vok_of (hR : RLN G N L Hs) : VOK N := by
  obtain ⟨⟨n, k, W, P, mo, ow, vx, hC⟩, -⟩ := hR
  obtain ⟨h2, hn, h8, hW, h6, hk, h0, z2, z8, z6⟩ := cur_k hC
  have e12 : cn (fun c => pcN N c - 1) 12 = cn (fun c => P c - 1) 12 := cn_congr (fun c hc => by rw [pcN_at hC hc])
  refine ⟨fun c hc => ?_, fun c hc p p1 p2 => ?_, fun L => ?_, ?_⟩
  · have h1 := cu_1 hC.1 hc
    have h10 := cu_P10 hC.1 hc
    refine ⟨?_, ?_, ?_⟩
    · rw [aVr_at hC hc h1 (by omega)]
      unfold vrM aCl
      rw [if_pos rfl, rdS_h hc (by omega) rfl, z8]
      unfold clM
      rw [if_pos rfl, cu_new hC.1 hc]
    · rw [aVr_at hC hc h1 (by omega)]
      unfold vrM aCl
      rw [if_neg (by decide), if_pos rfl, rdS_h hc (by omega) rfl, z8]
      unfold clM
      rw [if_neg (by decide), if_pos rfl, cu_new hC.1 hc]
    · rw [pcN_at hC hc]
      have hv : vcM N W c = P c := cu_vers hC.1 hc
      unfold aVr
      rw [rdS_h hc (by omega) rfl, z8, hv, if_pos ⟨nI_pos (by omega), nI_le (by omega) (by omega), nI_le (by omega) (by omega)⟩, if_pos (nI_le (Nat.le_refl _) (by omega))]
  · rw [pcN_at hC hc] at p2
    obtain ⟨t1, t2, t3, t4⟩ := (cu_tb hC.1).1 c p hc p2 trivial
    obtain ⟨u1, u2, u3, u4⟩ := (cu_tb hC.1).1 c (p - 1) hc (by omega) trivial
    have hd := cu_d hC.1 c hc (p - 1) p (by omega) p2
    have hm := cu_m hC.1 c (p - 1) hc (by omega)
    refine ⟨?_, ?_, ?_⟩
    · rw [aVr_at hC hc p2 (by omega), aVr_at hC hc (show p - 1 < P c by omega) (by omega)]
      unfold vrM
      rw [if_neg (by decide), if_pos rfl, if_neg (by decide), if_pos rfl, t3, u3]
      exact nI_lt hd (by omega)
    · rw [aVr_at hC hc p2 (by omega)]
      unfold vrM
      rw [if_neg (by decide), if_neg (by decide), if_pos rfl]
      have hb : cn (sbM N W (vx c p) (nI 1)) n ≤ 40 := Nat.le_trans (cn_le (fun i _ => by unfold sbM; split <;> omega)) hn
      have hpos : cn (sbM N W (vx c p) (nI 1)) n ≠ 0 := by
        rcases hC.2.2 c p hc p2 with z | ⟨r, hr, z⟩
        · omega
        · refine cn_pos hr ?_
          have hse := (ev_sees (cu_ab hC.1) (cu_tb hC.1) (fun _ _ _ => trivial) hr rfl rfl hc p2 trivial).mpr z
          unfold sbM
          rw [if_pos ⟨hse, Or.inl (by decide)⟩]
          omega
      exact nI_lt (a := 0) (by omega) (by omega)
    · rw [aVr_at hC hc p2 (by omega), aVr_at hC hc p2 (by omega)]
      unfold vrM
      rw [if_neg (by decide), if_neg (by decide), if_neg (by decide), if_pos rfl, if_neg (by decide), if_neg (by decide), if_pos rfl]
      have hb : cn (sbM N W (vx c p) (nI 1)) n ≤ 40 := Nat.le_trans (cn_le (fun i _ => by unfold sbM; split <;> omega)) hn
      refine nI_le (rm_mono (fun r hr => ?_)) (by omega)
      unfold sbM
      by_cases z : seM N W r (vx c p)
      · rw [if_pos (show seM N W r (vx c p) ∧ (¬ nI 1 = 0 ∨ ¬ 0 < N (9 + 20 * r + 5)) from ⟨z, Or.inl (by decide)⟩)]
        split <;> omega
      · rw [if_neg (fun w => z w.1)]; omega
  · rw [e12, ← cu_oldm hC.1]
    unfold aCt ctN
    rw [if_neg (by decide), if_neg (by decide), if_neg (by decide), if_neg (by decide), if_neg (by decide), if_neg (by decide), if_neg (by decide), if_pos rfl, z8]
  · rw [e12]
    have e : cn P 12 = cn (fun c => P c - 1) 12 + 12 := by
      have h2 : cn (fun c => (P c - 1) + 1) 12 = cn P 12 := cn_congr (fun c hc => by have := cu_1 hC.1 hc; omega)
      rw [← h2, rm_add, rm_const]
    have := cu_W hC.1
    omega
theorem rd2_at (hR : RLN G N L Hs) (hV : INV N (nZ (N 2)) (nZ (N 8)) put) {r : Nat} (hr : r < nZ (N 2)) : ¬ aRd N (nI r) (nI 2) < 0 ∧ aRd N (nI r) (nI 2) = N (9 + 20 * r + 1) := by
  obtain ⟨⟨n, k, W, P, mo, ow, vx, hC⟩, -⟩ := hR
  obtain ⟨h2, hn, h8, hW, h6, hk, h0, z2, z8, z6⟩ := cur_k hC
  rw [z2] at hr
  have e : aRd N (nI r) (nI 2) = N (9 + 20 * r + 1) := by
    unfold aRd
    rw [z2, rdS_h hr hn rfl]
    unfold rdM
    rw [if_neg (by decide), if_neg (by decide), if_pos rfl]
  rw [z2] at hV
  obtain ⟨⟨pu, pd, i1, i2⟩, -⟩ := hV
  have i3 := i1 r hr
  refine ⟨?_, e⟩
  rw [e, i3.1]
  exact nI_pos (by omega)
theorem coin_ok (hR : RLN G N L Hs) (hV : INV N (nZ (N 2)) (nZ (N 8)) put) (hp : put ≤ 400000) : coinF N (lN put) = lN 0 := by
  have hV0 := hV
  have hR0 := hR
  obtain ⟨⟨n, k, W, P, mo, ow, vx, hC⟩, -⟩ := hR
  obtain ⟨h2, hn, h8, hW, h6, hk, h0, z2, z8, z6⟩ := cur_k hC
  rw [z2] at hV
  obtain ⟨⟨pu, pd, i1, i2⟩, -⟩ := hV
  have e5 : aCt N 0 (nI 10) = nI (cn pd n) := by
    unfold aCt ctN
    rw [if_neg (by decide), if_neg (by decide), if_neg (by decide), if_neg (by decide), if_neg (by decide), if_neg (by decide), if_neg (by decide), if_neg (by decide), if_neg (by decide), if_neg (by decide), if_pos rfl, (cu_sc hC.1).2.2.2.2.2.2.2.2.2.2.2, ← rm_nI]
    exact sm_congr (fun r hr => (i1 r hr).2.2)
  have key : ∀ r, r ≤ n → itF (fun r v => v - (aRd N (nI r) (nI 2)).toInt64) r (lN (cn pu n)) = lN (cn pu n - cn pu r) := by
    intro r
    induction r with
    | zero => intro _; rfl
    | succ r ih =>
      intro hr
      have hle : cn pu (r + 1) ≤ cn pu n := cn_mono hr
      have i3 := (i1 r (by omega))
      rw [cn] at hle
      rw [itF, ih (by omega), (rd2_at hR0 hV0 (by rw [z2]; omega)).2, i3.1, nI_l (by omega), lN_sub (by omega), cn]
      congr 1
      omega
  unfold coinF
  rw [z2, e5, nI_l (by omega), lN_sub (by omega), show put - cn pd n = cn pu n by omega, key n (Nat.le_refl _), Nat.sub_self]
theorem seen_at (hR : RLN G N L Hs) {r : Nat} (hr : r < nZ (N 2)) : seenF N (nI r) = if N (9 + 20 * r + 2) = 0 then sm (fun c => VSN N (nZ (N 8)) r c) 12 else -1 := by
  obtain ⟨⟨n, k, W, P, mo, ow, vx, hC⟩, -⟩ := hR
  obtain ⟨h2, hn, h8, hW, h6, hk, h0, z2, z8, z6⟩ := cur_k hC
  rw [z2] at hr
  have e0 : aRd N (nI r) (nI 0) = N (9 + 20 * r + 2) := by
    unfold aRd
    rw [z2, rdS_h hr hn rfl]
    unfold rdM
    rw [if_pos rfl]
  have e9 : aRd N (nI r) (nI 9) = if N (9 + 20 * r + 2) = 0 then sm (snM N W r (nI 0)) 12 else nI 0 := by
    unfold aRd
    rw [z2, rdS_h hr hn rfl]
    unfold rdM
    rw [if_neg (by decide), if_neg (by decide), if_neg (by decide), if_neg (by decide), if_neg (by decide), if_neg (by decide), if_neg (by decide), if_neg (by decide), if_neg (by decide), if_pos rfl, z8]
  unfold seenF
  rw [e0, e9]
  by_cases z : N (9 + 20 * r + 2) = 0
  · rw [if_pos z, if_pos z, if_pos z, z8]
    exact sm_congr (fun c _ => by unfold snM; rw [if_pos nI_0]; rfl)
  · rw [if_neg z, if_neg z]
theorem seen_ok {G' : Nat → Nat → Int32} {L' : Nat} {Hs' : Nat → Nat → Int32} (hR : RLN G N L Hs) (hR' : RLN G' N' L' Hs') (hs : STEP N N' put d) {r : Nat} (hr : r < nZ (N 2)) (h : ¬ seenF N' (nI r) < 0) : seenF N' (nI r) = seenF N (nI r) := by
  obtain ⟨s1, s2, s3, s4, s5⟩ := hs
  rw [seen_at hR' (by omega)] at h ⊢
  rw [seen_at hR hr]
  by_cases z : N' (9 + 20 * r + 2) = 0
  · obtain ⟨q1, q2⟩ := s5 r hr z
    rw [if_pos z, if_pos q1]
    exact sm_congr (fun c hc => q2 c hc)
  · rw [if_neg z] at h
    exact absurd (by decide) h
theorem opn_arg {y : Int32} (h : (opnS N y).2 = some N') : ∃ t, t ≤ 9999 ∧ y = nI t := by
  unfold opnS at h
  by_cases c : nI 0 ≤ y ∧ y ≤ nI 9999
  · exact nI_of2 (x := y) (M := nI 9999) (n := 9999) rfl (Int32.not_lt.mpr c.1) c.2
  · rw [if_neg c] at h; cases h
theorem pay_arg {x y : Int32} (h : (payS N x y).2 = some N') : ∃ t, t ≤ 9999 ∧ y = nI t := by
  unfold payS rdS at h
  by_cases z : 0 ≤ x ∧ x < nI (nZ (N 2))
  · rw [if_pos z] at h
    dsimp only at h
    by_cases c : nI 1 ≤ y ∧ y ≤ nI 9999
    · exact nI_of2 (x := y) (M := nI 9999) (n := 9999) rfl (Int32.not_lt.mpr (Int32.le_trans (by decide) c.1)) c.2
    · rw [if_neg c] at h; cases h
  · rw [if_neg z] at h; cases h
theorem put_ok {w a b : Int32} {i : Nat} (hi : i < 16) (hw : w = nI i) (hs : (turnX N w a b).2.2 = some N') : putF w a b = lN (turnX N w a b).1 := by
  subst hw
  have hup : ∀ (x : Int32) (m : Nat), 0 < m → m ≤ 10000 → ∃ q, q < m ∧ upF x (nI m) = nI q := fun x m h1 h2 => upF_lt x h1 (by omega)
  rcases (show i = 0 ∨ i = 1 ∨ i = 2 ∨ i = 3 ∨ i = 4 ∨ i = 5 ∨ i = 6 ∨ i = 7 ∨ i = 8 ∨ i = 9 ∨ i = 10 ∨ i = 11 ∨ i = 12 ∨ i = 13 ∨ i = 14 ∨ i = 15 by omega) with rfl | rfl | rfl | rfl | rfl | rfl | rfl | rfl | rfl | rfl | rfl | rfl | rfl | rfl | rfl | rfl
  · have e : turnX N (nI 0) a b = (nZ (upF b (if a &&& nI 3 = 0 then nI 10000 else nI 60)), opnS N (upF b (if a &&& nI 3 = 0 then nI 10000 else nI 60))) := by unfold turnX; rw [if_pos rfl]
    rw [e] at hs ⊢
    obtain ⟨t, t1, t2⟩ := opn_arg hs
    unfold putF
    rw [if_pos (by decide), t2, nI_l (by omega), nZ_of2 (by omega)]
  · have e : turnX N (nI 1) a b = (nZ (upF b (if a &&& nI 3 = 0 then nI 10000 else nI 60)), opnS N (upF b (if a &&& nI 3 = 0 then nI 10000 else nI 60))) := by unfold turnX; rw [if_neg (by decide), if_pos rfl]
    rw [e] at hs ⊢
    obtain ⟨t, t1, t2⟩ := opn_arg hs
    unfold putF
    rw [if_pos (by decide), t2, nI_l (by omega), nZ_of2 (by omega)]
  · have e : turnX N (nI 2) a b = (nZ (nI 1 + upF b (nI 200)), payS N (upF a (N 2 + nI 1)) (nI 1 + upF b (nI 200))) := by unfold turnX; rw [if_neg (by decide), if_neg (by decide), if_pos rfl]
    rw [e]
    obtain ⟨q, q1, q2⟩ := hup b 200 (by omega) (by omega)
    unfold putF
    rw [if_neg (by decide), if_pos rfl, q2, nI_add, nI_l (by omega), lN_add, nZ_of2 (by omega)]
  · have e : (turnX N (nI 3) a b).1 = 0 := by unfold turnX; rw [if_neg (by decide), if_neg (by decide), if_neg (by decide), if_pos rfl]
    rw [e]
    unfold putF
    rw [if_neg (by decide), if_neg (by decide), if_neg (by decide)]
  · have e : (turnX N (nI 4) a b).1 = 0 := by unfold turnX; rw [if_neg (by decide), if_neg (by decide), if_neg (by decide), if_neg (by decide), if_pos rfl]
    rw [e]
    unfold putF
    rw [if_neg (by decide), if_neg (by decide), if_neg (by decide)]
  · have e : (turnX N (nI 5) a b).1 = 0 := by unfold turnX; rw [if_neg (by decide), if_neg (by decide), if_neg (by decide), if_neg (by decide), if_neg (by decide), if_pos rfl]; split <;> rfl
    rw [e]
    unfold putF
    rw [if_neg (by decide), if_neg (by decide), if_neg (by decide)]
  · have e : (turnX N (nI 6) a b).1 = 0 := by unfold turnX; rw [if_neg (by decide), if_neg (by decide), if_neg (by decide), if_neg (by decide), if_neg (by decide), if_neg (by decide), if_pos rfl]
    rw [e]
    unfold putF
    rw [if_neg (by decide), if_neg (by decide), if_neg (by decide)]
  · have e : (turnX N (nI 7) a b).1 = 0 := by unfold turnX; rw [if_neg (by decide), if_neg (by decide), if_neg (by decide), if_neg (by decide), if_neg (by decide), if_neg (by decide), if_neg (by decide), if_pos rfl]
    rw [e]
    unfold putF
    rw [if_neg (by decide), if_neg (by decide), if_neg (by decide)]
  · have e : (turnX N (nI 8) a b).1 = 0 := by unfold turnX; rw [if_neg (by decide), if_neg (by decide), if_neg (by decide), if_neg (by decide), if_neg (by decide), if_neg (by decide), if_neg (by decide), if_neg (by decide), if_pos rfl]
    rw [e]
    unfold putF
    rw [if_neg (by decide), if_neg (by decide), if_neg (by decide)]
  · have e : (turnX N (nI 9) a b).1 = 0 := by unfold turnX; rw [if_neg (by decide), if_neg (by decide), if_neg (by decide), if_neg (by decide), if_neg (by decide), if_neg (by decide), if_neg (by decide), if_neg (by decide), if_neg (by decide), if_pos rfl]
    rw [e]
    unfold putF
    rw [if_neg (by decide), if_neg (by decide), if_neg (by decide)]
  · have e : (turnX N (nI 10) a b).1 = 0 := by unfold turnX; rw [if_neg (by decide), if_neg (by decide), if_neg (by decide), if_neg (by decide), if_neg (by decide), if_neg (by decide), if_neg (by decide), if_neg (by decide), if_neg (by decide), if_neg (by decide), if_pos rfl]
    rw [e]
    unfold putF
    rw [if_neg (by decide), if_neg (by decide), if_neg (by decide)]
  · have e : (turnX N (nI 11) a b).1 = 0 := by unfold turnX; rw [if_neg (by decide), if_neg (by decide), if_neg (by decide), if_neg (by decide), if_neg (by decide), if_neg (by decide), if_neg (by decide), if_neg (by decide), if_neg (by decide), if_neg (by decide), if_neg (by decide), if_pos rfl]
    rw [e]
    unfold putF
    rw [if_neg (by decide), if_neg (by decide), if_neg (by decide)]
  · have e : (turnX N (nI 12) a b).1 = 0 := by unfold turnX; rw [if_neg (by decide), if_neg (by decide), if_neg (by decide), if_neg (by decide), if_neg (by decide), if_neg (by decide), if_neg (by decide), if_neg (by decide), if_neg (by decide), if_neg (by decide), if_neg (by decide), if_neg (by decide), if_pos rfl]
    rw [e]
    unfold putF
    rw [if_neg (by decide), if_neg (by decide), if_neg (by decide)]
  · have e : (turnX N (nI 13) a b).1 = 0 := by unfold turnX; rw [if_neg (by decide), if_neg (by decide), if_neg (by decide), if_neg (by decide), if_neg (by decide), if_neg (by decide), if_neg (by decide), if_neg (by decide), if_neg (by decide), if_neg (by decide), if_neg (by decide), if_neg (by decide), if_neg (by decide), if_pos rfl]
    rw [e]
    unfold putF
    rw [if_neg (by decide), if_neg (by decide), if_neg (by decide)]
  · have e : (turnX N (nI 14) a b).1 = 0 := by unfold turnX; rw [if_neg (by decide), if_neg (by decide), if_neg (by decide), if_neg (by decide), if_neg (by decide), if_neg (by decide), if_neg (by decide), if_neg (by decide), if_neg (by decide), if_neg (by decide), if_neg (by decide), if_neg (by decide), if_neg (by decide), if_neg (by decide), if_pos rfl]
    rw [e]
    unfold putF
    rw [if_neg (by decide), if_neg (by decide), if_neg (by decide)]
  · have e : turnX N (nI 15) a b = anyX N a b := by unfold turnX; rw [if_neg (by decide), if_neg (by decide), if_neg (by decide), if_neg (by decide), if_neg (by decide), if_neg (by decide), if_neg (by decide), if_neg (by decide), if_neg (by decide), if_neg (by decide), if_neg (by decide), if_neg (by decide), if_neg (by decide), if_neg (by decide), if_neg (by decide)]
    rw [e] at hs ⊢
    unfold putF
    rw [if_neg (by decide), if_neg (by decide), if_pos rfl]
    obtain ⟨j, j1, j2⟩ := pk_andE b (m := nI 7) 3 (by decide)
    unfold anyX at hs ⊢
    rw [j2] at hs ⊢
    rcases (show j = 0 ∨ j = 1 ∨ 2 ≤ j by omega) with rfl | rfl | hj
    · rw [if_pos rfl] at hs
      rw [if_pos (by decide), if_pos rfl, if_pos nI_0]
      obtain ⟨t, t1, rfl⟩ := opn_arg hs
      rw [nI_l (by omega), nZ_of2 (by omega)]
    · rw [if_neg (by decide), if_pos rfl] at hs
      rw [if_pos (by decide), if_neg (by decide), if_neg (by decide), if_pos rfl]
      obtain ⟨t, t1, rfl⟩ := pay_arg hs
      rw [nI_l (by omega), nZ_of2 (by omega)]
    · have hne : ∀ m, m < 2 → ¬ nI j = nI m := fun m hm z => by have := (nI_eq (by omega) (by omega)).mp z; omega
      rw [if_neg (fun z => by have := (nI_leI (by omega) (by omega)).mp z; omega), if_neg (hne 0 (by omega)), if_neg (hne 1 (by omega))]
      repeat' split
      all_goals rfl
end HOLD

/-! The acts once more: with what they may change. A pair: the coins that they put into a purse, what they answer and leave. -/
def PSTx (G : Nat → Nat → Int32) (N : Nat → Int32) (L : Nat) (Hs : Nat → Nat → Int32) (put : Nat) (X : Nat × Int32 × Option (Nat → Int32)) (v : Int32) (G' : Nat → Nat → Int32) : Prop :=
  PSTn G N L Hs X.2 v G' ∧ OKS N put X.1 X.2
theorem px_of {G : Nat → Nat → Int32} {N : Nat → Int32} {L : Nat} {Hs : Nat → Nat → Int32} {put d : Nat} {st : Int32 × Option (Nat → Int32)} (hR : RLN G N L Hs) (hV : INV N (nZ (N 2)) (nZ (N 8)) put) (hs : ∀ n k W P mo ow vx, CurR G 0 N n k W P mo ow vx → INV N n W put → OKS N put d st) : OKS N put d st := by
  obtain ⟨⟨n, k, W, P, mo, ow, vx, hC⟩, -⟩ := hR
  obtain ⟨h2, hn, h8, hW, h6, hk, h0, z2, z8, z6⟩ := cur_k hC
  rw [z2, z8] at hV
  exact hs n k W P mo ow vx hC hV
theorem lx_pay (l : Launch) {D : va_G} {τ : Nat → ClassId} {ad : Nat → Nat} (hI : kInj ad) {G : Nat → Nat → Int32} {N : Nat → Int32} {L : Nat} {Hs : Nat → Nat → Int32} {put : Nat} {x y : Int32} (hR : RLN G N L Hs) (hV : INV N (nZ (N 2)) (nZ (N 8)) put) : kM l yX6_pay cX6_pay 4 (some .int) { frames := 4, cells := 0, slots := 0, locals := 104 } D τ ad [.ref (ad 7), .int x, .int y] G (fun v G1 => PSTx G N L Hs put ((nZ y, payS N x y)) v G1) :=
  kM_mono (ln_pay l hI hR) (fun v G1 h => ⟨h, px_of hR hV (fun n k W P mo ow vx hC hN => sx_pay hC hN x y)⟩)
theorem lx_setRent (l : Launch) {D : va_G} {τ : Nat → ClassId} {ad : Nat → Nat} (hI : kInj ad) {G : Nat → Nat → Int32} {N : Nat → Int32} {L : Nat} {Hs : Nat → Nat → Int32} {put : Nat} {y : Int32} (hR : RLN G N L Hs) (hV : INV N (nZ (N 2)) (nZ (N 8)) put) : kM l yX6_setRent cX6_setRent 3 (some .int) { frames := 4, cells := 0, slots := 0, locals := 104 } D τ ad [.ref (ad 7), .int y] G (fun v G1 => PSTx G N L Hs put ((0, rentS N y)) v G1) :=
  kM_mono (ln_setRent l hI hR) (fun v G1 h => ⟨h, px_of hR hV (fun n k W P mo ow vx hC hN => sx_rent hC hN y)⟩)
theorem lx_forbidSkew (l : Launch) {D : va_G} {τ : Nat → ClassId} {ad : Nat → Nat} (hI : kInj ad) {G : Nat → Nat → Int32} {N : Nat → Int32} {L : Nat} {Hs : Nat → Nat → Int32} {put : Nat} {b : Nat} (hb1 : b ≤ 1) (hR : RLN G N L Hs) (hV : INV N (nZ (N 2)) (nZ (N 8)) put) : kM l yX6_forbidSkew cX6_forbidSkew 2 (some .int) { frames := 4, cells := 0, slots := 0, locals := 104 } D τ ad [.ref (ad 7), .int (nI b)] G (fun v G1 => PSTx G N L Hs put ((0, skewS N (nI b))) v G1) :=
  kM_mono (ln_forbidSkew l hI hb1 hR) (fun v G1 h => ⟨h, px_of hR hV (fun n k W P mo ow vx hC hN => sx_skew hC hN (nI b))⟩)
theorem lx_widow (l : Launch) {D : va_G} {τ : Nat → ClassId} {ad : Nat → Nat} (hI : kInj ad) {G : Nat → Nat → Int32} {N : Nat → Int32} {L : Nat} {Hs : Nat → Nat → Int32} {put : Nat} {x y : Int32} (hR : RLN G N L Hs) (hV : INV N (nZ (N 2)) (nZ (N 8)) put) : kM l yX6_widow cX6_widow 5 (some .int) { frames := 4, cells := 0, slots := 0, locals := 104 } D τ ad [.ref (ad 7), .int x, .int y] G (fun v G1 => PSTx G N L Hs put ((0, widS N x y)) v G1) :=
  kM_mono (ln_widow l hI hR) (fun v G1 h => ⟨h, px_of hR hV (fun n k W P mo ow vx hC hN => sx_widow hC hN x y)⟩)
theorem lx_read (l : Launch) {D : va_G} {τ : Nat → ClassId} {ad : Nat → Nat} (hI : kInj ad) {G : Nat → Nat → Int32} {N : Nat → Int32} {L : Nat} {Hs : Nat → Nat → Int32} {put : Nat} {x y : Int32} (hR : RLN G N L Hs) (hV : INV N (nZ (N 2)) (nZ (N 8)) put) : kM l yX6_read cX6_read 4 (some .int) { frames := 4, cells := 0, slots := 0, locals := 104 } D τ ad [.ref (ad 7), .int x, .int y] G (fun v G1 => PSTx G N L Hs put ((0, reaS N x y)) v G1) :=
  kM_mono (ln_read l hI hR) (fun v G1 h => ⟨h, px_of hR hV (fun n k W P mo ow vx hC hN => sx_read hC hN x y)⟩)
theorem lx_write (l : Launch) {D : va_G} {τ : Nat → ClassId} {ad : Nat → Nat} (hI : kInj ad) {G : Nat → Nat → Int32} {N : Nat → Int32} {L : Nat} {Hs : Nat → Nat → Int32} {put : Nat} {x y z : Int32} (hR : RLN G N L Hs) (hV : INV N (nZ (N 2)) (nZ (N 8)) put) : kM l yX6_write cX6_write 5 (some .int) { frames := 4, cells := 0, slots := 0, locals := 104 } D τ ad [.ref (ad 7), .int x, .int y, .int z] G (fun v G1 => PSTx G N L Hs put ((0, wriS N x y z)) v G1) :=
  kM_mono (ln_write l hI hR) (fun v G1 h => ⟨h, px_of hR hV (fun n k W P mo ow vx hC hN => sx_write hC hN x y z)⟩)
theorem lx_open (l : Launch) {D : va_G} {τ : Nat → ClassId} {ad : Nat → Nat} (hI : kInj ad) {G : Nat → Nat → Int32} {N : Nat → Int32} {L : Nat} {Hs : Nat → Nat → Int32} {put : Nat} {y : Int32} (hR : RLN G N L Hs) (hV : INV N (nZ (N 2)) (nZ (N 8)) put) : kM l yX6_open cX6_open 2 (some .int) { frames := 4, cells := 0, slots := 0, locals := 104 } D τ ad [.ref (ad 7), .int y] G (fun v G1 => PSTx G N L Hs put ((nZ y, opnS N y)) v G1) :=
  kM_mono (ln_open l hI hR) (fun v G1 h => ⟨h, px_of hR hV (fun n k W P mo ow vx hC hN => sx_open hC hN y)⟩)
theorem lx_close (l : Launch) {D : va_G} {τ : Nat → ClassId} {ad : Nat → Nat} (hI : kInj ad) {G : Nat → Nat → Int32} {N : Nat → Int32} {L : Nat} {Hs : Nat → Nat → Int32} {put : Nat} {x : Int32} (hR : RLN G N L Hs) (hV : INV N (nZ (N 2)) (nZ (N 8)) put) : kM l yX6_close cX6_close 3 (some .int) { frames := 4, cells := 0, slots := 0, locals := 104 } D τ ad [.ref (ad 7), .int x] G (fun v G1 => PSTx G N L Hs put ((0, cloS N x)) v G1) :=
  kM_mono (ln_close l hI hR) (fun v G1 h => ⟨h, px_of hR hV (fun n k W P mo ow vx hC hN => sx_close hC hN x)⟩)
theorem lx_commit (l : Launch) {D : va_G} {τ : Nat → ClassId} {ad : Nat → Nat} (hI : kInj ad) {G : Nat → Nat → Int32} {N : Nat → Int32} {L : Nat} {Hs : Nat → Nat → Int32} {put : Nat} {x : Int32} (hR : RLN G N L Hs) (hV : INV N (nZ (N 2)) (nZ (N 8)) put) : kM l yX6_commit cX6_commit 3 (some .int) { frames := 4, cells := 0, slots := 0, locals := 106 } D τ ad [.ref (ad 7), .int x] G (fun v G1 => PSTx G N L Hs put ((0, comS N x)) v G1) :=
  kM_mono (ln_commit l hI hR) (fun v G1 h => ⟨h, px_of hR hV (fun n k W P mo ow vx hC hN => sx_commit hC hN x)⟩)
/-- ticks, so far -/
def TKV (N : Nat → Int32) (n W put i : Nat) (s : (Nat → Int32) × Nat × Nat) : Prop :=
  INV s.1 n s.2.1 put ∧ s.1 0 = N 0 ∧ s.2.2 ≤ n * i ∧ ∀ r, r < n → s.1 (9 + 20 * r + 2) = 0 → N (9 + 20 * r + 2) = 0 ∧ ∀ c, c < 12 → VSN s.1 s.2.1 r c = VSN N W r c
theorem tkv_s {Gr G : Nat → Nat → Int32} {N : Nat → Int32} {n k W put i : Nat} {ow : Nat → Nat} {dc : Int32} (hz : ZT Gr 0 N n k W ow i dc G) (h : TKV N n W put i (tkI n (N, W, 0) i)) : TKV N n W put (i + 1) (tkI n (N, W, 0) (i + 1)) := by
  obtain ⟨⟨P, mo, vx, hC⟩, -⟩ := hz
  obtain ⟨h2, hn, h8, hW, h6, hk, h0, z2, z8, z6⟩ := cur_k hC
  obtain ⟨a1, a2, a3, a4⟩ := h
  obtain ⟨b1, b2, b3⟩ := tkN_inv (cu_ab hC.1) (cu_tb hC.1) hW.1 (by omega) a1
  show TKV N n W put (i + 1) (tkS n (tkI n (N, W, 0) i))
  unfold tkS
  refine ⟨b1, b2.trans a2, ?_, fun r hr ho => ?_⟩
  · show (tkI n (N, W, 0) i).2.2 + _ ≤ n * (i + 1)
    have := pyA_le (tkI n (N, W, 0) i).1 (dueM (tkI n (N, W, 0) i).1 (tkI n (N, W, 0) i).2.1 n) n
    rw [Nat.mul_succ]
    omega
  · obtain ⟨c1, c2⟩ := b3 r hr ho
    obtain ⟨d1, d2⟩ := a4 r hr c1
    exact ⟨d1, fun c hc => (c2 c hc).trans (d2 c hc)⟩
theorem lx_tick (l : Launch) {D : va_G} {τ : Nat → ClassId} {ad : Nat → Nat} (hI : kInj ad) {G : Nat → Nat → Int32} {N : Nat → Int32} {L : Nat} {Hs : Nat → Nat → Int32} {put : Nat} {y : Int32} (hR : RLN G N L Hs) (hV : INV N (nZ (N 2)) (nZ (N 8)) put) : kM l yX6_tick cX6_tick 3 (some .int) { frames := 6, cells := 0, slots := 0, locals := 140 } D τ ad [.ref (ad 7), .int y] G (fun v G1 => PSTx G N L Hs put (0, tikS N y) v G1) := by
  obtain ⟨⟨n, k, W, P, mo, ow, vx, hC⟩, pi, hH⟩ := hR
  obtain ⟨p1, p2, p3, p4, ⟨p5, p6, p7, p8⟩, p9, p10, p11, ⟨p12, p13, p14⟩, p15, p16, p17, p19⟩ := pre_n hC hH
  have n2 := nZ_of p15 (by omega)
  have n6 := nZ_of p16 (by omega)
  have n8 := nZ_of p12 (by omega)
  rw [n2, n8] at hV
  have h0 : TKV N n W put 0 (tkI n (N, W, 0) 0) := ⟨hV, rfl, Nat.zero_le _, fun r hr ho => ⟨ho, fun _ _ => rfl⟩⟩
  refine kM_mono (c_X6_tick l hI p1 p2 p3 p4 p5 p6 p7 p8 p9 p10 (fun Gr i dc G1 => ZT Gr 0 N n k W ow i dc G1 ∧ TKV N n W put i (tkI n (N, W, 0) i)) (fun Gr i dc G1 => ZT Gr 0 N n k W ow i dc G1 ∧ TKV N n W put i (tkI n (N, W, 0) i)) (fun _ _ _ _ z => zt_w z.1) (fun _ _ _ _ _ _ _ z1 z2 z3 => ⟨zt_s z1.1 z2 z3, tkv_s z1.1 z1.2⟩) (fun _ _ _ _ z => z) (fun Gr z => ⟨zt_0 (cur_r hC z p2 p4), h0⟩)) (fun v G1 hc => ?_)
  have es : tikS N y = if nI 1 ≤ y ∧ y ≤ nI 60 then (nI (tkI n (N, W, 0) y.toNatClampNeg).2.2, some (tkI n (N, W, 0) y.toNatClampNeg).1) else (-2, none) := by unfold tikS; rw [n2, n8]
  by_cases z1 : nI 1 ≤ y ∧ y ≤ nI 60
  · rw [if_pos z1] at hc es
    obtain ⟨Gr, dc, g1, ⟨⟨⟨P', mo', vx', hC'⟩, q2, q3, q4, q5⟩, t1, t2, t3, t4⟩, rfl⟩ := hc
    have hG1 : ∀ q, q < 14 ∨ 175 ≤ q → G1 q = Gr q := fun q hq => q3 q (by unfold sB; omega)
    have hCr := cur_r hC g1 p2 p4
    obtain ⟨h2, hn, h8, hW, h6, hk, h00, z2, z8, z6⟩ := cur_k hC'
    obtain ⟨t, u1, rfl⟩ := nI_of2 (x := y) (M := nI 60) (n := 60) rfl (Int32.not_lt.mpr (Int32.le_trans (by decide) z1.1)) z1.2
    rw [nI_clamp (by omega)] at *
    have hmul : n * t ≤ 40 * 60 := Nat.mul_le_mul hn u1
    refine ⟨pn_a ?_ (act_n hH hC g1 hG1 ⟨n, k, _, P', mo', ow, vx', hC'⟩), ?_⟩
    · show tikS N (nI t) = _
      rw [es, an_states hC'.1, an_states hCr.1, q4, pk_sub (by omega), Nat.add_sub_cancel_left]
    · show OKS N put 0 (tikS N (nI t))
      rw [es]
      refine ok_a (nI_pos (by omega)) ⟨by omega, by rw [z2, z8]; exact t1, by rw [n2, z2]; exact Nat.le_refl _, Or.inl t2, fun r hr ho => ?_⟩
      rw [n2] at hr
      rw [z8, n8]
      exact t4 r hr ho
  · rw [if_neg z1] at hc es
    obtain ⟨rfl, rfl⟩ := hc
    refine ⟨pn_e es, ?_⟩
    show OKS N put 0 (tikS N y)
    rw [es]
    exact ok_e (by decide)

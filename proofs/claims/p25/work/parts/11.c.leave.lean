/-! close and commit: what goes, what stays. -/
section LEAV
variable {G : Nat → Nat → Int32} {N M : Nat → Int32} {n k W V put : Nat} {P : Nat → Nat} {mo : Nat → Nat → Nat} {ow : Nat → Nat} {vx : Nat → Nat → Nat} {va : Nat → Nat → Int32} {kk : Nat} {P' : Nat → Nat} {mo' : Nat → Nat → Nat}
/-- from the state before, by one that has the same readers and the values that they see, to what is left of it -/
theorem step_rm (hz : nZ (N 2) = n) (z8 : nZ (N 8) = W) (hA : ABS M n kk P' mo' ow) (hT : TbS M V (fun _ _ => True) P' mo' va vx) (hV : V ≤ 64) (h1 : 1 ≤ V) (hI : INV M n V put) (m2 : M 2 = nI n) (m8 : M 8 = nI V) (m0 : M 0 = N 0 ∨ M 0 = N 0 + nI 1) (hs : ∀ r, r < n → M (9 + 20 * r + 2) = 0 → N (9 + 20 * r + 2) = 0 ∧ ∀ c, c < 12 → VSN M V r c = VSN N W r c) : STEP N (rmN M n V) put 0 := by
  have hn := hA.2.2.2.1
  obtain ⟨q1, q2, q3⟩ := rm_inv hA hT hV hI
  obtain ⟨t1, t2, t3, t4⟩ := rmN_8 m8 m2 h1
  unfold STEP
  rw [t1, t2, hz, z8, nZ_of2 (by omega), nZ_of2 (by omega)]
  refine ⟨by omega, q1, Nat.le_refl _, ?_, fun r hr ho => ?_⟩
  · rw [q2 0 (by omega) (by omega) (by omega)]; exact m0
  · rw [q2 _ (by omega) (by omega) (by omega)] at ho
    refine ⟨(hs r hr ho).1, fun c hc => ?_⟩
    rw [q3 r c hr ho hc]
    exact (hs r hr ho).2 c hc
theorem up_leave (hC : CurR G 0 N n k W P mo ow vx) (hI : INV N n W put) {r : Nat} {x : Int32} (hr : r < n) (hx : ¬ x = 0) : ABS (upd N (9 + 20 * r + 2) x) n k P mo ow ∧ TbS (upd N (9 + 20 * r + 2) x) W (fun _ _ => True) P mo (fun c => G (cV 0 c)) vx ∧ INV (upd N (9 + 20 * r + 2) x) n W put ∧ ∀ t, t < n → upd N (9 + 20 * r + 2) x (9 + 20 * t + 2) = 0 → N (9 + 20 * t + 2) = 0 ∧ ∀ c, c < 12 → VSN (upd N (9 + 20 * r + 2) x) W t c = VSN N W t c := by
  obtain ⟨h2, hn, h8, hW, h6, hk, h0, z2, z8, z6⟩ := cur_k hC
  have hu : ∀ f, f ≠ 9 + 20 * r + 2 → upd N (9 + 20 * r + 2) x f = N f := fun f hf => upd_ne hf
  have hs : ∀ t, t < n → upd N (9 + 20 * r + 2) x (9 + 20 * t + 2) = 0 → N (9 + 20 * t + 2) = 0 := fun t ht ho => by
    by_cases z : t = r
    · rw [z, upd_eq] at ho; exact absurd ho hx
    · rw [hu _ (by omega)] at ho; exact ho
  refine ⟨ABS_less (cu_ab hC.1) (hu _ (by omega)) (fun t ht => hu _ (by omega)) hs, TbS_same (cu_tb hC.1) (by omega) (fun f f1 _ => hu f (by omega)), inv_cg hI hn (by omega) (hu _ (by omega)) (fun f f1 _ => hu f (by omega)) (fun t f ht _ => hu _ (by omega)), fun t ht ho => ⟨hs t ht ho, fun c hc => VSN_cg (by omega) hW.1 (fun f f1 _ => hu f (by omega)) (hu _ (by omega))⟩⟩
theorem rm_cnt (hA : ABS M n kk P' mo' ow) (hT : TbS M V (fun _ _ => True) P' mo' va vx) (hV : V ≤ 64) : (rmD M n V V).2.2 ≤ 64 := by
  obtain ⟨vx1, t1, t2, t3, t4⟩ := rm_all hA hT hV
  omega
theorem sx_close (hC : CurR G 0 N n k W P mo ow vx) (hI : INV N n W put) (x : Int32) : OKS N put 0 (cloS N x) := by
  obtain ⟨h2, hn, h8, hW, h6, hk, h0, z2, z8, z6⟩ := cur_k hC
  unfold cloS
  rw [z2, z8]
  refine ok_rd hn (by decide) (fun r r1 _ => ?_)
  by_cases c2 : N (9 + 20 * r + 2) = 0
  · rw [if_pos c2]
    obtain ⟨a1, a2, a3, a4⟩ := up_leave (x := nI 2) hC hI r1 (by decide)
    have hb := rm_cnt a1 a2 (by omega)
    exact ok_a (nI_pos (by omega)) (step_rm z2 z8 a1 a2 (by omega) hW.1 a3 (by rw [upd_ne (by omega)]; exact h2) (by rw [upd_ne (by omega)]; exact h8) (Or.inl (upd_ne (by omega))) a4)
  · rw [if_neg c2]; exact ok_e (by decide)
theorem sx_commit (hC : CurR G 0 N n k W P mo ow vx) (hI : INV N n W put) (x : Int32) : OKS N put 0 (comS N x) := by
  obtain ⟨h2, hn, h8, hW, h6, hk, h0, z2, z8, z6⟩ := cur_k hC
  unfold comS
  rw [z2, z8, z6]
  refine ok_rd hn (by decide) (fun r r1 _ => ?_)
  by_cases c2 : N (9 + 20 * r + 2) = 0
  · rw [if_pos c2]
    by_cases c3 : cn (cfM N W r) 12 ≠ 0
    · rw [if_pos c3]; exact ok_e (by decide)
    rw [if_neg c3]
    by_cases c4 : ¬ N 7 = 0 ∧ ¬ nI (cn (ssM N r) k) ≤ 0
    · rw [if_pos c4]; exact ok_e (by decide)
    rw [if_neg c4]
    by_cases c5 : 52 < cmV N r k k n W
    · rw [if_pos c5]; exact ok_e (by decide)
    rw [if_neg c5]
    have hk40 : k < 40 := by
      have : opn N n ≠ 0 := cn_pos r1 (by rw [if_pos c2]; omega)
      have := hC.2.1.1
      omega
    have key : STEP N (cmN N r k k n W) put 0 ∧ ∃ m, m ≤ 41 ∧ cmN N r k k n W 0 = nI m := by
      unfold cmN
      by_cases e0 : N (9 + 20 * r + 4) = 0
      · have ec : cdN N r k k W = (upd N (9 + 20 * r + 2) (nI 1), W) := by unfold cdN; rw [if_pos e0]
        rw [ec]
        dsimp only
        obtain ⟨a1, a2, a3, a4⟩ := up_leave (x := nI 1) hC hI r1 (by decide)
        refine ⟨step_rm z2 z8 a1 a2 (by omega) hW.1 a3 (by rw [upd_ne (by omega)]; exact h2) (by rw [upd_ne (by omega)]; exact h8) (Or.inl (upd_ne (by omega))) a4, k, by omega, ?_⟩
        rw [(rm_inv a1 a2 (by omega) a3).2.1 0 (by omega) (by omega) (by omega), upd_ne (by omega)]
        exact h0
      · obtain ⟨l1, l2, l3, l4, l5, l6, l7, l8⟩ := land_N hC r1 hk40 e0
        have hcw : cw (N (9 + 20 * r + 4)) 12 ≤ 12 := cn_le (fun _ _ => by split <;> omega)
        have hu : ∀ f, f ≠ 0 → f ≠ 6 → f ≠ 8 → f ≠ 9 + 20 * r + 2 → f < 809 → (cdN N r k k W).1 f = N f := fun f f0 f6 f8 fr fl => by rw [l5 f f0 f6 f8 fl, upd_ne fr]
        have hst : ∀ t, t < n → (cdN N r k k W).1 (9 + 20 * t + 2) = 0 → N (9 + 20 * t + 2) = 0 := fun t ht ho => by
          by_cases z : t = r
          · rw [z, l5 _ (by omega) (by omega) (by omega) (by omega), upd_eq] at ho; exact absurd ho (by decide)
          · rw [hu _ (by omega) (by omega) (by omega) (by omega) (by omega)] at ho; exact ho
        have hIM : INV (cdN N r k k W).1 n (cdN N r k k W).2 put := by
          obtain ⟨⟨pu, pd, i1, i2⟩, ⟨q, q1, q2⟩, i5, i6⟩ := hI
          refine ⟨⟨pu, pd, fun s hs => ?_, i2⟩, ⟨q, q1, ?_⟩, fun v hv => ?_, fun s c hs hc hh => ?_⟩
          · rw [hu _ (by omega) (by omega) (by omega) (by omega) (by omega), hu _ (by omega) (by omega) (by omega) (by omega) (by omega)]; exact i1 s hs
          · rw [hu _ (by omega) (by omega) (by omega) (by omega) (by omega)]; exact q2
          · obtain ⟨c, p, g1, g2, -, rfl⟩ := l4.2 v hv
            obtain ⟨b1, b2, b3, b4⟩ := l4.1 c p g1 g2 trivial
            rw [b4]
            unfold vaL
            by_cases w : hw (N (9 + 20 * r + 4)) c
            · rw [if_pos w]
              by_cases w0 : p = 0
              · rw [if_pos w0]; exact i6 r c r1 g1 w
              · rw [if_neg w0]
                have hp : p - 1 < P c := by unfold PL at g2; rw [if_pos w] at g2; omega
                obtain ⟨d1, d2, d3, d4⟩ := (cu_tb hC.1).1 c (p - 1) g1 hp trivial
                rw [← d4]
                exact i5 _ d1
            · rw [if_neg w]
              have hp : p < P c := by unfold PL at g2; rw [if_neg w] at g2; exact g2
              obtain ⟨d1, d2, d3, d4⟩ := (cu_tb hC.1).1 c p g1 hp trivial
              rw [← d4]
              exact i5 _ d1
          · rw [hu _ (by omega) (by omega) (by omega) (by omega) (by omega)] at hh
            rw [hu _ (by omega) (by omega) (by omega) (by omega) (by omega)]
            exact i6 s c hs hc hh
        have hsee : ∀ t, t < n → (cdN N r k k W).1 (9 + 20 * t + 2) = 0 → N (9 + 20 * t + 2) = 0 ∧ ∀ c, c < 12 → VSN (cdN N r k k W).1 (cdN N r k k W).2 t c = VSN N W t c := fun t ht ho => by
          have ho2 := hst t ht ho
          refine ⟨ho2, fun c hc => ?_⟩
          rw [vsn_at l3 l4 (fun _ _ _ => trivial) ht ho hc rfl, vsn_at (cu_ab hC.1) (cu_tb hC.1) (fun _ _ _ => trivial) ht ho2 hc rfl]
          have hle := ((cu_ab hC.1).2.2.2.2.1 t ht).2
          unfold PL vaL
          by_cases w : hw (N (9 + 20 * r + 4)) c
          · rw [if_pos w, if_pos w, fq_up (k := k) (o := ow t) c (mo := mo) rfl w hle, if_neg (by omega), Nat.add_sub_cancel]
          · have em : moL (N (9 + 20 * r + 4)) k mo c = mo c := by funext p; unfold moL; rw [if_neg w]
            rw [if_neg w, if_neg w, em]
        have m2 : (cdN N r k k W).1 2 = nI n := by rw [hu _ (by omega) (by omega) (by omega) (by omega) (by omega)]; exact h2
        have m0 : (cdN N r k k W).1 0 = nI (k + 1) := l3.2.1
        refine ⟨step_rm z2 z8 l3 l4 (by omega) (by omega) hIM m2 l2 (Or.inr (by rw [m0, h0, nI_add])) hsee, k + 1, by omega, ?_⟩
        rw [(rm_inv l3 l4 (by omega) hIM).2.1 0 (by omega) (by omega) (by omega)]
        exact m0
    obtain ⟨ks, m, m1, m2⟩ := key
    exact ok_a (by rw [m2]; exact nI_pos (by omega)) ks
  · rw [if_neg c2]; exact ok_e (by decide)
end LEAV

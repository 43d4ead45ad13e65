/-! Rows of the law's own frame: an int of the script or a made one; what is seen goes into the law's row. -/
def scF (xs : Nat → Int32) (L k : Nat) : Int32 := if k < L then xs k else 763049417 * (nI k + nI 3)
set_option maxHeartbeats 1000000 in
theorem c_L_cell (l : Launch) {D : va_G} {τ : Nat → ClassId} {ad : Nat → Nat} {G : Nat → Nat → Int32} {b L k : Nat} {xs : Nat → Int32} (hk : k < 1000) (hL : L ≤ 260) (hbA : ¬ kAd ad b) : Met l yL_cell (Cond.code yL_cell cL_cell 2 (some .int) :: kWs) { frames := 0, cells := 0, slots := 0, locals := 0 } (va_Pc [.ref b, .int (nI k)] (fun U => kI D τ ad G U ∧ va_X b L xs U U.heap ∧ b < U.heap.size)) (va_Qi (fun v G' => v = scF xs L k ∧ G' = G) (fun G' t => kI D τ ad G' t) (kAd ad)) 0 0 (kAd ad) := by
  refine Met.ofW (cc := cL_cell) (maxL := 2) (ret := some .int) (by decide) rfl ?_
  intro p e s m args below meth c s₁ B hml hv
  obtain ⟨rfl, ⟨hP, hK, hN⟩, hX, hbl⟩ := hv
  have hts := atoms_spec (ws := Cond.code yL_cell cL_cell 2 (some .int) :: kWs) B.pre
  have hts' : ∀ w ∈ kWs, w.before _ s = true := fun w hw => hts w (List.mem_cons_of_mem _ hw)
  have hown : s.vm.findClass yL_cell.cls = some m.cls := findClass_of_methodNamed B.named
  have hown : s.vm.findClass RL = some m.cls := hown
  have hl := lv_entry [.ref b, .int (nI k)] (n := 2) (Nat.le_of_ble_eq_true rfl)
  rw [lg_entry_eq]
  have hx := B.exec
  have hb := B.bytes
  have hS : va_S (kAd ad) s.heap s.heap [] := va_S.rf
  have walk : ∀ (rm : Room) (Q : State → Prop) (args : Array Value), (∀ w ∈ kWs, w.before args s = true) → (∀ (ls : Array Slot) (v : Int32), v = scF xs L k → W p l e rm s m args below meth c s.heap [] 0 0 Q (F0 m 18 ls [.int v])) → ∀ ls : Array Slot, lv_has ls 2 [(0, .ref b), (1, .int (nI k))] → W p l e rm s m args below meth c s.heap [] 0 0 Q (F0 m 0 ls []) := by
    intro rm Q args hts' fin ls hl
    refine lv_iload_n hx hb dL_cell_0 rfl (lv_at hl 1 rfl) ?_
    refine lv_aload_n hx hb dL_cell_1 rfl (lv_at hl 0 rfl) ?_
    refine va_slen hx hb hX hbl hbA hS dL_cell_2 ?_
    refine kic_ge (tgt := 12) (a := k) (b := L) hx hb dL_cell_3 (by decide) rfl rfl (by omega) (by omega) (fun c_3 => ?_) (fun c_3 => ?_)
    · refine lv_ldc (own := RL) (index := 7) (v := 763049417) hx hb hown (hts' _ (kWs_of 333 (by decide +kernel) rfl)) dL_cell_12 ?_
      refine lv_iload_n hx hb dL_cell_14 rfl (lv_at hl 1 rfl) ?_
      refine lv_iconst (v := nI 3) hx hb dL_cell_15 (by decide) ?_
      refine lv_iadd hx hb dL_cell_16 ?_
      refine lv_imul hx hb dL_cell_17 ?_
      exact fin ls _ (by unfold scF; rw [if_neg (by omega)])
    · refine lv_aload_n hx hb dL_cell_6 rfl (lv_at hl 0 rfl) ?_
      refine lv_iload_n hx hb dL_cell_7 rfl (lv_at hl 1 rfl) ?_
      refine va_sld hx hb hX hbl hbA hS (vp_in_nI c_3 (by omega)) dL_cell_8 ?_
      rw [nI_clamp (by omega)]
      refine lv_goto (tgt := 18) hx hb dL_cell_9 (by decide) ?_
      exact fin ls _ (by unfold scF; rw [if_pos c_3])
  exact walk _ _ _ hts' (fun ls v hv => W.iret B.exec B.bytes B.returns (fun t ht hW => ⟨⟨v, G, rfl, ⟨hv, rfl⟩, kI_at hP hK hN ht hW⟩, hS.F ht⟩) hS.2.2 dL_cell_18 (hlocks := B.notSynchronized)) _ hl
section LFR
variable {p : Program} {l : Launch} {e : Env} {R : Room} {s : State} {m : MethodId} {args : Array Value} {below : List Frame} {meth : Method} {c : Code} {H : Heap} {locs : List Loc} {cells slots : Nat} {Q : State → Prop}
variable {cc : ByteArray} {pc : Nat} {ls : Array Slot} {rest : List Value} {D : va_G} {τ : Nat → ClassId} {ad : Nat → Nat} {G : Nat → Nat → Int32} {nL : Nat} {A : Nat → Prop}
theorem kcX (X : kC p s m c cc nL args RL D τ) {b L k : Nat} {xs : Nat → Int32} (hX : va_X b L xs s s.heap) (hbl : b < s.heap.size) (hbA : ¬ A b) (hL : L ≤ 260) (hk : k < 1000) (hP : va_P D vwCl (kW τ ad G) H) (hS : va_S A s.heap H locs) (hA : ∀ q, kAd ad q → A q) (hR : 1 ≤ R.frames ∧ 21 ≤ R.locals) (hcat : (rest.map fun v => v.category).sum ≤ 8) (hls : ls.size = nL) (hf : cells ≤ R.cells ∧ slots ≤ R.slots) (hdg : decode cc pc = .ok (.invokestatic 86, 3))
    (kk : ∀ (H1 : Heap) (locs1 : List Loc), va_P D vwCl (kW τ ad G) H1 → va_S A s.heap H1 locs1 → W p l e R s m args below meth c H1 locs1 cells slots Q (F0 m (pc + 3) ls (.int (scF xs L k) :: rest))) : W p l e R s m args below meth c H locs cells slots Q (F0 m pc ls (.int (nI k) :: .ref b :: rest)) := by
  obtain ⟨hx, hb, hml, hown, hts, hK, hnw⟩ := X
  obtain ⟨w1, w2, w4, w5, wy⟩ := v_L_86
  have hGI : GoodIn kWs (wsS RL 86 yL_cell (Cond.code yL_cell cL_cell 2 (some .int) :: kWs)) := goodIn_app (fun w hw => by
    simp only [List.mem_cons, List.not_mem_nil, or_false] at hw
    rcases hw with rfl | rfl | rfl
    · exact ws_ok w1
    · exact ws_ok w2
    · exact ws_ok w4) (ws_G w5)
  have hM := c_L_cell l (D := D) (τ := τ) (G := G) (xs := xs) hk hL (fun z => hbA (hA _ z))
  refine va_calli (va_runS (As := [.ref b, .int (nI k)]) (rest := rest) ⟨hx, hb, hml, hown, hts⟩ hM (cwS 2 hts hGI rfl rfl rfl wy ⟨hR.1, by have := hR.2; exact this⟩) ⟨fun a U g mk h => ?_, fun U hU hW => ⟨rfl, kI_at hP hK hnw hU hW, ?_, ?_⟩⟩ rfl rfl hls rfl (lv_room hcat) hdg hf) hS (fun q _ h => hA q h) hA (fun r u t H1 locs1 ht hvm hp hB hz hk1 hS1 => ?_)
  · obtain ⟨h0, ⟨h1, h2, h3⟩, h4, h5⟩ := h
    exact ⟨h0, ⟨h1, va_K.moved (u := U) (U := U.calling g mk a) (Vm.Alike.refl U.vm) h2, kNw_vm (s := U) (U := U.calling g mk a) rfl h3⟩, va_X.moved (u := U) (U := U.calling g mk a) (Vm.Alike.refl U.vm) h4, h5⟩
  · rw [hU]
    exact va_X.moved hW.alike (hX.kept (hS.2.1 b hbl hbA))
  · rw [hU]
    exact Nat.lt_of_lt_of_le hbl hS.1
  · obtain ⟨b1, b2, b3⟩ := hB
    obtain ⟨rfl, rfl⟩ := hp
    rw [ht] at b1
    exact kk H1 locs1 b1 hS1
/-- iastore into the law's row -/
theorem kiastA {own : String} (X : kC p s m c cc nL args own D τ) (hI : kInj ad) (hA : ∀ q, kAd ad q → A q) (hP : va_P D vwCl (kW τ ad G) H) (hS : va_S A s.heap H locs) {k n i : Nat} {x : Int32} (ha : kAr τ ad k 0 .int n) (hi : i < n) (hdg : decode cc pc = .ok (.iastore, 1))
    (kk : ∀ (H1 : Heap) (locs1 : List Loc), va_P D vwCl (kW τ ad (gs G k i x)) H1 → va_S A s.heap H1 locs1 → W p l e R s m args below meth c H1 locs1 cells slots Q (F0 m (pc + 1) ls rest)) : W p l e R s m args below meth c H locs cells slots Q (F0 m pc ls (.int x :: .int (nI i) :: .ref (ad k) :: rest)) := by
  obtain ⟨hx, hb, -, hown, hts, hK, hnw⟩ := X
  obtain ⟨hk, hn, cA, ht, hE⟩ := ha
  obtain ⟨h1, h2⟩ := nI_in32 hi hn
  refine va_iast hx hb hK hP ((kW_D hI).weaken (fun k x _ h => hA _ h)) hS (kpos k) 0 ((kW_get hk).trans (by rw [hE])) ht h1 hdg (fun H1 locs1 h3 _ h5 => ?_)
  rw [h2, kW_set (G' := gs G k i x) hk (by rw [hE, gs_up]) (fun i hi => gs_other hi)] at h3
  exact kk H1 locs1 h3 h5
end LFR
theorem rln_g {G G1 : Nat → Nat → Int32} {N : Nat → Int32} {L : Nat} {Hs : Nat → Nat → Int32} (h : RLN G N L Hs) (hg : ∀ q, q ≠ 0 → G1 q = G q) : RLN G1 N L Hs := by
  obtain ⟨hE, pi, a1, a2, a3, a4, a5⟩ := h
  refine ⟨curE_g hE (fun o ho => hg _ (by unfold sB; omega)), pi, ?_, a2, fun t ht => ?_, a4, fun t ht => ?_⟩
  · rw [hg 8 (by omega)]; exact a1
  · rw [hg 9 (by omega)]; exact a3 t ht
  · exact curE_g (a5 t ht) (fun o ho => hg _ (by unfold sB; omega))
theorem rln_0 {G : Nat → Nat → Int32} {N : Nat → Int32} {L : Nat} {Hs : Nat → Nat → Int32} (h : RLN G N L Hs) : ∃ k, N 0 = nI k ∧ k ≤ 40 := by
  obtain ⟨⟨n, k, W, P, mo, ow, vx, hC⟩, -⟩ := h
  obtain ⟨h2, hn, h8, hW, h6, hk, h0, z2, z8, z6⟩ := cur_k hC
  exact ⟨k, h0, hk⟩

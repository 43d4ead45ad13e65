/-! Rows of the law's own frame. -/
section LAWR
variable {p : Program} {l : Launch} {e : Env} {R : Room} {s : State} {m : MethodId} {args : Array Value} {below : List Frame} {meth : Method} {c : Code} {H : Heap} {locs : List Loc} {cells slots : Nat} {Q : State → Prop}
variable {cc : ByteArray} {pc : Nat} {ls : Array Slot} {rest : List Value} {D : va_G} {τ : Nat → ClassId} {ad : Nat → Nat} {G : Nat → Nat → Int32} {own : String} {nL : Nat} {A : Nat → Prop}
theorem kcVA (X : kC p s m c cc nL args own D τ) (hP : va_P D vwCl (kW τ ad G) H) (hS : va_S A s.heap H locs) (hA : ∀ q, kAd ad q → A q) {y : MethodName} {bytes : ByteArray} {maxL n index : Nat} {ret : Option FieldType} {rm : Room} {As st : List Value} {R1 : Int32 → (Nat → Nat → Int32) → Prop} {k ci : Nat} {C : String} {T : u_T} {N : Nat} {F : (Nat → Int32) → List Value}
    (hM : kM l y bytes maxL ret rm D τ ad (.ref (ad k) :: As) G R1) (ho : kO τ ad k ci C T N F) (hw : kV own index C y bytes maxL ret n) (hR : kF rm R maxL) (hn : As.length = n) (hst : st = As.reverse ++ .ref (ad k) :: rest) (hcat : (rest.map fun v => v.category).sum ≤ 8) (hls : ls.size = nL) (hf : cells ≤ R.cells ∧ slots ≤ R.slots) (hdg : decode cc pc = .ok (.invokevirtual index, 3))
    (kk : ∀ (r : Int32) (G1 : Nat → Nat → Int32) (H1 : Heap) (locs1 : List Loc), R1 r G1 → va_P D vwCl (kW τ ad G1) H1 → va_S A s.heap H1 locs1 → W p l e R s m args below meth c H1 locs1 cells slots Q (F0 m (pc + 3) ls (.int r :: rest))) : W p l e R s m args below meth c H locs cells slots Q (F0 m pc ls st) := by
  obtain ⟨hx, hb, hml, hown, hts, hK, hnw⟩ := X
  obtain ⟨hk, hc, hE⟩ := ho
  obtain ⟨w1, w2, w3, w4, w5, wy⟩ := hw
  obtain ⟨r1, r2, r3, r4⟩ := hR
  subst hst
  have he : (kW τ ad G)[k]? = some (ad k, .inr (ci, F (G k))) := (kW_get hk).trans (by rw [hE])
  have hGI : GoodIn kWs (wsV own index C y (Cond.code y bytes maxL ret :: kWs)) := goodIn_app (fun w hw => by
    simp only [List.mem_cons, List.not_mem_nil, or_false] at hw
    rcases hw with rfl | rfl | rfl | rfl
    · exact ws_ok w1
    · exact ws_ok w2
    · exact ws_ok w3
    · exact ws_ok w4) (ws_G w5)
  refine va_calli (va_runV (As := As) (rest := rest) ⟨hx, hb, hml, hown, hts⟩ hM (cwV n hts hGI rfl r3 r4 wy ⟨r1, r2⟩) ⟨kI_blind, va_recv hK hP hc he, fun U hU hW => ⟨rfl, kI_at hP hK hnw hU hW⟩⟩ rfl hn hls rfl (lv_room hcat) hdg hf) hS (fun q _ h => hA q h) hA (fun r u t H1 locs1 ht hvm hp hB hz hk1 hS1 => ?_)
  obtain ⟨b1, b2, b3⟩ := hB
  rw [ht] at b1
  exact kk r u H1 locs1 hp b1 hS1
/-- an int of the script -/
theorem kscr (hx : p.tables.exec = Jvm.exec) (hb : c.code = cc) {b L i k : Nat} {xs : Nat → Int32} (hX : va_X b L xs s s.heap) (hbl : b < s.heap.size) (hbA : ¬ A b) (hS : va_S A s.heap H locs) (hi : i + k < L) (hL : L ≤ 2048) (hl : lv_has ls 4 [(0, .ref b), (3, .int (nI i))]) {n : Int} (hn : Int32.ofInt n = nI k) (d0 : decode cc pc = .ok (.aload_n 0, 1)) (d1 : decode cc (pc + 1) = .ok (.iload_n 3, 1)) (d2 : decode cc (pc + 2) = .ok (.iconst n, 1)) (d3 : decode cc (pc + 3) = .ok (.iadd, 1)) (d4 : decode cc (pc + 4) = .ok (.iaload, 1))
    (kk : W p l e R s m args below meth c H locs cells slots Q (F0 m (pc + 5) ls (.int (xs (i + k)) :: rest))) : W p l e R s m args below meth c H locs cells slots Q (F0 m pc ls rest) := by
  refine lv_aload_n hx hb d0 rfl (lv_at hl 0 rfl) ?_
  refine lv_iload_n hx hb d1 rfl (lv_at hl 1 rfl) ?_
  refine lv_iconst (v := nI k) hx hb d2 hn ?_
  refine kadd hx hb d3 rfl rfl ?_
  refine va_sld hx hb hX hbl hbA hS (vp_in_nI hi (by omega)) d4 ?_
  rw [nI_clamp (by omega)]
  exact kk
end LAWR

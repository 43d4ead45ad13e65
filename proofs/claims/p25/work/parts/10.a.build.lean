/-! Worlds that grow: objects in the order in which they are made. -/
def gW (K : Nat) (b : Nat → Nat) (e : Nat → va_E) : va_W := (List.range K).map (fun k => (b k, e k))
theorem gW_get {K : Nat} {b : Nat → Nat} {e : Nat → va_E} {k : Nat} (h : k < K) : (gW K b e)[k]? = some (b k, e k) := by
  unfold gW
  rw [List.getElem?_map, List.getElem?_range h]
  rfl
theorem gW_len (K : Nat) (b : Nat → Nat) (e : Nat → va_E) : (gW K b e).length = K := by unfold gW; simp
theorem gW_none {K : Nat} {b : Nat → Nat} {e : Nat → va_E} {k : Nat} (h : K ≤ k) : (gW K b e)[k]? = none := List.getElem?_eq_none (by rw [gW_len]; exact h)
theorem gW_cg {K : Nat} {b b' : Nat → Nat} {e e' : Nat → va_E} (h : ∀ k, k < K → b k = b' k ∧ e k = e' k) : gW K b e = gW K b' e' := by
  unfold gW
  exact List.map_congr_left (fun k hk => by rw [(h k (List.mem_range.mp hk)).1, (h k (List.mem_range.mp hk)).2])
theorem gW_app (K M : Nat) (b b' : Nat → Nat) (e e' : Nat → va_E) : gW K b e ++ gW M b' e' = gW (K + M) (fun k => if k < K then b k else b' (k - K)) (fun k => if k < K then e k else e' (k - K)) := by
  apply List.ext_getElem?
  intro i
  by_cases h : i < K
  · rw [List.getElem?_append_left (by rw [gW_len]; exact h), gW_get h, gW_get (by omega), if_pos h, if_pos h]
  · rw [List.getElem?_append_right (by rw [gW_len]; omega), gW_len]
    by_cases h2 : i < K + M
    · rw [gW_get (by omega), gW_get h2, if_neg h, if_neg h]
    · rw [gW_none (by omega), gW_none (by omega)]
theorem gW_push (K : Nat) (b : Nat → Nat) (e : Nat → va_E) (q : Nat) (x : va_E) : gW K b e ++ [(q, x)] = gW (K + 1) (fun k => if k < K then b k else q) (fun k => if k < K then e k else x) := gW_app K 1 b (fun _ => q) e (fun _ => x)
theorem gW_set {K : Nat} {b : Nat → Nat} {e : Nat → va_E} {k : Nat} {x : va_E} (h : k < K) : (gW K b e).set k (b k, x) = gW K b (fun i => if i = k then x else e i) := by
  apply List.ext_getElem?
  intro i
  by_cases hik : i = k
  · subst hik
    rw [gW_get h, List.getElem?_set_self (by rw [gW_len]; exact h), if_pos rfl]
  · rw [List.getElem?_set_ne (Ne.symm hik)]
    by_cases hi : i < K
    · rw [gW_get hi, gW_get hi, if_neg hik]
    · rw [gW_none (by omega), gW_none (by omega)]
/-- the arrays' classes stand -/
def nAO (U : State) : Prop := va_AO "RentedMoments$Cell" U ∧ va_AO "RentedMoments$Reader" U ∧ va_AO "RentedMoments$Commit" U ∧ va_AO "RentedMoments$State" U
theorem nAO_m {u U : State} (h : u.vm.Alike U.vm) (q : nAO u) : nAO U := ⟨q.1.moved h, q.2.1.moved h, q.2.2.1.moved h, q.2.2.2.moved h⟩
def nP (D : va_G) (τ : Nat → ClassId) (ws : va_W) (sz : Nat) (U : State) : Prop := U.heap.size = sz ∧ va_P D vwCl ws U.heap ∧ va_K D vwCl (kT τ) U ∧ va_D (fun _ => True) ws ∧ (∀ w ∈ kNw, va_Nw w U) ∧ nAO U
/-- a constructor's contract: one object, then M -/
def kNc (l : Launch) (y : MethodName) (bytes : ByteArray) (maxL : Nat) (rm : Room) (D : va_G) (τ : Nat → ClassId) (h : Nat) (e0 : va_E) (M : Nat) (E : (Nat → Nat) → Nat → va_E) : Prop :=
  ∀ sz : Nat, Met l y (Cond.code y bytes maxL none :: kWs) rm (va_Pc [.ref h] (nP D τ [(h, e0)] sz)) (va_Qv (fun b : Nat → Nat => b 0 = h) (fun b t => va_P D vwCl (gW M b (E b)) t.heap ∧ va_D (va_A [(h, e0)] sz) (gW M b (E b))) (va_A [(h, e0)] sz)) rm.cells rm.slots (va_A [(h, e0)] sz)
theorem nP_blind {D : va_G} {τ : Nat → ClassId} {ws : va_W} {sz : Nat} {As : List Value} : FrameBlind (va_Pc As (nP D τ ws sz)) := by
  intro a U g mk h
  obtain ⟨h0, h1, h2, h3, h4, h5, h6⟩ := h
  exact ⟨h0, h1, h2, va_K.moved (u := U) (U := U.calling g mk a) (Vm.Alike.refl U.vm) h3, h4, kNw_vm (s := U) (U := U.calling g mk a) rfl h5, nAO_m (u := U) (U := U.calling g mk a) (Vm.Alike.refl U.vm) h6⟩
/-- what comes back beside the rest -/
theorem gjoin {A : Nat → Prop} {D : va_G} {cl : List vw_C} {wr w1 : va_W} {q : Nat} {e0 : va_E} {H H1 : Heap} (hP : va_P D cl (wr ++ [(q, e0)]) H) (hD : va_D A (wr ++ [(q, e0)])) (hk : ∀ x : Nat, x < H.size → ¬ va_A [(q, e0)] H.size x → H1[x]? = H[x]?) (hF : ∀ x, va_A [(q, e0)] H.size x → A x) (hP1 : va_P D cl w1 H1) (hD1 : va_D (va_A [(q, e0)] H.size) w1) : va_P D cl (wr ++ w1) H1 ∧ va_D A (wr ++ w1) := by
  have hq : (wr ++ [(q, e0)])[wr.length]? = some (q, e0) := by simp
  have up : ∀ (k : Nat) (x : Nat × va_E), wr[k]? = some x → (wr ++ [(q, e0)])[k]? = some x := fun k x hx => by
    rw [List.getElem?_append_left (List.getElem?_eq_some_iff.mp hx).1]; exact hx
  have apart : ∀ (k : Nat) (x : Nat × va_E), wr[k]? = some x → x.1 < H.size ∧ ¬ va_A [(q, e0)] H.size x.1 := by
    intro k x hx
    have hl := (hP k x (up k x hx)).lt
    refine ⟨hl, fun h => ?_⟩
    rcases h with ⟨j, e, h⟩ | h
    · have hj : j < 1 := (List.getElem?_eq_some_iff.mp h).1
      rw [show j = 0 by omega] at h
      cases h
      have := hD.1 k wr.length x _ (up k x hx) hq rfl
      have := (List.getElem?_eq_some_iff.mp hx).1
      omega
    · omega
  refine ⟨va_P.app (fun k x hx => ?_) hP1, va_D.app ⟨fun i j x z hi hj hxz => hD.1 i j x z (up i x hi) (up j z hj) hxz, fun k x hx => hD.2 k x (up k x hx)⟩ (hD1.weaken (fun k x _ h => hF x.1 h)) (fun i j x z hx hz hxz => ?_)⟩
  · obtain ⟨g1, g2⟩ := apart k x hx
    exact (hP k x (up k x hx)).kept (hk x.1 g1 g2)
  · exact (apart i x hx).2 (by rw [hxz]; exact hD1.2 j z hz)
theorem kT_is {D : va_G} {τ : Nat → ClassId} {s : State} {cA c0 : ClassId} {ty : FieldType} {t : Nat} (hK : va_K D vwCl (kT τ) s) (ht : (kT τ)[t]? = some (c0, ty)) (hK1 : va_K D vwCl (kT τ ++ [(cA, ty)]) s) : cA = c0 := by
  have h1 := (hK.2 t _ ht).2
  have h2 := (hK1.2 6 (cA, ty) rfl).2
  have two : ∀ {S : String}, s.vm.findClass S = some cA → s.vm.findClass S = some c0 → cA = c0 := fun a b => Option.some.inj (a.symm.trans b)
  cases ty with
  | object C =>
    obtain ⟨_, _, _, _, _, x⟩ := h1
    obtain ⟨_, _, _, _, _, z⟩ := h2
    exact two z x
  | _ => exact two h2 h1
section KBR
variable {p : Program} {l : Launch} {e : Env} {R : Room} {s : State} {m : MethodId} {args : Array Value} {below : List Frame} {meth : Method} {c : Code} {H : Heap} {locs : List Loc} {cells slots : Nat} {Q : State → Prop}
variable {cc : ByteArray} {pc : Nat} {ls : Array Slot} {rest : List Value} {D : va_G} {τ : Nat → ClassId} {own : String} {nL : Nat} {ws : va_W} {A : Nat → Prop}
theorem bobj (X : kC p s m c cc nL args own D τ) {index : Nat} (hw : Cond.methodLink own index Lib.objectInit ∈ kWs ∧ Cond.instanceMethod Lib.objectInit ∈ kWs ∧ Cond.code Lib.objectInit ⟨#[0xb1]⟩ 1 none ∈ kWs) {a : Nat} (hls : ls.size = nL) (hdg : decode cc pc = .ok (.invokespecial index, 3)) (hR : 1 ≤ R.frames ∧ 12 ≤ R.locals)
    (kk : W p l e R s m args below meth c H locs cells slots Q (F0 m (pc + 3) ls [])) : W p l e R s m args below meth c H locs cells slots Q (F0 m pc ls [.ref a]) := by
  obtain ⟨hx, hb, hml, hown, hts, hK, hnw⟩ := X
  refine W.objInit hx hb hown (hts _ hw.1) (hts _ hw.2.1) (hts _ hw.2.2) rfl (by rw [hml]; exact hls) rfl hdg hR.1 hR.2 ?_
  exact W.eq (g2 := F0 m (pc + 3) ls []) rfl kk
theorem bnewI (X : kC p s m c cc nL args own D τ) (hP : va_P D vwCl ws H) (hD : va_D A ws) (hS : va_S A s.heap H locs) (hA : ∀ q, s.heap.size ≤ q → A q) {N : Nat} (hw : Cond.arrayClass .int ∈ kWs) (hN : N ≤ 10000) (hc : cells + 1 ≤ R.cells) (hs : slots + N ≤ R.slots) (hdg : decode cc pc = .ok (.newarray .int, 2))
    (kk : ∀ (q : Nat) (H1 : Heap), va_P D vwCl (ws ++ [(q, .inl (τ 0, N, .inl (fun _ => 0)))]) H1 → va_D A (ws ++ [(q, .inl (τ 0, N, .inl (fun _ => 0)))]) → va_S A s.heap H1 locs → W p l e R s m args below meth c H1 locs (cells + 1) (slots + N) Q (F0 m (pc + 2) ls (.ref q :: rest))) : W p l e R s m args below meth c H locs cells slots Q (F0 m pc ls (.int (nI N) :: rest)) := by
  obtain ⟨hx, hb, hml, hown, hts, hK, hnw⟩ := X
  refine va_newa (atype := .int) (ty := .int) (N' := N) (a0 := (N, .inl (fun _ => 0))) hx hb (hts _ hw) rfl hK hP hD hS hA (fun cA => rfl) (nI_pos (by omega)) (nI_clamp (by omega)) (by show N * 4 ≤ 536870912; omega) hc hs hdg (fun q cA H1 hK1 h1 h2 h3 => ?_)
  have e1 := kT_is (t := 0) hK rfl hK1
  subst e1
  exact kk q H1 h1 h2 h3
theorem bnewC (X : kC p s m c cc nL args own D τ) (hP : va_P D vwCl ws H) (hD : va_D A ws) (hS : va_S A s.heap H locs) (hA : ∀ q, s.heap.size ≤ q → A q) {N : Nat} (hw : Cond.arrayClass .char ∈ kWs) (hN : N ≤ 10000) (hc : cells + 1 ≤ R.cells) (hs : slots + N ≤ R.slots) (hdg : decode cc pc = .ok (.newarray .char, 2))
    (kk : ∀ (q : Nat) (H1 : Heap), va_P D vwCl (ws ++ [(q, .inl (τ 1, N, .inl (fun _ => 0)))]) H1 → va_D A (ws ++ [(q, .inl (τ 1, N, .inl (fun _ => 0)))]) → va_S A s.heap H1 locs → W p l e R s m args below meth c H1 locs (cells + 1) (slots + N) Q (F0 m (pc + 2) ls (.ref q :: rest))) : W p l e R s m args below meth c H locs cells slots Q (F0 m pc ls (.int (nI N) :: rest)) := by
  obtain ⟨hx, hb, hml, hown, hts, hK, hnw⟩ := X
  refine va_newa (atype := .char) (ty := .char) (N' := N) (a0 := (N, .inl (fun _ => 0))) hx hb (hts _ hw) rfl hK hP hD hS hA (fun cA => rfl) (nI_pos (by omega)) (nI_clamp (by omega)) (by show N * 2 ≤ 536870912; omega) hc hs hdg (fun q cA H1 hK1 h1 h2 h3 => ?_)
  have e1 := kT_is (t := 1) hK rfl hK1
  subst e1
  exact kk q H1 h1 h2 h3
theorem bnewQ (X : kC p s m c cc nL args own D τ) (hP : va_P D vwCl ws H) (hD : va_D A ws) (hS : va_S A s.heap H locs) (hA : ∀ q, s.heap.size ≤ q → A q) {N t index : Nat} {C : String} {c0 : ClassId} (ht : (kT τ)[t]? = some (c0, .object C)) (ho : va_AO C s) (hw : Cond.classLink own index C ∈ kWs) (hN : N ≤ 10000) (hc : cells + 1 ≤ R.cells) (hs : slots + N ≤ R.slots) (hdg : decode cc pc = .ok (.anewarray index, 3))
    (kk : ∀ (q : Nat) (H1 : Heap), va_P D vwCl (ws ++ [(q, .inl (c0, N, .inr (.inr (.inr (.inr (fun _ => none))))))]) H1 → va_D A (ws ++ [(q, .inl (c0, N, .inr (.inr (.inr (.inr (fun _ => none))))))]) → va_S A s.heap H1 locs → W p l e R s m args below meth c H1 locs (cells + 1) (slots + N) Q (F0 m (pc + 3) ls (.ref q :: rest))) : W p l e R s m args below meth c H locs cells slots Q (F0 m pc ls (.int (nI N) :: rest)) := by
  obtain ⟨hx, hb, hml, hown, hts, hK, hnw⟩ := X
  refine va_newq (N' := N) hx hb hown (hts _ hw) ho hK hP hD hS hA (nI_pos (by omega)) (nI_clamp (by omega)) (by omega) hc hs hdg (fun q cA H1 hK1 h1 h2 h3 => ?_)
  have e1 := kT_is hK ht hK1
  subst e1
  exact kk q H1 h1 h2 h3
theorem bnew (X : kC p s m c cc nL args own D τ) (hP : va_P D vwCl ws H) (hD : va_D A ws) (hS : va_S A s.heap H locs) (hA : ∀ q, s.heap.size ≤ q → A q) {ci N index : Nat} {C : String} {T : u_T} (hcl : vwCl[ci]? = some (C, T, N)) (hin : ∀ w ∈ u_ws C T N, w ∈ kWs) (ty : Nat → FieldType) (hty : ∀ k, k < N → parseFieldDescriptor (T k).2.2.1 = some (ty k)) (hw : Cond.classLink own index C ∈ kWs ∧ Cond.instantiable C N ∈ kWs ∧ Cond.initialized C ∈ kWs) (fs : List Value) (hfs : ∀ j, j < N → defaultValue (ty j) = vp_V fs j) (hc : cells + 1 ≤ R.cells) (hs : slots + N ≤ R.slots) (hdg : decode cc pc = .ok (.new index, 3))
    (kk : ∀ (q : Nat) (H1 : Heap), va_P D vwCl (ws ++ [(q, .inr (ci, fs))]) H1 → va_D A (ws ++ [(q, .inr (ci, fs))]) → va_S A s.heap H1 locs → W p l e R s m args below meth c H1 locs (cells + 1) (slots + N) Q (F0 m (pc + 3) ls (.ref q :: rest))) : W p l e R s m args below meth c H locs cells slots Q (F0 m pc ls rest) := by
  obtain ⟨hx, hb, hml, hown, hts, hK, hnw⟩ := X
  exact va_new hx hb hts hin ty hty hown (hts _ hw.1) (hts _ hw.2.1) (hts _ hw.2.2) hK hP hD hS hA hcl hfs hc hs hdg kk
/-- a final field, in a constructor -/
theorem bputF (X : kC p s m c cc nL args own D τ) (hP : va_P D vwCl ws H) (hD : va_D A ws) (hS : va_S A s.heap H locs) (q0 : Nat) {ci N index f a : Nat} {C : String} {T : u_T} {ty : Nat → FieldType} {fs : List Value} (he : ws[q0]? = some (a, .inr (ci, fs))) (hcl : vwCl[ci]? = some (C, T, N)) (hl : kL own index C T N ty f) (hw : Cond.fieldLink own index C (T f).2.1 (T f).2.2.1 ∈ kWs) (hown2 : (T f).1 = own) (hfin : (T f).2.2.2 = true) (hin2 : meth.name = "<init>") {v : Value} (hn : narrow (ty f) v = v) (hfit : fits (ty f) v = true) (hlen : f < fs.length) (hdg : decode cc pc = .ok (.putfield index, 3))
    (kk : ∀ (H1 : Heap) (locs1 : List Loc), va_P D vwCl (ws.set q0 (a, .inr (ci, fs.set f v))) H1 → va_D A (ws.set q0 (a, .inr (ci, fs.set f v))) → va_S A s.heap H1 locs1 → W p l e R s m args below meth c H1 locs1 cells slots Q (F0 m (pc + 3) ls rest)) : W p l e R s m args below meth c H locs cells slots Q (F0 m pc ls (v :: .ref a :: rest)) := by
  obtain ⟨hx, hb, -, hown, hts, hK, hnw⟩ := X
  obtain ⟨hf, hin, hty, hnm, href, -⟩ := hl
  exact va_putF hx hb hts hin ty hty hnm hown hK hP hD hS q0 he hcl f hf (hts _ hw) (fun x h => by rw [href] at h; exact h) hfin hin2 hown2 (hty f hf) hn hfit hlen hdg kk
theorem bputI (X : kC p s m c cc nL args own D τ) (hP : va_P D vwCl ws H) (hD : va_D A ws) (hS : va_S A s.heap H locs) (q0 : Nat) {ci N index f a : Nat} {C : String} {T : u_T} {ty : Nat → FieldType} {fs : List Value} (he : ws[q0]? = some (a, .inr (ci, fs))) (hcl : vwCl[ci]? = some (C, T, N)) (hl : kL own index C T N ty f) (hw : Cond.fieldLink own index C (T f).2.1 (T f).2.2.1 ∈ kWs) (hfin : (T f).2.2.2 = false) {v : Value} (hn : narrow (ty f) v = v) (hfit : fits (ty f) v = true) (hlen : f < fs.length) (hdg : decode cc pc = .ok (.putfield index, 3))
    (kk : ∀ (H1 : Heap) (locs1 : List Loc), va_P D vwCl (ws.set q0 (a, .inr (ci, fs.set f v))) H1 → va_D A (ws.set q0 (a, .inr (ci, fs.set f v))) → va_S A s.heap H1 locs1 → W p l e R s m args below meth c H1 locs1 cells slots Q (F0 m (pc + 3) ls rest)) : W p l e R s m args below meth c H locs cells slots Q (F0 m pc ls (v :: .ref a :: rest)) := by
  obtain ⟨hx, hb, -, hown, hts, hK, hnw⟩ := X
  obtain ⟨hf, hin, hty, hnm, href, -⟩ := hl
  exact va_put hx hb hts hin ty hty hnm hown hK hP hD hS q0 he hcl f hf (hts _ hw) (fun x h => by rw [href] at h; exact h) hfin (hty f hf) hn hfit hlen hdg kk
theorem bget (X : kC p s m c cc nL args own D τ) (hP : va_P D vwCl ws H) (q0 : Nat) {ci N index f a : Nat} {C : String} {T : u_T} {ty : Nat → FieldType} {fs : List Value} (he : ws[q0]? = some (a, .inr (ci, fs))) (hcl : vwCl[ci]? = some (C, T, N)) (hl : kL own index C T N ty f) (hw : Cond.fieldLink own index C (T f).2.1 (T f).2.2.1 ∈ kWs) {v : Value} (hv : fs[f]? = some v) (hdg : decode cc pc = .ok (.getfield index, 3))
    (kk : W p l e R s m args below meth c H locs cells slots Q (F0 m (pc + 3) ls (v :: rest))) : W p l e R s m args below meth c H locs cells slots Q (F0 m pc ls (.ref a :: rest)) := by
  obtain ⟨hx, hb, -, hown, hts, hK, hnw⟩ := X
  obtain ⟨hf, hin, hty, hnm, href, -⟩ := hl
  exact va_get hx hb hts hin hown hK hP q0 he hcl f hf (hts _ hw) (fun x h => by rw [href] at h; exact h) hv hdg kk
/-- an object into an array of references -/
theorem bast (X : kC p s m c cc nL args own D τ) (hP : va_P D vwCl ws H) (hD : va_D A ws) (hS : va_S A s.heap H locs) (q0 qk : Nat) {ci N t n i a v : Nat} {C : String} {T : u_T} {c0 : ClassId} {f : Nat → Option Nat} {vs : List Value} (ha : ws[q0]? = some (a, .inl (c0, n, .inr (.inr (.inr (.inr f)))))) (ht : (kT τ)[t]? = some (c0, .object C)) (hv : ws[qk]? = some (v, .inr (ci, vs))) (hcl : vwCl[ci]? = some (C, T, N)) (hi : i < n) (hn : n < 65536) (hdg : decode cc pc = .ok (.aastore, 1))
    (kk : ∀ (H1 : Heap) (locs1 : List Loc), va_P D vwCl (ws.set q0 (a, .inl (c0, n, .inr (.inr (.inr (.inr (va_up f i (some v)))))))) H1 → va_D A (ws.set q0 (a, .inl (c0, n, .inr (.inr (.inr (.inr (va_up f i (some v)))))))) → va_S A s.heap H1 locs1 → W p l e R s m args below meth c H1 locs1 cells slots Q (F0 m (pc + 1) ls rest)) : W p l e R s m args below meth c H locs cells slots Q (F0 m pc ls (.ref v :: .int (nI i) :: .ref a :: rest)) := by
  obtain ⟨hx, hb, -, hown, hts, hK, hnw⟩ := X
  obtain ⟨h1, h2⟩ := nI_in32 hi hn
  refine va_astq hx hb hK hP hD hS q0 t qk ci ha ht hv hcl h1 hdg (fun H1 locs1 g1 g2 g3 => ?_)
  rw [h2] at g1 g2
  exact kk H1 locs1 g1 g2 g3
/-- a constructor is called on the object that was made last: linked plainly -/
theorem bcall {q : Nat} {e0 : va_E} (X : kC p s m c cc nL args own D τ) (hao : nAO s) (hP : va_P D vwCl (ws ++ [(q, e0)]) H) (hD : va_D A (ws ++ [(q, e0)])) (hS : va_S A s.heap H locs) (hA : ∀ x, s.heap.size ≤ x → A x) {y : MethodName} {bytes : ByteArray} {maxL index M : Nat} {rm : Room} {E : (Nat → Nat) → Nat → va_E} (hM : kNc l y bytes maxL rm D τ q e0 M E) (hw : Cond.methodLink own index y ∈ kWs ∧ Cond.instanceMethod y ∈ kWs ∧ Cond.initialized y.cls ∈ kWs ∧ Cond.code y bytes maxL none ∈ kWs) (hy : y.name = "<init>" ∧ y.cls ≠ "java/lang/invoke/MethodHandle" ∧ y.cls ≠ "java/lang/invoke/VarHandle" ∧ (parseMethodDescriptor y.desc).map (fun d => d.parameters.length) = some 0) (hR : rm.frames + 1 ≤ R.frames ∧ 8 + (maxL + 11) + rm.locals ≤ R.locals) (hcat : (rest.map fun v => v.category).sum ≤ 8) (hls : ls.size = nL) (hf : cells + rm.cells ≤ R.cells ∧ slots + rm.slots ≤ R.slots) (hdg : decode cc pc = .ok (.invokespecial index, 3))
    (kk : ∀ (b : Nat → Nat) (H1 : Heap) (locs1 : List Loc), b 0 = q → va_P D vwCl (ws ++ gW M b (E b)) H1 → va_D A (ws ++ gW M b (E b)) → va_S A s.heap H1 locs1 → W p l e R s m args below meth c H1 locs1 (cells + rm.cells) (slots + rm.slots) Q (F0 m (pc + 3) ls rest)) : W p l e R s m args below meth c H locs cells slots Q (F0 m pc ls (.ref q :: rest)) := by
  obtain ⟨hx, hb, hml, hown, hts, hK, hnw⟩ := X
  have hq : (ws ++ [(q, e0)])[ws.length]? = some (q, e0) := by simp
  have hPc : va_P D vwCl [(q, e0)] H := fun k x hx => by
    have hj : k < 1 := (List.getElem?_eq_some_iff.mp hx).1
    rw [show k = 0 by omega] at hx
    cases hx
    exact hP _ _ hq
  have hDc : va_D (fun _ => True) [(q, e0)] := ⟨fun i j x z hi hj _ => by
    have := (List.getElem?_eq_some_iff.mp hi).1
    have := (List.getElem?_eq_some_iff.mp hj).1
    simp only [List.length_singleton] at *
    omega, fun _ _ _ => trivial⟩
  have hFc : ∀ x, va_A [(q, e0)] H.size x → A x := fun x h => by
    rcases h with ⟨j, e, h⟩ | h
    · have hj : j < 1 := (List.getElem?_eq_some_iff.mp h).1
      rw [show j = 0 by omega] at h
      cases h
      exact hD.2 _ _ hq
    · exact hA x (Nat.le_trans hS.1 h)
  refine va_callv (va_runI (As := []) (rest := rest) ⟨hx, hb, hml, hown, hts⟩ (hM H.size) (cwI 0 hts (ws_G hw.2.2.2) rfl rfl rfl (hts _ hw.2.2.1) (hts _ hw.1) (hts _ hw.2.1) hy.1 hy.2 hR) ⟨nP_blind, fun U hU hW => ⟨rfl, by rw [hU], by rw [hU]; exact hPc, va_K.moved hW.alike hK, hDc, kNw_warm hW hnw, nAO_m hW.alike hao⟩⟩ rfl rfl hls rfl (lv_room hcat) hdg hf) hS (fun x _ h => hFc x h) hFc (fun b t H1 locs1 ht hvm hb0 hB hz hk1 hS1 => ?_)
  obtain ⟨b1, b2⟩ := hB
  rw [ht] at b1
  obtain ⟨j1, j2⟩ := gjoin hP hD hk1 hFc b1 b2
  exact kk b H1 locs1 hb0 j1 j2 hS1
/-- linked as a nest mate's -/
theorem bcallN {q : Nat} {e0 : va_E} (X : kC p s m c cc nL args own D τ) (hao : nAO s) (hP : va_P D vwCl (ws ++ [(q, e0)]) H) (hD : va_D A (ws ++ [(q, e0)])) (hS : va_S A s.heap H locs) (hA : ∀ x, s.heap.size ≤ x → A x) {y : MethodName} {bytes : ByteArray} {maxL index M : Nat} {rm : Room} {E : (Nat → Nat) → Nat → va_E} {host : String} (hM : kNc l y bytes maxL rm D τ q e0 M E) (hw : Cond.methodLinkNest own index y host ∈ kNw ∧ Cond.instanceMethod y ∈ kWs ∧ Cond.initialized y.cls ∈ kWs ∧ Cond.code y bytes maxL none ∈ kWs) (hy : y.name = "<init>" ∧ y.cls ≠ "java/lang/invoke/MethodHandle" ∧ y.cls ≠ "java/lang/invoke/VarHandle" ∧ (parseMethodDescriptor y.desc).map (fun d => d.parameters.length) = some 0) (hR : rm.frames + 1 ≤ R.frames ∧ 8 + (maxL + 11) + rm.locals ≤ R.locals) (hcat : (rest.map fun v => v.category).sum ≤ 8) (hls : ls.size = nL) (hf : cells + rm.cells ≤ R.cells ∧ slots + rm.slots ≤ R.slots) (hdg : decode cc pc = .ok (.invokespecial index, 3))
    (kk : ∀ (b : Nat → Nat) (H1 : Heap) (locs1 : List Loc), b 0 = q → va_P D vwCl (ws ++ gW M b (E b)) H1 → va_D A (ws ++ gW M b (E b)) → va_S A s.heap H1 locs1 → W p l e R s m args below meth c H1 locs1 (cells + rm.cells) (slots + rm.slots) Q (F0 m (pc + 3) ls rest)) : W p l e R s m args below meth c H locs cells slots Q (F0 m pc ls (.ref q :: rest)) := by
  obtain ⟨hx, hb, hml, hown, hts, hK, hnw⟩ := X
  have hq : (ws ++ [(q, e0)])[ws.length]? = some (q, e0) := by simp
  have hPc : va_P D vwCl [(q, e0)] H := fun k x hx => by
    have hj : k < 1 := (List.getElem?_eq_some_iff.mp hx).1
    rw [show k = 0 by omega] at hx
    cases hx
    exact hP _ _ hq
  have hDc : va_D (fun _ => True) [(q, e0)] := ⟨fun i j x z hi hj _ => by
    have := (List.getElem?_eq_some_iff.mp hi).1
    have := (List.getElem?_eq_some_iff.mp hj).1
    simp only [List.length_singleton] at *
    omega, fun _ _ _ => trivial⟩
  have hFc : ∀ x, va_A [(q, e0)] H.size x → A x := fun x h => by
    rcases h with ⟨j, e, h⟩ | h
    · have hj : j < 1 := (List.getElem?_eq_some_iff.mp h).1
      rw [show j = 0 by omega] at h
      cases h
      exact hD.2 _ _ hq
    · exact hA x (Nat.le_trans hS.1 h)
  refine va_callv (va_runIN (As := []) (rest := rest) ⟨hx, hb, hml, hown, hts⟩ (hM H.size) ⟨va_cnB 0 hts (ws_G hw.2.2.2) rfl rfl rfl (hnw _ hw.1) (hts _ hw.2.2.1) hy.2 hR, hy.1, hts _ hw.2.1⟩ ⟨nP_blind, fun U hU hW => ⟨rfl, by rw [hU], by rw [hU]; exact hPc, va_K.moved hW.alike hK, hDc, kNw_warm hW hnw, nAO_m hW.alike hao⟩⟩ rfl rfl hls rfl (lv_room hcat) hdg hf) hS (fun x _ h => hFc x h) hFc (fun b t H1 locs1 ht hvm hb0 hB hz hk1 hS1 => ?_)
  obtain ⟨b1, b2⟩ := hB
  rw [ht] at b1
  obtain ⟨j1, j2⟩ := gjoin hP hD hk1 hFc b1 b2
  exact kk b H1 locs1 hb0 j1 j2 hS1
/-- a constructor's contract, out of the walk of its body -/
theorem kNet {y : MethodName} {maxL : Nat} {rm : Room} {h M : Nat} {e0 : va_E} {E : (Nat → Nat) → Nat → va_E} {own : String} (hy : plainName y.cls = true) (hown0 : y.cls = own) (hyn : y.name = "<init>") (hmL : 1 ≤ maxL)
    (body : ∀ (p : Program) (e : Env) (s : State) (m : MethodId) (args : Array Value) (below : List Frame) (meth : Method) (c : Code) (Q : State → Prop) (A : Nat → Prop), kC p s m c cc maxL args own D τ → nAO s → p.tables.exec = Jvm.exec → c.code = cc → meth.name = "<init>" → (∀ q, s.heap.size ≤ q → A q) → va_P D vwCl [(h, e0)] s.heap → va_D A [(h, e0)] → va_S A s.heap s.heap [] →
      (∀ (b : Nat → Nat) (H : Heap) (locs : List Loc) (pc : Nat) (ls : Array Slot), b 0 = h → va_P D vwCl (gW M b (E b)) H → va_D A (gW M b (E b)) → va_S A s.heap H locs → decode cc pc = .ok (.return_, 1) → W p l e rm s m args below meth c H locs rm.cells rm.slots Q (F0 m pc ls [])) →
      ∀ ls : Array Slot, lv_has ls maxL [(0, .ref h)] → W p l e rm s m args below meth c s.heap [] 0 0 Q (F0 m 0 ls [])) : kNc l y cc maxL rm D τ h e0 M E := by
  intro sz
  refine Met.ofW (cc := cc) (maxL := maxL) (ret := none) hy rfl ?_
  intro p e s m args below meth c s₁ B hml hv
  obtain ⟨rfl, hsz, hP, hK, hD0, hN, hAO⟩ := hv
  have hts := atoms_spec (ws := Cond.code y cc maxL none :: kWs) B.pre
  have hown : s.vm.findClass y.cls = some m.cls := findClass_of_methodNamed B.named
  rw [hown0] at hown
  have hin : meth.name = y.name := (name_of_methodNamed B.named B.method).1
  subst hsz
  have hD := hD0.self (sz := s.heap.size)
  have hl := lv_entry [Value.ref h] (n := maxL) (by show 1 ≤ maxL; exact hmL)
  rw [lg_entry_eq]
  refine body p e s m _ below meth c _ (va_A [(h, e0)] s.heap.size) ⟨B.exec, B.bytes, hml, hown, fun w hw => hts w (List.mem_cons_of_mem _ hw), hK, hN⟩ hAO B.exec B.bytes (hin.trans hyn) (fun q hq => Or.inr hq) hP hD va_S.rf ?_ _ hl
  intro b H locs pc ls hb0 hP1 hD1 hS1 hdg
  exact W.vret B.exec B.bytes B.returns (fun t ht hW => ⟨⟨b, rfl, hb0, by rw [ht]; exact hP1, hD1⟩, hS1.F ht⟩) hS1.2.2 hdg (hlocks := B.notSynchronized)
end KBR

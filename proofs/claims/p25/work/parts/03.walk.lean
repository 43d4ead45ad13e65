/-! Rows over the one world. -/
theorem goodIn_app {big a b : List Cond} (ha : GoodIn big a) (hb : GoodIn big b) : GoodIn big (a ++ b) := fun w h => (List.mem_append.mp h).elim (ha w) (hb w)
/-- where a field's constant stands: the field f of the class C; linked plainly, or as a nest mate's -/
def kL (own : String) (index : Nat) (C : String) (T : u_T) (N : Nat) (ty : Nat → FieldType) (f : Nat) : Prop :=
  f < N ∧ (∀ w ∈ u_ws C T N, w ∈ kWs) ∧ (∀ k, k < N → parseFieldDescriptor (T k).2.2.1 = some (ty k)) ∧ (∀ a, a < N → ∀ b, b < N → a ≠ b → (T a).2.1 ≠ (T b).2.1) ∧ (T f).1 = C ∧
  ((Cond.fieldLink own index C (T f).2.1 (T f).2.2.1) ∈ kWs ∨ ∃ host, (Cond.fieldLinkNest own index C (T f).2.1 (T f).2.2.1 host) ∈ kNw)
/-- what stays the same in a method's walk -/
def kC (p : Program) (s : State) (m : MethodId) (c : Code) (cc : ByteArray) (nL : Nat) (args : Array Value) (own : String) (D : va_G) (τ : Nat → ClassId) : Prop :=
  p.tables.exec = Jvm.exec ∧ c.code = cc ∧ c.maxLocals = nL ∧ s.vm.findClass own = some m.cls ∧ (∀ w ∈ kWs, w.before args s = true) ∧ va_K D vwCl (kT τ) s ∧ ∀ w ∈ kNw, va_Nw w s
/-- the world at a state -/
def kI (D : va_G) (τ : Nat → ClassId) (ad : Nat → Nat) (G : Nat → Nat → Int32) (U : State) : Prop := va_P D vwCl (kW τ ad G) U.heap ∧ va_K D vwCl (kT τ) U ∧ ∀ w ∈ kNw, va_Nw w U
def kNest : Cond → Bool
  | .fieldLinkNest _ _ _ _ _ _ => true
  | .methodLinkNest _ _ _ _ => true
  | _ => false
theorem kNw_nest : kNw.all kNest = true := by decide +kernel
theorem kNw_warm {s U : State} (hW : s.WarmedH U.vm) (h : ∀ w ∈ kNw, va_Nw w s) : ∀ w ∈ kNw, va_Nw w U := by
  intro w hw
  have h1 := List.all_eq_true.mp kNw_nest w hw
  have h2 := h w hw
  cases w <;> first | (exact va_Nw.warmF hW h2) | (exact va_Nw.warmM hW h2) | (cases h1)
theorem kNw_vm {s U : State} (hv : s.vm = U.vm) (h : ∀ w ∈ kNw, va_Nw w s) : ∀ w ∈ kNw, va_Nw w U := by
  intro w hw
  have h1 := List.all_eq_true.mp kNw_nest w hw
  have h2 := h w hw
  cases w <;> first | (exact va_Nw.same rfl hv h2) | (cases h1)
/-- contracts: an answer that is an int; none -/
def kM (l : Launch) (y : MethodName) (bytes : ByteArray) (maxL : Nat) (ret : Option FieldType) (rm : Room) (D : va_G) (τ : Nat → ClassId) (ad : Nat → Nat) (As : List Value) (G : Nat → Nat → Int32) (R : Int32 → (Nat → Nat → Int32) → Prop) : Prop :=
  Met l y (Cond.code y bytes maxL ret :: kWs) rm (va_Pc As (kI D τ ad G)) (va_Qi R (fun G' t => kI D τ ad G' t) (kAd ad)) 0 0 (kAd ad)
def kMv (l : Launch) (y : MethodName) (bytes : ByteArray) (maxL : Nat) (rm : Room) (D : va_G) (τ : Nat → ClassId) (ad : Nat → Nat) (As : List Value) (G : Nat → Nat → Int32) (R : (Nat → Nat → Int32) → Prop) : Prop :=
  Met l y (Cond.code y bytes maxL none :: kWs) rm (va_Pc As (kI D τ ad G)) (va_Qv R (fun G' t => kI D τ ad G' t) (kAd ad)) 0 0 (kAd ad)
/-- what a call's constant says -/
def kV (own : String) (index : Nat) (C : String) (y : MethodName) (bytes : ByteArray) (maxL : Nat) (ret : Option FieldType) (n : Nat) : Prop :=
  (Cond.methodLink own index y) ∈ kWs ∧ (Cond.instanceMethod y) ∈ kWs ∧ (Cond.selects C y y) ∈ kWs ∧ (Cond.initialized C) ∈ kWs ∧ (Cond.code y bytes maxL ret) ∈ kWs ∧ (y.cls = C ∧ y.cls ≠ "java/lang/invoke/MethodHandle" ∧ y.cls ≠ "java/lang/invoke/VarHandle" ∧ (parseMethodDescriptor y.desc).map (fun d => d.parameters.length) = some n)
def kVs (own : String) (index : Nat) (y : MethodName) (bytes : ByteArray) (maxL : Nat) (ret : Option FieldType) (n : Nat) : Prop :=
  (Cond.methodLink own index y) ∈ kWs ∧ (Cond.static y) ∈ kWs ∧ (Cond.initialized own) ∈ kWs ∧ (Cond.code y bytes maxL ret) ∈ kWs ∧ (y.cls = own ∧ y.cls ≠ "java/lang/invoke/MethodHandle" ∧ y.cls ≠ "java/lang/invoke/VarHandle" ∧ (parseMethodDescriptor y.desc).map (fun d => d.parameters.length) = some n)
def kF (rm R : Room) (maxL : Nat) : Prop := rm.frames + 1 ≤ R.frames ∧ 8 + (maxL + 11) + rm.locals ≤ R.locals ∧ rm.cells = 0 ∧ rm.slots = 0
theorem ws_ok {w : Cond} (h : w ∈ kWs) : w ∈ kWs ∧ ((w.onTables && w.keeps) = true ∨ ∃ ty, w = .arrayClass ty) := ⟨h, good_of_word (kWs_good w h)⟩
theorem ws_G {y : MethodName} {bytes : ByteArray} {maxL : Nat} {ret : Option FieldType} (h : Cond.code y bytes maxL ret ∈ kWs) : GoodIn kWs (Cond.code y bytes maxL ret :: kWs) := by
  intro w hw
  rcases List.mem_cons.mp hw with rfl | hw
  · exact ws_ok h
  · exact ws_ok hw
theorem kI_blind {D : va_G} {τ : Nat → ClassId} {ad : Nat → Nat} {G : Nat → Nat → Int32} {As : List Value} : FrameBlind (va_Pc As (kI D τ ad G)) := by
  intro a U g mk h
  obtain ⟨h0, h1, h2, h3⟩ := h
  exact ⟨h0, h1, va_K.moved (u := U) (U := U.calling g mk a) (Vm.Alike.refl U.vm) h2, kNw_vm (s := U) (U := U.calling g mk a) rfl h3⟩
theorem kI_at {D : va_G} {τ : Nat → ClassId} {ad : Nat → Nat} {G : Nat → Nat → Int32} {H : Heap} {s U : State} (hP : va_P D vwCl (kW τ ad G) H) (hK : va_K D vwCl (kT τ) s) (hn : ∀ w ∈ kNw, va_Nw w s) (hU : U.heap = H) (hW : s.WarmedH U.vm) : kI D τ ad G U := by
  subst hU
  exact ⟨hP, va_K.moved hW.alike hK, kNw_warm hW hn⟩
section KR
variable {p : Program} {l : Launch} {e : Env} {R : Room} {s : State} {m : MethodId} {args : Array Value} {below : List Frame} {meth : Method} {c : Code} {H : Heap} {locs : List Loc} {cells slots : Nat} {Q : State → Prop}
variable {cc : ByteArray} {pc : Nat} {ls : Array Slot} {rest : List Value} {D : va_G} {τ : Nat → ClassId} {ad : Nat → Nat} {G : Nat → Nat → Int32} {own : String} {nL : Nat}
/-- getfield -/
theorem kget (X : kC p s m c cc nL args own D τ) (hP : va_P D vwCl (kW τ ad G) H) {k ci : Nat} {C : String} {T : u_T} {N : Nat} {F : (Nat → Int32) → List Value} (ho : kO τ ad k ci C T N F) {index f : Nat} {ty : Nat → FieldType} (hl : kL own index C T N ty f) {v : Value} (hv : (F (G k))[f]? = some v) (hdg : decode cc pc = .ok (.getfield index, 3))
    (kk : W p l e R s m args below meth c H locs cells slots Q (F0 m (pc + 3) ls (v :: rest))) : W p l e R s m args below meth c H locs cells slots Q (F0 m pc ls (.ref (ad k) :: rest)) := by
  obtain ⟨hx, hb, -, hown, hts, hK, hnw⟩ := X
  obtain ⟨hk, hc, hE⟩ := ho
  obtain ⟨hf, hin, -, -, href, hw⟩ := hl
  have he : (kW τ ad G)[kpos k]? = some (ad k, .inr (ci, F (G k))) := (kW_get hk).trans (by rw [hE])
  rcases hw with hw | ⟨host, hw⟩
  · exact va_get hx hb hts hin hown hK hP (kpos k) he hc f hf (hts _ hw) (fun x h => by rw [href] at h; exact h) hv hdg kk
  · exact va_getN hx hb hts hin hown hK hP (kpos k) he hc f hf (va_Nw.use rfl (hnw _ hw)) (fun x h => by rw [href] at h; exact h) hv hdg kk
/-- putfield of an int -/
theorem kput (X : kC p s m c cc nL args own D τ) (hI : kInj ad) (hP : va_P D vwCl (kW τ ad G) H) (hS : va_S (kAd ad) s.heap H locs) {k ci : Nat} {C : String} {T : u_T} {N : Nat} {F : (Nat → Int32) → List Value} (ho : kO τ ad k ci C T N F) {index f : Nat} {ty : Nat → FieldType} (hl : kL own index C T N ty f) {x : Int32} (hF : ∀ r, F (upd r f x) = (F r).set f (.int x)) (hfin : (T f).2.2.2 = false) (hlen : ∀ r, f < (F r).length) (hn : narrow (ty f) (.int x) = .int x) (hfit : fits (ty f) (.int x) = true) (hdg : decode cc pc = .ok (.putfield index, 3))
    (kk : ∀ (H1 : Heap) (locs1 : List Loc), va_P D vwCl (kW τ ad (gs G k f x)) H1 → va_S (kAd ad) s.heap H1 locs1 → W p l e R s m args below meth c H1 locs1 cells slots Q (F0 m (pc + 3) ls rest)) : W p l e R s m args below meth c H locs cells slots Q (F0 m pc ls (.int x :: .ref (ad k) :: rest)) := by
  obtain ⟨hx, hb, -, hown, hts, hK, hnw⟩ := X
  obtain ⟨hk, hc, hE⟩ := ho
  obtain ⟨hf, hin, hty, hnm, href, hw⟩ := hl
  have he : (kW τ ad G)[kpos k]? = some (ad k, .inr (ci, F (G k))) := (kW_get hk).trans (by rw [hE])
  have hset : (kW τ ad G).set (kpos k) (ad k, .inr (ci, (F (G k)).set f (.int x))) = kW τ ad (gs G k f x) := kW_set hk (by rw [hE, gs_up, hF]) (fun i hi => gs_other hi)
  rcases hw with hw | ⟨host, hw⟩
  · refine va_put hx hb hts hin ty hty hnm hown hK hP (kW_D hI) hS (kpos k) he hc f hf (hts _ hw) (fun x h => by rw [href] at h; exact h) hfin (hty f hf) hn hfit (hlen _) hdg (fun H1 locs1 h1 _ h3 => ?_)
    rw [hset] at h1
    exact kk H1 locs1 h1 h3
  · refine va_putN hx hb hts hin ty hty hnm hown hK hP (kW_D hI) hS (kpos k) he hc f hf (va_Nw.use rfl (hnw _ hw)) (fun x h => by rw [href] at h; exact h) hfin (hty f hf) hn hfit (hlen _) hdg (fun H1 locs1 h1 _ h3 => ?_)
    rw [hset] at h1
    exact kk H1 locs1 h1 h3
theorem nI_in32 {i n : Nat} (h : i < n) (hn : n < 65536) : vp_in (nI i) n ∧ (nI i).toNatClampNeg = i := ⟨vp_in_nI h (by omega), nI_clamp (by omega)⟩
/-- iaload -/
theorem kiald (X : kC p s m c cc nL args own D τ) (hP : va_P D vwCl (kW τ ad G) H) {k n i : Nat} (ha : kAr τ ad k 0 .int n) (hi : i < n) (hdg : decode cc pc = .ok (.iaload, 1))
    (kk : W p l e R s m args below meth c H locs cells slots Q (F0 m (pc + 1) ls (.int (G k i) :: rest))) : W p l e R s m args below meth c H locs cells slots Q (F0 m pc ls (.int (nI i) :: .ref (ad k) :: rest)) := by
  obtain ⟨hx, hb, -, hown, hts, hK, hnw⟩ := X
  obtain ⟨hk, hn, cA, ht, hE⟩ := ha
  obtain ⟨h1, h2⟩ := nI_in32 hi hn
  refine va_iald hx hb hK hP (kpos k) 0 ((kW_get hk).trans (by rw [hE])) ht h1 hdg ?_
  rw [h2]
  exact kk
theorem kcald (X : kC p s m c cc nL args own D τ) (hP : va_P D vwCl (kW τ ad G) H) {k n i : Nat} (ha : kAr τ ad k 1 .char n) (hi : i < n) (hdg : decode cc pc = .ok (.caload, 1))
    (kk : W p l e R s m args below meth c H locs cells slots Q (F0 m (pc + 1) ls (.int (G k i) :: rest))) : W p l e R s m args below meth c H locs cells slots Q (F0 m pc ls (.int (nI i) :: .ref (ad k) :: rest)) := by
  obtain ⟨hx, hb, -, hown, hts, hK, hnw⟩ := X
  obtain ⟨hk, hn, cA, ht, hE⟩ := ha
  obtain ⟨h1, h2⟩ := nI_in32 hi hn
  refine va_cald hx hb hK hP (kpos k) 1 ((kW_get hk).trans (by rw [hE])) ht h1 hdg ?_
  rw [h2]
  exact kk
/-- iastore -/
theorem kiast (X : kC p s m c cc nL args own D τ) (hI : kInj ad) (hP : va_P D vwCl (kW τ ad G) H) (hS : va_S (kAd ad) s.heap H locs) {k n i : Nat} {x : Int32} (ha : kAr τ ad k 0 .int n) (hi : i < n) (hdg : decode cc pc = .ok (.iastore, 1))
    (kk : ∀ (H1 : Heap) (locs1 : List Loc), va_P D vwCl (kW τ ad (gs G k i x)) H1 → va_S (kAd ad) s.heap H1 locs1 → W p l e R s m args below meth c H1 locs1 cells slots Q (F0 m (pc + 1) ls rest)) : W p l e R s m args below meth c H locs cells slots Q (F0 m pc ls (.int x :: .int (nI i) :: .ref (ad k) :: rest)) := by
  obtain ⟨hx, hb, -, hown, hts, hK, hnw⟩ := X
  obtain ⟨hk, hn, cA, ht, hE⟩ := ha
  obtain ⟨h1, h2⟩ := nI_in32 hi hn
  refine va_iast hx hb hK hP (kW_D hI) hS (kpos k) 0 ((kW_get hk).trans (by rw [hE])) ht h1 hdg (fun H1 locs1 h3 _ h5 => ?_)
  rw [h2, kW_set (G' := gs G k i x) hk (by rw [hE, gs_up]) (fun i hi => gs_other hi)] at h3
  exact kk H1 locs1 h3 h5
theorem kcast (X : kC p s m c cc nL args own D τ) (hI : kInj ad) (hP : va_P D vwCl (kW τ ad G) H) (hS : va_S (kAd ad) s.heap H locs) {k n i : Nat} {x : Int32} (ha : kAr τ ad k 1 .char n) (hi : i < n) (hx : vp_nar .char x = x) (hdg : decode cc pc = .ok (.castore, 1))
    (kk : ∀ (H1 : Heap) (locs1 : List Loc), va_P D vwCl (kW τ ad (gs G k i x)) H1 → va_S (kAd ad) s.heap H1 locs1 → W p l e R s m args below meth c H1 locs1 cells slots Q (F0 m (pc + 1) ls rest)) : W p l e R s m args below meth c H locs cells slots Q (F0 m pc ls (.int x :: .int (nI i) :: .ref (ad k) :: rest)) := by
  obtain ⟨hx', hb, -, hown, hts, hK, hnw⟩ := X
  obtain ⟨hk, hn, cA, ht, hE⟩ := ha
  obtain ⟨h1, h2⟩ := nI_in32 hi hn
  refine va_cast hx' hb hK hP (kW_D hI) hS (kpos k) 1 ((kW_get hk).trans (by rw [hE])) ht h1 hdg (fun H1 locs1 h3 _ h5 => ?_)
  rw [h2, hx, kW_set (G' := gs G k i x) hk (by rw [hE, gs_up]) (fun i hi => gs_other hi)] at h3
  exact kk H1 locs1 h3 h5
/-- aaload -/
theorem kaald (X : kC p s m c cc nL args own D τ) (hP : va_P D vwCl (kW τ ad G) H) {k t n i : Nat} {C : String} {f : (Nat → Int32) → Nat → Nat} (ha : kQr τ ad k t C n f) (hi : i < n) {a : Nat} (hf : f (G k) i = a) (hdg : decode cc pc = .ok (.aaload, 1))
    (kk : W p l e R s m args below meth c H locs cells slots Q (F0 m (pc + 1) ls (.ref (ad a) :: rest))) : W p l e R s m args below meth c H locs cells slots Q (F0 m pc ls (.int (nI i) :: .ref (ad k) :: rest)) := by
  obtain ⟨hx, hb, -, hown, hts, hK, hnw⟩ := X
  obtain ⟨hk, hn, cA, ht, hE⟩ := ha
  obtain ⟨h1, h2⟩ := nI_in32 hi hn
  refine va_aldq hx hb hK hP (kpos k) t ((kW_get hk).trans (by rw [hE])) ht h1 hdg ?_
  rw [h2, hf]
  exact kk
/-- aastore of a state in the history's array -/
theorem kaast (X : kC p s m c cc nL args own D τ) (hI : kInj ad) (hP : va_P D vwCl (kW τ ad G) H) (hS : va_S (kAd ad) s.heap H locs) {i j : Nat} (hi : i < 4) (hj : j < 7) (hdg : decode cc pc = .ok (.aastore, 1))
    (kk : ∀ (H1 : Heap) (locs1 : List Loc), va_P D vwCl (kW τ ad (gs G 9 i (nI j))) H1 → va_S (kAd ad) s.heap H1 locs1 → W p l e R s m args below meth c H1 locs1 cells slots Q (F0 m (pc + 1) ls rest)) : W p l e R s m args below meth c H locs cells slots Q (F0 m pc ls (.ref (ad (sB j)) :: .int (nI i) :: .ref (ad 9) :: rest)) := by
  obtain ⟨hx', hb, -, hown, hts, hK, hnw⟩ := X
  obtain ⟨h1, h2⟩ := nI_in32 hi (show 4 < 65536 by omega)
  obtain ⟨hk4, hc4, hE4⟩ := oS (τ := τ) (ad := ad) hj
  have hk9 : kZ 9 := by unfold kZ kN; omega
  refine va_astq hx' hb hK hP (kW_D hI) hS (kpos 9) 5 (kpos (sB j)) 4 (kW_get hk9) rfl ((kW_get hk4).trans (by rw [hE4])) hc4 h1 hdg (fun H1 locs1 h3 _ h5 => ?_)
  rw [h2, kW_set (G' := gs G 9 i (nI j)) hk9 (by
    rw [gs_up]
    show _ = (Sum.inl (τ 5, 4, _) : va_E)
    congr 4
    congr 3
    funext q
    by_cases hq : q = i
    · subst hq
      simp [va_up, upd, nI_clamp (show j < 2 ^ 31 by omega)]
    · simp [va_up, upd, hq]) (fun i hi => gs_other hi)] at h3
  exact kk H1 locs1 h3 h5
/-- a call of an instance method that answers an int -/
theorem kcV (X : kC p s m c cc nL args own D τ) (hP : va_P D vwCl (kW τ ad G) H) (hS : va_S (kAd ad) s.heap H locs) {y : MethodName} {bytes : ByteArray} {maxL n index : Nat} {ret : Option FieldType} {rm : Room} {As st : List Value} {R1 : Int32 → (Nat → Nat → Int32) → Prop} {k ci : Nat} {C : String} {T : u_T} {N : Nat} {F : (Nat → Int32) → List Value}
    (hM : kM l y bytes maxL ret rm D τ ad (.ref (ad k) :: As) G R1) (ho : kO τ ad k ci C T N F) (hw : kV own index C y bytes maxL ret n) (hR : kF rm R maxL) (hn : As.length = n) (hst : st = As.reverse ++ .ref (ad k) :: rest) (hcat : (rest.map fun v => v.category).sum ≤ 8) (hls : ls.size = nL) (hf : cells ≤ R.cells ∧ slots ≤ R.slots) (hdg : decode cc pc = .ok (.invokevirtual index, 3))
    (kk : ∀ (r : Int32) (G1 : Nat → Nat → Int32) (H1 : Heap) (locs1 : List Loc), R1 r G1 → va_P D vwCl (kW τ ad G1) H1 → va_S (kAd ad) s.heap H1 locs1 → W p l e R s m args below meth c H1 locs1 cells slots Q (F0 m (pc + 3) ls (.int r :: rest))) : W p l e R s m args below meth c H locs cells slots Q (F0 m pc ls st) := by
  obtain ⟨hx, hb, hml, hown, hts, hK, hnw⟩ := X
  obtain ⟨hk, hc, hE⟩ := ho
  obtain ⟨w1, w2, w3, w4, w5, wy⟩ := hw
  obtain ⟨r1, r2, r3, r4⟩ := hR
  subst hst
  have he : (kW τ ad G)[kpos k]? = some (ad k, .inr (ci, F (G k))) := (kW_get hk).trans (by rw [hE])
  have hGI : GoodIn kWs (wsV own index C y (Cond.code y bytes maxL ret :: kWs)) := goodIn_app (fun w hw => by
    simp only [List.mem_cons, List.not_mem_nil, or_false] at hw
    rcases hw with rfl | rfl | rfl | rfl
    · exact ws_ok w1
    · exact ws_ok w2
    · exact ws_ok w3
    · exact ws_ok w4) (ws_G w5)
  refine va_calli (va_runV (As := As) (rest := rest) ⟨hx, hb, hml, hown, hts⟩ hM (cwV n hts hGI rfl r3 r4 wy ⟨r1, r2⟩) ⟨kI_blind, va_recv hK hP hc he, fun U hU hW => ⟨rfl, kI_at hP hK hnw hU hW⟩⟩ rfl hn hls rfl (lv_room hcat) hdg hf) hS (fun q _ h => h) (fun q h => h) (fun r u t H1 locs1 ht hvm hp hB hz hk1 hS1 => ?_)
  obtain ⟨b1, b2, b3⟩ := hB
  rw [ht] at b1
  exact kk r u H1 locs1 hp b1 hS1
theorem kcVv (X : kC p s m c cc nL args own D τ) (hP : va_P D vwCl (kW τ ad G) H) (hS : va_S (kAd ad) s.heap H locs) {y : MethodName} {bytes : ByteArray} {maxL n index : Nat} {rm : Room} {As st : List Value} {R1 : (Nat → Nat → Int32) → Prop} {k ci : Nat} {C : String} {T : u_T} {N : Nat} {F : (Nat → Int32) → List Value}
    (hM : kMv l y bytes maxL rm D τ ad (.ref (ad k) :: As) G R1) (ho : kO τ ad k ci C T N F) (hw : kV own index C y bytes maxL none n) (hR : kF rm R maxL) (hn : As.length = n) (hst : st = As.reverse ++ .ref (ad k) :: rest) (hcat : (rest.map fun v => v.category).sum ≤ 8) (hls : ls.size = nL) (hf : cells ≤ R.cells ∧ slots ≤ R.slots) (hdg : decode cc pc = .ok (.invokevirtual index, 3))
    (kk : ∀ (G1 : Nat → Nat → Int32) (H1 : Heap) (locs1 : List Loc), R1 G1 → va_P D vwCl (kW τ ad G1) H1 → va_S (kAd ad) s.heap H1 locs1 → W p l e R s m args below meth c H1 locs1 cells slots Q (F0 m (pc + 3) ls rest)) : W p l e R s m args below meth c H locs cells slots Q (F0 m pc ls st) := by
  obtain ⟨hx, hb, hml, hown, hts, hK, hnw⟩ := X
  obtain ⟨hk, hc, hE⟩ := ho
  obtain ⟨w1, w2, w3, w4, w5, wy⟩ := hw
  obtain ⟨r1, r2, r3, r4⟩ := hR
  subst hst
  have he : (kW τ ad G)[kpos k]? = some (ad k, .inr (ci, F (G k))) := (kW_get hk).trans (by rw [hE])
  have hGI : GoodIn kWs (wsV own index C y (Cond.code y bytes maxL none :: kWs)) := goodIn_app (fun w hw => by
    simp only [List.mem_cons, List.not_mem_nil, or_false] at hw
    rcases hw with rfl | rfl | rfl | rfl
    · exact ws_ok w1
    · exact ws_ok w2
    · exact ws_ok w3
    · exact ws_ok w4) (ws_G w5)
  refine va_callv (va_runV (As := As) (rest := rest) ⟨hx, hb, hml, hown, hts⟩ hM (cwV n hts hGI rfl r3 r4 wy ⟨r1, r2⟩) ⟨kI_blind, va_recv hK hP hc he, fun U hU hW => ⟨rfl, kI_at hP hK hnw hU hW⟩⟩ rfl hn hls rfl (lv_room hcat) hdg hf) hS (fun q _ h => h) (fun q h => h) (fun u t H1 locs1 ht hvm hp hB hz hk1 hS1 => ?_)
  obtain ⟨b1, b2, b3⟩ := hB
  rw [ht] at b1
  exact kk u H1 locs1 hp b1 hS1
/-- a call of a static method of the own class that answers an int -/
theorem kcS (X : kC p s m c cc nL args own D τ) (hP : va_P D vwCl (kW τ ad G) H) (hS : va_S (kAd ad) s.heap H locs) {y : MethodName} {bytes : ByteArray} {maxL n index : Nat} {ret : Option FieldType} {rm : Room} {As st : List Value} {R1 : Int32 → (Nat → Nat → Int32) → Prop}
    (hM : kM l y bytes maxL ret rm D τ ad As G R1) (hw : kVs own index y bytes maxL ret n) (hR : kF rm R maxL) (hn : As.length = n) (hst : st = As.reverse ++ rest) (hcat : (rest.map fun v => v.category).sum ≤ 8) (hls : ls.size = nL) (hf : cells ≤ R.cells ∧ slots ≤ R.slots) (hdg : decode cc pc = .ok (.invokestatic index, 3))
    (kk : ∀ (r : Int32) (G1 : Nat → Nat → Int32) (H1 : Heap) (locs1 : List Loc), R1 r G1 → va_P D vwCl (kW τ ad G1) H1 → va_S (kAd ad) s.heap H1 locs1 → W p l e R s m args below meth c H1 locs1 cells slots Q (F0 m (pc + 3) ls (.int r :: rest))) : W p l e R s m args below meth c H locs cells slots Q (F0 m pc ls st) := by
  obtain ⟨hx, hb, hml, hown, hts, hK, hnw⟩ := X
  obtain ⟨w1, w2, w4, w5, wy⟩ := hw
  obtain ⟨r1, r2, r3, r4⟩ := hR
  subst hst
  have hGI : GoodIn kWs (wsS own index y (Cond.code y bytes maxL ret :: kWs)) := goodIn_app (fun w hw => by
    simp only [List.mem_cons, List.not_mem_nil, or_false] at hw
    rcases hw with rfl | rfl | rfl
    · exact ws_ok w1
    · exact ws_ok w2
    · exact ws_ok w4) (ws_G w5)
  refine va_calli (va_runS (As := As) (rest := rest) ⟨hx, hb, hml, hown, hts⟩ hM (cwS n hts hGI rfl r3 r4 wy ⟨r1, r2⟩) ⟨kI_blind, fun U hU hW => ⟨rfl, kI_at hP hK hnw hU hW⟩⟩ rfl hn hls rfl (lv_room hcat) hdg hf) hS (fun q _ h => h) (fun q h => h) (fun r u t H1 locs1 ht hvm hp hB hz hk1 hS1 => ?_)
  obtain ⟨b1, b2, b3⟩ := hB
  rw [ht] at b1
  exact kk r u H1 locs1 hp b1 hS1
/-- a method's contract, out of the walk of its body -/
theorem kMet {y : MethodName} {maxL : Nat} {rm : Room} {As : List Value} {R1 : Int32 → (Nat → Nat → Int32) → Prop} {own : String} (hy : plainName y.cls = true) (hown0 : y.cls = own) (hA : (lg_sl As).length ≤ maxL)
    (body : ∀ (p : Program) (e : Env) (s : State) (m : MethodId) (args : Array Value) (below : List Frame) (meth : Method) (c : Code) (Q : State → Prop), kC p s m c cc maxL args own D τ → p.tables.exec = Jvm.exec → c.code = cc → va_P D vwCl (kW τ ad G) s.heap → va_S (kAd ad) s.heap s.heap [] →
      (∀ (v : Int32) (G1 : Nat → Nat → Int32) (H : Heap) (locs : List Loc) (pc : Nat) (ls : Array Slot), R1 v G1 → va_P D vwCl (kW τ ad G1) H → va_S (kAd ad) s.heap H locs → decode cc pc = .ok (.ireturn, 1) → W p l e rm s m args below meth c H locs 0 0 Q (F0 m pc ls [.int v])) →
      ∀ ls : Array Slot, lv_has ls maxL (lv_args 0 As) → W p l e rm s m args below meth c s.heap [] 0 0 Q (F0 m 0 ls [])) : kM l y cc maxL (some .int) rm D τ ad As G R1 := by
  refine Met.ofW (cc := cc) (maxL := maxL) (ret := some .int) hy rfl ?_
  intro p e s m args below meth c s₁ B hml hv
  obtain ⟨rfl, hP, hK, hN⟩ := hv
  have hts := atoms_spec (ws := Cond.code y cc maxL (some .int) :: kWs) B.pre
  have hown : s.vm.findClass y.cls = some m.cls := findClass_of_methodNamed B.named
  rw [hown0] at hown
  have hl := lv_entry As (n := maxL) hA
  rw [lg_entry_eq]
  refine body p e s m _ below meth c _ ⟨B.exec, B.bytes, hml, hown, fun w hw => hts w (List.mem_cons_of_mem _ hw), hK, hN⟩ B.exec B.bytes hP va_S.rf ?_ _ hl
  intro v G1 H locs pc ls hR1 hP1 hS1 hdg
  exact W.iret B.exec B.bytes B.returns (fun t ht hW => ⟨⟨v, G1, rfl, hR1, kI_at hP1 hK hN ht hW⟩, hS1.F ht⟩) hS1.2.2 hdg (hlocks := B.notSynchronized)
theorem kMetZ {y : MethodName} {maxL : Nat} {rm : Room} {As : List Value} {R1 : Int32 → (Nat → Nat → Int32) → Prop} {own : String} (hy : plainName y.cls = true) (hown0 : y.cls = own) (hA : (lg_sl As).length ≤ maxL)
    (body : ∀ (p : Program) (e : Env) (s : State) (m : MethodId) (args : Array Value) (below : List Frame) (meth : Method) (c : Code) (Q : State → Prop), kC p s m c cc maxL args own D τ → p.tables.exec = Jvm.exec → c.code = cc → va_P D vwCl (kW τ ad G) s.heap → va_S (kAd ad) s.heap s.heap [] →
      (∀ (v : Int32) (G1 : Nat → Nat → Int32) (H : Heap) (locs : List Loc) (pc : Nat) (ls : Array Slot), (v = 0 ∨ v = 1) → R1 v G1 → va_P D vwCl (kW τ ad G1) H → va_S (kAd ad) s.heap H locs → decode cc pc = .ok (.ireturn, 1) → W p l e rm s m args below meth c H locs 0 0 Q (F0 m pc ls [.int v])) →
      ∀ ls : Array Slot, lv_has ls maxL (lv_args 0 As) → W p l e rm s m args below meth c s.heap [] 0 0 Q (F0 m 0 ls [])) : kM l y cc maxL (some .boolean) rm D τ ad As G R1 := by
  refine Met.ofW (cc := cc) (maxL := maxL) (ret := some .boolean) hy rfl ?_
  intro p e s m args below meth c s₁ B hml hv
  obtain ⟨rfl, hP, hK, hN⟩ := hv
  have hts := atoms_spec (ws := Cond.code y cc maxL (some .boolean) :: kWs) B.pre
  have hown : s.vm.findClass y.cls = some m.cls := findClass_of_methodNamed B.named
  rw [hown0] at hown
  have hl := lv_entry As (n := maxL) hA
  rw [lg_entry_eq]
  refine body p e s m _ below meth c _ ⟨B.exec, B.bytes, hml, hown, fun w hw => hts w (List.mem_cons_of_mem _ hw), hK, hN⟩ B.exec B.bytes hP va_S.rf ?_ _ hl
  intro v G1 H locs pc ls hv01 hR1 hP1 hS1 hdg
  exact W.zret B.exec B.bytes B.returns (by rcases hv01 with rfl | rfl <;> rfl) (fun t ht hW => ⟨⟨v, G1, rfl, hR1, kI_at hP1 hK hN ht hW⟩, hS1.F ht⟩) hS1.2.2 hdg (hlocks := B.notSynchronized)
theorem kMetV {y : MethodName} {maxL : Nat} {rm : Room} {As : List Value} {R1 : (Nat → Nat → Int32) → Prop} {own : String} (hy : plainName y.cls = true) (hown0 : y.cls = own) (hA : (lg_sl As).length ≤ maxL)
    (body : ∀ (p : Program) (e : Env) (s : State) (m : MethodId) (args : Array Value) (below : List Frame) (meth : Method) (c : Code) (Q : State → Prop), kC p s m c cc maxL args own D τ → p.tables.exec = Jvm.exec → c.code = cc → va_P D vwCl (kW τ ad G) s.heap → va_S (kAd ad) s.heap s.heap [] →
      (∀ (G1 : Nat → Nat → Int32) (H : Heap) (locs : List Loc) (pc : Nat) (ls : Array Slot), R1 G1 → va_P D vwCl (kW τ ad G1) H → va_S (kAd ad) s.heap H locs → decode cc pc = .ok (.return_, 1) → W p l e rm s m args below meth c H locs 0 0 Q (F0 m pc ls [])) →
      ∀ ls : Array Slot, lv_has ls maxL (lv_args 0 As) → W p l e rm s m args below meth c s.heap [] 0 0 Q (F0 m 0 ls [])) : kMv l y cc maxL rm D τ ad As G R1 := by
  refine Met.ofW (cc := cc) (maxL := maxL) (ret := none) hy rfl ?_
  intro p e s m args below meth c s₁ B hml hv
  obtain ⟨rfl, hP, hK, hN⟩ := hv
  have hts := atoms_spec (ws := Cond.code y cc maxL none :: kWs) B.pre
  have hown : s.vm.findClass y.cls = some m.cls := findClass_of_methodNamed B.named
  rw [hown0] at hown
  have hl := lv_entry As (n := maxL) hA
  rw [lg_entry_eq]
  refine body p e s m _ below meth c _ ⟨B.exec, B.bytes, hml, hown, fun w hw => hts w (List.mem_cons_of_mem _ hw), hK, hN⟩ B.exec B.bytes hP va_S.rf ?_ _ hl
  intro G1 H locs pc ls hR1 hP1 hS1 hdg
  exact W.vret B.exec B.bytes B.returns (fun t ht hW => ⟨⟨G1, rfl, hR1, kI_at hP1 hK hN ht hW⟩, hS1.F ht⟩) hS1.2.2 hdg (hlocks := B.notSynchronized)
/-- locals, in order -/
theorem kist {i n : Nat} {k : Fin 4} {x : Int32} {lv lv' : List (Nat × Value)} (hx : p.tables.exec = Jvm.exec) (hb : c.code = cc) (hdg : decode cc pc = .ok (.istore_n k, 1)) (hi : (k : Nat) = i) (h : lv_has ls n lv) (hn : i < n) (hs : ∀ ls' : Array Slot, lv_has ls' n ((i, Value.int x) :: lv.filter (fun q => !(q.1 == i) && !(q.1 + 1 == i && q.2.category == 2))) → lv_has ls' n lv')
    (kk : ∀ ls' : Array Slot, lv_has ls' n lv' → W p l e R s m args below meth c H locs cells slots Q (F0 m (pc + 1) ls' rest)) : W p l e R s m args below meth c H locs cells slots Q (F0 m pc ls (.int x :: rest)) := lv_istore_n hx hb hdg hi h hn rfl (fun ls' h' => kk ls' (hs ls' h'))
theorem kistW {i n : Nat} {x : Int32} {lv lv' : List (Nat × Value)} (hx : p.tables.exec = Jvm.exec) (hb : c.code = cc) (hdg : decode cc pc = .ok (.istore i, 2)) (h : lv_has ls n lv) (hn : i < n) (hs : ∀ ls' : Array Slot, lv_has ls' n ((i, Value.int x) :: lv.filter (fun q => !(q.1 == i) && !(q.1 + 1 == i && q.2.category == 2))) → lv_has ls' n lv')
    (kk : ∀ ls' : Array Slot, lv_has ls' n lv' → W p l e R s m args below meth c H locs cells slots Q (F0 m (pc + 2) ls' rest)) : W p l e R s m args below meth c H locs cells slots Q (F0 m pc ls (.int x :: rest)) := lv_istore hx hb hdg h hn rfl (fun ls' h' => kk ls' (hs ls' h'))
theorem kast {i n : Nat} {k : Fin 4} {x : Nat} {lv lv' : List (Nat × Value)} (hx : p.tables.exec = Jvm.exec) (hb : c.code = cc) (hdg : decode cc pc = .ok (.astore_n k, 1)) (hi : (k : Nat) = i) (h : lv_has ls n lv) (hn : i < n) (hs : ∀ ls' : Array Slot, lv_has ls' n ((i, Value.ref x) :: lv.filter (fun q => !(q.1 == i) && !(q.1 + 1 == i && q.2.category == 2))) → lv_has ls' n lv')
    (kk : ∀ ls' : Array Slot, lv_has ls' n lv' → W p l e R s m args below meth c H locs cells slots Q (F0 m (pc + 1) ls' rest)) : W p l e R s m args below meth c H locs cells slots Q (F0 m pc ls (.ref x :: rest)) := lv_astore_n hx hb hdg hi h hn rfl (fun ls' h' => kk ls' (hs ls' h'))
theorem kastW {i n : Nat} {x : Nat} {lv lv' : List (Nat × Value)} (hx : p.tables.exec = Jvm.exec) (hb : c.code = cc) (hdg : decode cc pc = .ok (.astore i, 2)) (h : lv_has ls n lv) (hn : i < n) (hs : ∀ ls' : Array Slot, lv_has ls' n ((i, Value.ref x) :: lv.filter (fun q => !(q.1 == i) && !(q.1 + 1 == i && q.2.category == 2))) → lv_has ls' n lv')
    (kk : ∀ ls' : Array Slot, lv_has ls' n lv' → W p l e R s m args below meth c H locs cells slots Q (F0 m (pc + 2) ls' rest)) : W p l e R s m args below meth c H locs cells slots Q (F0 m pc ls (.ref x :: rest)) := lv_astore hx hb hdg h hn rfl (fun ls' h' => kk ls' (hs ls' h'))
/-- iinc of a counter -/
theorem kinc {i n q a : Nat} {lv lv' : List (Nat × Value)} (hx : p.tables.exec = Jvm.exec) (hb : c.code = cc) (hdg : decode cc pc = .ok (.iinc i 1, 3)) (h : lv_has ls n lv) (hk : lv[q]? = some (i, .int (nI a))) (hn : i < n) (hs : ∀ ls' : Array Slot, lv_has ls' n ((i, Value.int (nI (a + 1))) :: lv.filter (fun q => !(q.1 == i) && !(q.1 + 1 == i && q.2.category == 2))) → lv_has ls' n lv')
    (kk : ∀ ls' : Array Slot, lv_has ls' n lv' → W p l e R s m args below meth c H locs cells slots Q (F0 m (pc + 3) ls' rest)) : W p l e R s m args below meth c H locs cells slots Q (F0 m pc ls rest) := lv_iinc (v := nI (a + 1)) hx hb hdg h hk (nI_1 a) hn rfl (fun ls' h' => kk ls' (hs ls' h'))
theorem kincG {i n q : Nat} {x : Int32} {lv lv' : List (Nat × Value)} (hx : p.tables.exec = Jvm.exec) (hb : c.code = cc) (hdg : decode cc pc = .ok (.iinc i 1, 3)) (h : lv_has ls n lv) (hk : lv[q]? = some (i, .int x)) (hn : i < n) (hs : ∀ ls' : Array Slot, lv_has ls' n ((i, Value.int (x + 1)) :: lv.filter (fun q => !(q.1 == i) && !(q.1 + 1 == i && q.2.category == 2))) → lv_has ls' n lv')
    (kk : ∀ ls' : Array Slot, lv_has ls' n lv' → W p l e R s m args below meth c H locs cells slots Q (F0 m (pc + 3) ls' rest)) : W p l e R s m args below meth c H locs cells slots Q (F0 m pc ls rest) := lv_iinc (v := x + 1) hx hb hdg h hk rfl hn rfl (fun ls' h' => kk ls' (hs ls' h'))
/-- numbers that are counters -/
theorem kadd {a b : Nat} {x y : Int32} (hx : p.tables.exec = Jvm.exec) (hb : c.code = cc) (hdg : decode cc pc = .ok (.iadd, 1)) (h1 : x = nI a) (h2 : y = nI b) (kk : W p l e R s m args below meth c H locs cells slots Q (F0 m (pc + 1) ls (.int (nI (a + b)) :: rest))) : W p l e R s m args below meth c H locs cells slots Q (F0 m pc ls (.int y :: .int x :: rest)) := by
  subst h1; subst h2
  refine lv_iadd hx hb hdg ?_
  rw [nI_add]
  exact kk
theorem kmul {a b : Nat} {x y : Int32} (hx : p.tables.exec = Jvm.exec) (hb : c.code = cc) (hdg : decode cc pc = .ok (.imul, 1)) (h1 : x = nI a) (h2 : y = nI b) (kk : W p l e R s m args below meth c H locs cells slots Q (F0 m (pc + 1) ls (.int (nI (a * b)) :: rest))) : W p l e R s m args below meth c H locs cells slots Q (F0 m pc ls (.int y :: .int x :: rest)) := by
  subst h1; subst h2
  refine lv_imul hx hb hdg ?_
  rw [pk_mul]
  exact kk
/-- a condition's 0 or 1 -/
theorem kif_eq {P : Prop} {hd : Decidable P} {off : Int} {tgt : Nat} (hx : p.tables.exec = Jvm.exec) (hb : c.code = cc) (hdg : decode cc pc = .ok (.ifCond .eq off, 3)) (ht : (pc : Int) + off = (tgt : Int))
    (k1 : ¬ P → W p l e R s m args below meth c H locs cells slots Q (F0 m tgt ls rest)) (k2 : P → W p l e R s m args below meth c H locs cells slots Q (F0 m (pc + 3) ls rest)) : W p l e R s m args below meth c H locs cells slots Q (F0 m pc ls (.int (if P then 1 else 0) :: rest)) := by
  refine lv_if_eq (tgt := tgt) hx hb hdg ht (fun h => ?_) (fun h => ?_)
  · exact k1 (fun q => by rw [if_pos q] at h; exact absurd h (by decide))
  · exact k2 (by
      by_cases q : P
      · exact q
      · rw [if_neg q] at h; exact absurd rfl h)
theorem kif_ne {P : Prop} {hd : Decidable P} {off : Int} {tgt : Nat} (hx : p.tables.exec = Jvm.exec) (hb : c.code = cc) (hdg : decode cc pc = .ok (.ifCond .ne off, 3)) (ht : (pc : Int) + off = (tgt : Int))
    (k1 : P → W p l e R s m args below meth c H locs cells slots Q (F0 m tgt ls rest)) (k2 : ¬ P → W p l e R s m args below meth c H locs cells slots Q (F0 m (pc + 3) ls rest)) : W p l e R s m args below meth c H locs cells slots Q (F0 m pc ls (.int (if P then 1 else 0) :: rest)) := by
  refine lv_if_ne (tgt := tgt) hx hb hdg ht (fun h => ?_) (fun h => ?_)
  · exact k1 (by
      by_cases q : P
      · exact q
      · rw [if_neg q] at h; exact absurd rfl h)
  · exact k2 (fun q => by rw [if_pos q] at h; exact absurd h (by decide))
end KR

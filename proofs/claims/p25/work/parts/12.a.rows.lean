/-! Rows of the law's own methods: longs, and calls whose answer is one. -/
def kMl (l : Launch) (y : MethodName) (bytes : ByteArray) (maxL : Nat) (rm : Room) (D : va_G) (τ : Nat → ClassId) (ad : Nat → Nat) (As : List Value) (G : Nat → Nat → Int32) (R : Int64 → (Nat → Nat → Int32) → Prop) : Prop :=
  Met l y (Cond.code y bytes maxL (some .long) :: kWs) rm (va_Pc As (kI D τ ad G)) (va_Ql R (fun G' t => kI D τ ad G' t) (kAd ad)) 0 0 (kAd ad)
section KL
variable {p : Program} {l : Launch} {e : Env} {R : Room} {s : State} {m : MethodId} {args : Array Value} {below : List Frame} {meth : Method} {c : Code} {H : Heap} {locs : List Loc} {cells slots : Nat} {Q : State → Prop}
variable {cc : ByteArray} {pc : Nat} {ls : Array Slot} {rest : List Value} {D : va_G} {τ : Nat → ClassId} {ad : Nat → Nat} {G : Nat → Nat → Int32} {own : String} {nL : Nat} {A : Nat → Prop}
theorem klst {i n : Nat} {k : Fin 4} {x : Int64} {lv lv' : List (Nat × Value)} (hx : p.tables.exec = Jvm.exec) (hb : c.code = cc) (hdg : decode cc pc = .ok (.lstore_n k, 1)) (hi : (k : Nat) = i) (h : lv_has ls n lv) (hn : i + 1 < n) (hs : ∀ ls' : Array Slot, lv_has ls' n ((i, Value.long x) :: lv.filter (fun q => !(q.1 == i) && (!(q.1 == i + 1) && !(q.1 + 1 == i && q.2.category == 2)))) → lv_has ls' n lv')
    (kk : ∀ ls' : Array Slot, lv_has ls' n lv' → W p l e R s m args below meth c H locs cells slots Q (F0 m (pc + 1) ls' rest)) : W p l e R s m args below meth c H locs cells slots Q (F0 m pc ls (.long x :: rest)) := lv_lstore_n hx hb hdg hi h hn rfl (fun ls' h' => kk ls' (hs ls' h'))
theorem klstW {i n : Nat} {x : Int64} {lv lv' : List (Nat × Value)} (hx : p.tables.exec = Jvm.exec) (hb : c.code = cc) (hdg : decode cc pc = .ok (.lstore i, 2)) (h : lv_has ls n lv) (hn : i + 1 < n) (hs : ∀ ls' : Array Slot, lv_has ls' n ((i, Value.long x) :: lv.filter (fun q => !(q.1 == i) && (!(q.1 == i + 1) && !(q.1 + 1 == i && q.2.category == 2)))) → lv_has ls' n lv')
    (kk : ∀ ls' : Array Slot, lv_has ls' n lv' → W p l e R s m args below meth c H locs cells slots Q (F0 m (pc + 2) ls' rest)) : W p l e R s m args below meth c H locs cells slots Q (F0 m pc ls (.long x :: rest)) := lv_lstore hx hb hdg h hn rfl (fun ls' h' => kk ls' (hs ls' h'))
/-- a call of a static method of the own class that answers a long; any room A that has the world -/
theorem kcSlA (X : kC p s m c cc nL args own D τ) (hP : va_P D vwCl (kW τ ad G) H) (hS : va_S A s.heap H locs) (hA : ∀ q, kAd ad q → A q) {y : MethodName} {bytes : ByteArray} {maxL n index : Nat} {rm : Room} {As st : List Value} {R1 : Int64 → (Nat → Nat → Int32) → Prop}
    (hM : kMl l y bytes maxL rm D τ ad As G R1) (hw : kVs own index y bytes maxL (some .long) n) (hR : kF rm R maxL) (hn : As.length = n) (hst : st = As.reverse ++ rest) (hcat : (rest.map fun v => v.category).sum ≤ 8) (hls : ls.size = nL) (hf : cells ≤ R.cells ∧ slots ≤ R.slots) (hdg : decode cc pc = .ok (.invokestatic index, 3))
    (kk : ∀ (r : Int64) (G1 : Nat → Nat → Int32) (H1 : Heap) (locs1 : List Loc), R1 r G1 → va_P D vwCl (kW τ ad G1) H1 → va_S A s.heap H1 locs1 → W p l e R s m args below meth c H1 locs1 cells slots Q (F0 m (pc + 3) ls (.long r :: rest))) : W p l e R s m args below meth c H locs cells slots Q (F0 m pc ls st) := by
  obtain ⟨hx, hb, hml, hown, hts, hK, hnw⟩ := X
  obtain ⟨w1, w2, w4, w5, wy⟩ := hw
  obtain ⟨r1, r2, r3, r4⟩ := hR
  subst hst
  have hGI : GoodIn kWs (wsS own index y (Cond.code y bytes maxL (some .long) :: kWs)) := goodIn_app (fun w hw => by
    simp only [List.mem_cons, List.not_mem_nil, or_false] at hw
    rcases hw with rfl | rfl | rfl
    · exact ws_ok w1
    · exact ws_ok w2
    · exact ws_ok w4) (ws_G w5)
  refine va_calll (va_runS (As := As) (rest := rest) ⟨hx, hb, hml, hown, hts⟩ hM (cwS n hts hGI rfl r3 r4 wy ⟨r1, r2⟩) ⟨kI_blind, fun U hU hW => ⟨rfl, kI_at hP hK hnw hU hW⟩⟩ rfl hn hls rfl (lv_room hcat) hdg hf) hS (fun q _ h => hA q h) hA (fun r u t H1 locs1 ht hvm hp hB hz hk1 hS1 => ?_)
  obtain ⟨b1, b2, b3⟩ := hB
  rw [ht] at b1
  exact kk r u H1 locs1 hp b1 hS1
theorem kcSl (X : kC p s m c cc nL args own D τ) (hP : va_P D vwCl (kW τ ad G) H) (hS : va_S (kAd ad) s.heap H locs) {y : MethodName} {bytes : ByteArray} {maxL n index : Nat} {rm : Room} {As st : List Value} {R1 : Int64 → (Nat → Nat → Int32) → Prop}
    (hM : kMl l y bytes maxL rm D τ ad As G R1) (hw : kVs own index y bytes maxL (some .long) n) (hR : kF rm R maxL) (hn : As.length = n) (hst : st = As.reverse ++ rest) (hcat : (rest.map fun v => v.category).sum ≤ 8) (hls : ls.size = nL) (hf : cells ≤ R.cells ∧ slots ≤ R.slots) (hdg : decode cc pc = .ok (.invokestatic index, 3))
    (kk : ∀ (r : Int64) (G1 : Nat → Nat → Int32) (H1 : Heap) (locs1 : List Loc), R1 r G1 → va_P D vwCl (kW τ ad G1) H1 → va_S (kAd ad) s.heap H1 locs1 → W p l e R s m args below meth c H1 locs1 cells slots Q (F0 m (pc + 3) ls (.long r :: rest))) : W p l e R s m args below meth c H locs cells slots Q (F0 m pc ls st) :=
  kcSlA X hP hS (fun _ h => h) hM hw hR hn hst hcat hls hf hdg kk
/-- the same for an int's answer, of a static method, of a method of the object -/
theorem kcSA (X : kC p s m c cc nL args own D τ) (hP : va_P D vwCl (kW τ ad G) H) (hS : va_S A s.heap H locs) (hA : ∀ q, kAd ad q → A q) {y : MethodName} {bytes : ByteArray} {maxL n index : Nat} {ret : Option FieldType} {rm : Room} {As st : List Value} {R1 : Int32 → (Nat → Nat → Int32) → Prop}
    (hM : kM l y bytes maxL ret rm D τ ad As G R1) (hw : kVs own index y bytes maxL ret n) (hR : kF rm R maxL) (hn : As.length = n) (hst : st = As.reverse ++ rest) (hcat : (rest.map fun v => v.category).sum ≤ 8) (hls : ls.size = nL) (hf : cells ≤ R.cells ∧ slots ≤ R.slots) (hdg : decode cc pc = .ok (.invokestatic index, 3))
    (kk : ∀ (r : Int32) (G1 : Nat → Nat → Int32) (H1 : Heap) (locs1 : List Loc), R1 r G1 → va_P D vwCl (kW τ ad G1) H1 → va_S A s.heap H1 locs1 → W p l e R s m args below meth c H1 locs1 cells slots Q (F0 m (pc + 3) ls (.int r :: rest))) : W p l e R s m args below meth c H locs cells slots Q (F0 m pc ls st) := by
  obtain ⟨hx, hb, hml, hown, hts, hK, hnw⟩ := X
  obtain ⟨w1, w2, w4, w5, wy⟩ := hw
  obtain ⟨r1, r2, r3, r4⟩ := hR
  subst hst
  have hGI : GoodIn kWs (wsS own index y (Cond.code y bytes maxL ret :: kWs)) := goodIn_app (fun w hw => by
    simp only [List.mem_cons, List.not_mem_nil, or_false] at hw
    rcases hw with rfl | rfl | rfl
    · exact ws_ok w1
    · exact ws_ok w2
    · exact ws_ok w4) (ws_G w5)
  refine va_calli (va_runS (As := As) (rest := rest) ⟨hx, hb, hml, hown, hts⟩ hM (cwS n hts hGI rfl r3 r4 wy ⟨r1, r2⟩) ⟨kI_blind, fun U hU hW => ⟨rfl, kI_at hP hK hnw hU hW⟩⟩ rfl hn hls rfl (lv_room hcat) hdg hf) hS (fun q _ h => hA q h) hA (fun r u t H1 locs1 ht hvm hp hB hz hk1 hS1 => ?_)
  obtain ⟨b1, b2, b3⟩ := hB
  rw [ht] at b1
  exact kk r u H1 locs1 hp b1 hS1
theorem kcVA (X : kC p s m c cc nL args own D τ) (hP : va_P D vwCl (kW τ ad G) H) (hS : va_S A s.heap H locs) (hA : ∀ q, kAd ad q → A q) {y : MethodName} {bytes : ByteArray} {maxL n index : Nat} {ret : Option FieldType} {rm : Room} {As st : List Value} {R1 : Int32 → (Nat → Nat → Int32) → Prop} {k ci : Nat} {C : String} {T : u_T} {N : Nat} {F : (Nat → Int32) → List Value}
    (hM : kM l y bytes maxL ret rm D τ ad (.ref (ad k) :: As) G R1) (ho : kO τ ad k ci C T N F) (hw : kV own index C y bytes maxL ret n) (hR : kF rm R maxL) (hn : As.length = n) (hst : st = As.reverse ++ .ref (ad k) :: rest) (hcat : (rest.map fun v => v.category).sum ≤ 8) (hls : ls.size = nL) (hf : cells ≤ R.cells ∧ slots ≤ R.slots) (hdg : decode cc pc = .ok (.invokevirtual index, 3))
    (kk : ∀ (r : Int32) (G1 : Nat → Nat → Int32) (H1 : Heap) (locs1 : List Loc), R1 r G1 → va_P D vwCl (kW τ ad G1) H1 → va_S A s.heap H1 locs1 → W p l e R s m args below meth c H1 locs1 cells slots Q (F0 m (pc + 3) ls (.int r :: rest))) : W p l e R s m args below meth c H locs cells slots Q (F0 m pc ls st) := by
  obtain ⟨hx, hb, hml, hown, hts, hK, hnw⟩ := X
  obtain ⟨hk, hc, hE⟩ := ho
  obtain ⟨w1, w2, w3, w4, w5, wy⟩ := hw
  obtain ⟨r1, r2, r3, r4⟩ := hR
  subst hst
  have he : (kW τ ad G)[kpos k]? = some (ad k, .inr (ci, F (G k))) := (kW_get hk).trans (by rw [hE])
  have hGI : GoodIn kWs (wsV own index C y (Cond.code y bytes maxL ret :: kWs)) := goodIn_app (fun w hw => by
    simp only [List.mem_cons, List.not_mem_nil, or_false] at hw
    rcases hw with rfl | rfl | rfl | rfl
    · exact ws_ok w1
    · exact ws_ok w2
    · exact ws_ok w3
    · exact ws_ok w4) (ws_G w5)
  refine va_calli (va_runV (As := As) (rest := rest) ⟨hx, hb, hml, hown, hts⟩ hM (cwV n hts hGI rfl r3 r4 wy ⟨r1, r2⟩) ⟨kI_blind, va_recv hK hP hc he, fun U hU hW => ⟨rfl, kI_at hP hK hnw hU hW⟩⟩ rfl hn hls rfl (lv_room hcat) hdg hf) hS (fun q _ h => hA q h) hA (fun r u t H1 locs1 ht hvm hp hB hz hk1 hS1 => ?_)
  obtain ⟨b1, b2, b3⟩ := hB
  rw [ht] at b1
  exact kk r u H1 locs1 hp b1 hS1
theorem kMetL {y : MethodName} {maxL : Nat} {rm : Room} {As : List Value} {R1 : Int64 → (Nat → Nat → Int32) → Prop} {own : String} (hy : plainName y.cls = true) (hown0 : y.cls = own) (hA : (lg_sl As).length ≤ maxL)
    (body : ∀ (p : Program) (e : Env) (s : State) (m : MethodId) (args : Array Value) (below : List Frame) (meth : Method) (c : Code) (Q : State → Prop), kC p s m c cc maxL args own D τ → p.tables.exec = Jvm.exec → c.code = cc → va_P D vwCl (kW τ ad G) s.heap → va_S (kAd ad) s.heap s.heap [] →
      (∀ (v : Int64) (G1 : Nat → Nat → Int32) (H : Heap) (locs : List Loc) (pc : Nat) (ls : Array Slot), R1 v G1 → va_P D vwCl (kW τ ad G1) H → va_S (kAd ad) s.heap H locs → decode cc pc = .ok (.lreturn, 1) → W p l e rm s m args below meth c H locs 0 0 Q (F0 m pc ls [.long v])) →
      ∀ ls : Array Slot, lv_has ls maxL (lv_args 0 As) → W p l e rm s m args below meth c s.heap [] 0 0 Q (F0 m 0 ls [])) : kMl l y cc maxL rm D τ ad As G R1 := by
  refine Met.ofW (cc := cc) (maxL := maxL) (ret := some .long) hy rfl ?_
  intro p e s m args below meth c s₁ B hml hv
  obtain ⟨rfl, hP, hK, hN⟩ := hv
  have hts := atoms_spec (ws := Cond.code y cc maxL (some .long) :: kWs) B.pre
  have hown : s.vm.findClass y.cls = some m.cls := findClass_of_methodNamed B.named
  rw [hown0] at hown
  have hl := lv_entry As (n := maxL) hA
  rw [lg_entry_eq]
  refine body p e s m _ below meth c _ ⟨B.exec, B.bytes, hml, hown, fun w hw => hts w (List.mem_cons_of_mem _ hw), hK, hN⟩ B.exec B.bytes hP va_S.rf ?_ _ hl
  intro v G1 H locs pc ls hR1 hP1 hS1 hdg
  exact W.lret B.exec B.bytes B.returns (fun t ht hW => ⟨⟨v, G1, rfl, hR1, kI_at hP1 hK hN ht hW⟩, hS1.F ht⟩) hS1.2.2 hdg (hlocks := B.notSynchronized)
end KL
/-! What the law's own methods tell. -/
def upF (x y : Int32) : Int32 := (x &&& 2147483647) - (x &&& 2147483647) / y * y
theorem upF_lt (x : Int32) {m : Nat} (h0 : 0 < m) (hm : m < 2 ^ 31) : ∃ q, q < m ∧ upF x (nI m) = nI q := by
  unfold upF
  rw [pk_and x (m := 2147483647) 31 (by decide), pk_rem (Nat.mod_lt _ (by decide)) h0 hm]
  exact ⟨_, Nat.mod_lt _ h0, rfl⟩
def vF (v : Int64) (x : Int32) : Int64 := 31 * v + x.toInt64
def itF (g : Nat → Int64 → Int64) : Nat → Int64 → Int64
  | 0, v => v
  | n + 1, v => g n (itF g n v)
def pcN (N : Nat → Int32) (c : Nat) : Nat := nZ (aCl N (nI c) (nI 2))
def cntV (N : Nat → Int32) : Int64 := itF (fun k v => vF v (aCt N 0 (nI k))) 15 7
def clV (N : Nat → Int32) (c : Nat) (v : Int64) : Int64 := itF (fun k v => vF v (aCl N (nI c) (nI k))) 5 v
def vrI (N : Nat → Int32) (c p : Nat) (v : Int64) : Int64 := itF (fun k v => vF v (aVr N (nI c) (nI p) (nI k))) 5 v
def vrV (N : Nat → Int32) (c : Nat) (v : Int64) : Int64 := itF (vrI N c) (pcN N c) (clV N c v)
def celV (N : Nat → Int32) : Int64 := itF (vrV N) 12 (cntV N)
def rdI (N : Nat → Int32) (r : Nat) (v : Int64) : Int64 := itF (fun k v => vF v (aRd N (nI r) (nI k))) 12 v
def rdV (N : Nat → Int32) : Int64 := itF (rdI N) (nZ (N 2)) (celV N)
def cmI (N : Nat → Int32) (q : Nat) (v : Int64) : Int64 := itF (fun k v => vF v (aCm N (nI q) (nI k))) 6 v
def viewF (N : Nat → Int32) : Int64 := itF (cmI N) (nZ (N 6)) (rdV N)
def seenF (N : Nat → Int32) (x : Int32) : Int32 := if aRd N x (nI 0) = 0 then aRd N x (nI 9) else -1
def coinF (N : Nat → Int32) (v : Int64) : Int64 := itF (fun r v => v - (aRd N (nI r) (nI 2)).toInt64) (nZ (N 2)) (v - (aCt N 0 (nI 10)).toInt64)
def putF (w a b : Int32) : Int64 := if ¬ nI 2 ≤ w then (upF b (if a &&& nI 3 = 0 then nI 10000 else nI 60)).toInt64 else if w = nI 2 then lN 1 + (upF b (nI 200)).toInt64 else if w = nI 15 then (if b &&& nI 7 ≤ nI 1 then (if b &&& nI 7 = 0 then a.toInt64 else b.toInt64) else lN 0) else lN 0
theorem aCt_2 {N : Nat → Int32} (L : Nat) : aCt N L (nI 2) = N 2 := by
  unfold aCt ctN
  rw [if_neg (by decide), if_neg (by decide), if_pos rfl]
theorem aCt_11 {N : Nat → Int32} (L : Nat) : aCt N L (nI 11) = N 6 := by
  unfold aCt ctN
  rw [if_neg (by decide), if_neg (by decide), if_neg (by decide), if_neg (by decide), if_neg (by decide), if_neg (by decide), if_neg (by decide), if_neg (by decide), if_neg (by decide), if_neg (by decide), if_neg (by decide), if_pos rfl]
theorem aCt_15 {N : Nat → Int32} (L : Nat) : aCt N L (nI 15) = nI L := by
  unfold aCt ctN
  rw [if_neg (by decide), if_neg (by decide), if_neg (by decide), if_neg (by decide), if_neg (by decide), if_neg (by decide), if_neg (by decide), if_neg (by decide), if_neg (by decide), if_neg (by decide), if_neg (by decide), if_neg (by decide), if_neg (by decide), if_neg (by decide), if_neg (by decide), if_pos rfl]
theorem aCt_0 {N : Nat → Int32} (L : Nat) : aCt N L (nI 0) = N 0 := by
  unfold aCt ctN
  rw [if_pos rfl]
theorem rln_n {G : Nat → Nat → Int32} {N : Nat → Int32} {L : Nat} {Hs : Nat → Nat → Int32} (hR : RLN G N L Hs) : ∃ n k, N 2 = nI n ∧ n ≤ 40 ∧ N 6 = nI k ∧ k ≤ 40 ∧ nZ (N 2) = n ∧ nZ (N 6) = k ∧ L ≤ 4 := by
  obtain ⟨⟨n, k, W, P, mo, ow, vx, hC⟩, pi, hH⟩ := hR
  obtain ⟨p1, p2, p3, p4, ⟨p5, p6, p7, p8⟩, p9, p10, p11, ⟨p12, p13, p14⟩, p15, p16, p17, p19⟩ := pre_n hC hH
  exact ⟨n, k, p15, p6, p16, p8, nZ_of p15 (by omega), nZ_of p16 (by omega), p2⟩
theorem rln_P {G : Nat → Nat → Int32} {N : Nat → Int32} {L : Nat} {Hs : Nat → Nat → Int32} (hR : RLN G N L Hs) {c : Nat} (hc : c < 12) : aCl N (nI c) (nI 2) = nI (pcN N c) ∧ 1 ≤ pcN N c ∧ pcN N c ≤ 10 := by
  obtain ⟨⟨n, k, W, P, mo, ow, vx, hC⟩, pi, hH⟩ := hR
  obtain ⟨p1, p2, p3, p4, ⟨p5, p6, p7, p8⟩, p9, p10, p11, ⟨p12, p13, p14⟩, p15, p16, p17, p19⟩ := pre_n hC hH
  have e : aCl N (nI c) (nI 2) = nI (P c) := by
    unfold aCl
    rw [rdS_h hc (by omega) rfl, nZ_of p12 (by omega)]
    unfold clM
    rw [if_neg (by decide), if_neg (by decide), if_pos rfl, cu_vers hC.1 hc]
  have := p11 c hc
  have e2 : pcN N c = P c := by unfold pcN; exact nZ_of e (by omega)
  rw [e2]
  exact ⟨e, this.2.1, by omega⟩

/-! More rows: comparisons of counters, locals in order, sums. -/
section KM
variable {p : Program} {l : Launch} {e : Env} {R : Room} {s : State} {m : MethodId} {args : Array Value} {below : List Frame} {meth : Method} {c : Code} {H : Heap} {locs : List Loc} {cells slots : Nat} {Q : State → Prop}
variable {cc : ByteArray} {pc : Nat} {ls : Array Slot} {rest : List Value} {D : va_G} {τ : Nat → ClassId} {ad : Nat → Nat} {G : Nat → Nat → Int32} {own : String} {nL : Nat}
theorem kic_ge {a b : Nat} {x y : Int32} {off : Int} {tgt : Nat} (hx : p.tables.exec = Jvm.exec) (hb : c.code = cc) (hdg : decode cc pc = .ok (.if_icmp .ge off, 3)) (ht : (pc : Int) + off = (tgt : Int)) (h1 : x = nI a) (h2 : y = nI b) (ha : a < 2 ^ 31) (hb2 : b < 2 ^ 31)
    (k1 : b ≤ a → W p l e R s m args below meth c H locs cells slots Q (F0 m tgt ls rest)) (k2 : a < b → W p l e R s m args below meth c H locs cells slots Q (F0 m (pc + 3) ls rest)) : W p l e R s m args below meth c H locs cells slots Q (F0 m pc ls (.int y :: .int x :: rest)) := by
  subst h1; subst h2
  refine lv_icmp_ge (tgt := tgt) hx hb hdg ht (fun h => k1 ((nI_leI hb2 ha).mp h)) (fun h => k2 (by have q : ¬ b ≤ a := fun z => h ((nI_leI hb2 ha).mpr z); omega))
theorem kic_lt {a b : Nat} {x y : Int32} {off : Int} {tgt : Nat} (hx : p.tables.exec = Jvm.exec) (hb : c.code = cc) (hdg : decode cc pc = .ok (.if_icmp .lt off, 3)) (ht : (pc : Int) + off = (tgt : Int)) (h1 : x = nI a) (h2 : y = nI b) (ha : a < 2 ^ 31) (hb2 : b < 2 ^ 31)
    (k1 : a < b → W p l e R s m args below meth c H locs cells slots Q (F0 m tgt ls rest)) (k2 : b ≤ a → W p l e R s m args below meth c H locs cells slots Q (F0 m (pc + 3) ls rest)) : W p l e R s m args below meth c H locs cells slots Q (F0 m pc ls (.int y :: .int x :: rest)) := by
  subst h1; subst h2
  refine lv_icmp_lt (tgt := tgt) hx hb hdg ht (fun h => k1 ((nI_ltI ha hb2).mp h)) (fun h => k2 (by have q : ¬ a < b := fun z => h ((nI_ltI ha hb2).mpr z); omega))
theorem kic_gt {a b : Nat} {x y : Int32} {off : Int} {tgt : Nat} (hx : p.tables.exec = Jvm.exec) (hb : c.code = cc) (hdg : decode cc pc = .ok (.if_icmp .gt off, 3)) (ht : (pc : Int) + off = (tgt : Int)) (h1 : x = nI a) (h2 : y = nI b) (ha : a < 2 ^ 31) (hb2 : b < 2 ^ 31)
    (k1 : b < a → W p l e R s m args below meth c H locs cells slots Q (F0 m tgt ls rest)) (k2 : a ≤ b → W p l e R s m args below meth c H locs cells slots Q (F0 m (pc + 3) ls rest)) : W p l e R s m args below meth c H locs cells slots Q (F0 m pc ls (.int y :: .int x :: rest)) := by
  subst h1; subst h2
  refine lv_icmp_gt (tgt := tgt) hx hb hdg ht (fun h => k1 ((nI_ltI hb2 ha).mp h)) (fun h => k2 (by have q : ¬ b < a := fun z => h ((nI_ltI hb2 ha).mpr z); omega))
theorem kic_le {a b : Nat} {x y : Int32} {off : Int} {tgt : Nat} (hx : p.tables.exec = Jvm.exec) (hb : c.code = cc) (hdg : decode cc pc = .ok (.if_icmp .le off, 3)) (ht : (pc : Int) + off = (tgt : Int)) (h1 : x = nI a) (h2 : y = nI b) (ha : a < 2 ^ 31) (hb2 : b < 2 ^ 31)
    (k1 : a ≤ b → W p l e R s m args below meth c H locs cells slots Q (F0 m tgt ls rest)) (k2 : b < a → W p l e R s m args below meth c H locs cells slots Q (F0 m (pc + 3) ls rest)) : W p l e R s m args below meth c H locs cells slots Q (F0 m pc ls (.int y :: .int x :: rest)) := by
  subst h1; subst h2
  refine lv_icmp_le (tgt := tgt) hx hb hdg ht (fun h => k1 ((nI_leI ha hb2).mp h)) (fun h => k2 (by have q : ¬ a ≤ b := fun z => h ((nI_leI ha hb2).mpr z); omega))
theorem kic_eq {a b : Nat} {x y : Int32} {off : Int} {tgt : Nat} (hx : p.tables.exec = Jvm.exec) (hb : c.code = cc) (hdg : decode cc pc = .ok (.if_icmp .eq off, 3)) (ht : (pc : Int) + off = (tgt : Int)) (h1 : x = nI a) (h2 : y = nI b) (ha : a < 2 ^ 31) (hb2 : b < 2 ^ 31)
    (k1 : a = b → W p l e R s m args below meth c H locs cells slots Q (F0 m tgt ls rest)) (k2 : a ≠ b → W p l e R s m args below meth c H locs cells slots Q (F0 m (pc + 3) ls rest)) : W p l e R s m args below meth c H locs cells slots Q (F0 m pc ls (.int y :: .int x :: rest)) := by
  subst h1; subst h2
  refine lv_icmp_eq (tgt := tgt) hx hb hdg ht (fun h => k1 ((nI_eq ha hb2).mp h)) (fun h => k2 (fun z => h ((nI_eq ha hb2).mpr z)))
theorem kic_ne {a b : Nat} {x y : Int32} {off : Int} {tgt : Nat} (hx : p.tables.exec = Jvm.exec) (hb : c.code = cc) (hdg : decode cc pc = .ok (.if_icmp .ne off, 3)) (ht : (pc : Int) + off = (tgt : Int)) (h1 : x = nI a) (h2 : y = nI b) (ha : a < 2 ^ 31) (hb2 : b < 2 ^ 31)
    (k1 : a ≠ b → W p l e R s m args below meth c H locs cells slots Q (F0 m tgt ls rest)) (k2 : a = b → W p l e R s m args below meth c H locs cells slots Q (F0 m (pc + 3) ls rest)) : W p l e R s m args below meth c H locs cells slots Q (F0 m pc ls (.int y :: .int x :: rest)) := by
  subst h1; subst h2
  refine lv_icmp_ne (tgt := tgt) hx hb hdg ht (fun h => k1 (fun z => h ((nI_eq ha hb2).mpr z))) (fun h => k2 ((nI_eq ha hb2).mp h))
theorem ksub {a b : Nat} {x y : Int32} (hx : p.tables.exec = Jvm.exec) (hb : c.code = cc) (hdg : decode cc pc = .ok (.isub, 1)) (h1 : x = nI a) (h2 : y = nI b) (hle : b ≤ a) (kk : W p l e R s m args below meth c H locs cells slots Q (F0 m (pc + 1) ls (.int (nI (a - b)) :: rest))) : W p l e R s m args below meth c H locs cells slots Q (F0 m pc ls (.int y :: .int x :: rest)) := by
  subst h1; subst h2
  refine lv_isub hx hb hdg ?_
  rw [pk_sub hle]
  exact kk
theorem kincD {i n q : Nat} {z : Int} {x : Int32} {lv lv' : List (Nat × Value)} (hx : p.tables.exec = Jvm.exec) (hb : c.code = cc) (hdg : decode cc pc = .ok (.iinc i z, 3)) (h : lv_has ls n lv) (hk : lv[q]? = some (i, .int x)) (hn : i < n) (hs : ∀ ls' : Array Slot, lv_has ls' n ((i, Value.int (x + Int32.ofInt z)) :: lv.filter (fun q => !(q.1 == i) && !(q.1 + 1 == i && q.2.category == 2))) → lv_has ls' n lv')
    (kk : ∀ ls' : Array Slot, lv_has ls' n lv' → W p l e R s m args below meth c H locs cells slots Q (F0 m (pc + 3) ls' rest)) : W p l e R s m args below meth c H locs cells slots Q (F0 m pc ls rest) := lv_iinc (v := x + Int32.ofInt z) hx hb hdg h hk rfl hn rfl (fun ls' h' => kk ls' (hs ls' h'))
/-- a call of a static method of another class that answers an int -/
theorem kcS2 (X : kC p s m c cc nL args own D τ) (hP : va_P D vwCl (kW τ ad G) H) (hS : va_S (kAd ad) s.heap H locs) {y : MethodName} {bytes : ByteArray} {maxL n index : Nat} {ret : Option FieldType} {rm : Room} {As st : List Value} {R1 : Int32 → (Nat → Nat → Int32) → Prop}
    (hM : kM l y bytes maxL ret rm D τ ad As G R1) (hw : Cond.methodLink own index y ∈ kWs ∧ Cond.static y ∈ kWs ∧ Cond.initialized y.cls ∈ kWs ∧ Cond.code y bytes maxL ret ∈ kWs ∧ (y.cls ≠ "java/lang/invoke/MethodHandle" ∧ y.cls ≠ "java/lang/invoke/VarHandle" ∧ (parseMethodDescriptor y.desc).map (fun d => d.parameters.length) = some n)) (hR : kF rm R maxL) (hn : As.length = n) (hst : st = As.reverse ++ rest) (hcat : (rest.map fun v => v.category).sum ≤ 8) (hls : ls.size = nL) (hf : cells ≤ R.cells ∧ slots ≤ R.slots) (hdg : decode cc pc = .ok (.invokestatic index, 3))
    (kk : ∀ (r : Int32) (G1 : Nat → Nat → Int32) (H1 : Heap) (locs1 : List Loc), R1 r G1 → va_P D vwCl (kW τ ad G1) H1 → va_S (kAd ad) s.heap H1 locs1 → W p l e R s m args below meth c H1 locs1 cells slots Q (F0 m (pc + 3) ls (.int r :: rest))) : W p l e R s m args below meth c H locs cells slots Q (F0 m pc ls st) := by
  obtain ⟨hx, hb, hml, hown, hts, hK, hnw⟩ := X
  obtain ⟨w1, w2, w4, w5, wy⟩ := hw
  obtain ⟨r1, r2, r3, r4⟩ := hR
  subst hst
  refine va_calli (va_runS (As := As) (rest := rest) ⟨hx, hb, hml, hown, hts⟩ hM ⟨callB_of n hts (ws_G w5) rfl r3 r4 (hts _ w4) (hts _ w1) wy ⟨r1, r2⟩, hts _ w2⟩ ⟨kI_blind, fun U hU hW => ⟨rfl, kI_at hP hK hnw hU hW⟩⟩ rfl hn hls rfl (lv_room hcat) hdg hf) hS (fun q _ h => h) (fun q h => h) (fun r u t H1 locs1 ht hvm hp hB hz hk1 hS1 => ?_)
  obtain ⟨b1, b2, b3⟩ := hB
  rw [ht] at b1
  exact kk r u H1 locs1 hp b1 hS1
/-- System.arraycopy of ints, of one row into another or within one -/
def cpy (f g : Nat → Int32) (sp dp n : Nat) : Nat → Int32 := fun k => if dp ≤ k ∧ k < dp + n then f (sp + (k - dp)) else g k
def gc (G : Nat → Nat → Int32) (k0 k1 sp dp n : Nat) : Nat → Nat → Int32 := fun k => if k = k1 then cpy (G k0) (G k1) sp dp n else G k
def kCp (own : String) (index : Nat) : Prop := Cond.methodLink own index arraycopyName ∈ kWs ∧ Cond.native arraycopyName ∈ kWs ∧ Cond.static arraycopyName ∈ kWs ∧ Cond.initialized "java/lang/System" ∈ kWs
theorem kcopy (X : kC p s m c cc nL args own D τ) (hI : kInj ad) (hP : va_P D vwCl (kW τ ad G) H) (hS : va_S (kAd ad) s.heap H locs) {k0 k1 n0 n1 sp dp n index : Nat} (ha0 : kAr τ ad k0 0 .int n0) (ha1 : kAr τ ad k1 0 .int n1) (hw : kCp own index) (h1 : sp + n ≤ n0) (h2 : dp + n ≤ n1) (hR : 1 ≤ R.frames ∧ 40 ≤ R.locals) (hcat : (rest.map fun v => v.category).sum ≤ 8) (hls : ls.size = nL) (hdg : decode cc pc = .ok (.invokestatic index, 3))
    (kk : ∀ (H1 : Heap) (locs1 : List Loc), va_P D vwCl (kW τ ad (gc G k0 k1 sp dp n)) H1 → va_S (kAd ad) s.heap H1 locs1 → W p l e R s m args below meth c H1 locs1 cells slots Q (F0 m (pc + 3) ls rest)) : W p l e R s m args below meth c H locs cells slots Q (F0 m pc ls (.int (nI n) :: .int (nI dp) :: .ref (ad k1) :: .int (nI sp) :: .ref (ad k0) :: rest)) := by
  obtain ⟨hx, hb, hml, hown, hts, hK, hnw⟩ := X
  obtain ⟨hk0, hn0, c0, ht0, hE0⟩ := ha0
  obtain ⟨hk1, hn1, c1, ht1, hE1⟩ := ha1
  have e1 : (nI sp).toNatClampNeg = sp := nI_clamp (by omega)
  have e2 : (nI dp).toNatClampNeg = dp := nI_clamp (by omega)
  have e3 : (nI n).toNatClampNeg = n := nI_clamp (by omega)
  have p1 : ¬ nI sp < 0 := nI_pos (by omega)
  have p2 : ¬ nI dp < 0 := nI_pos (by omega)
  have p3 : ¬ nI n < 0 := nI_pos (by omega)
  have q1 : (nI sp).toNatClampNeg + (nI n).toNatClampNeg ≤ n0 := by rw [e1, e3]; exact h1
  have q2 : (nI dp).toNatClampNeg + (nI n).toNatClampNeg ≤ n1 := by rw [e2, e3]; exact h2
  have q4 : nativeFrameWords "java/lang/System" "arraycopy" 5 ≤ 20 := by decide
  have q3 : (rest.map fun v => v.category).sum + (nativeFrameWords "java/lang/System" "arraycopy" 5 + 11) ≤ R.locals := by omega
  refine va_copyi hx hb (hml.trans hls.symm) hown (hts _ hw.1) (hts _ hw.2.1) (hts _ hw.2.2.1) (hts _ hw.2.2.2) hK hP (kW_D hI) hS (kpos k0) (kpos k1) 0 0 (ty := .int) ((kW_get hk0).trans (by rw [hE0])) ((kW_get hk1).trans (by rw [hE1])) ht0 ht1 rfl p1 p2 p3 q1 q2 (fun _ _ => rfl) hR.1 q3 hdg (fun H1 locs1 h3 _ h5 => ?_)
  rw [e1, e2, e3] at h3
  have hset := kW_set (τ := τ) (ad := ad) (G := G) (G' := gc G k0 k1 sp dp n) (k := k1) (e := .inl (c1, n1, .inl (va_cpy (G k0) (G k1) sp dp n))) hk1 (by rw [hE1, show gc G k0 k1 sp dp n k1 = va_cpy (G k0) (G k1) sp dp n from by unfold gc; rw [if_pos rfl]; rfl]) (fun i hi => by unfold gc; rw [if_neg hi])
  rw [hset] at h3
  exact kk H1 locs1 h3 h5
end KM
theorem kp_1_0 {n : Nat} {v0 x : Value} : ∀ ls : Array Slot, lv_has ls n ((0, x) :: (([(0, v0)] : List (Nat × Value)).filter (fun q => !(q.1 == 0) && !(q.1 + 1 == 0 && q.2.category == 2)))) → lv_has ls n [(0, x)] := by
  intro ls h'
  rw [show ([(0, v0)] : List (Nat × Value)).filter (fun q => !(q.1 == 0) && !(q.1 + 1 == 0 && q.2.category == 2)) = [] from by simp] at h'
  exact lv_sub h' [0] rfl
theorem kp_1_1 {n : Nat} {v0 x : Value} (h : v0.category = 1) : ∀ ls : Array Slot, lv_has ls n ((1, x) :: (([(0, v0)] : List (Nat × Value)).filter (fun q => !(q.1 == 1) && !(q.1 + 1 == 1 && q.2.category == 2)))) → lv_has ls n [(0, v0), (1, x)] := by
  intro ls h'
  rw [show ([(0, v0)] : List (Nat × Value)).filter (fun q => !(q.1 == 1) && !(q.1 + 1 == 1 && q.2.category == 2)) = [(0, v0)] from by simp [h]] at h'
  exact lv_sub h' [1, 0] rfl
theorem kp_2_0 {n : Nat} {v0 v1 x : Value} : ∀ ls : Array Slot, lv_has ls n ((0, x) :: (([(0, v0), (1, v1)] : List (Nat × Value)).filter (fun q => !(q.1 == 0) && !(q.1 + 1 == 0 && q.2.category == 2)))) → lv_has ls n [(0, x), (1, v1)] := by
  intro ls h'
  rw [show ([(0, v0), (1, v1)] : List (Nat × Value)).filter (fun q => !(q.1 == 0) && !(q.1 + 1 == 0 && q.2.category == 2)) = [(1, v1)] from by simp] at h'
  exact lv_sub h' [0, 1] rfl
theorem kp_2_1 {n : Nat} {v0 v1 x : Value} (h : v0.category = 1) : ∀ ls : Array Slot, lv_has ls n ((1, x) :: (([(0, v0), (1, v1)] : List (Nat × Value)).filter (fun q => !(q.1 == 1) && !(q.1 + 1 == 1 && q.2.category == 2)))) → lv_has ls n [(0, v0), (1, x)] := by
  intro ls h'
  rw [show ([(0, v0), (1, v1)] : List (Nat × Value)).filter (fun q => !(q.1 == 1) && !(q.1 + 1 == 1 && q.2.category == 2)) = [(0, v0)] from by simp [h]] at h'
  exact lv_sub h' [1, 0] rfl
theorem kp_2_2 {n : Nat} {v0 v1 x : Value} (h : v1.category = 1) : ∀ ls : Array Slot, lv_has ls n ((2, x) :: (([(0, v0), (1, v1)] : List (Nat × Value)).filter (fun q => !(q.1 == 2) && !(q.1 + 1 == 2 && q.2.category == 2)))) → lv_has ls n [(0, v0), (1, v1), (2, x)] := by
  intro ls h'
  rw [show ([(0, v0), (1, v1)] : List (Nat × Value)).filter (fun q => !(q.1 == 2) && !(q.1 + 1 == 2 && q.2.category == 2)) = [(0, v0), (1, v1)] from by simp [h]] at h'
  exact lv_sub h' [1, 2, 0] rfl
theorem kp_3_0 {n : Nat} {v0 v1 v2 x : Value} : ∀ ls : Array Slot, lv_has ls n ((0, x) :: (([(0, v0), (1, v1), (2, v2)] : List (Nat × Value)).filter (fun q => !(q.1 == 0) && !(q.1 + 1 == 0 && q.2.category == 2)))) → lv_has ls n [(0, x), (1, v1), (2, v2)] := by
  intro ls h'
  rw [show ([(0, v0), (1, v1), (2, v2)] : List (Nat × Value)).filter (fun q => !(q.1 == 0) && !(q.1 + 1 == 0 && q.2.category == 2)) = [(1, v1), (2, v2)] from by simp] at h'
  exact lv_sub h' [0, 1, 2] rfl
theorem kp_3_1 {n : Nat} {v0 v1 v2 x : Value} (h : v0.category = 1) : ∀ ls : Array Slot, lv_has ls n ((1, x) :: (([(0, v0), (1, v1), (2, v2)] : List (Nat × Value)).filter (fun q => !(q.1 == 1) && !(q.1 + 1 == 1 && q.2.category == 2)))) → lv_has ls n [(0, v0), (1, x), (2, v2)] := by
  intro ls h'
  rw [show ([(0, v0), (1, v1), (2, v2)] : List (Nat × Value)).filter (fun q => !(q.1 == 1) && !(q.1 + 1 == 1 && q.2.category == 2)) = [(0, v0), (2, v2)] from by simp [h]] at h'
  exact lv_sub h' [1, 0, 2] rfl
theorem kp_3_2 {n : Nat} {v0 v1 v2 x : Value} (h : v1.category = 1) : ∀ ls : Array Slot, lv_has ls n ((2, x) :: (([(0, v0), (1, v1), (2, v2)] : List (Nat × Value)).filter (fun q => !(q.1 == 2) && !(q.1 + 1 == 2 && q.2.category == 2)))) → lv_has ls n [(0, v0), (1, v1), (2, x)] := by
  intro ls h'
  rw [show ([(0, v0), (1, v1), (2, v2)] : List (Nat × Value)).filter (fun q => !(q.1 == 2) && !(q.1 + 1 == 2 && q.2.category == 2)) = [(0, v0), (1, v1)] from by simp [h]] at h'
  exact lv_sub h' [1, 2, 0] rfl
theorem kp_3_3 {n : Nat} {v0 v1 v2 x : Value} (h : v2.category = 1) : ∀ ls : Array Slot, lv_has ls n ((3, x) :: (([(0, v0), (1, v1), (2, v2)] : List (Nat × Value)).filter (fun q => !(q.1 == 3) && !(q.1 + 1 == 3 && q.2.category == 2)))) → lv_has ls n [(0, v0), (1, v1), (2, v2), (3, x)] := by
  intro ls h'
  rw [show ([(0, v0), (1, v1), (2, v2)] : List (Nat × Value)).filter (fun q => !(q.1 == 3) && !(q.1 + 1 == 3 && q.2.category == 2)) = [(0, v0), (1, v1), (2, v2)] from by simp [h]] at h'
  exact lv_sub h' [1, 2, 3, 0] rfl
theorem kp_4_0 {n : Nat} {v0 v1 v2 v3 x : Value} : ∀ ls : Array Slot, lv_has ls n ((0, x) :: (([(0, v0), (1, v1), (2, v2), (3, v3)] : List (Nat × Value)).filter (fun q => !(q.1 == 0) && !(q.1 + 1 == 0 && q.2.category == 2)))) → lv_has ls n [(0, x), (1, v1), (2, v2), (3, v3)] := by
  intro ls h'
  rw [show ([(0, v0), (1, v1), (2, v2), (3, v3)] : List (Nat × Value)).filter (fun q => !(q.1 == 0) && !(q.1 + 1 == 0 && q.2.category == 2)) = [(1, v1), (2, v2), (3, v3)] from by simp] at h'
  exact lv_sub h' [0, 1, 2, 3] rfl
theorem kp_4_1 {n : Nat} {v0 v1 v2 v3 x : Value} (h : v0.category = 1) : ∀ ls : Array Slot, lv_has ls n ((1, x) :: (([(0, v0), (1, v1), (2, v2), (3, v3)] : List (Nat × Value)).filter (fun q => !(q.1 == 1) && !(q.1 + 1 == 1 && q.2.category == 2)))) → lv_has ls n [(0, v0), (1, x), (2, v2), (3, v3)] := by
  intro ls h'
  rw [show ([(0, v0), (1, v1), (2, v2), (3, v3)] : List (Nat × Value)).filter (fun q => !(q.1 == 1) && !(q.1 + 1 == 1 && q.2.category == 2)) = [(0, v0), (2, v2), (3, v3)] from by simp [h]] at h'
  exact lv_sub h' [1, 0, 2, 3] rfl
theorem kp_4_2 {n : Nat} {v0 v1 v2 v3 x : Value} (h : v1.category = 1) : ∀ ls : Array Slot, lv_has ls n ((2, x) :: (([(0, v0), (1, v1), (2, v2), (3, v3)] : List (Nat × Value)).filter (fun q => !(q.1 == 2) && !(q.1 + 1 == 2 && q.2.category == 2)))) → lv_has ls n [(0, v0), (1, v1), (2, x), (3, v3)] := by
  intro ls h'
  rw [show ([(0, v0), (1, v1), (2, v2), (3, v3)] : List (Nat × Value)).filter (fun q => !(q.1 == 2) && !(q.1 + 1 == 2 && q.2.category == 2)) = [(0, v0), (1, v1), (3, v3)] from by simp [h]] at h'
  exact lv_sub h' [1, 2, 0, 3] rfl
theorem kp_4_3 {n : Nat} {v0 v1 v2 v3 x : Value} (h : v2.category = 1) : ∀ ls : Array Slot, lv_has ls n ((3, x) :: (([(0, v0), (1, v1), (2, v2), (3, v3)] : List (Nat × Value)).filter (fun q => !(q.1 == 3) && !(q.1 + 1 == 3 && q.2.category == 2)))) → lv_has ls n [(0, v0), (1, v1), (2, v2), (3, x)] := by
  intro ls h'
  rw [show ([(0, v0), (1, v1), (2, v2), (3, v3)] : List (Nat × Value)).filter (fun q => !(q.1 == 3) && !(q.1 + 1 == 3 && q.2.category == 2)) = [(0, v0), (1, v1), (2, v2)] from by simp [h]] at h'
  exact lv_sub h' [1, 2, 3, 0] rfl
theorem kp_4_4 {n : Nat} {v0 v1 v2 v3 x : Value} (h : v3.category = 1) : ∀ ls : Array Slot, lv_has ls n ((4, x) :: (([(0, v0), (1, v1), (2, v2), (3, v3)] : List (Nat × Value)).filter (fun q => !(q.1 == 4) && !(q.1 + 1 == 4 && q.2.category == 2)))) → lv_has ls n [(0, v0), (1, v1), (2, v2), (3, v3), (4, x)] := by
  intro ls h'
  rw [show ([(0, v0), (1, v1), (2, v2), (3, v3)] : List (Nat × Value)).filter (fun q => !(q.1 == 4) && !(q.1 + 1 == 4 && q.2.category == 2)) = [(0, v0), (1, v1), (2, v2), (3, v3)] from by simp [h]] at h'
  exact lv_sub h' [1, 2, 3, 4, 0] rfl
theorem kp_5_0 {n : Nat} {v0 v1 v2 v3 v4 x : Value} : ∀ ls : Array Slot, lv_has ls n ((0, x) :: (([(0, v0), (1, v1), (2, v2), (3, v3), (4, v4)] : List (Nat × Value)).filter (fun q => !(q.1 == 0) && !(q.1 + 1 == 0 && q.2.category == 2)))) → lv_has ls n [(0, x), (1, v1), (2, v2), (3, v3), (4, v4)] := by
  intro ls h'
  rw [show ([(0, v0), (1, v1), (2, v2), (3, v3), (4, v4)] : List (Nat × Value)).filter (fun q => !(q.1 == 0) && !(q.1 + 1 == 0 && q.2.category == 2)) = [(1, v1), (2, v2), (3, v3), (4, v4)] from by simp] at h'
  exact lv_sub h' [0, 1, 2, 3, 4] rfl
theorem kp_5_1 {n : Nat} {v0 v1 v2 v3 v4 x : Value} (h : v0.category = 1) : ∀ ls : Array Slot, lv_has ls n ((1, x) :: (([(0, v0), (1, v1), (2, v2), (3, v3), (4, v4)] : List (Nat × Value)).filter (fun q => !(q.1 == 1) && !(q.1 + 1 == 1 && q.2.category == 2)))) → lv_has ls n [(0, v0), (1, x), (2, v2), (3, v3), (4, v4)] := by
  intro ls h'
  rw [show ([(0, v0), (1, v1), (2, v2), (3, v3), (4, v4)] : List (Nat × Value)).filter (fun q => !(q.1 == 1) && !(q.1 + 1 == 1 && q.2.category == 2)) = [(0, v0), (2, v2), (3, v3), (4, v4)] from by simp [h]] at h'
  exact lv_sub h' [1, 0, 2, 3, 4] rfl
theorem kp_5_2 {n : Nat} {v0 v1 v2 v3 v4 x : Value} (h : v1.category = 1) : ∀ ls : Array Slot, lv_has ls n ((2, x) :: (([(0, v0), (1, v1), (2, v2), (3, v3), (4, v4)] : List (Nat × Value)).filter (fun q => !(q.1 == 2) && !(q.1 + 1 == 2 && q.2.category == 2)))) → lv_has ls n [(0, v0), (1, v1), (2, x), (3, v3), (4, v4)] := by
  intro ls h'
  rw [show ([(0, v0), (1, v1), (2, v2), (3, v3), (4, v4)] : List (Nat × Value)).filter (fun q => !(q.1 == 2) && !(q.1 + 1 == 2 && q.2.category == 2)) = [(0, v0), (1, v1), (3, v3), (4, v4)] from by simp [h]] at h'
  exact lv_sub h' [1, 2, 0, 3, 4] rfl
theorem kp_5_3 {n : Nat} {v0 v1 v2 v3 v4 x : Value} (h : v2.category = 1) : ∀ ls : Array Slot, lv_has ls n ((3, x) :: (([(0, v0), (1, v1), (2, v2), (3, v3), (4, v4)] : List (Nat × Value)).filter (fun q => !(q.1 == 3) && !(q.1 + 1 == 3 && q.2.category == 2)))) → lv_has ls n [(0, v0), (1, v1), (2, v2), (3, x), (4, v4)] := by
  intro ls h'
  rw [show ([(0, v0), (1, v1), (2, v2), (3, v3), (4, v4)] : List (Nat × Value)).filter (fun q => !(q.1 == 3) && !(q.1 + 1 == 3 && q.2.category == 2)) = [(0, v0), (1, v1), (2, v2), (4, v4)] from by simp [h]] at h'
  exact lv_sub h' [1, 2, 3, 0, 4] rfl
theorem kp_5_4 {n : Nat} {v0 v1 v2 v3 v4 x : Value} (h : v3.category = 1) : ∀ ls : Array Slot, lv_has ls n ((4, x) :: (([(0, v0), (1, v1), (2, v2), (3, v3), (4, v4)] : List (Nat × Value)).filter (fun q => !(q.1 == 4) && !(q.1 + 1 == 4 && q.2.category == 2)))) → lv_has ls n [(0, v0), (1, v1), (2, v2), (3, v3), (4, x)] := by
  intro ls h'
  rw [show ([(0, v0), (1, v1), (2, v2), (3, v3), (4, v4)] : List (Nat × Value)).filter (fun q => !(q.1 == 4) && !(q.1 + 1 == 4 && q.2.category == 2)) = [(0, v0), (1, v1), (2, v2), (3, v3)] from by simp [h]] at h'
  exact lv_sub h' [1, 2, 3, 4, 0] rfl
theorem kp_5_5 {n : Nat} {v0 v1 v2 v3 v4 x : Value} (h : v4.category = 1) : ∀ ls : Array Slot, lv_has ls n ((5, x) :: (([(0, v0), (1, v1), (2, v2), (3, v3), (4, v4)] : List (Nat × Value)).filter (fun q => !(q.1 == 5) && !(q.1 + 1 == 5 && q.2.category == 2)))) → lv_has ls n [(0, v0), (1, v1), (2, v2), (3, v3), (4, v4), (5, x)] := by
  intro ls h'
  rw [show ([(0, v0), (1, v1), (2, v2), (3, v3), (4, v4)] : List (Nat × Value)).filter (fun q => !(q.1 == 5) && !(q.1 + 1 == 5 && q.2.category == 2)) = [(0, v0), (1, v1), (2, v2), (3, v3), (4, v4)] from by simp [h]] at h'
  exact lv_sub h' [1, 2, 3, 4, 5, 0] rfl
theorem kp_6_0 {n : Nat} {v0 v1 v2 v3 v4 v5 x : Value} : ∀ ls : Array Slot, lv_has ls n ((0, x) :: (([(0, v0), (1, v1), (2, v2), (3, v3), (4, v4), (5, v5)] : List (Nat × Value)).filter (fun q => !(q.1 == 0) && !(q.1 + 1 == 0 && q.2.category == 2)))) → lv_has ls n [(0, x), (1, v1), (2, v2), (3, v3), (4, v4), (5, v5)] := by
  intro ls h'
  rw [show ([(0, v0), (1, v1), (2, v2), (3, v3), (4, v4), (5, v5)] : List (Nat × Value)).filter (fun q => !(q.1 == 0) && !(q.1 + 1 == 0 && q.2.category == 2)) = [(1, v1), (2, v2), (3, v3), (4, v4), (5, v5)] from by simp] at h'
  exact lv_sub h' [0, 1, 2, 3, 4, 5] rfl
theorem kp_6_1 {n : Nat} {v0 v1 v2 v3 v4 v5 x : Value} (h : v0.category = 1) : ∀ ls : Array Slot, lv_has ls n ((1, x) :: (([(0, v0), (1, v1), (2, v2), (3, v3), (4, v4), (5, v5)] : List (Nat × Value)).filter (fun q => !(q.1 == 1) && !(q.1 + 1 == 1 && q.2.category == 2)))) → lv_has ls n [(0, v0), (1, x), (2, v2), (3, v3), (4, v4), (5, v5)] := by
  intro ls h'
  rw [show ([(0, v0), (1, v1), (2, v2), (3, v3), (4, v4), (5, v5)] : List (Nat × Value)).filter (fun q => !(q.1 == 1) && !(q.1 + 1 == 1 && q.2.category == 2)) = [(0, v0), (2, v2), (3, v3), (4, v4), (5, v5)] from by simp [h]] at h'
  exact lv_sub h' [1, 0, 2, 3, 4, 5] rfl
theorem kp_6_2 {n : Nat} {v0 v1 v2 v3 v4 v5 x : Value} (h : v1.category = 1) : ∀ ls : Array Slot, lv_has ls n ((2, x) :: (([(0, v0), (1, v1), (2, v2), (3, v3), (4, v4), (5, v5)] : List (Nat × Value)).filter (fun q => !(q.1 == 2) && !(q.1 + 1 == 2 && q.2.category == 2)))) → lv_has ls n [(0, v0), (1, v1), (2, x), (3, v3), (4, v4), (5, v5)] := by
  intro ls h'
  rw [show ([(0, v0), (1, v1), (2, v2), (3, v3), (4, v4), (5, v5)] : List (Nat × Value)).filter (fun q => !(q.1 == 2) && !(q.1 + 1 == 2 && q.2.category == 2)) = [(0, v0), (1, v1), (3, v3), (4, v4), (5, v5)] from by simp [h]] at h'
  exact lv_sub h' [1, 2, 0, 3, 4, 5] rfl
theorem kp_6_3 {n : Nat} {v0 v1 v2 v3 v4 v5 x : Value} (h : v2.category = 1) : ∀ ls : Array Slot, lv_has ls n ((3, x) :: (([(0, v0), (1, v1), (2, v2), (3, v3), (4, v4), (5, v5)] : List (Nat × Value)).filter (fun q => !(q.1 == 3) && !(q.1 + 1 == 3 && q.2.category == 2)))) → lv_has ls n [(0, v0), (1, v1), (2, v2), (3, x), (4, v4), (5, v5)] := by
  intro ls h'
  rw [show ([(0, v0), (1, v1), (2, v2), (3, v3), (4, v4), (5, v5)] : List (Nat × Value)).filter (fun q => !(q.1 == 3) && !(q.1 + 1 == 3 && q.2.category == 2)) = [(0, v0), (1, v1), (2, v2), (4, v4), (5, v5)] from by simp [h]] at h'
  exact lv_sub h' [1, 2, 3, 0, 4, 5] rfl
theorem kp_6_4 {n : Nat} {v0 v1 v2 v3 v4 v5 x : Value} (h : v3.category = 1) : ∀ ls : Array Slot, lv_has ls n ((4, x) :: (([(0, v0), (1, v1), (2, v2), (3, v3), (4, v4), (5, v5)] : List (Nat × Value)).filter (fun q => !(q.1 == 4) && !(q.1 + 1 == 4 && q.2.category == 2)))) → lv_has ls n [(0, v0), (1, v1), (2, v2), (3, v3), (4, x), (5, v5)] := by
  intro ls h'
  rw [show ([(0, v0), (1, v1), (2, v2), (3, v3), (4, v4), (5, v5)] : List (Nat × Value)).filter (fun q => !(q.1 == 4) && !(q.1 + 1 == 4 && q.2.category == 2)) = [(0, v0), (1, v1), (2, v2), (3, v3), (5, v5)] from by simp [h]] at h'
  exact lv_sub h' [1, 2, 3, 4, 0, 5] rfl
theorem kp_6_5 {n : Nat} {v0 v1 v2 v3 v4 v5 x : Value} (h : v4.category = 1) : ∀ ls : Array Slot, lv_has ls n ((5, x) :: (([(0, v0), (1, v1), (2, v2), (3, v3), (4, v4), (5, v5)] : List (Nat × Value)).filter (fun q => !(q.1 == 5) && !(q.1 + 1 == 5 && q.2.category == 2)))) → lv_has ls n [(0, v0), (1, v1), (2, v2), (3, v3), (4, v4), (5, x)] := by
  intro ls h'
  rw [show ([(0, v0), (1, v1), (2, v2), (3, v3), (4, v4), (5, v5)] : List (Nat × Value)).filter (fun q => !(q.1 == 5) && !(q.1 + 1 == 5 && q.2.category == 2)) = [(0, v0), (1, v1), (2, v2), (3, v3), (4, v4)] from by simp [h]] at h'
  exact lv_sub h' [1, 2, 3, 4, 5, 0] rfl
theorem kp_6_6 {n : Nat} {v0 v1 v2 v3 v4 v5 x : Value} (h : v5.category = 1) : ∀ ls : Array Slot, lv_has ls n ((6, x) :: (([(0, v0), (1, v1), (2, v2), (3, v3), (4, v4), (5, v5)] : List (Nat × Value)).filter (fun q => !(q.1 == 6) && !(q.1 + 1 == 6 && q.2.category == 2)))) → lv_has ls n [(0, v0), (1, v1), (2, v2), (3, v3), (4, v4), (5, v5), (6, x)] := by
  intro ls h'
  rw [show ([(0, v0), (1, v1), (2, v2), (3, v3), (4, v4), (5, v5)] : List (Nat × Value)).filter (fun q => !(q.1 == 6) && !(q.1 + 1 == 6 && q.2.category == 2)) = [(0, v0), (1, v1), (2, v2), (3, v3), (4, v4), (5, v5)] from by simp [h]] at h'
  exact lv_sub h' [1, 2, 3, 4, 5, 6, 0] rfl
theorem kp_7_0 {n : Nat} {v0 v1 v2 v3 v4 v5 v6 x : Value} : ∀ ls : Array Slot, lv_has ls n ((0, x) :: (([(0, v0), (1, v1), (2, v2), (3, v3), (4, v4), (5, v5), (6, v6)] : List (Nat × Value)).filter (fun q => !(q.1 == 0) && !(q.1 + 1 == 0 && q.2.category == 2)))) → lv_has ls n [(0, x), (1, v1), (2, v2), (3, v3), (4, v4), (5, v5), (6, v6)] := by
  intro ls h'
  rw [show ([(0, v0), (1, v1), (2, v2), (3, v3), (4, v4), (5, v5), (6, v6)] : List (Nat × Value)).filter (fun q => !(q.1 == 0) && !(q.1 + 1 == 0 && q.2.category == 2)) = [(1, v1), (2, v2), (3, v3), (4, v4), (5, v5), (6, v6)] from by simp] at h'
  exact lv_sub h' [0, 1, 2, 3, 4, 5, 6] rfl
theorem kp_7_1 {n : Nat} {v0 v1 v2 v3 v4 v5 v6 x : Value} (h : v0.category = 1) : ∀ ls : Array Slot, lv_has ls n ((1, x) :: (([(0, v0), (1, v1), (2, v2), (3, v3), (4, v4), (5, v5), (6, v6)] : List (Nat × Value)).filter (fun q => !(q.1 == 1) && !(q.1 + 1 == 1 && q.2.category == 2)))) → lv_has ls n [(0, v0), (1, x), (2, v2), (3, v3), (4, v4), (5, v5), (6, v6)] := by
  intro ls h'
  rw [show ([(0, v0), (1, v1), (2, v2), (3, v3), (4, v4), (5, v5), (6, v6)] : List (Nat × Value)).filter (fun q => !(q.1 == 1) && !(q.1 + 1 == 1 && q.2.category == 2)) = [(0, v0), (2, v2), (3, v3), (4, v4), (5, v5), (6, v6)] from by simp [h]] at h'
  exact lv_sub h' [1, 0, 2, 3, 4, 5, 6] rfl
theorem kp_7_2 {n : Nat} {v0 v1 v2 v3 v4 v5 v6 x : Value} (h : v1.category = 1) : ∀ ls : Array Slot, lv_has ls n ((2, x) :: (([(0, v0), (1, v1), (2, v2), (3, v3), (4, v4), (5, v5), (6, v6)] : List (Nat × Value)).filter (fun q => !(q.1 == 2) && !(q.1 + 1 == 2 && q.2.category == 2)))) → lv_has ls n [(0, v0), (1, v1), (2, x), (3, v3), (4, v4), (5, v5), (6, v6)] := by
  intro ls h'
  rw [show ([(0, v0), (1, v1), (2, v2), (3, v3), (4, v4), (5, v5), (6, v6)] : List (Nat × Value)).filter (fun q => !(q.1 == 2) && !(q.1 + 1 == 2 && q.2.category == 2)) = [(0, v0), (1, v1), (3, v3), (4, v4), (5, v5), (6, v6)] from by simp [h]] at h'
  exact lv_sub h' [1, 2, 0, 3, 4, 5, 6] rfl
theorem kp_7_3 {n : Nat} {v0 v1 v2 v3 v4 v5 v6 x : Value} (h : v2.category = 1) : ∀ ls : Array Slot, lv_has ls n ((3, x) :: (([(0, v0), (1, v1), (2, v2), (3, v3), (4, v4), (5, v5), (6, v6)] : List (Nat × Value)).filter (fun q => !(q.1 == 3) && !(q.1 + 1 == 3 && q.2.category == 2)))) → lv_has ls n [(0, v0), (1, v1), (2, v2), (3, x), (4, v4), (5, v5), (6, v6)] := by
  intro ls h'
  rw [show ([(0, v0), (1, v1), (2, v2), (3, v3), (4, v4), (5, v5), (6, v6)] : List (Nat × Value)).filter (fun q => !(q.1 == 3) && !(q.1 + 1 == 3 && q.2.category == 2)) = [(0, v0), (1, v1), (2, v2), (4, v4), (5, v5), (6, v6)] from by simp [h]] at h'
  exact lv_sub h' [1, 2, 3, 0, 4, 5, 6] rfl
theorem kp_7_4 {n : Nat} {v0 v1 v2 v3 v4 v5 v6 x : Value} (h : v3.category = 1) : ∀ ls : Array Slot, lv_has ls n ((4, x) :: (([(0, v0), (1, v1), (2, v2), (3, v3), (4, v4), (5, v5), (6, v6)] : List (Nat × Value)).filter (fun q => !(q.1 == 4) && !(q.1 + 1 == 4 && q.2.category == 2)))) → lv_has ls n [(0, v0), (1, v1), (2, v2), (3, v3), (4, x), (5, v5), (6, v6)] := by
  intro ls h'
  rw [show ([(0, v0), (1, v1), (2, v2), (3, v3), (4, v4), (5, v5), (6, v6)] : List (Nat × Value)).filter (fun q => !(q.1 == 4) && !(q.1 + 1 == 4 && q.2.category == 2)) = [(0, v0), (1, v1), (2, v2), (3, v3), (5, v5), (6, v6)] from by simp [h]] at h'
  exact lv_sub h' [1, 2, 3, 4, 0, 5, 6] rfl
theorem kp_7_5 {n : Nat} {v0 v1 v2 v3 v4 v5 v6 x : Value} (h : v4.category = 1) : ∀ ls : Array Slot, lv_has ls n ((5, x) :: (([(0, v0), (1, v1), (2, v2), (3, v3), (4, v4), (5, v5), (6, v6)] : List (Nat × Value)).filter (fun q => !(q.1 == 5) && !(q.1 + 1 == 5 && q.2.category == 2)))) → lv_has ls n [(0, v0), (1, v1), (2, v2), (3, v3), (4, v4), (5, x), (6, v6)] := by
  intro ls h'
  rw [show ([(0, v0), (1, v1), (2, v2), (3, v3), (4, v4), (5, v5), (6, v6)] : List (Nat × Value)).filter (fun q => !(q.1 == 5) && !(q.1 + 1 == 5 && q.2.category == 2)) = [(0, v0), (1, v1), (2, v2), (3, v3), (4, v4), (6, v6)] from by simp [h]] at h'
  exact lv_sub h' [1, 2, 3, 4, 5, 0, 6] rfl
theorem kp_7_6 {n : Nat} {v0 v1 v2 v3 v4 v5 v6 x : Value} (h : v5.category = 1) : ∀ ls : Array Slot, lv_has ls n ((6, x) :: (([(0, v0), (1, v1), (2, v2), (3, v3), (4, v4), (5, v5), (6, v6)] : List (Nat × Value)).filter (fun q => !(q.1 == 6) && !(q.1 + 1 == 6 && q.2.category == 2)))) → lv_has ls n [(0, v0), (1, v1), (2, v2), (3, v3), (4, v4), (5, v5), (6, x)] := by
  intro ls h'
  rw [show ([(0, v0), (1, v1), (2, v2), (3, v3), (4, v4), (5, v5), (6, v6)] : List (Nat × Value)).filter (fun q => !(q.1 == 6) && !(q.1 + 1 == 6 && q.2.category == 2)) = [(0, v0), (1, v1), (2, v2), (3, v3), (4, v4), (5, v5)] from by simp [h]] at h'
  exact lv_sub h' [1, 2, 3, 4, 5, 6, 0] rfl
theorem kp_7_7 {n : Nat} {v0 v1 v2 v3 v4 v5 v6 x : Value} (h : v6.category = 1) : ∀ ls : Array Slot, lv_has ls n ((7, x) :: (([(0, v0), (1, v1), (2, v2), (3, v3), (4, v4), (5, v5), (6, v6)] : List (Nat × Value)).filter (fun q => !(q.1 == 7) && !(q.1 + 1 == 7 && q.2.category == 2)))) → lv_has ls n [(0, v0), (1, v1), (2, v2), (3, v3), (4, v4), (5, v5), (6, v6), (7, x)] := by
  intro ls h'
  rw [show ([(0, v0), (1, v1), (2, v2), (3, v3), (4, v4), (5, v5), (6, v6)] : List (Nat × Value)).filter (fun q => !(q.1 == 7) && !(q.1 + 1 == 7 && q.2.category == 2)) = [(0, v0), (1, v1), (2, v2), (3, v3), (4, v4), (5, v5), (6, v6)] from by simp [h]] at h'
  exact lv_sub h' [1, 2, 3, 4, 5, 6, 7, 0] rfl
theorem kp_8_0 {n : Nat} {v0 v1 v2 v3 v4 v5 v6 v7 x : Value} : ∀ ls : Array Slot, lv_has ls n ((0, x) :: (([(0, v0), (1, v1), (2, v2), (3, v3), (4, v4), (5, v5), (6, v6), (7, v7)] : List (Nat × Value)).filter (fun q => !(q.1 == 0) && !(q.1 + 1 == 0 && q.2.category == 2)))) → lv_has ls n [(0, x), (1, v1), (2, v2), (3, v3), (4, v4), (5, v5), (6, v6), (7, v7)] := by
  intro ls h'
  rw [show ([(0, v0), (1, v1), (2, v2), (3, v3), (4, v4), (5, v5), (6, v6), (7, v7)] : List (Nat × Value)).filter (fun q => !(q.1 == 0) && !(q.1 + 1 == 0 && q.2.category == 2)) = [(1, v1), (2, v2), (3, v3), (4, v4), (5, v5), (6, v6), (7, v7)] from by simp] at h'
  exact lv_sub h' [0, 1, 2, 3, 4, 5, 6, 7] rfl
theorem kp_8_1 {n : Nat} {v0 v1 v2 v3 v4 v5 v6 v7 x : Value} (h : v0.category = 1) : ∀ ls : Array Slot, lv_has ls n ((1, x) :: (([(0, v0), (1, v1), (2, v2), (3, v3), (4, v4), (5, v5), (6, v6), (7, v7)] : List (Nat × Value)).filter (fun q => !(q.1 == 1) && !(q.1 + 1 == 1 && q.2.category == 2)))) → lv_has ls n [(0, v0), (1, x), (2, v2), (3, v3), (4, v4), (5, v5), (6, v6), (7, v7)] := by
  intro ls h'
  rw [show ([(0, v0), (1, v1), (2, v2), (3, v3), (4, v4), (5, v5), (6, v6), (7, v7)] : List (Nat × Value)).filter (fun q => !(q.1 == 1) && !(q.1 + 1 == 1 && q.2.category == 2)) = [(0, v0), (2, v2), (3, v3), (4, v4), (5, v5), (6, v6), (7, v7)] from by simp [h]] at h'
  exact lv_sub h' [1, 0, 2, 3, 4, 5, 6, 7] rfl
theorem kp_8_2 {n : Nat} {v0 v1 v2 v3 v4 v5 v6 v7 x : Value} (h : v1.category = 1) : ∀ ls : Array Slot, lv_has ls n ((2, x) :: (([(0, v0), (1, v1), (2, v2), (3, v3), (4, v4), (5, v5), (6, v6), (7, v7)] : List (Nat × Value)).filter (fun q => !(q.1 == 2) && !(q.1 + 1 == 2 && q.2.category == 2)))) → lv_has ls n [(0, v0), (1, v1), (2, x), (3, v3), (4, v4), (5, v5), (6, v6), (7, v7)] := by
  intro ls h'
  rw [show ([(0, v0), (1, v1), (2, v2), (3, v3), (4, v4), (5, v5), (6, v6), (7, v7)] : List (Nat × Value)).filter (fun q => !(q.1 == 2) && !(q.1 + 1 == 2 && q.2.category == 2)) = [(0, v0), (1, v1), (3, v3), (4, v4), (5, v5), (6, v6), (7, v7)] from by simp [h]] at h'
  exact lv_sub h' [1, 2, 0, 3, 4, 5, 6, 7] rfl
theorem kp_8_3 {n : Nat} {v0 v1 v2 v3 v4 v5 v6 v7 x : Value} (h : v2.category = 1) : ∀ ls : Array Slot, lv_has ls n ((3, x) :: (([(0, v0), (1, v1), (2, v2), (3, v3), (4, v4), (5, v5), (6, v6), (7, v7)] : List (Nat × Value)).filter (fun q => !(q.1 == 3) && !(q.1 + 1 == 3 && q.2.category == 2)))) → lv_has ls n [(0, v0), (1, v1), (2, v2), (3, x), (4, v4), (5, v5), (6, v6), (7, v7)] := by
  intro ls h'
  rw [show ([(0, v0), (1, v1), (2, v2), (3, v3), (4, v4), (5, v5), (6, v6), (7, v7)] : List (Nat × Value)).filter (fun q => !(q.1 == 3) && !(q.1 + 1 == 3 && q.2.category == 2)) = [(0, v0), (1, v1), (2, v2), (4, v4), (5, v5), (6, v6), (7, v7)] from by simp [h]] at h'
  exact lv_sub h' [1, 2, 3, 0, 4, 5, 6, 7] rfl
theorem kp_8_4 {n : Nat} {v0 v1 v2 v3 v4 v5 v6 v7 x : Value} (h : v3.category = 1) : ∀ ls : Array Slot, lv_has ls n ((4, x) :: (([(0, v0), (1, v1), (2, v2), (3, v3), (4, v4), (5, v5), (6, v6), (7, v7)] : List (Nat × Value)).filter (fun q => !(q.1 == 4) && !(q.1 + 1 == 4 && q.2.category == 2)))) → lv_has ls n [(0, v0), (1, v1), (2, v2), (3, v3), (4, x), (5, v5), (6, v6), (7, v7)] := by
  intro ls h'
  rw [show ([(0, v0), (1, v1), (2, v2), (3, v3), (4, v4), (5, v5), (6, v6), (7, v7)] : List (Nat × Value)).filter (fun q => !(q.1 == 4) && !(q.1 + 1 == 4 && q.2.category == 2)) = [(0, v0), (1, v1), (2, v2), (3, v3), (5, v5), (6, v6), (7, v7)] from by simp [h]] at h'
  exact lv_sub h' [1, 2, 3, 4, 0, 5, 6, 7] rfl
theorem kp_8_5 {n : Nat} {v0 v1 v2 v3 v4 v5 v6 v7 x : Value} (h : v4.category = 1) : ∀ ls : Array Slot, lv_has ls n ((5, x) :: (([(0, v0), (1, v1), (2, v2), (3, v3), (4, v4), (5, v5), (6, v6), (7, v7)] : List (Nat × Value)).filter (fun q => !(q.1 == 5) && !(q.1 + 1 == 5 && q.2.category == 2)))) → lv_has ls n [(0, v0), (1, v1), (2, v2), (3, v3), (4, v4), (5, x), (6, v6), (7, v7)] := by
  intro ls h'
  rw [show ([(0, v0), (1, v1), (2, v2), (3, v3), (4, v4), (5, v5), (6, v6), (7, v7)] : List (Nat × Value)).filter (fun q => !(q.1 == 5) && !(q.1 + 1 == 5 && q.2.category == 2)) = [(0, v0), (1, v1), (2, v2), (3, v3), (4, v4), (6, v6), (7, v7)] from by simp [h]] at h'
  exact lv_sub h' [1, 2, 3, 4, 5, 0, 6, 7] rfl
theorem kp_8_6 {n : Nat} {v0 v1 v2 v3 v4 v5 v6 v7 x : Value} (h : v5.category = 1) : ∀ ls : Array Slot, lv_has ls n ((6, x) :: (([(0, v0), (1, v1), (2, v2), (3, v3), (4, v4), (5, v5), (6, v6), (7, v7)] : List (Nat × Value)).filter (fun q => !(q.1 == 6) && !(q.1 + 1 == 6 && q.2.category == 2)))) → lv_has ls n [(0, v0), (1, v1), (2, v2), (3, v3), (4, v4), (5, v5), (6, x), (7, v7)] := by
  intro ls h'
  rw [show ([(0, v0), (1, v1), (2, v2), (3, v3), (4, v4), (5, v5), (6, v6), (7, v7)] : List (Nat × Value)).filter (fun q => !(q.1 == 6) && !(q.1 + 1 == 6 && q.2.category == 2)) = [(0, v0), (1, v1), (2, v2), (3, v3), (4, v4), (5, v5), (7, v7)] from by simp [h]] at h'
  exact lv_sub h' [1, 2, 3, 4, 5, 6, 0, 7] rfl
theorem kp_8_7 {n : Nat} {v0 v1 v2 v3 v4 v5 v6 v7 x : Value} (h : v6.category = 1) : ∀ ls : Array Slot, lv_has ls n ((7, x) :: (([(0, v0), (1, v1), (2, v2), (3, v3), (4, v4), (5, v5), (6, v6), (7, v7)] : List (Nat × Value)).filter (fun q => !(q.1 == 7) && !(q.1 + 1 == 7 && q.2.category == 2)))) → lv_has ls n [(0, v0), (1, v1), (2, v2), (3, v3), (4, v4), (5, v5), (6, v6), (7, x)] := by
  intro ls h'
  rw [show ([(0, v0), (1, v1), (2, v2), (3, v3), (4, v4), (5, v5), (6, v6), (7, v7)] : List (Nat × Value)).filter (fun q => !(q.1 == 7) && !(q.1 + 1 == 7 && q.2.category == 2)) = [(0, v0), (1, v1), (2, v2), (3, v3), (4, v4), (5, v5), (6, v6)] from by simp [h]] at h'
  exact lv_sub h' [1, 2, 3, 4, 5, 6, 7, 0] rfl
theorem kp_8_8 {n : Nat} {v0 v1 v2 v3 v4 v5 v6 v7 x : Value} (h : v7.category = 1) : ∀ ls : Array Slot, lv_has ls n ((8, x) :: (([(0, v0), (1, v1), (2, v2), (3, v3), (4, v4), (5, v5), (6, v6), (7, v7)] : List (Nat × Value)).filter (fun q => !(q.1 == 8) && !(q.1 + 1 == 8 && q.2.category == 2)))) → lv_has ls n [(0, v0), (1, v1), (2, v2), (3, v3), (4, v4), (5, v5), (6, v6), (7, v7), (8, x)] := by
  intro ls h'
  rw [show ([(0, v0), (1, v1), (2, v2), (3, v3), (4, v4), (5, v5), (6, v6), (7, v7)] : List (Nat × Value)).filter (fun q => !(q.1 == 8) && !(q.1 + 1 == 8 && q.2.category == 2)) = [(0, v0), (1, v1), (2, v2), (3, v3), (4, v4), (5, v5), (6, v6), (7, v7)] from by simp [h]] at h'
  exact lv_sub h' [1, 2, 3, 4, 5, 6, 7, 8, 0] rfl
theorem tb_out {x : Int32} (n : Nat) (hn : n < 1000) (h : ∀ i, i < n + 1 → ¬ x = nI i) : x.toInt < 0 ∨ (n : Int) < x.toInt := by
  rcases Int.lt_or_le x.toInt 0 with q | q
  · exact Or.inl q
  · rcases Int.lt_or_le (n : Int) x.toInt with z | z
    · exact Or.inr z
    · exact absurd (Int32.toInt_inj.mp (by rw [nI_toInt (by omega)]; omega)) (h x.toInt.toNat (by omega))
/-! sums -/
def cn (f : Nat → Nat) : Nat → Nat
  | 0 => 0
  | n + 1 => cn f n + f n
def sm (f : Nat → Int32) : Nat → Int32
  | 0 => 0
  | n + 1 => sm f n + f n
def so (f : Nat → Int32) : Nat → Int32
  | 0 => 0
  | n + 1 => so f n ||| f n
theorem cn_p {f : Nat → Nat} {n x : Nat} (h : x = cn f n) (hf : f n = 1) : x + 1 = cn f (n + 1) := by rw [cn, h, hf]
theorem cn_z {f : Nat → Nat} {n x : Nat} (h : x = cn f n) (hf : f n = 0) : x = cn f (n + 1) := by rw [cn, h, hf]; rfl
theorem cn_le {f : Nat → Nat} {n : Nat} (h : ∀ i, i < n → f i ≤ 1) : cn f n ≤ n := by
  induction n with
  | zero => exact Nat.le_refl 0
  | succ n ih =>
    have h1 := ih (fun i hi => h i (by omega))
    have h2 := h n (by omega)
    rw [cn]; omega
/-- a bit of a set -/
abbrev hw (w : Int32) (k : Nat) : Prop := ¬ (w >>> (nI k &&& 31) &&& nI 1 = 0)
def bt (k : Nat) : Int32 := nI 1 <<< (nI k &&& 31)
/-- the first place that is seen -/
def pf (mo : Nat → Int32) (x : Int32) : Nat → Nat → Int32
  | _, 0 => -1
  | i, k + 1 => if mo i ≤ x then nI i else pf mo x (i + 1) k

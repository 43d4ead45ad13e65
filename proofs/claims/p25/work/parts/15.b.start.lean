/-! The law's entry: the classes and the words of the tables. -/
theorem tb_of {w : Cond} (i : Nat) (h : tables_1[i]? = some w) : w ∈ lw_tbl := List.mem_append_right _ (List.mem_of_getElem? h)
theorem st_kn {s : State} {args : Array Value} (hts : ∀ w ∈ lw_tbl, w.before args s = true) {C : String} {T : u_T} {N : Nat} (hin : ∀ w ∈ u_ws C T N, w ∈ kWs) (hw : Cond.instantiable C N ∈ lw_tbl) : ∃ (cC : ClassId) (iS : Nat → Nat), u_Kn s C T N cC iS :=
  u_known (n := N) hts (fun w h => kWs_in w (hin w h)) (hts _ hw)
theorem st_int {s : State} {args : Array Value} {ty : FieldType} (h : (Cond.arrayClass ty).before args s = true) (hq : ∀ c : ClassId, s.vm.findClass ("[" ++ ty.toString) = some c → va_RA s c ty) (hz : ∀ C, ty ≠ .object C) : ∃ c : ClassId, ArrOfT s c ty ∧ va_RA s c ty := by
  obtain ⟨c, k, comp, h1, h2, h3⟩ := Cond.arrayClass_spec h
  exact ⟨c, fun N z => ⟨fun k h => (by cases h), k, h2, comp, h3⟩, hq c h1⟩
theorem st_obj {s : State} {C : String} (h : va_AO C s) : ∃ c : ClassId, ArrOfT s c (.object C) ∧ va_RA s c (.object C) := by
  obtain ⟨comp, c, k, h1, h2, h3, h4, h5⟩ := Cond.arrayOver_spec h
  exact ⟨c, fun N z => ⟨fun k h => (by cases h), k, h3, comp, h4⟩, k, comp, h3, h4, h1, h5⟩
theorem st_kC {p : Program} {s : State} {m : MethodId} {meth : Method} {c : Code} {b L : Nat} {xs : Nat → Int32} (C0 : lw_At p s m meth c b L xs) : ∃ (D : va_G) (τ : Nat → ClassId), kC p s m c code 19 #[Value.ref b] RL D τ ∧ nAO s := by
  obtain ⟨hx, hb, hr, hml, hown, hts, hX, hbl, hlocks, hgv⟩ := C0
  obtain ⟨c0, i0, k0⟩ := st_kn hts inK0 (tb_of 30 (by decide +kernel))
  obtain ⟨c1, i1, k1⟩ := st_kn hts inK1 (tb_of 104 (by decide +kernel))
  obtain ⟨c2, i2, k2⟩ := st_kn hts inK2 (tb_of 185 (by decide +kernel))
  obtain ⟨c3, i3, k3⟩ := st_kn hts inK3 (tb_of 51 (by decide +kernel))
  obtain ⟨c4, i4, k4⟩ := st_kn hts inK4 (tb_of 19 (by decide +kernel))
  obtain ⟨c5, i5, k5⟩ := st_kn hts inK5 (tb_of 202 (by decide +kernel))
  obtain ⟨c6, i6, k6⟩ := st_kn hts inK6 (tb_of 11 (by decide +kernel))
  have hao : nAO s := ⟨va_AO.of (hts _ (tb_of 25 (by decide +kernel))), va_AO.of (hts _ (tb_of 27 (by decide +kernel))), va_AO.of (hts _ (tb_of 29 (by decide +kernel))), va_AO.of (hts _ (tb_of 191 (by decide +kernel)))⟩
  obtain ⟨t0, u0⟩ := st_int (hts (.arrayClass .int) (tb_of 50 (by decide +kernel))) (fun c h => h) (fun C h => by cases h)
  obtain ⟨t1, u1⟩ := st_int (hts (.arrayClass .char) (tb_of 222 (by decide +kernel))) (fun c h => h) (fun C h => by cases h)
  obtain ⟨t2, u2⟩ := st_obj hao.1
  obtain ⟨t3, u3⟩ := st_obj hao.2.1
  obtain ⟨t4, u4⟩ := st_obj hao.2.2.1
  obtain ⟨t5, u5⟩ := st_obj hao.2.2.2
  refine ⟨(fun k => match k with | 0 => c0 | 1 => c1 | 2 => c2 | 3 => c3 | 4 => c4 | 5 => c5 | _ => c6, fun k => match k with | 0 => i0 | 1 => i1 | 2 => i2 | 3 => i3 | 4 => i4 | 5 => i5 | _ => i6), fun k => match k with | 0 => t0 | 1 => t1 | 2 => t2 | 3 => t3 | 4 => t4 | _ => t5, ⟨hx, hb, hml, hown, fun w hw => hts w (kWs_in w hw), ⟨?_, ?_⟩, fun w hw => va_Nw.of ?_ (hts w (List.mem_append_right _ (kNw_in w hw)))⟩, hao⟩
  · intro k q hq
    match k, hq with
    | 0, hq => cases hq; exact k0
    | 1, hq => cases hq; exact k1
    | 2, hq => cases hq; exact k2
    | 3, hq => cases hq; exact k3
    | 4, hq => cases hq; exact k4
    | 5, hq => cases hq; exact k5
    | 6, hq => cases hq; exact k6
    | k + 7, hq => simp [vwCl] at hq
  · intro k q hq
    match k, hq with
    | 0, hq => cases hq; exact u0
    | 1, hq => cases hq; exact u1
    | 2, hq => cases hq; exact u2
    | 3, hq => cases hq; exact u3
    | 4, hq => cases hq; exact u4
    | 5, hq => cases hq; exact u5
    | k + 6, hq => simp [kT] at hq
  · have h1 := List.all_eq_true.mp kNw_nest w hw
    cases w <;> first | rfl | (cases h1)

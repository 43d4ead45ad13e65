/-! The law's loop. -/
theorem sub4 : ∀ L, L < 2049 → (nI L - nI 4).toInt = (L : Int) - 4 := by decide +kernel
section LOOP
variable {p : Program} {e : Env} {s : State} {m : MethodId} {args : Array Value} {below : List Frame} {meth : Method} {c : Code} {Q : State → Prop}
variable {D : va_G} {τ : Nat → ClassId} {ad : Nat → Nat} {A : Nat → Prop} {b L : Nat} {xs : Nat → Int32}
set_option maxHeartbeats 4000000 in
set_option maxRecDepth 100000 in
theorem law_loop (l : Launch) (X : kC p s m c code 4 args RL D τ) (hX : va_X b L xs s s.heap) (hbl : b < s.heap.size) (hbA : ¬ A b) (hI : kInj ad) (hA : ∀ q, kAd ad q → A q) (hL : L ≤ 2048)
    (hend : ∀ (H : Heap) (locs : List Loc) (ls : Array Slot), va_S A s.heap H locs → W p l e room_1 s m args below meth c H locs 600000 7302250 Q (F0 m 726 ls [])) :
    ∀ (n i : Nat) (G : Nat → Nat → Int32) (H : Heap) (locs : List Loc) (ls : Array Slot), L < i + n → i ≤ L → REL G → va_P D vwCl (kW τ ad G) H → va_S A s.heap H locs → lv_has ls 4 [(0, .ref b), (1, .ref (ad 7)), (2, .ref (ad 0)), (3, .int (nI i))] → W p l e room_1 s m args below meth c H locs 600000 7302250 Q (F0 m 18 ls []) := by
  have hx := X.1
  have hb := X.2.1
  intro n
  induction n with
  | zero => intro i G H locs ls h1 h2; exact absurd h1 (by omega)
  | succ n ih =>
    intro i G H locs ls hin hiL hR hP hS hl
    refine lv_iload_n hx hb dL_law_18 rfl (lv_at hl 3 rfl) ?_
    refine lv_aload_n hx hb dL_law_19 rfl (lv_at hl 0 rfl) ?_
    refine va_slen hx hb hX hbl hbA hS dL_law_20 ?_
    refine lv_iconst (v := nI 4) hx hb dL_law_21 (by decide) ?_
    refine lv_isub hx hb dL_law_22 ?_
    refine lv_icmp_gt (tgt := 726) hx hb dL_law_23 (by decide) (fun _ => ?_) (fun z => ?_)
    · exact hend _ _ _ hS
    · have hi : i + 4 ≤ L := by
        have z : ¬ (nI L - nI 4 < nI i) := z
        rw [Int32.lt_iff_toInt_lt, sub4 L (by omega), nI_toInt (by omega)] at z
        omega
      have nx : ∀ (G : Nat → Nat → Int32) (H : Heap) (locs : List Loc), REL G → va_P D vwCl (kW τ ad G) H → va_S A s.heap H locs → W p l e room_1 s m args below meth c H locs 600000 7302250 Q (F0 m 720 ls []) := by
        intro G H locs hR hP hS
        refine lv_iinc (v := nI (i + 4)) (lv' := [(3, .int (nI (i + 4))), (0, .ref b), (1, .ref (ad 7)), (2, .ref (ad 0))]) hx hb dL_law_720 hl (k := 3) rfl (nI_add i 4) (by decide) rfl (fun ls hl => ?_)
        refine lv_goto (tgt := 18) hx hb dL_law_723 (by decide) ?_
        exact ih (i + 4) G H locs ls (by omega) hi hR hP hS (lv_sub hl [1, 2, 3, 0] rfl)
      refine lv_aload_n hx hb dL_law_26 rfl (lv_at hl 0 rfl) ?_
      refine lv_iload_n hx hb dL_law_27 rfl (lv_at hl 3 rfl) ?_
      refine va_sld hx hb hX hbl hbA hS (vp_in_nI (by omega) (by omega)) dL_law_28 ?_
      refine lv_bipush (v := 31) hx hb dL_law_29 (by decide) ?_
      refine lv_iand hx hb dL_law_31 ?_
      obtain ⟨j, hj, ej⟩ := pk_andE (xs (nI i).toNatClampNeg) (m := 31) 5 (by decide)
      rw [ej]
      by_cases h22 : j < 22
      · rcases (show j = 0 ∨ j = 1 ∨ j = 2 ∨ j = 3 ∨ j = 4 ∨ j = 5 ∨ j = 6 ∨ j = 7 ∨ j = 8 ∨ j = 9 ∨ j = 10 ∨ j = 11 ∨ j = 12 ∨ j = 13 ∨ j = 14 ∨ j = 15 ∨ j = 16 ∨ j = 17 ∨ j = 18 ∨ j = 19 ∨ j = 20 ∨ j = 21 by omega) with rfl | rfl | rfl | rfl | rfl | rfl | rfl | rfl | rfl | rfl | rfl | rfl | rfl | rfl | rfl | rfl | rfl | rfl | rfl | rfl | rfl | rfl
        · exact lv_tableIn (off := 104) (tgt := 136) hx hb dL_law_32 (by decide) (by decide) rfl (by decide) (lc_open l X hX hbl hbA hI hA hR hP hS hi hL hl nx)
        · exact lv_tableIn (off := 127) (tgt := 159) hx hb dL_law_32 (by decide) (by decide) rfl (by decide) (lc_pay l X hX hbl hbA hI hA hR hP hS hi hL hl nx)
        · exact lv_tableIn (off := 160) (tgt := 192) hx hb dL_law_32 (by decide) (by decide) rfl (by decide) (lc_widow l X hX hbl hbA hI hA hR hP hS hi hL hl nx)
        · exact lv_tableIn (off := 193) (tgt := 225) hx hb dL_law_32 (by decide) (by decide) rfl (by decide) (lc_close l X hX hbl hbA hI hA hR hP hS hi hL hl nx)
        · exact lv_tableIn (off := 216) (tgt := 248) hx hb dL_law_32 (by decide) (by decide) rfl (by decide) (lc_setRent l X hX hbl hbA hI hA hR hP hS hi hL hl nx)
        · exact lv_tableIn (off := 239) (tgt := 271) hx hb dL_law_32 (by decide) (by decide) rfl (by decide) (lc_forbidSkew l X hX hbl hbA hI hA hR hP hS hi hL hl nx)
        · exact lv_tableIn (off := 278) (tgt := 310) hx hb dL_law_32 (by decide) (by decide) rfl (by decide) (lc_tick l X hX hbl hbA hI hA hR hP hS hi hL hl nx)
        · exact lv_tableIn (off := 301) (tgt := 333) hx hb dL_law_32 (by decide) (by decide) rfl (by decide) (lc_read l X hX hbl hbA hI hA hR hP hS hi hL hl nx)
        · exact lv_tableIn (off := 334) (tgt := 366) hx hb dL_law_32 (by decide) (by decide) rfl (by decide) (lc_write l X hX hbl hbA hI hA hR hP hS hi hL hl nx)
        · exact lv_tableIn (off := 377) (tgt := 409) hx hb dL_law_32 (by decide) (by decide) rfl (by decide) (lc_commit l X hX hbl hbA hI hA hR hP hS hi hL hl nx)
        · exact lv_tableIn (off := 400) (tgt := 432) hx hb dL_law_32 (by decide) (by decide) rfl (by decide) (lc_type l X hX hbl hbA hI hA hR hP hS hi hL hl nx)
        · exact lv_tableIn (off := 425) (tgt := 457) hx hb dL_law_32 (by decide) (by decide) rfl (by decide) (lc_clearText l X hX hbl hbA hI hA hR hP hS hi hL hl nx)
        · exact lv_tableIn (off := 438) (tgt := 470) hx hb dL_law_32 (by decide) (by decide) rfl (by decide) (lc_readWrites l X hX hbl hbA hI hA hR hP hS hi hL hl nx)
        · exact lv_tableIn (off := 461) (tgt := 493) hx hb dL_law_32 (by decide) (by decide) rfl (by decide) (lc_undo l X hX hbl hbA hI hA hR hP hS hi hL hl nx)
        · exact lv_tableIn (off := 474) (tgt := 506) hx hb dL_law_32 (by decide) (by decide) rfl (by decide) (lc_keep l X hX hbl hbA hI hA hR hP hS hi hL hl nx)
        · exact lv_tableIn (off := 487) (tgt := 519) hx hb dL_law_32 (by decide) (by decide) rfl (by decide) (lc_restore l X hX hbl hbA hI hA hR hP hS hi hL hl nx)
        · exact lv_tableIn (off := 500) (tgt := 532) hx hb dL_law_32 (by decide) (by decide) rfl (by decide) (lc_cell l X hX hbl hbA hI hA hR hP hS hi hL hl nx)
        · exact lv_tableIn (off := 533) (tgt := 565) hx hb dL_law_32 (by decide) (by decide) rfl (by decide) (lc_version l X hX hbl hbA hI hA hR hP hS hi hL hl nx)
        · exact lv_tableIn (off := 576) (tgt := 608) hx hb dL_law_32 (by decide) (by decide) rfl (by decide) (lc_reader l X hX hbl hbA hI hA hR hP hS hi hL hl nx)
        · exact lv_tableIn (off := 609) (tgt := 641) hx hb dL_law_32 (by decide) (by decide) rfl (by decide) (lc_lasts l X hX hbl hbA hI hA hR hP hS hi hL hl nx)
        · exact lv_tableIn (off := 632) (tgt := 664) hx hb dL_law_32 (by decide) (by decide) rfl (by decide) (lc_committed l X hX hbl hbA hI hA hR hP hS hi hL hl nx)
        · exact lv_tableIn (off := 665) (tgt := 697) hx hb dL_law_32 (by decide) (by decide) rfl (by decide) (lc_count l X hX hbl hbA hI hA hR hP hS hi hL hl nx)
      · refine lv_tableOut (tgt := 720) hx hb dL_law_32 (Or.inr ?_) (by decide) (nx _ _ _ hR hP hS)
        rw [nI_toInt (by omega)]
        omega
end LOOP

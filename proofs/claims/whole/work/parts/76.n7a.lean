set_option maxHeartbeats 4000000 in
set_option maxRecDepth 100000 in
theorem law_loop {pp : Program} {l : Launch} {ee : Env} {ss : State} {mm : MethodId} {below : List Frame} {meth : Method} {cc0 : Code} {dC : Nat → ClassId} {dI : Nat → Nat → Nat} {cy : Nat → ClassId} {b L : Nat} {xs : Nat → Int32} {A : Nat → Prop} {sa sv : Nat → Nat} {fv : Value} {ad am : Nat → Nat} (C0 : lk_At pp ss mm meth cc0 dC dI cy b L xs A sa sv fv) (hr : meth.sig.returnType = ret) (hlocks : meth.locks = false) (hA2 : ∀ q : Nat, A q → ss.heap.size ≤ q) : ∀ (n i : Nat), i ≤ L → L + 1 ≤ i + n → lk_W pp l ee ss mm below meth cc0 dC dI cy b A ad am i 18 := by
  intro n
  induction n with
  | zero => intro i h1 h2; exact absurd h2 (by omega)
  | succ n ih =>
    intro i hi hn H locs ls hW0 hS hl
    obtain ⟨hx, hb, hml, hown, hts, hX, hbl, hbA, hA, hK, hE, hL⟩ := id C0
    refine lv_iload_n hx hb dL_law_18 rfl (lv_at hl 3 rfl) ?_
    refine lv_aload_n hx hb dL_law_19 rfl (lv_at hl 0 rfl) ?_
    refine va_slen hx hb hX hbl hbA hS dL_law_20 ?_
    refine lv_bipush (v := 7) hx hb dL_law_21 (by decide) ?_
    refine lv_isub hx hb dL_law_23 ?_
    refine bw_nm (a := (L : Int) - 7) (tI_sub (show (nI L).toInt = (L : Int) from nI_toInt (by omega)) (show (7 : Int32).toInt = 7 by decide) (by omega) (by omega)) (fun z ez tz => ?_)
    refine bw_icmp_gt (tgt := 1098) (a := ((i : Nat) : Int)) (b := (L : Int) - 7) hx hb dL_law_24 (by decide) (nI_toInt (by omega)) tz (fun c9 => ?_) (fun c9 => ?_)
    · refine lv_iconst (v := 1) hx hb dL_law_1098 (by decide) ?_
      refine va_forget (fun q hq => hA2 _ (hS.2.2 q hq)) ?_
      exact lw_ret hx hb hr hlocks dL_law_1099
    · have hi7 : i + 7 ≤ L := by omega
      have K : lk_W pp l ee ss mm below meth cc0 dC dI cy b A ad am i 1092 := by
        intro H locs ls hW0 hS hl
        refine lv_iinc (v := nI (i + 7)) (lv' := [(3, .int (nI (i + 7))), (0, .ref b), (1, .ref (ad 0)), (2, .ref (am 0))]) hx hb dL_law_1092 hl (k := 3) rfl (show nI i + Int32.ofInt 7 = nI (i + 7) from nI_add i 7) (by decide) rfl (fun ls hl => ?_)
        refine lv_goto (tgt := 18) hx hb dL_law_1095 (by decide) ?_
        exact ih (i + 7) (by omega) (by omega) H locs ls hW0 hS (lv_sub hl [1, 2, 3, 0] rfl)
      refine lv_aload_n hx hb dL_law_27 rfl (lv_at hl 0 rfl) ?_
      refine lv_iload_n hx hb dL_law_28 rfl (lv_at hl 3 rfl) ?_
      refine va_sld hx hb hX hbl hbA hS (vp_in_nI (show i < L by omega) (by omega)) dL_law_29 ?_
      refine lv_bipush (v := 31) hx hb dL_law_30 (by decide) ?_
      refine lv_iand hx hb dL_law_32 ?_
      obtain ⟨j, hj, ej⟩ := pk_andE (xs (nI i).toNatClampNeg) (m := 31) 5 (by decide)
      refine bw_re (show xs (nI i).toNatClampNeg &&& 31 = nI j from ej) ?_
      have tj : (nI j).toInt = (j : Int) := nI_toInt (by omega)
      rcases (show 25 ≤ j ∨ j = 0 ∨ j = 1 ∨ j = 2 ∨ j = 3 ∨ j = 4 ∨ j = 5 ∨ j = 6 ∨ j = 7 ∨ j = 8 ∨ j = 9 ∨ j = 10 ∨ j = 11 ∨ j = 12 ∨ j = 13 ∨ j = 14 ∨ j = 15 ∨ j = 16 ∨ j = 17 ∨ j = 18 ∨ j = 19 ∨ j = 20 ∨ j = 21 ∨ j = 22 ∨ j = 23 ∨ j = 24 by omega) with cj | cj | cj | cj | cj | cj | cj | cj | cj | cj | cj | cj | cj | cj | cj | cj | cj | cj | cj | cj | cj | cj | cj | cj | cj | cj
      · refine lv_tableOut (tgt := 1092) hx hb dL_law_33 (by rw [tj]; omega) (by decide) ?_
        exact K H locs ls hW0 hS hl
      · refine lv_tableIn (tgt := 148) (off := 115) hx hb dL_law_33 (by rw [tj]; omega) (by rw [tj]; omega) (by rw [tj, cj]; rfl) (by decide) ?_
        exact lk_feed C0 hi7 K H locs ls hW0 hS hl
      · refine lv_tableIn (tgt := 211) (off := 178) hx hb dL_law_33 (by rw [tj]; omega) (by rw [tj]; omega) (by rw [tj, cj]; rfl) (by decide) ?_
        exact lk_end C0 hi7 K H locs ls hW0 hS hl
      · refine lv_tableIn (tgt := 234) (off := 201) hx hb dL_law_33 (by rw [tj]; omega) (by rw [tj]; omega) (by rw [tj, cj]; rfl) (by decide) ?_
        exact lk_site C0 hi7 K H locs ls hW0 hS hl
      · refine lv_tableIn (tgt := 287) (off := 254) hx hb dL_law_33 (by rw [tj]; omega) (by rw [tj]; omega) (by rw [tj, cj]; rfl) (by decide) ?_
        exact lk_renumber C0 hi7 K H locs ls hW0 hS hl
      · refine lv_tableIn (tgt := 350) (off := 317) hx hb dL_law_33 (by rw [tj]; omega) (by rw [tj]; omega) (by rw [tj, cj]; rfl) (by decide) ?_
        exact lk_possible C0 hi7 K H locs ls hW0 hS hl
      · refine lv_tableIn (tgt := 394) (off := 361) hx hb dL_law_33 (by rw [tj]; omega) (by rw [tj]; omega) (by rw [tj, cj]; rfl) (by decide) ?_
        exact lk_surely C0 hi7 K H locs ls hW0 hS hl
      · refine lv_tableIn (tgt := 437) (off := 404) hx hb dL_law_33 (by rw [tj]; omega) (by rw [tj]; omega) (by rw [tj, cj]; rfl) (by decide) ?_
        exact lk_person C0 hi7 K H locs ls hW0 hS hl
      · refine lv_tableIn (tgt := 480) (off := 447) hx hb dL_law_33 (by rw [tj]; omega) (by rw [tj]; omega) (by rw [tj, cj]; rfl) (by decide) ?_
        exact lk_join C0 hi7 K H locs ls hW0 hS hl
      · refine lv_tableIn (tgt := 513) (off := 480) hx hb dL_law_33 (by rw [tj]; omega) (by rw [tj]; omega) (by rw [tj, cj]; rfl) (by decide) ?_
        exact lk_paper C0 hi7 K H locs ls hW0 hS hl
      · refine lv_tableIn (tgt := 588) (off := 555) hx hb dL_law_33 (by rw [tj]; omega) (by rw [tj]; omega) (by rw [tj, cj]; rfl) (by decide) ?_
        exact lk_falsify C0 hi7 K H locs ls hW0 hS hl
      · refine lv_tableIn (tgt := 637) (off := 604) hx hb dL_law_33 (by rw [tj]; omega) (by rw [tj]; omega) (by rw [tj, cj]; rfl) (by decide) ?_
        exact lk_lived C0 hi7 K H locs ls hW0 hS hl
      · refine lv_tableIn (tgt := 680) (off := 647) hx hb dL_law_33 (by rw [tj]; omega) (by rw [tj]; omega) (by rw [tj, cj]; rfl) (by decide) ?_
        exact lk_rules C0 hi7 K H locs ls hW0 hS hl
      · refine lv_tableIn (tgt := 693) (off := 660) hx hb dL_law_33 (by rw [tj]; omega) (by rw [tj]; omega) (by rw [tj, cj]; rfl) (by decide) ?_
        exact lk_fault C0 hi7 K H locs ls hW0 hS hl
      · refine lv_tableIn (tgt := 716) (off := 683) hx hb dL_law_33 (by rw [tj]; omega) (by rw [tj]; omega) (by rw [tj, cj]; rfl) (by decide) ?_
        exact lk_rule C0 hi7 K H locs ls hW0 hS hl
      · refine lv_tableIn (tgt := 739) (off := 706) hx hb dL_law_33 (by rw [tj]; omega) (by rw [tj]; omega) (by rw [tj, cj]; rfl) (by decide) ?_
        exact lk_ask C0 hi7 K H locs ls hW0 hS hl
      · refine lv_tableIn (tgt := 782) (off := 749) hx hb dL_law_33 (by rw [tj]; omega) (by rw [tj]; omega) (by rw [tj, cj]; rfl) (by decide) ?_
        exact lk_against C0 hi7 K H locs ls hW0 hS hl
      · refine lv_tableIn (tgt := 805) (off := 772) hx hb dL_law_33 (by rw [tj]; omega) (by rw [tj]; omega) (by rw [tj, cj]; rfl) (by decide) ?_
        exact lk_vote C0 hi7 K H locs ls hW0 hS hl
      · refine lv_tableIn (tgt := 848) (off := 815) hx hb dL_law_33 (by rw [tj]; omega) (by rw [tj]; omega) (by rw [tj, cj]; rfl) (by decide) ?_
        exact lk_decide C0 hi7 K H locs ls hW0 hS hl
      · refine lv_tableIn (tgt := 871) (off := 838) hx hb dL_law_33 (by rw [tj]; omega) (by rw [tj]; omega) (by rw [tj, cj]; rfl) (by decide) ?_
        exact lk_hang C0 hi7 K H locs ls hW0 hS hl
      · refine lv_tableIn (tgt := 914) (off := 881) hx hb dL_law_33 (by rw [tj]; omega) (by rw [tj]; omega) (by rw [tj, cj]; rfl) (by decide) ?_
        exact lk_line C0 hi7 K H locs ls hW0 hS hl
      · refine lv_tableIn (tgt := 947) (off := 914) hx hb dL_law_33 (by rw [tj]; omega) (by rw [tj]; omega) (by rw [tj, cj]; rfl) (by decide) ?_
        exact lk_wide C0 hi7 K H locs ls hW0 hS hl
      · refine lv_tableIn (tgt := 980) (off := 947) hx hb dL_law_33 (by rw [tj]; omega) (by rw [tj]; omega) (by rw [tj, cj]; rfl) (by decide) ?_
        exact lk_down C0 hi7 K H locs ls hW0 hS hl
      · refine lv_tableIn (tgt := 1023) (off := 990) hx hb dL_law_33 (by rw [tj]; omega) (by rw [tj]; omega) (by rw [tj, cj]; rfl) (by decide) ?_
        exact lk_about C0 hi7 K H locs ls hW0 hS hl
      · refine lv_tableIn (tgt := 1056) (off := 1023) hx hb dL_law_33 (by rw [tj]; omega) (by rw [tj]; omega) (by rw [tj, cj]; rfl) (by decide) ?_
        exact lk_doubtful C0 hi7 K H locs ls hW0 hS hl
      · refine lv_tableIn (tgt := 1069) (off := 1036) hx hb dL_law_33 (by rw [tj]; omega) (by rw [tj]; omega) (by rw [tj, cj]; rfl) (by decide) ?_
        exact lk_count C0 hi7 K H locs ls hW0 hS hl
theorem kc_1 : (∀ w ∈ wsX00, w ∈ wsX10_init) ∧ (∀ w ∈ wsX10, w ∈ wsX10_init) ∧ (∀ w ∈ wsX20, w ∈ wsX10_init) ∧ (∀ w ∈ wsX30, w ∈ wsX10_init) ∧ (∀ w ∈ wsX40, w ∈ wsX10_init) ∧ (∀ w ∈ wsX50, w ∈ wsX10_init) ∧ (∀ w ∈ wsX60, w ∈ wsX10_init) ∧ (∀ w ∈ wsX70, w ∈ wsX10_init) ∧ (∀ w ∈ wsX80, w ∈ wsX10_init) ∧ (∀ w ∈ wsX90, w ∈ wsX10_init) ∧ (∀ w ∈ wsX100, w ∈ wsX10_init) := ⟨by decide +kernel, by decide +kernel, by decide +kernel, by decide +kernel, by decide +kernel, by decide +kernel, by decide +kernel, by decide +kernel, by decide +kernel, by decide +kernel, by decide +kernel⟩
theorem kc_2 : (∀ w ∈ wsX110, w ∈ wT_init) ∧ (∀ w ∈ wsX120, w ∈ wT_init) := ⟨by decide +kernel, by decide +kernel⟩
theorem arr_of {ty : FieldType} {args : Array Value} {s : State} (h : (Cond.arrayClass ty).before args s = true) (hty : ∀ C, ty ≠ .object C) : ∃ cA : ClassId, ArrOfT s cA ty ∧ va_RA s cA ty := by
  obtain ⟨cA, kA, comp, h1, h2, h3⟩ := Cond.arrayClass_spec (args := args) (first := s) (o := none) (s := s) (idx := []) h
  refine ⟨cA, fun n z => ⟨fun k h => (by cases h), kA, h2, comp, h3⟩, ?_⟩
  cases ty with
  | object C => exact absurd rfl (hty C)
  | _ => exact h1
set_option maxHeartbeats 4000000 in
set_option maxRecDepth 100000 in
theorem kc_all {ss : State} {b : Nat} (hts : ∀ w ∈ lw_tbl, w.before #[Value.ref b] ss = true) : ∃ (dC : Nat → ClassId) (dI : Nat → Nat → Nat) (cy : Nat → ClassId), va_K (dC, dI) vwCl (tyL cy) ss := by
  obtain ⟨k0, k1, k2, k3, k4, k5, k6, k7, k8, k9, k10⟩ := kc_1
  obtain ⟨k11, k12⟩ := kc_2
  obtain ⟨c0, i0, hK0⟩ := u_known (C := RX0) (T := TX0) (N := 11) (n := 11) hts (fun w h => (gT_X10_init w (k0 w h)).1) (hts (.instantiable RX0 11) (List.mem_of_getElem? (i := 292) (by decide +kernel)))
  obtain ⟨c1, i1, hK1⟩ := u_known (C := RX1) (T := TX1) (N := 5) (n := 5) hts (fun w h => (gT_X10_init w (k1 w h)).1) (hts (.instantiable RX1 5) (List.mem_of_getElem? (i := 358) (by decide +kernel)))
  obtain ⟨c2, i2, hK2⟩ := u_known (C := RX2) (T := TX2) (N := 8) (n := 8) hts (fun w h => (gT_X10_init w (k2 w h)).1) (hts (.instantiable RX2 8) (List.mem_of_getElem? (i := 159) (by decide +kernel)))
  obtain ⟨c3, i3, hK3⟩ := u_known (C := RX3) (T := TX3) (N := 5) (n := 5) hts (fun w h => (gT_X10_init w (k3 w h)).1) (hts (.instantiable RX3 5) (List.mem_of_getElem? (i := 133) (by decide +kernel)))
  obtain ⟨c4, i4, hK4⟩ := u_known (C := RX4) (T := TX4) (N := 1) (n := 1) hts (fun w h => (gT_X10_init w (k4 w h)).1) (hts (.instantiable RX4 1) (List.mem_of_getElem? (i := 227) (by decide +kernel)))
  obtain ⟨c5, i5, hK5⟩ := u_known (C := RX5) (T := TX5) (N := 12) (n := 12) hts (fun w h => (gT_X10_init w (k5 w h)).1) (hts (.instantiable RX5 12) (List.mem_of_getElem? (i := 243) (by decide +kernel)))
  obtain ⟨c6, i6, hK6⟩ := u_known (C := RX6) (T := TX6) (N := 6) (n := 6) hts (fun w h => (gT_X10_init w (k6 w h)).1) (hts (.instantiable RX6 6) (List.mem_of_getElem? (i := 106) (by decide +kernel)))
  obtain ⟨c7, i7, hK7⟩ := u_known (C := RX7) (T := TX7) (N := 6) (n := 6) hts (fun w h => (gT_X10_init w (k7 w h)).1) (hts (.instantiable RX7 6) (List.mem_of_getElem? (i := 201) (by decide +kernel)))
  obtain ⟨c8, i8, hK8⟩ := u_known (C := RX8) (T := TX8) (N := 2) (n := 2) hts (fun w h => (gT_X10_init w (k8 w h)).1) (hts (.instantiable RX8 2) (List.mem_of_getElem? (i := 86) (by decide +kernel)))
  obtain ⟨c9, i9, hK9⟩ := u_known (C := RX9) (T := TX9) (N := 2) (n := 2) hts (fun w h => (gT_X10_init w (k9 w h)).1) (hts (.instantiable RX9 2) (List.mem_of_getElem? (i := 343) (by decide +kernel)))
  obtain ⟨c10, i10, hK10⟩ := u_known (C := RX10) (T := TX10) (N := 10) (n := 10) hts (fun w h => (gT_X10_init w (k10 w h)).1) (hts (.instantiable RX10 10) (List.mem_of_getElem? (i := 78) (by decide +kernel)))
  obtain ⟨c11, i11, hK11⟩ := u_known (C := RX11) (T := TX11) (N := 6) (n := 6) hts (fun w h => (gL_init12 w (k11 w h)).1) (hts (.instantiable RX11 6) (List.mem_of_getElem? (i := 869) (by decide +kernel)))
  obtain ⟨c12, i12, hK12⟩ := u_known (C := RX12) (T := TX12) (N := 53) (n := 53) hts (fun w h => (gL_init12 w (k12 w h)).1) (hts (.instantiable RX12 53) (List.mem_of_getElem? (i := 863) (by decide +kernel)))
  obtain ⟨y0, hY0⟩ := arr_of (hts (.arrayClass .int) (List.mem_of_getElem? (i := 104) (by decide +kernel))) (fun C h => by cases h)
  obtain ⟨y1, hY1⟩ := arr_of (hts (.arrayClass .long) (List.mem_of_getElem? (i := 225) (by decide +kernel))) (fun C h => by cases h)
  obtain ⟨y2, hY2⟩ := arr_of (hts (.arrayClass .boolean) (List.mem_of_getElem? (i := 199) (by decide +kernel))) (fun C h => by cases h)
  obtain ⟨y3, hY3⟩ := arr_of (hts (.arrayClass .byte) (List.mem_of_getElem? (i := 718) (by decide +kernel))) (fun C h => by cases h)
  refine ⟨fun k => [c0, c1, c2, c3, c4, c5, c6, c7, c8, c9, c10, c11, c12].getD k c0, fun k => [i0, i1, i2, i3, i4, i5, i6, i7, i8, i9, i10, i11, i12].getD k i0, fun k => [y0, y1, y2, y3].getD k y0, ?_, ?_⟩
  · intro k q hq
    match k, hq with
    | 0, hq => cases hq; exact hK0
    | 1, hq => cases hq; exact hK1
    | 2, hq => cases hq; exact hK2
    | 3, hq => cases hq; exact hK3
    | 4, hq => cases hq; exact hK4
    | 5, hq => cases hq; exact hK5
    | 6, hq => cases hq; exact hK6
    | 7, hq => cases hq; exact hK7
    | 8, hq => cases hq; exact hK8
    | 9, hq => cases hq; exact hK9
    | 10, hq => cases hq; exact hK10
    | 11, hq => cases hq; exact hK11
    | 12, hq => cases hq; exact hK12
    | k + 13, hq => simp [vwCl] at hq
  · intro k q hq
    match k, hq with
    | 0, hq => cases hq; exact hY0
    | 1, hq => cases hq; exact hY1
    | 2, hq => cases hq; exact hY2
    | 3, hq => cases hq; exact hY3
    | k + 4, hq => simp [tyL] at hq

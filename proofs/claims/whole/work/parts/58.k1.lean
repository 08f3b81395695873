theorem newa_I (n : Nat) (cA : ClassId) : vp_cell cA (n, .inl (fun _ => 0)) = arrV cA n (fun _ => defaultValue .int) := rfl
theorem newa_Z (n : Nat) (cA : ClassId) : vp_cell cA (n, .inl (fun _ => 0)) = arrV cA n (fun _ => defaultValue .boolean) := rfl
theorem newa_B (n : Nat) (cA : ClassId) : vp_cell cA (n, .inl (fun _ => 0)) = arrV cA n (fun _ => defaultValue .byte) := rfl
theorem newa_J (n : Nat) (cA : ClassId) : vp_cell cA (n, .inr (.inl (fun _ => 0))) = arrV cA n (fun _ => defaultValue .long) := rfl
theorem bw_cy {D : va_G} {cl : List vw_C} {tys : List (ClassId × FieldType)} {s : State} {cA c0 : ClassId} {ty : FieldType} (h : va_K D cl tys s) (h9 : va_K D cl (tys ++ [(cA, ty)]) s) (k : Nat) (hk : tys[k]? = some (c0, ty)) (hp : (match ty with | .object _ => false | _ => true) = true) : cA = c0 := by
  have h1 := (h.2 k _ hk).2
  have h2 := (h9.2 tys.length (cA, ty) (by rw [List.getElem?_append_right (Nat.le_refl _), Nat.sub_self]; rfl)).2
  cases ty with
  | object C => cases hp
  | _ => exact Option.some.inj (h2.symm.trans h1)
def tW (us1 us2 : Value) (A : Nat → Prop) (U : State) (H : Heap) : Prop := va_Z "java/lang/Throwable" "UNASSIGNED_STACK" "[Ljava/lang/StackTraceElement;" us1 A U H ∧ va_Z "java/lang/Throwable" "SUPPRESSED_SENTINEL" "Ljava/util/List;" us2 A U H ∧ (us1 = .null ∨ ∃ t : Nat, us1 = .ref t) ∧ (us2 = .null ∨ ∃ t : Nat, us2 = .ref t)
theorem tW.go {us1 us2 : Value} {A : Nat → Prop} {s U : State} {H : Heap} (h : tW us1 us2 A s H) (hW : s.WarmedH U.vm) (hU : U.heap = H) : tW us1 us2 A U U.heap := by
  rw [hU]; exact ⟨va_Z.moved hW.alike h.1, va_Z.moved hW.alike h.2.1, h.2.2⟩
theorem tW.kept {us1 us2 : Value} {A : Nat → Prop} {U : State} {H H1 : Heap} (h : tW us1 us2 A U H) (hq : ∀ a : Nat, a < H.size → ¬ A a → H1[a]? = H[a]?) : tW us1 us2 A U H1 := ⟨h.1.kept hq, h.2.1.kept hq, h.2.2⟩
theorem tW.narrow {us1 us2 : Value} {A B : Nat → Prop} {U : State} {H : Heap} (h : tW us1 us2 A U H) (hAB : ∀ q, B q → A q) : tW us1 us2 B U H := ⟨h.1.narrow hAB, h.2.1.narrow hAB, h.2.2⟩
theorem tW.call {us1 us2 : Value} {A : Nat → Prop} {U : State} (h : tW us1 us2 A U U.heap) (g : JFrame) (mk : MethodId) (a : Array Value) : tW us1 us2 A (U.calling g mk a) (U.calling g mk a).heap :=
  ⟨va_Z.moved (u := U) (U := U.calling g mk a) (Vm.Alike.refl U.vm) h.1, va_Z.moved (u := U) (U := U.calling g mk a) (Vm.Alike.refl U.vm) h.2.1, h.2.2⟩
set_option maxHeartbeats 4000000 in
set_option maxRecDepth 100000 in
theorem c_X8_init (l : Launch) (dC : Nat → ClassId) (dI : Nat → Nat → Nat) (cy : Nat → ClassId) (qa : Nat) (sz : Nat)  : Met l yX8_init wsX8_init ({ frames := 1, cells := 1, slots := 600, locals := 12 }) (va_Pc [.ref qa] (fun U => U.heap.size = sz ∧ va_P (dC, dI) vwCl [(qa, .inr (8, [.null, .int 0]))] U.heap ∧ va_K (dC, dI) vwCl (tyL cy) U ∧ va_D (fun _ => True) [(qa, .inr (8, [.null, .int 0]))])) (va_Qv (S := Nat) (fun q0 => True) (fun q0 => fun t => va_P (dC, dI) vwCl [(qa, .inr (8, [.ref q0, .int 0])), (q0, .inl (cy 0, 600, .inl (fun _ => 0)))] t.heap ∧ va_K (dC, dI) vwCl (tyL cy) t ∧ va_D (va_A [(qa, .inr (8, [.null, .int 0]))] sz) [(qa, .inr (8, [.ref q0, .int 0])), (q0, .inl (cy 0, 600, .inl (fun _ => 0)))]) (va_A [(qa, .inr (8, [.null, .int 0]))] sz)) 1 600 (va_A [(qa, .inr (8, [.null, .int 0]))] sz) := by
  refine Met.ofW (cc := cX8_init) (maxL := 1) (ret := none) (by decide) rfl ?_
  intro pp ee ss mm args below meth cc0 s₁ B hml hv
  obtain ⟨rfl, hsz, hP, hK, hD0⟩ := hv
  have hx := B.exec
  have hb := B.bytes
  have hr := B.returns
  have hts := atoms_spec (ws := wsX8_init) B.pre
  have hown : ss.vm.findClass RX8 = some mm.cls := findClass_of_methodNamed B.named
  have hlocks := B.notSynchronized
  have hin : meth.name = "<init>" := (name_of_methodNamed B.named B.method).1
  have hL0 := hts (.methodLink RX8 3 objectInit) (by decide +kernel)
  have hL1 := hts (.instanceMethod objectInit) (by decide +kernel)
  have hL2 := hts (.arrayClass .int) (by decide +kernel)
  have hL3 := hts (.fieldLink RX8 9 "HereLived$Tape" "bytes" "[I") (by decide +kernel)
  have hiX8 : ∀ w ∈ wsX80, w ∈ wsX8_init := by decide +kernel
  subst hsz
  have hD := hD0.self (sz := ss.heap.size)
  generalize hAe : va_A [(qa, .inr (8, [.null, .int 0]))] ss.heap.size = A at hD ⊢
  have hA : ∀ q : Nat, ss.heap.size ≤ q → A q := fun q h => by rw [← hAe]; exact Or.inr h
  have hS : va_S A ss.heap ss.heap [] := va_S.rf
  have hP : va_P (dC, dI) vwCl [(qa, .inr (8, [.null, .int 0]))] ss.heap := hP
  have hl := lv_entry ([.ref qa]) (n := 1) (Nat.le_of_ble_eq_true rfl)
  rw [lg_entry_eq]
  generalize (lg_sl ([.ref qa]) ++ List.replicate (1 - (lg_sl ([.ref qa])).length) Slot.unset).toArray = ls at hl ⊢
  have hl : lv_has ls 1 [(0, .ref qa)] := hl
  refine bw_Q (fun Q hQ => ?_)
  refine bw_H0 (fun H locs eH eL => ?_)
  have hS : va_S A ss.heap H locs := by rw [eH, eL]; exact hS
  have hP : va_P (dC, dI) vwCl [(qa, .inr (8, [.null, .int 0]))] H := by rw [eH]; exact hP
  change W pp l ee { frames := 1, cells := 1, slots := 600, locals := 12 } ss mm _ below meth cc0 H locs 0 0 Q (F0 mm 0 ls [])
  refine lv_aload_n hx hb dX8_init_0 rfl (lv_at hl 0 rfl) ?_
  refine W.objInit hx hb hown hL0 hL1 (hts _ (List.mem_of_getElem? (i := 3) rfl)) rfl (by rw [hml]; exact hl.1) rfl dX8_init_1 (Nat.le_of_ble_eq_true rfl) (Nat.le_of_ble_eq_true rfl) ?_
  refine W.eq (g2 := F0 mm 4 ls []) rfl ?_
  refine lv_aload_n hx hb dX8_init_4 rfl (lv_at hl 0 rfl) ?_
  refine lv_sipush (v := 600) hx hb dX8_init_5 (by decide) ?_
  refine va_newa (atype := .int) (ty := .int) (N' := 600) (a0 := (600, .inl (fun _ => 0))) hx hb hL2 rfl hK hP hD hS hA (newa_I 600) (by decide +kernel) (by decide +kernel) (by decide +kernel) (by decide +kernel) (by decide +kernel) dX8_init_8 (fun q_1 cA9 H hK9 hP hD hS => ?_)
  obtain rfl : cA9 = cy 0 := bw_cy hK hK9 0 rfl rfl
  have hP : va_P (dC, dI) vwCl [(qa, .inr (8, [.null, .int 0])), (q_1, .inl (cy 0, 600, .inl (fun _ => 0)))] H := hP
  have hD : va_D A [(qa, .inr (8, [.null, .int 0])), (q_1, .inl (cy 0, 600, .inl (fun _ => 0)))] := hD
  refine va_putF (D := (dC, dI)) (ci := 8) (v := .ref q_1) (ty := (tyX8 0)) (C := RX8) (T := TX8) (N := 2) hx hb hts hiX8 tyX8 tyX8_ok nmX8 hown hK hP hD hS 0 rfl rfl 0 (by decide) hL3 (fun _ h9 => h9) rfl hin rfl (by decide +kernel) rfl rfl (Nat.le_of_ble_eq_true rfl) dX8_init_10 (fun H locs hP hD hS => ?_)
  have hP : va_P (dC, dI) vwCl [(qa, .inr (8, [.ref q_1, .int 0])), (q_1, .inl (cy 0, 600, .inl (fun _ => 0)))] H := hP
  have hD : va_D A [(qa, .inr (8, [.ref q_1, .int 0])), (q_1, .inl (cy 0, 600, .inl (fun _ => 0)))] := hD
  refine bw_Qe hQ ?_
  have hP9 : va_P (dC, dI) vwCl [(qa, .inr (8, [.ref q_1, .int 0])), (q_1, .inl (cy 0, 600, .inl (fun _ => 0)))] H := hP.sub [0, 1] rfl
  have hD9 : va_D A [(qa, .inr (8, [.ref q_1, .int 0])), (q_1, .inl (cy 0, 600, .inl (fun _ => 0)))] := hD.sub [0, 1] (by decide) rfl
  have hpost : True := by
    trivial
  exact W.vret hx hb hr (fun t9 ht hW => ⟨⟨q_1, rfl, hpost, by rw [ht]; exact hP9, va_K.moved hW.alike hK, hD9⟩, hS.F ht⟩) hS.2.2 dX8_init_13

set_option maxHeartbeats 4000000 in
set_option maxRecDepth 100000 in
theorem c_X6_init (l : Launch) (dC : Nat → ClassId) (dI : Nat → Nat → Nat) (cy : Nat → ClassId) (qa : Nat) (sz : Nat)  : Met l yX6_init wsX6_init ({ frames := 1, cells := 5, slots := 1320, locals := 12 }) (va_Pc [.ref qa] (fun U => U.heap.size = sz ∧ va_P (dC, dI) vwCl [(qa, .inr (6, [.null, .null, .null, .null, .null, .int 0]))] U.heap ∧ va_K (dC, dI) vwCl (tyL cy) U ∧ va_D (fun _ => True) [(qa, .inr (6, [.null, .null, .null, .null, .null, .int 0]))])) (va_Qv (S := Nat × Nat × Nat × Nat × Nat) (fun u => match u with | (q0, q1, q2, q3, q4) => True) (fun u => match u with | (q0, q1, q2, q3, q4) => fun t => va_P (dC, dI) vwCl [(qa, .inr (6, [.ref q0, .ref q1, .ref q2, .ref q3, .ref q4, .int 0])), (q0, .inl (cy 0, 40, .inl (fun _ => 0))), (q1, .inl (cy 0, 320, .inl (fun _ => 0))), (q2, .inl (cy 0, 320, .inl (fun _ => 0))), (q3, .inl (cy 0, 320, .inl (fun _ => 0))), (q4, .inl (cy 0, 320, .inl (fun _ => 0)))] t.heap ∧ va_K (dC, dI) vwCl (tyL cy) t ∧ va_D (va_A [(qa, .inr (6, [.null, .null, .null, .null, .null, .int 0]))] sz) [(qa, .inr (6, [.ref q0, .ref q1, .ref q2, .ref q3, .ref q4, .int 0])), (q0, .inl (cy 0, 40, .inl (fun _ => 0))), (q1, .inl (cy 0, 320, .inl (fun _ => 0))), (q2, .inl (cy 0, 320, .inl (fun _ => 0))), (q3, .inl (cy 0, 320, .inl (fun _ => 0))), (q4, .inl (cy 0, 320, .inl (fun _ => 0)))]) (va_A [(qa, .inr (6, [.null, .null, .null, .null, .null, .int 0]))] sz)) 5 1320 (va_A [(qa, .inr (6, [.null, .null, .null, .null, .null, .int 0]))] sz) := by
  refine Met.ofW (cc := cX6_init) (maxL := 1) (ret := none) (by decide) rfl ?_
  intro pp ee ss mm args below meth cc0 s₁ B hml hv
  obtain ⟨rfl, hsz, hP, hK, hD0⟩ := hv
  have hx := B.exec
  have hb := B.bytes
  have hr := B.returns
  have hts := atoms_spec (ws := wsX6_init) B.pre
  have hown : ss.vm.findClass RX6 = some mm.cls := findClass_of_methodNamed B.named
  have hlocks := B.notSynchronized
  have hin : meth.name = "<init>" := (name_of_methodNamed B.named B.method).1
  have hL0 := hts (.methodLink RX6 3 objectInit) (by decide +kernel)
  have hL1 := hts (.instanceMethod objectInit) (by decide +kernel)
  have hL2 := hts (.arrayClass .int) (by decide +kernel)
  have hL3 := hts (.fieldLink RX6 9 "HereLived$Sites" "numberings" "[I") (by decide +kernel)
  have hL4 := hts (.fieldLink RX6 15 "HereLived$Sites" "from" "[I") (by decide +kernel)
  have hL5 := hts (.fieldLink RX6 18 "HereLived$Sites" "to" "[I") (by decide +kernel)
  have hL6 := hts (.fieldLink RX6 21 "HereLived$Sites" "street" "[I") (by decide +kernel)
  have hL7 := hts (.fieldLink RX6 24 "HereLived$Sites" "number" "[I") (by decide +kernel)
  have hiX6 : ∀ w ∈ wsX60, w ∈ wsX6_init := by decide +kernel
  subst hsz
  have hD := hD0.self (sz := ss.heap.size)
  generalize hAe : va_A [(qa, .inr (6, [.null, .null, .null, .null, .null, .int 0]))] ss.heap.size = A at hD ⊢
  have hA : ∀ q : Nat, ss.heap.size ≤ q → A q := fun q h => by rw [← hAe]; exact Or.inr h
  have hS : va_S A ss.heap ss.heap [] := va_S.rf
  have hP : va_P (dC, dI) vwCl [(qa, .inr (6, [.null, .null, .null, .null, .null, .int 0]))] ss.heap := hP
  have hl := lv_entry ([.ref qa]) (n := 1) (Nat.le_of_ble_eq_true rfl)
  rw [lg_entry_eq]
  generalize (lg_sl ([.ref qa]) ++ List.replicate (1 - (lg_sl ([.ref qa])).length) Slot.unset).toArray = ls at hl ⊢
  have hl : lv_has ls 1 [(0, .ref qa)] := hl
  refine bw_Q (fun Q hQ => ?_)
  refine bw_H0 (fun H locs eH eL => ?_)
  have hS : va_S A ss.heap H locs := by rw [eH, eL]; exact hS
  have hP : va_P (dC, dI) vwCl [(qa, .inr (6, [.null, .null, .null, .null, .null, .int 0]))] H := by rw [eH]; exact hP
  change W pp l ee { frames := 1, cells := 5, slots := 1320, locals := 12 } ss mm _ below meth cc0 H locs 0 0 Q (F0 mm 0 ls [])
  refine lv_aload_n hx hb dX6_init_0 rfl (lv_at hl 0 rfl) ?_
  refine W.objInit hx hb hown hL0 hL1 (hts _ (List.mem_of_getElem? (i := 3) rfl)) rfl (by rw [hml]; exact hl.1) rfl dX6_init_1 (Nat.le_of_ble_eq_true rfl) (Nat.le_of_ble_eq_true rfl) ?_
  refine W.eq (g2 := F0 mm 4 ls []) rfl ?_
  refine lv_aload_n hx hb dX6_init_4 rfl (lv_at hl 0 rfl) ?_
  refine lv_bipush (v := 40) hx hb dX6_init_5 (by decide) ?_
  refine va_newa (atype := .int) (ty := .int) (N' := 40) (a0 := (40, .inl (fun _ => 0))) hx hb hL2 rfl hK hP hD hS hA (newa_I 40) (by decide +kernel) (by decide +kernel) (by decide +kernel) (by decide +kernel) (by decide +kernel) dX6_init_7 (fun q_1 cA9 H hK9 hP hD hS => ?_)
  obtain rfl : cA9 = cy 0 := bw_cy hK hK9 0 rfl rfl
  have hP : va_P (dC, dI) vwCl [(qa, .inr (6, [.null, .null, .null, .null, .null, .int 0])), (q_1, .inl (cy 0, 40, .inl (fun _ => 0)))] H := hP
  have hD : va_D A [(qa, .inr (6, [.null, .null, .null, .null, .null, .int 0])), (q_1, .inl (cy 0, 40, .inl (fun _ => 0)))] := hD
  refine va_putF (D := (dC, dI)) (ci := 6) (v := .ref q_1) (ty := (tyX6 0)) (C := RX6) (T := TX6) (N := 6) hx hb hts hiX6 tyX6 tyX6_ok nmX6 hown hK hP hD hS 0 rfl rfl 0 (by decide) hL3 (fun _ h9 => h9) rfl hin rfl (by decide +kernel) rfl rfl (Nat.le_of_ble_eq_true rfl) dX6_init_9 (fun H locs hP hD hS => ?_)
  have hP : va_P (dC, dI) vwCl [(qa, .inr (6, [.ref q_1, .null, .null, .null, .null, .int 0])), (q_1, .inl (cy 0, 40, .inl (fun _ => 0)))] H := hP
  have hD : va_D A [(qa, .inr (6, [.ref q_1, .null, .null, .null, .null, .int 0])), (q_1, .inl (cy 0, 40, .inl (fun _ => 0)))] := hD
  refine lv_aload_n hx hb dX6_init_12 rfl (lv_at hl 0 rfl) ?_
  refine lv_sipush (v := 320) hx hb dX6_init_13 (by decide) ?_
  refine va_newa (atype := .int) (ty := .int) (N' := 320) (a0 := (320, .inl (fun _ => 0))) hx hb hL2 rfl hK hP hD hS hA (newa_I 320) (by decide +kernel) (by decide +kernel) (by decide +kernel) (by decide +kernel) (by decide +kernel) dX6_init_16 (fun q_2 cA9 H hK9 hP hD hS => ?_)
  obtain rfl : cA9 = cy 0 := bw_cy hK hK9 0 rfl rfl
  have hP : va_P (dC, dI) vwCl [(qa, .inr (6, [.ref q_1, .null, .null, .null, .null, .int 0])), (q_1, .inl (cy 0, 40, .inl (fun _ => 0))), (q_2, .inl (cy 0, 320, .inl (fun _ => 0)))] H := hP
  have hD : va_D A [(qa, .inr (6, [.ref q_1, .null, .null, .null, .null, .int 0])), (q_1, .inl (cy 0, 40, .inl (fun _ => 0))), (q_2, .inl (cy 0, 320, .inl (fun _ => 0)))] := hD
  refine va_putF (D := (dC, dI)) (ci := 6) (v := .ref q_2) (ty := (tyX6 1)) (C := RX6) (T := TX6) (N := 6) hx hb hts hiX6 tyX6 tyX6_ok nmX6 hown hK hP hD hS 0 rfl rfl 1 (by decide) hL4 (fun _ h9 => h9) rfl hin rfl (by decide +kernel) rfl rfl (Nat.le_of_ble_eq_true rfl) dX6_init_18 (fun H locs hP hD hS => ?_)
  have hP : va_P (dC, dI) vwCl [(qa, .inr (6, [.ref q_1, .ref q_2, .null, .null, .null, .int 0])), (q_1, .inl (cy 0, 40, .inl (fun _ => 0))), (q_2, .inl (cy 0, 320, .inl (fun _ => 0)))] H := hP
  have hD : va_D A [(qa, .inr (6, [.ref q_1, .ref q_2, .null, .null, .null, .int 0])), (q_1, .inl (cy 0, 40, .inl (fun _ => 0))), (q_2, .inl (cy 0, 320, .inl (fun _ => 0)))] := hD
  refine lv_aload_n hx hb dX6_init_21 rfl (lv_at hl 0 rfl) ?_
  refine lv_sipush (v := 320) hx hb dX6_init_22 (by decide) ?_
  refine va_newa (atype := .int) (ty := .int) (N' := 320) (a0 := (320, .inl (fun _ => 0))) hx hb hL2 rfl hK hP hD hS hA (newa_I 320) (by decide +kernel) (by decide +kernel) (by decide +kernel) (by decide +kernel) (by decide +kernel) dX6_init_25 (fun q_3 cA9 H hK9 hP hD hS => ?_)
  obtain rfl : cA9 = cy 0 := bw_cy hK hK9 0 rfl rfl
  have hP : va_P (dC, dI) vwCl [(qa, .inr (6, [.ref q_1, .ref q_2, .null, .null, .null, .int 0])), (q_1, .inl (cy 0, 40, .inl (fun _ => 0))), (q_2, .inl (cy 0, 320, .inl (fun _ => 0))), (q_3, .inl (cy 0, 320, .inl (fun _ => 0)))] H := hP
  have hD : va_D A [(qa, .inr (6, [.ref q_1, .ref q_2, .null, .null, .null, .int 0])), (q_1, .inl (cy 0, 40, .inl (fun _ => 0))), (q_2, .inl (cy 0, 320, .inl (fun _ => 0))), (q_3, .inl (cy 0, 320, .inl (fun _ => 0)))] := hD
  refine va_putF (D := (dC, dI)) (ci := 6) (v := .ref q_3) (ty := (tyX6 2)) (C := RX6) (T := TX6) (N := 6) hx hb hts hiX6 tyX6 tyX6_ok nmX6 hown hK hP hD hS 0 rfl rfl 2 (by decide) hL5 (fun _ h9 => h9) rfl hin rfl (by decide +kernel) rfl rfl (Nat.le_of_ble_eq_true rfl) dX6_init_27 (fun H locs hP hD hS => ?_)
  have hP : va_P (dC, dI) vwCl [(qa, .inr (6, [.ref q_1, .ref q_2, .ref q_3, .null, .null, .int 0])), (q_1, .inl (cy 0, 40, .inl (fun _ => 0))), (q_2, .inl (cy 0, 320, .inl (fun _ => 0))), (q_3, .inl (cy 0, 320, .inl (fun _ => 0)))] H := hP
  have hD : va_D A [(qa, .inr (6, [.ref q_1, .ref q_2, .ref q_3, .null, .null, .int 0])), (q_1, .inl (cy 0, 40, .inl (fun _ => 0))), (q_2, .inl (cy 0, 320, .inl (fun _ => 0))), (q_3, .inl (cy 0, 320, .inl (fun _ => 0)))] := hD
  refine lv_aload_n hx hb dX6_init_30 rfl (lv_at hl 0 rfl) ?_
  refine lv_sipush (v := 320) hx hb dX6_init_31 (by decide) ?_
  refine va_newa (atype := .int) (ty := .int) (N' := 320) (a0 := (320, .inl (fun _ => 0))) hx hb hL2 rfl hK hP hD hS hA (newa_I 320) (by decide +kernel) (by decide +kernel) (by decide +kernel) (by decide +kernel) (by decide +kernel) dX6_init_34 (fun q_4 cA9 H hK9 hP hD hS => ?_)
  obtain rfl : cA9 = cy 0 := bw_cy hK hK9 0 rfl rfl
  have hP : va_P (dC, dI) vwCl [(qa, .inr (6, [.ref q_1, .ref q_2, .ref q_3, .null, .null, .int 0])), (q_1, .inl (cy 0, 40, .inl (fun _ => 0))), (q_2, .inl (cy 0, 320, .inl (fun _ => 0))), (q_3, .inl (cy 0, 320, .inl (fun _ => 0))), (q_4, .inl (cy 0, 320, .inl (fun _ => 0)))] H := hP
  have hD : va_D A [(qa, .inr (6, [.ref q_1, .ref q_2, .ref q_3, .null, .null, .int 0])), (q_1, .inl (cy 0, 40, .inl (fun _ => 0))), (q_2, .inl (cy 0, 320, .inl (fun _ => 0))), (q_3, .inl (cy 0, 320, .inl (fun _ => 0))), (q_4, .inl (cy 0, 320, .inl (fun _ => 0)))] := hD
  refine va_putF (D := (dC, dI)) (ci := 6) (v := .ref q_4) (ty := (tyX6 3)) (C := RX6) (T := TX6) (N := 6) hx hb hts hiX6 tyX6 tyX6_ok nmX6 hown hK hP hD hS 0 rfl rfl 3 (by decide) hL6 (fun _ h9 => h9) rfl hin rfl (by decide +kernel) rfl rfl (Nat.le_of_ble_eq_true rfl) dX6_init_36 (fun H locs hP hD hS => ?_)
  have hP : va_P (dC, dI) vwCl [(qa, .inr (6, [.ref q_1, .ref q_2, .ref q_3, .ref q_4, .null, .int 0])), (q_1, .inl (cy 0, 40, .inl (fun _ => 0))), (q_2, .inl (cy 0, 320, .inl (fun _ => 0))), (q_3, .inl (cy 0, 320, .inl (fun _ => 0))), (q_4, .inl (cy 0, 320, .inl (fun _ => 0)))] H := hP
  have hD : va_D A [(qa, .inr (6, [.ref q_1, .ref q_2, .ref q_3, .ref q_4, .null, .int 0])), (q_1, .inl (cy 0, 40, .inl (fun _ => 0))), (q_2, .inl (cy 0, 320, .inl (fun _ => 0))), (q_3, .inl (cy 0, 320, .inl (fun _ => 0))), (q_4, .inl (cy 0, 320, .inl (fun _ => 0)))] := hD
  refine lv_aload_n hx hb dX6_init_39 rfl (lv_at hl 0 rfl) ?_
  refine lv_sipush (v := 320) hx hb dX6_init_40 (by decide) ?_
  refine va_newa (atype := .int) (ty := .int) (N' := 320) (a0 := (320, .inl (fun _ => 0))) hx hb hL2 rfl hK hP hD hS hA (newa_I 320) (by decide +kernel) (by decide +kernel) (by decide +kernel) (by decide +kernel) (by decide +kernel) dX6_init_43 (fun q_5 cA9 H hK9 hP hD hS => ?_)
  obtain rfl : cA9 = cy 0 := bw_cy hK hK9 0 rfl rfl
  have hP : va_P (dC, dI) vwCl [(qa, .inr (6, [.ref q_1, .ref q_2, .ref q_3, .ref q_4, .null, .int 0])), (q_1, .inl (cy 0, 40, .inl (fun _ => 0))), (q_2, .inl (cy 0, 320, .inl (fun _ => 0))), (q_3, .inl (cy 0, 320, .inl (fun _ => 0))), (q_4, .inl (cy 0, 320, .inl (fun _ => 0))), (q_5, .inl (cy 0, 320, .inl (fun _ => 0)))] H := hP
  have hD : va_D A [(qa, .inr (6, [.ref q_1, .ref q_2, .ref q_3, .ref q_4, .null, .int 0])), (q_1, .inl (cy 0, 40, .inl (fun _ => 0))), (q_2, .inl (cy 0, 320, .inl (fun _ => 0))), (q_3, .inl (cy 0, 320, .inl (fun _ => 0))), (q_4, .inl (cy 0, 320, .inl (fun _ => 0))), (q_5, .inl (cy 0, 320, .inl (fun _ => 0)))] := hD
  refine va_putF (D := (dC, dI)) (ci := 6) (v := .ref q_5) (ty := (tyX6 4)) (C := RX6) (T := TX6) (N := 6) hx hb hts hiX6 tyX6 tyX6_ok nmX6 hown hK hP hD hS 0 rfl rfl 4 (by decide) hL7 (fun _ h9 => h9) rfl hin rfl (by decide +kernel) rfl rfl (Nat.le_of_ble_eq_true rfl) dX6_init_45 (fun H locs hP hD hS => ?_)
  have hP : va_P (dC, dI) vwCl [(qa, .inr (6, [.ref q_1, .ref q_2, .ref q_3, .ref q_4, .ref q_5, .int 0])), (q_1, .inl (cy 0, 40, .inl (fun _ => 0))), (q_2, .inl (cy 0, 320, .inl (fun _ => 0))), (q_3, .inl (cy 0, 320, .inl (fun _ => 0))), (q_4, .inl (cy 0, 320, .inl (fun _ => 0))), (q_5, .inl (cy 0, 320, .inl (fun _ => 0)))] H := hP
  have hD : va_D A [(qa, .inr (6, [.ref q_1, .ref q_2, .ref q_3, .ref q_4, .ref q_5, .int 0])), (q_1, .inl (cy 0, 40, .inl (fun _ => 0))), (q_2, .inl (cy 0, 320, .inl (fun _ => 0))), (q_3, .inl (cy 0, 320, .inl (fun _ => 0))), (q_4, .inl (cy 0, 320, .inl (fun _ => 0))), (q_5, .inl (cy 0, 320, .inl (fun _ => 0)))] := hD
  refine bw_Qe hQ ?_
  have hP9 : va_P (dC, dI) vwCl [(qa, .inr (6, [.ref q_1, .ref q_2, .ref q_3, .ref q_4, .ref q_5, .int 0])), (q_1, .inl (cy 0, 40, .inl (fun _ => 0))), (q_2, .inl (cy 0, 320, .inl (fun _ => 0))), (q_3, .inl (cy 0, 320, .inl (fun _ => 0))), (q_4, .inl (cy 0, 320, .inl (fun _ => 0))), (q_5, .inl (cy 0, 320, .inl (fun _ => 0)))] H := hP.sub [0, 1, 2, 3, 4, 5] rfl
  have hD9 : va_D A [(qa, .inr (6, [.ref q_1, .ref q_2, .ref q_3, .ref q_4, .ref q_5, .int 0])), (q_1, .inl (cy 0, 40, .inl (fun _ => 0))), (q_2, .inl (cy 0, 320, .inl (fun _ => 0))), (q_3, .inl (cy 0, 320, .inl (fun _ => 0))), (q_4, .inl (cy 0, 320, .inl (fun _ => 0))), (q_5, .inl (cy 0, 320, .inl (fun _ => 0)))] := hD.sub [0, 1, 2, 3, 4, 5] (by decide) rfl
  have hpost : True := by
    trivial
  exact W.vret hx hb hr (fun t9 ht hW => ⟨⟨(q_1, q_2, q_3, q_4, q_5), rfl, hpost, by rw [ht]; exact hP9, va_K.moved hW.alike hK, hD9⟩, hS.F ht⟩) hS.2.2 dX6_init_48

set_option maxHeartbeats 4000000 in
set_option maxRecDepth 100000 in
theorem c_X3_init (l : Launch) (dC : Nat → ClassId) (dI : Nat → Nat → Nat) (cy : Nat → ClassId) (qa : Nat) (sz : Nat)  : Met l yX3_init wsX3_init ({ frames := 1, cells := 4, slots := 120, locals := 12 }) (va_Pc [.ref qa] (fun U => U.heap.size = sz ∧ va_P (dC, dI) vwCl [(qa, .inr (3, [.null, .null, .null, .null, .int 0]))] U.heap ∧ va_K (dC, dI) vwCl (tyL cy) U ∧ va_D (fun _ => True) [(qa, .inr (3, [.null, .null, .null, .null, .int 0]))])) (va_Qv (S := Nat × Nat × Nat × Nat) (fun u => match u with | (q0, q1, q2, q3) => True) (fun u => match u with | (q0, q1, q2, q3) => fun t => va_P (dC, dI) vwCl [(qa, .inr (3, [.ref q0, .ref q1, .ref q2, .ref q3, .int 0])), (q0, .inl (cy 0, 30, .inl (fun _ => 0))), (q1, .inl (cy 0, 30, .inl (fun _ => 0))), (q2, .inl (cy 0, 30, .inl (fun _ => 0))), (q3, .inl (cy 0, 30, .inl (fun _ => 0)))] t.heap ∧ va_K (dC, dI) vwCl (tyL cy) t ∧ va_D (va_A [(qa, .inr (3, [.null, .null, .null, .null, .int 0]))] sz) [(qa, .inr (3, [.ref q0, .ref q1, .ref q2, .ref q3, .int 0])), (q0, .inl (cy 0, 30, .inl (fun _ => 0))), (q1, .inl (cy 0, 30, .inl (fun _ => 0))), (q2, .inl (cy 0, 30, .inl (fun _ => 0))), (q3, .inl (cy 0, 30, .inl (fun _ => 0)))]) (va_A [(qa, .inr (3, [.null, .null, .null, .null, .int 0]))] sz)) 4 120 (va_A [(qa, .inr (3, [.null, .null, .null, .null, .int 0]))] sz) := by
  refine Met.ofW (cc := cX3_init) (maxL := 1) (ret := none) (by decide) rfl ?_
  intro pp ee ss mm args below meth cc0 s₁ B hml hv
  obtain ⟨rfl, hsz, hP, hK, hD0⟩ := hv
  have hx := B.exec
  have hb := B.bytes
  have hr := B.returns
  have hts := atoms_spec (ws := wsX3_init) B.pre
  have hown : ss.vm.findClass RX3 = some mm.cls := findClass_of_methodNamed B.named
  have hlocks := B.notSynchronized
  have hin : meth.name = "<init>" := (name_of_methodNamed B.named B.method).1
  have hL0 := hts (.methodLink RX3 3 objectInit) (by decide +kernel)
  have hL1 := hts (.instanceMethod objectInit) (by decide +kernel)
  have hL2 := hts (.arrayClass .int) (by decide +kernel)
  have hL3 := hts (.fieldLink RX3 9 "HereLived$People" "born" "[I") (by decide +kernel)
  have hL4 := hts (.fieldLink RX3 15 "HereLived$People" "died" "[I") (by decide +kernel)
  have hL5 := hts (.fieldLink RX3 18 "HereLived$People" "theme" "[I") (by decide +kernel)
  have hL6 := hts (.fieldLink RX3 21 "HereLived$People" "mark" "[I") (by decide +kernel)
  have hiX3 : ∀ w ∈ wsX30, w ∈ wsX3_init := by decide +kernel
  subst hsz
  have hD := hD0.self (sz := ss.heap.size)
  generalize hAe : va_A [(qa, .inr (3, [.null, .null, .null, .null, .int 0]))] ss.heap.size = A at hD ⊢
  have hA : ∀ q : Nat, ss.heap.size ≤ q → A q := fun q h => by rw [← hAe]; exact Or.inr h
  have hS : va_S A ss.heap ss.heap [] := va_S.rf
  have hP : va_P (dC, dI) vwCl [(qa, .inr (3, [.null, .null, .null, .null, .int 0]))] ss.heap := hP
  have hl := lv_entry ([.ref qa]) (n := 1) (Nat.le_of_ble_eq_true rfl)
  rw [lg_entry_eq]
  generalize (lg_sl ([.ref qa]) ++ List.replicate (1 - (lg_sl ([.ref qa])).length) Slot.unset).toArray = ls at hl ⊢
  have hl : lv_has ls 1 [(0, .ref qa)] := hl
  refine bw_Q (fun Q hQ => ?_)
  refine bw_H0 (fun H locs eH eL => ?_)
  have hS : va_S A ss.heap H locs := by rw [eH, eL]; exact hS
  have hP : va_P (dC, dI) vwCl [(qa, .inr (3, [.null, .null, .null, .null, .int 0]))] H := by rw [eH]; exact hP
  change W pp l ee { frames := 1, cells := 4, slots := 120, locals := 12 } ss mm _ below meth cc0 H locs 0 0 Q (F0 mm 0 ls [])
  refine lv_aload_n hx hb dX3_init_0 rfl (lv_at hl 0 rfl) ?_
  refine W.objInit hx hb hown hL0 hL1 (hts _ (List.mem_of_getElem? (i := 3) rfl)) rfl (by rw [hml]; exact hl.1) rfl dX3_init_1 (Nat.le_of_ble_eq_true rfl) (Nat.le_of_ble_eq_true rfl) ?_
  refine W.eq (g2 := F0 mm 4 ls []) rfl ?_
  refine lv_aload_n hx hb dX3_init_4 rfl (lv_at hl 0 rfl) ?_
  refine lv_bipush (v := 30) hx hb dX3_init_5 (by decide) ?_
  refine va_newa (atype := .int) (ty := .int) (N' := 30) (a0 := (30, .inl (fun _ => 0))) hx hb hL2 rfl hK hP hD hS hA (newa_I 30) (by decide +kernel) (by decide +kernel) (by decide +kernel) (by decide +kernel) (by decide +kernel) dX3_init_7 (fun q_1 cA9 H hK9 hP hD hS => ?_)
  obtain rfl : cA9 = cy 0 := bw_cy hK hK9 0 rfl rfl
  have hP : va_P (dC, dI) vwCl [(qa, .inr (3, [.null, .null, .null, .null, .int 0])), (q_1, .inl (cy 0, 30, .inl (fun _ => 0)))] H := hP
  have hD : va_D A [(qa, .inr (3, [.null, .null, .null, .null, .int 0])), (q_1, .inl (cy 0, 30, .inl (fun _ => 0)))] := hD
  refine va_putF (D := (dC, dI)) (ci := 3) (v := .ref q_1) (ty := (tyX3 0)) (C := RX3) (T := TX3) (N := 5) hx hb hts hiX3 tyX3 tyX3_ok nmX3 hown hK hP hD hS 0 rfl rfl 0 (by decide) hL3 (fun _ h9 => h9) rfl hin rfl (by decide +kernel) rfl rfl (Nat.le_of_ble_eq_true rfl) dX3_init_9 (fun H locs hP hD hS => ?_)
  have hP : va_P (dC, dI) vwCl [(qa, .inr (3, [.ref q_1, .null, .null, .null, .int 0])), (q_1, .inl (cy 0, 30, .inl (fun _ => 0)))] H := hP
  have hD : va_D A [(qa, .inr (3, [.ref q_1, .null, .null, .null, .int 0])), (q_1, .inl (cy 0, 30, .inl (fun _ => 0)))] := hD
  refine lv_aload_n hx hb dX3_init_12 rfl (lv_at hl 0 rfl) ?_
  refine lv_bipush (v := 30) hx hb dX3_init_13 (by decide) ?_
  refine va_newa (atype := .int) (ty := .int) (N' := 30) (a0 := (30, .inl (fun _ => 0))) hx hb hL2 rfl hK hP hD hS hA (newa_I 30) (by decide +kernel) (by decide +kernel) (by decide +kernel) (by decide +kernel) (by decide +kernel) dX3_init_15 (fun q_2 cA9 H hK9 hP hD hS => ?_)
  obtain rfl : cA9 = cy 0 := bw_cy hK hK9 0 rfl rfl
  have hP : va_P (dC, dI) vwCl [(qa, .inr (3, [.ref q_1, .null, .null, .null, .int 0])), (q_1, .inl (cy 0, 30, .inl (fun _ => 0))), (q_2, .inl (cy 0, 30, .inl (fun _ => 0)))] H := hP
  have hD : va_D A [(qa, .inr (3, [.ref q_1, .null, .null, .null, .int 0])), (q_1, .inl (cy 0, 30, .inl (fun _ => 0))), (q_2, .inl (cy 0, 30, .inl (fun _ => 0)))] := hD
  refine va_putF (D := (dC, dI)) (ci := 3) (v := .ref q_2) (ty := (tyX3 1)) (C := RX3) (T := TX3) (N := 5) hx hb hts hiX3 tyX3 tyX3_ok nmX3 hown hK hP hD hS 0 rfl rfl 1 (by decide) hL4 (fun _ h9 => h9) rfl hin rfl (by decide +kernel) rfl rfl (Nat.le_of_ble_eq_true rfl) dX3_init_17 (fun H locs hP hD hS => ?_)
  have hP : va_P (dC, dI) vwCl [(qa, .inr (3, [.ref q_1, .ref q_2, .null, .null, .int 0])), (q_1, .inl (cy 0, 30, .inl (fun _ => 0))), (q_2, .inl (cy 0, 30, .inl (fun _ => 0)))] H := hP
  have hD : va_D A [(qa, .inr (3, [.ref q_1, .ref q_2, .null, .null, .int 0])), (q_1, .inl (cy 0, 30, .inl (fun _ => 0))), (q_2, .inl (cy 0, 30, .inl (fun _ => 0)))] := hD
  refine lv_aload_n hx hb dX3_init_20 rfl (lv_at hl 0 rfl) ?_
  refine lv_bipush (v := 30) hx hb dX3_init_21 (by decide) ?_
  refine va_newa (atype := .int) (ty := .int) (N' := 30) (a0 := (30, .inl (fun _ => 0))) hx hb hL2 rfl hK hP hD hS hA (newa_I 30) (by decide +kernel) (by decide +kernel) (by decide +kernel) (by decide +kernel) (by decide +kernel) dX3_init_23 (fun q_3 cA9 H hK9 hP hD hS => ?_)
  obtain rfl : cA9 = cy 0 := bw_cy hK hK9 0 rfl rfl
  have hP : va_P (dC, dI) vwCl [(qa, .inr (3, [.ref q_1, .ref q_2, .null, .null, .int 0])), (q_1, .inl (cy 0, 30, .inl (fun _ => 0))), (q_2, .inl (cy 0, 30, .inl (fun _ => 0))), (q_3, .inl (cy 0, 30, .inl (fun _ => 0)))] H := hP
  have hD : va_D A [(qa, .inr (3, [.ref q_1, .ref q_2, .null, .null, .int 0])), (q_1, .inl (cy 0, 30, .inl (fun _ => 0))), (q_2, .inl (cy 0, 30, .inl (fun _ => 0))), (q_3, .inl (cy 0, 30, .inl (fun _ => 0)))] := hD
  refine va_putF (D := (dC, dI)) (ci := 3) (v := .ref q_3) (ty := (tyX3 2)) (C := RX3) (T := TX3) (N := 5) hx hb hts hiX3 tyX3 tyX3_ok nmX3 hown hK hP hD hS 0 rfl rfl 2 (by decide) hL5 (fun _ h9 => h9) rfl hin rfl (by decide +kernel) rfl rfl (Nat.le_of_ble_eq_true rfl) dX3_init_25 (fun H locs hP hD hS => ?_)
  have hP : va_P (dC, dI) vwCl [(qa, .inr (3, [.ref q_1, .ref q_2, .ref q_3, .null, .int 0])), (q_1, .inl (cy 0, 30, .inl (fun _ => 0))), (q_2, .inl (cy 0, 30, .inl (fun _ => 0))), (q_3, .inl (cy 0, 30, .inl (fun _ => 0)))] H := hP
  have hD : va_D A [(qa, .inr (3, [.ref q_1, .ref q_2, .ref q_3, .null, .int 0])), (q_1, .inl (cy 0, 30, .inl (fun _ => 0))), (q_2, .inl (cy 0, 30, .inl (fun _ => 0))), (q_3, .inl (cy 0, 30, .inl (fun _ => 0)))] := hD
  refine lv_aload_n hx hb dX3_init_28 rfl (lv_at hl 0 rfl) ?_
  refine lv_bipush (v := 30) hx hb dX3_init_29 (by decide) ?_
  refine va_newa (atype := .int) (ty := .int) (N' := 30) (a0 := (30, .inl (fun _ => 0))) hx hb hL2 rfl hK hP hD hS hA (newa_I 30) (by decide +kernel) (by decide +kernel) (by decide +kernel) (by decide +kernel) (by decide +kernel) dX3_init_31 (fun q_4 cA9 H hK9 hP hD hS => ?_)
  obtain rfl : cA9 = cy 0 := bw_cy hK hK9 0 rfl rfl
  have hP : va_P (dC, dI) vwCl [(qa, .inr (3, [.ref q_1, .ref q_2, .ref q_3, .null, .int 0])), (q_1, .inl (cy 0, 30, .inl (fun _ => 0))), (q_2, .inl (cy 0, 30, .inl (fun _ => 0))), (q_3, .inl (cy 0, 30, .inl (fun _ => 0))), (q_4, .inl (cy 0, 30, .inl (fun _ => 0)))] H := hP
  have hD : va_D A [(qa, .inr (3, [.ref q_1, .ref q_2, .ref q_3, .null, .int 0])), (q_1, .inl (cy 0, 30, .inl (fun _ => 0))), (q_2, .inl (cy 0, 30, .inl (fun _ => 0))), (q_3, .inl (cy 0, 30, .inl (fun _ => 0))), (q_4, .inl (cy 0, 30, .inl (fun _ => 0)))] := hD
  refine va_putF (D := (dC, dI)) (ci := 3) (v := .ref q_4) (ty := (tyX3 3)) (C := RX3) (T := TX3) (N := 5) hx hb hts hiX3 tyX3 tyX3_ok nmX3 hown hK hP hD hS 0 rfl rfl 3 (by decide) hL6 (fun _ h9 => h9) rfl hin rfl (by decide +kernel) rfl rfl (Nat.le_of_ble_eq_true rfl) dX3_init_33 (fun H locs hP hD hS => ?_)
  have hP : va_P (dC, dI) vwCl [(qa, .inr (3, [.ref q_1, .ref q_2, .ref q_3, .ref q_4, .int 0])), (q_1, .inl (cy 0, 30, .inl (fun _ => 0))), (q_2, .inl (cy 0, 30, .inl (fun _ => 0))), (q_3, .inl (cy 0, 30, .inl (fun _ => 0))), (q_4, .inl (cy 0, 30, .inl (fun _ => 0)))] H := hP
  have hD : va_D A [(qa, .inr (3, [.ref q_1, .ref q_2, .ref q_3, .ref q_4, .int 0])), (q_1, .inl (cy 0, 30, .inl (fun _ => 0))), (q_2, .inl (cy 0, 30, .inl (fun _ => 0))), (q_3, .inl (cy 0, 30, .inl (fun _ => 0))), (q_4, .inl (cy 0, 30, .inl (fun _ => 0)))] := hD
  refine bw_Qe hQ ?_
  have hP9 : va_P (dC, dI) vwCl [(qa, .inr (3, [.ref q_1, .ref q_2, .ref q_3, .ref q_4, .int 0])), (q_1, .inl (cy 0, 30, .inl (fun _ => 0))), (q_2, .inl (cy 0, 30, .inl (fun _ => 0))), (q_3, .inl (cy 0, 30, .inl (fun _ => 0))), (q_4, .inl (cy 0, 30, .inl (fun _ => 0)))] H := hP.sub [0, 1, 2, 3, 4] rfl
  have hD9 : va_D A [(qa, .inr (3, [.ref q_1, .ref q_2, .ref q_3, .ref q_4, .int 0])), (q_1, .inl (cy 0, 30, .inl (fun _ => 0))), (q_2, .inl (cy 0, 30, .inl (fun _ => 0))), (q_3, .inl (cy 0, 30, .inl (fun _ => 0))), (q_4, .inl (cy 0, 30, .inl (fun _ => 0)))] := hD.sub [0, 1, 2, 3, 4] (by decide) rfl
  have hpost : True := by
    trivial
  exact W.vret hx hb hr (fun t9 ht hW => ⟨⟨(q_1, q_2, q_3, q_4), rfl, hpost, by rw [ht]; exact hP9, va_K.moved hW.alike hK, hD9⟩, hS.F ht⟩) hS.2.2 dX3_init_36

set_option maxHeartbeats 4000000 in
set_option maxRecDepth 100000 in
theorem c_X2_init (l : Launch) (dC : Nat → ClassId) (dI : Nat → Nat → Nat) (cy : Nat → ClassId) (qa : Nat) (sz : Nat)  : Met l yX2_init wsX2_init ({ frames := 1, cells := 7, slots := 700, locals := 12 }) (va_Pc [.ref qa] (fun U => U.heap.size = sz ∧ va_P (dC, dI) vwCl [(qa, .inr (2, [.null, .null, .null, .null, .null, .null, .null, .int 0]))] U.heap ∧ va_K (dC, dI) vwCl (tyL cy) U ∧ va_D (fun _ => True) [(qa, .inr (2, [.null, .null, .null, .null, .null, .null, .null, .int 0]))])) (va_Qv (S := Nat × Nat × Nat × Nat × Nat × Nat × Nat) (fun u => match u with | (q0, q1, q2, q3, q4, q5, q6) => True) (fun u => match u with | (q0, q1, q2, q3, q4, q5, q6) => fun t => va_P (dC, dI) vwCl [(qa, .inr (2, [.ref q0, .ref q1, .ref q2, .ref q3, .ref q4, .ref q5, .ref q6, .int 0])), (q0, .inl (cy 0, 100, .inl (fun _ => 0))), (q1, .inl (cy 0, 100, .inl (fun _ => 0))), (q2, .inl (cy 0, 100, .inl (fun _ => 0))), (q3, .inl (cy 0, 100, .inl (fun _ => 0))), (q4, .inl (cy 0, 100, .inl (fun _ => 0))), (q5, .inl (cy 0, 100, .inl (fun _ => 0))), (q6, .inl (cy 2, 100, .inl (fun _ => 0)))] t.heap ∧ va_K (dC, dI) vwCl (tyL cy) t ∧ va_D (va_A [(qa, .inr (2, [.null, .null, .null, .null, .null, .null, .null, .int 0]))] sz) [(qa, .inr (2, [.ref q0, .ref q1, .ref q2, .ref q3, .ref q4, .ref q5, .ref q6, .int 0])), (q0, .inl (cy 0, 100, .inl (fun _ => 0))), (q1, .inl (cy 0, 100, .inl (fun _ => 0))), (q2, .inl (cy 0, 100, .inl (fun _ => 0))), (q3, .inl (cy 0, 100, .inl (fun _ => 0))), (q4, .inl (cy 0, 100, .inl (fun _ => 0))), (q5, .inl (cy 0, 100, .inl (fun _ => 0))), (q6, .inl (cy 2, 100, .inl (fun _ => 0)))]) (va_A [(qa, .inr (2, [.null, .null, .null, .null, .null, .null, .null, .int 0]))] sz)) 7 700 (va_A [(qa, .inr (2, [.null, .null, .null, .null, .null, .null, .null, .int 0]))] sz) := by
  refine Met.ofW (cc := cX2_init) (maxL := 1) (ret := none) (by decide) rfl ?_
  intro pp ee ss mm args below meth cc0 s₁ B hml hv
  obtain ⟨rfl, hsz, hP, hK, hD0⟩ := hv
  have hx := B.exec
  have hb := B.bytes
  have hr := B.returns
  have hts := atoms_spec (ws := wsX2_init) B.pre
  have hown : ss.vm.findClass RX2 = some mm.cls := findClass_of_methodNamed B.named
  have hlocks := B.notSynchronized
  have hin : meth.name = "<init>" := (name_of_methodNamed B.named B.method).1
  have hL0 := hts (.methodLink RX2 3 objectInit) (by decide +kernel)
  have hL1 := hts (.instanceMethod objectInit) (by decide +kernel)
  have hL2 := hts (.arrayClass .int) (by decide +kernel)
  have hL3 := hts (.fieldLink RX2 9 "HereLived$Papers" "ofPerson" "[I") (by decide +kernel)
  have hL4 := hts (.fieldLink RX2 15 "HereLived$Papers" "source" "[I") (by decide +kernel)
  have hL5 := hts (.fieldLink RX2 18 "HereLived$Papers" "street" "[I") (by decide +kernel)
  have hL6 := hts (.fieldLink RX2 21 "HereLived$Papers" "number" "[I") (by decide +kernel)
  have hL7 := hts (.fieldLink RX2 24 "HereLived$Papers" "from" "[I") (by decide +kernel)
  have hL8 := hts (.fieldLink RX2 27 "HereLived$Papers" "to" "[I") (by decide +kernel)
  have hL9 := hts (.arrayClass .boolean) (by decide +kernel)
  have hL10 := hts (.fieldLink RX2 30 "HereLived$Papers" "isFalse" "[Z") (by decide +kernel)
  have hiX2 : ∀ w ∈ wsX20, w ∈ wsX2_init := by decide +kernel
  subst hsz
  have hD := hD0.self (sz := ss.heap.size)
  generalize hAe : va_A [(qa, .inr (2, [.null, .null, .null, .null, .null, .null, .null, .int 0]))] ss.heap.size = A at hD ⊢
  have hA : ∀ q : Nat, ss.heap.size ≤ q → A q := fun q h => by rw [← hAe]; exact Or.inr h
  have hS : va_S A ss.heap ss.heap [] := va_S.rf
  have hP : va_P (dC, dI) vwCl [(qa, .inr (2, [.null, .null, .null, .null, .null, .null, .null, .int 0]))] ss.heap := hP
  have hl := lv_entry ([.ref qa]) (n := 1) (Nat.le_of_ble_eq_true rfl)
  rw [lg_entry_eq]
  generalize (lg_sl ([.ref qa]) ++ List.replicate (1 - (lg_sl ([.ref qa])).length) Slot.unset).toArray = ls at hl ⊢
  have hl : lv_has ls 1 [(0, .ref qa)] := hl
  refine bw_Q (fun Q hQ => ?_)
  refine bw_H0 (fun H locs eH eL => ?_)
  have hS : va_S A ss.heap H locs := by rw [eH, eL]; exact hS
  have hP : va_P (dC, dI) vwCl [(qa, .inr (2, [.null, .null, .null, .null, .null, .null, .null, .int 0]))] H := by rw [eH]; exact hP
  change W pp l ee { frames := 1, cells := 7, slots := 700, locals := 12 } ss mm _ below meth cc0 H locs 0 0 Q (F0 mm 0 ls [])
  refine lv_aload_n hx hb dX2_init_0 rfl (lv_at hl 0 rfl) ?_
  refine W.objInit hx hb hown hL0 hL1 (hts _ (List.mem_of_getElem? (i := 3) rfl)) rfl (by rw [hml]; exact hl.1) rfl dX2_init_1 (Nat.le_of_ble_eq_true rfl) (Nat.le_of_ble_eq_true rfl) ?_
  refine W.eq (g2 := F0 mm 4 ls []) rfl ?_
  refine lv_aload_n hx hb dX2_init_4 rfl (lv_at hl 0 rfl) ?_
  refine lv_bipush (v := 100) hx hb dX2_init_5 (by decide) ?_
  refine va_newa (atype := .int) (ty := .int) (N' := 100) (a0 := (100, .inl (fun _ => 0))) hx hb hL2 rfl hK hP hD hS hA (newa_I 100) (by decide +kernel) (by decide +kernel) (by decide +kernel) (by decide +kernel) (by decide +kernel) dX2_init_7 (fun q_1 cA9 H hK9 hP hD hS => ?_)
  obtain rfl : cA9 = cy 0 := bw_cy hK hK9 0 rfl rfl
  have hP : va_P (dC, dI) vwCl [(qa, .inr (2, [.null, .null, .null, .null, .null, .null, .null, .int 0])), (q_1, .inl (cy 0, 100, .inl (fun _ => 0)))] H := hP
  have hD : va_D A [(qa, .inr (2, [.null, .null, .null, .null, .null, .null, .null, .int 0])), (q_1, .inl (cy 0, 100, .inl (fun _ => 0)))] := hD
  refine va_putF (D := (dC, dI)) (ci := 2) (v := .ref q_1) (ty := (tyX2 0)) (C := RX2) (T := TX2) (N := 8) hx hb hts hiX2 tyX2 tyX2_ok nmX2 hown hK hP hD hS 0 rfl rfl 0 (by decide) hL3 (fun _ h9 => h9) rfl hin rfl (by decide +kernel) rfl rfl (Nat.le_of_ble_eq_true rfl) dX2_init_9 (fun H locs hP hD hS => ?_)
  have hP : va_P (dC, dI) vwCl [(qa, .inr (2, [.ref q_1, .null, .null, .null, .null, .null, .null, .int 0])), (q_1, .inl (cy 0, 100, .inl (fun _ => 0)))] H := hP
  have hD : va_D A [(qa, .inr (2, [.ref q_1, .null, .null, .null, .null, .null, .null, .int 0])), (q_1, .inl (cy 0, 100, .inl (fun _ => 0)))] := hD
  refine lv_aload_n hx hb dX2_init_12 rfl (lv_at hl 0 rfl) ?_
  refine lv_bipush (v := 100) hx hb dX2_init_13 (by decide) ?_
  refine va_newa (atype := .int) (ty := .int) (N' := 100) (a0 := (100, .inl (fun _ => 0))) hx hb hL2 rfl hK hP hD hS hA (newa_I 100) (by decide +kernel) (by decide +kernel) (by decide +kernel) (by decide +kernel) (by decide +kernel) dX2_init_15 (fun q_2 cA9 H hK9 hP hD hS => ?_)
  obtain rfl : cA9 = cy 0 := bw_cy hK hK9 0 rfl rfl
  have hP : va_P (dC, dI) vwCl [(qa, .inr (2, [.ref q_1, .null, .null, .null, .null, .null, .null, .int 0])), (q_1, .inl (cy 0, 100, .inl (fun _ => 0))), (q_2, .inl (cy 0, 100, .inl (fun _ => 0)))] H := hP
  have hD : va_D A [(qa, .inr (2, [.ref q_1, .null, .null, .null, .null, .null, .null, .int 0])), (q_1, .inl (cy 0, 100, .inl (fun _ => 0))), (q_2, .inl (cy 0, 100, .inl (fun _ => 0)))] := hD
  refine va_putF (D := (dC, dI)) (ci := 2) (v := .ref q_2) (ty := (tyX2 1)) (C := RX2) (T := TX2) (N := 8) hx hb hts hiX2 tyX2 tyX2_ok nmX2 hown hK hP hD hS 0 rfl rfl 1 (by decide) hL4 (fun _ h9 => h9) rfl hin rfl (by decide +kernel) rfl rfl (Nat.le_of_ble_eq_true rfl) dX2_init_17 (fun H locs hP hD hS => ?_)
  have hP : va_P (dC, dI) vwCl [(qa, .inr (2, [.ref q_1, .ref q_2, .null, .null, .null, .null, .null, .int 0])), (q_1, .inl (cy 0, 100, .inl (fun _ => 0))), (q_2, .inl (cy 0, 100, .inl (fun _ => 0)))] H := hP
  have hD : va_D A [(qa, .inr (2, [.ref q_1, .ref q_2, .null, .null, .null, .null, .null, .int 0])), (q_1, .inl (cy 0, 100, .inl (fun _ => 0))), (q_2, .inl (cy 0, 100, .inl (fun _ => 0)))] := hD
  refine lv_aload_n hx hb dX2_init_20 rfl (lv_at hl 0 rfl) ?_
  refine lv_bipush (v := 100) hx hb dX2_init_21 (by decide) ?_
  refine va_newa (atype := .int) (ty := .int) (N' := 100) (a0 := (100, .inl (fun _ => 0))) hx hb hL2 rfl hK hP hD hS hA (newa_I 100) (by decide +kernel) (by decide +kernel) (by decide +kernel) (by decide +kernel) (by decide +kernel) dX2_init_23 (fun q_3 cA9 H hK9 hP hD hS => ?_)
  obtain rfl : cA9 = cy 0 := bw_cy hK hK9 0 rfl rfl
  have hP : va_P (dC, dI) vwCl [(qa, .inr (2, [.ref q_1, .ref q_2, .null, .null, .null, .null, .null, .int 0])), (q_1, .inl (cy 0, 100, .inl (fun _ => 0))), (q_2, .inl (cy 0, 100, .inl (fun _ => 0))), (q_3, .inl (cy 0, 100, .inl (fun _ => 0)))] H := hP
  have hD : va_D A [(qa, .inr (2, [.ref q_1, .ref q_2, .null, .null, .null, .null, .null, .int 0])), (q_1, .inl (cy 0, 100, .inl (fun _ => 0))), (q_2, .inl (cy 0, 100, .inl (fun _ => 0))), (q_3, .inl (cy 0, 100, .inl (fun _ => 0)))] := hD
  refine va_putF (D := (dC, dI)) (ci := 2) (v := .ref q_3) (ty := (tyX2 2)) (C := RX2) (T := TX2) (N := 8) hx hb hts hiX2 tyX2 tyX2_ok nmX2 hown hK hP hD hS 0 rfl rfl 2 (by decide) hL5 (fun _ h9 => h9) rfl hin rfl (by decide +kernel) rfl rfl (Nat.le_of_ble_eq_true rfl) dX2_init_25 (fun H locs hP hD hS => ?_)
  have hP : va_P (dC, dI) vwCl [(qa, .inr (2, [.ref q_1, .ref q_2, .ref q_3, .null, .null, .null, .null, .int 0])), (q_1, .inl (cy 0, 100, .inl (fun _ => 0))), (q_2, .inl (cy 0, 100, .inl (fun _ => 0))), (q_3, .inl (cy 0, 100, .inl (fun _ => 0)))] H := hP
  have hD : va_D A [(qa, .inr (2, [.ref q_1, .ref q_2, .ref q_3, .null, .null, .null, .null, .int 0])), (q_1, .inl (cy 0, 100, .inl (fun _ => 0))), (q_2, .inl (cy 0, 100, .inl (fun _ => 0))), (q_3, .inl (cy 0, 100, .inl (fun _ => 0)))] := hD
  refine lv_aload_n hx hb dX2_init_28 rfl (lv_at hl 0 rfl) ?_
  refine lv_bipush (v := 100) hx hb dX2_init_29 (by decide) ?_
  refine va_newa (atype := .int) (ty := .int) (N' := 100) (a0 := (100, .inl (fun _ => 0))) hx hb hL2 rfl hK hP hD hS hA (newa_I 100) (by decide +kernel) (by decide +kernel) (by decide +kernel) (by decide +kernel) (by decide +kernel) dX2_init_31 (fun q_4 cA9 H hK9 hP hD hS => ?_)
  obtain rfl : cA9 = cy 0 := bw_cy hK hK9 0 rfl rfl
  have hP : va_P (dC, dI) vwCl [(qa, .inr (2, [.ref q_1, .ref q_2, .ref q_3, .null, .null, .null, .null, .int 0])), (q_1, .inl (cy 0, 100, .inl (fun _ => 0))), (q_2, .inl (cy 0, 100, .inl (fun _ => 0))), (q_3, .inl (cy 0, 100, .inl (fun _ => 0))), (q_4, .inl (cy 0, 100, .inl (fun _ => 0)))] H := hP
  have hD : va_D A [(qa, .inr (2, [.ref q_1, .ref q_2, .ref q_3, .null, .null, .null, .null, .int 0])), (q_1, .inl (cy 0, 100, .inl (fun _ => 0))), (q_2, .inl (cy 0, 100, .inl (fun _ => 0))), (q_3, .inl (cy 0, 100, .inl (fun _ => 0))), (q_4, .inl (cy 0, 100, .inl (fun _ => 0)))] := hD
  refine va_putF (D := (dC, dI)) (ci := 2) (v := .ref q_4) (ty := (tyX2 3)) (C := RX2) (T := TX2) (N := 8) hx hb hts hiX2 tyX2 tyX2_ok nmX2 hown hK hP hD hS 0 rfl rfl 3 (by decide) hL6 (fun _ h9 => h9) rfl hin rfl (by decide +kernel) rfl rfl (Nat.le_of_ble_eq_true rfl) dX2_init_33 (fun H locs hP hD hS => ?_)
  have hP : va_P (dC, dI) vwCl [(qa, .inr (2, [.ref q_1, .ref q_2, .ref q_3, .ref q_4, .null, .null, .null, .int 0])), (q_1, .inl (cy 0, 100, .inl (fun _ => 0))), (q_2, .inl (cy 0, 100, .inl (fun _ => 0))), (q_3, .inl (cy 0, 100, .inl (fun _ => 0))), (q_4, .inl (cy 0, 100, .inl (fun _ => 0)))] H := hP
  have hD : va_D A [(qa, .inr (2, [.ref q_1, .ref q_2, .ref q_3, .ref q_4, .null, .null, .null, .int 0])), (q_1, .inl (cy 0, 100, .inl (fun _ => 0))), (q_2, .inl (cy 0, 100, .inl (fun _ => 0))), (q_3, .inl (cy 0, 100, .inl (fun _ => 0))), (q_4, .inl (cy 0, 100, .inl (fun _ => 0)))] := hD
  refine lv_aload_n hx hb dX2_init_36 rfl (lv_at hl 0 rfl) ?_
  refine lv_bipush (v := 100) hx hb dX2_init_37 (by decide) ?_
  refine va_newa (atype := .int) (ty := .int) (N' := 100) (a0 := (100, .inl (fun _ => 0))) hx hb hL2 rfl hK hP hD hS hA (newa_I 100) (by decide +kernel) (by decide +kernel) (by decide +kernel) (by decide +kernel) (by decide +kernel) dX2_init_39 (fun q_5 cA9 H hK9 hP hD hS => ?_)
  obtain rfl : cA9 = cy 0 := bw_cy hK hK9 0 rfl rfl
  have hP : va_P (dC, dI) vwCl [(qa, .inr (2, [.ref q_1, .ref q_2, .ref q_3, .ref q_4, .null, .null, .null, .int 0])), (q_1, .inl (cy 0, 100, .inl (fun _ => 0))), (q_2, .inl (cy 0, 100, .inl (fun _ => 0))), (q_3, .inl (cy 0, 100, .inl (fun _ => 0))), (q_4, .inl (cy 0, 100, .inl (fun _ => 0))), (q_5, .inl (cy 0, 100, .inl (fun _ => 0)))] H := hP
  have hD : va_D A [(qa, .inr (2, [.ref q_1, .ref q_2, .ref q_3, .ref q_4, .null, .null, .null, .int 0])), (q_1, .inl (cy 0, 100, .inl (fun _ => 0))), (q_2, .inl (cy 0, 100, .inl (fun _ => 0))), (q_3, .inl (cy 0, 100, .inl (fun _ => 0))), (q_4, .inl (cy 0, 100, .inl (fun _ => 0))), (q_5, .inl (cy 0, 100, .inl (fun _ => 0)))] := hD
  refine va_putF (D := (dC, dI)) (ci := 2) (v := .ref q_5) (ty := (tyX2 4)) (C := RX2) (T := TX2) (N := 8) hx hb hts hiX2 tyX2 tyX2_ok nmX2 hown hK hP hD hS 0 rfl rfl 4 (by decide) hL7 (fun _ h9 => h9) rfl hin rfl (by decide +kernel) rfl rfl (Nat.le_of_ble_eq_true rfl) dX2_init_41 (fun H locs hP hD hS => ?_)
  have hP : va_P (dC, dI) vwCl [(qa, .inr (2, [.ref q_1, .ref q_2, .ref q_3, .ref q_4, .ref q_5, .null, .null, .int 0])), (q_1, .inl (cy 0, 100, .inl (fun _ => 0))), (q_2, .inl (cy 0, 100, .inl (fun _ => 0))), (q_3, .inl (cy 0, 100, .inl (fun _ => 0))), (q_4, .inl (cy 0, 100, .inl (fun _ => 0))), (q_5, .inl (cy 0, 100, .inl (fun _ => 0)))] H := hP
  have hD : va_D A [(qa, .inr (2, [.ref q_1, .ref q_2, .ref q_3, .ref q_4, .ref q_5, .null, .null, .int 0])), (q_1, .inl (cy 0, 100, .inl (fun _ => 0))), (q_2, .inl (cy 0, 100, .inl (fun _ => 0))), (q_3, .inl (cy 0, 100, .inl (fun _ => 0))), (q_4, .inl (cy 0, 100, .inl (fun _ => 0))), (q_5, .inl (cy 0, 100, .inl (fun _ => 0)))] := hD
  refine lv_aload_n hx hb dX2_init_44 rfl (lv_at hl 0 rfl) ?_
  refine lv_bipush (v := 100) hx hb dX2_init_45 (by decide) ?_
  refine va_newa (atype := .int) (ty := .int) (N' := 100) (a0 := (100, .inl (fun _ => 0))) hx hb hL2 rfl hK hP hD hS hA (newa_I 100) (by decide +kernel) (by decide +kernel) (by decide +kernel) (by decide +kernel) (by decide +kernel) dX2_init_47 (fun q_6 cA9 H hK9 hP hD hS => ?_)
  obtain rfl : cA9 = cy 0 := bw_cy hK hK9 0 rfl rfl
  have hP : va_P (dC, dI) vwCl [(qa, .inr (2, [.ref q_1, .ref q_2, .ref q_3, .ref q_4, .ref q_5, .null, .null, .int 0])), (q_1, .inl (cy 0, 100, .inl (fun _ => 0))), (q_2, .inl (cy 0, 100, .inl (fun _ => 0))), (q_3, .inl (cy 0, 100, .inl (fun _ => 0))), (q_4, .inl (cy 0, 100, .inl (fun _ => 0))), (q_5, .inl (cy 0, 100, .inl (fun _ => 0))), (q_6, .inl (cy 0, 100, .inl (fun _ => 0)))] H := hP
  have hD : va_D A [(qa, .inr (2, [.ref q_1, .ref q_2, .ref q_3, .ref q_4, .ref q_5, .null, .null, .int 0])), (q_1, .inl (cy 0, 100, .inl (fun _ => 0))), (q_2, .inl (cy 0, 100, .inl (fun _ => 0))), (q_3, .inl (cy 0, 100, .inl (fun _ => 0))), (q_4, .inl (cy 0, 100, .inl (fun _ => 0))), (q_5, .inl (cy 0, 100, .inl (fun _ => 0))), (q_6, .inl (cy 0, 100, .inl (fun _ => 0)))] := hD
  refine va_putF (D := (dC, dI)) (ci := 2) (v := .ref q_6) (ty := (tyX2 5)) (C := RX2) (T := TX2) (N := 8) hx hb hts hiX2 tyX2 tyX2_ok nmX2 hown hK hP hD hS 0 rfl rfl 5 (by decide) hL8 (fun _ h9 => h9) rfl hin rfl (by decide +kernel) rfl rfl (Nat.le_of_ble_eq_true rfl) dX2_init_49 (fun H locs hP hD hS => ?_)
  have hP : va_P (dC, dI) vwCl [(qa, .inr (2, [.ref q_1, .ref q_2, .ref q_3, .ref q_4, .ref q_5, .ref q_6, .null, .int 0])), (q_1, .inl (cy 0, 100, .inl (fun _ => 0))), (q_2, .inl (cy 0, 100, .inl (fun _ => 0))), (q_3, .inl (cy 0, 100, .inl (fun _ => 0))), (q_4, .inl (cy 0, 100, .inl (fun _ => 0))), (q_5, .inl (cy 0, 100, .inl (fun _ => 0))), (q_6, .inl (cy 0, 100, .inl (fun _ => 0)))] H := hP
  have hD : va_D A [(qa, .inr (2, [.ref q_1, .ref q_2, .ref q_3, .ref q_4, .ref q_5, .ref q_6, .null, .int 0])), (q_1, .inl (cy 0, 100, .inl (fun _ => 0))), (q_2, .inl (cy 0, 100, .inl (fun _ => 0))), (q_3, .inl (cy 0, 100, .inl (fun _ => 0))), (q_4, .inl (cy 0, 100, .inl (fun _ => 0))), (q_5, .inl (cy 0, 100, .inl (fun _ => 0))), (q_6, .inl (cy 0, 100, .inl (fun _ => 0)))] := hD
  refine lv_aload_n hx hb dX2_init_52 rfl (lv_at hl 0 rfl) ?_
  refine lv_bipush (v := 100) hx hb dX2_init_53 (by decide) ?_
  refine va_newa (atype := .boolean) (ty := .boolean) (N' := 100) (a0 := (100, .inl (fun _ => 0))) hx hb hL9 rfl hK hP hD hS hA (newa_Z 100) (by decide +kernel) (by decide +kernel) (by decide +kernel) (by decide +kernel) (by decide +kernel) dX2_init_55 (fun q_7 cA9 H hK9 hP hD hS => ?_)
  obtain rfl : cA9 = cy 2 := bw_cy hK hK9 2 rfl rfl
  have hP : va_P (dC, dI) vwCl [(qa, .inr (2, [.ref q_1, .ref q_2, .ref q_3, .ref q_4, .ref q_5, .ref q_6, .null, .int 0])), (q_1, .inl (cy 0, 100, .inl (fun _ => 0))), (q_2, .inl (cy 0, 100, .inl (fun _ => 0))), (q_3, .inl (cy 0, 100, .inl (fun _ => 0))), (q_4, .inl (cy 0, 100, .inl (fun _ => 0))), (q_5, .inl (cy 0, 100, .inl (fun _ => 0))), (q_6, .inl (cy 0, 100, .inl (fun _ => 0))), (q_7, .inl (cy 2, 100, .inl (fun _ => 0)))] H := hP
  have hD : va_D A [(qa, .inr (2, [.ref q_1, .ref q_2, .ref q_3, .ref q_4, .ref q_5, .ref q_6, .null, .int 0])), (q_1, .inl (cy 0, 100, .inl (fun _ => 0))), (q_2, .inl (cy 0, 100, .inl (fun _ => 0))), (q_3, .inl (cy 0, 100, .inl (fun _ => 0))), (q_4, .inl (cy 0, 100, .inl (fun _ => 0))), (q_5, .inl (cy 0, 100, .inl (fun _ => 0))), (q_6, .inl (cy 0, 100, .inl (fun _ => 0))), (q_7, .inl (cy 2, 100, .inl (fun _ => 0)))] := hD
  refine va_putF (D := (dC, dI)) (ci := 2) (v := .ref q_7) (ty := (tyX2 6)) (C := RX2) (T := TX2) (N := 8) hx hb hts hiX2 tyX2 tyX2_ok nmX2 hown hK hP hD hS 0 rfl rfl 6 (by decide) hL10 (fun _ h9 => h9) rfl hin rfl (by decide +kernel) rfl rfl (Nat.le_of_ble_eq_true rfl) dX2_init_57 (fun H locs hP hD hS => ?_)
  have hP : va_P (dC, dI) vwCl [(qa, .inr (2, [.ref q_1, .ref q_2, .ref q_3, .ref q_4, .ref q_5, .ref q_6, .ref q_7, .int 0])), (q_1, .inl (cy 0, 100, .inl (fun _ => 0))), (q_2, .inl (cy 0, 100, .inl (fun _ => 0))), (q_3, .inl (cy 0, 100, .inl (fun _ => 0))), (q_4, .inl (cy 0, 100, .inl (fun _ => 0))), (q_5, .inl (cy 0, 100, .inl (fun _ => 0))), (q_6, .inl (cy 0, 100, .inl (fun _ => 0))), (q_7, .inl (cy 2, 100, .inl (fun _ => 0)))] H := hP
  have hD : va_D A [(qa, .inr (2, [.ref q_1, .ref q_2, .ref q_3, .ref q_4, .ref q_5, .ref q_6, .ref q_7, .int 0])), (q_1, .inl (cy 0, 100, .inl (fun _ => 0))), (q_2, .inl (cy 0, 100, .inl (fun _ => 0))), (q_3, .inl (cy 0, 100, .inl (fun _ => 0))), (q_4, .inl (cy 0, 100, .inl (fun _ => 0))), (q_5, .inl (cy 0, 100, .inl (fun _ => 0))), (q_6, .inl (cy 0, 100, .inl (fun _ => 0))), (q_7, .inl (cy 2, 100, .inl (fun _ => 0)))] := hD
  refine bw_Qe hQ ?_
  have hP9 : va_P (dC, dI) vwCl [(qa, .inr (2, [.ref q_1, .ref q_2, .ref q_3, .ref q_4, .ref q_5, .ref q_6, .ref q_7, .int 0])), (q_1, .inl (cy 0, 100, .inl (fun _ => 0))), (q_2, .inl (cy 0, 100, .inl (fun _ => 0))), (q_3, .inl (cy 0, 100, .inl (fun _ => 0))), (q_4, .inl (cy 0, 100, .inl (fun _ => 0))), (q_5, .inl (cy 0, 100, .inl (fun _ => 0))), (q_6, .inl (cy 0, 100, .inl (fun _ => 0))), (q_7, .inl (cy 2, 100, .inl (fun _ => 0)))] H := hP.sub [0, 1, 2, 3, 4, 5, 6, 7] rfl
  have hD9 : va_D A [(qa, .inr (2, [.ref q_1, .ref q_2, .ref q_3, .ref q_4, .ref q_5, .ref q_6, .ref q_7, .int 0])), (q_1, .inl (cy 0, 100, .inl (fun _ => 0))), (q_2, .inl (cy 0, 100, .inl (fun _ => 0))), (q_3, .inl (cy 0, 100, .inl (fun _ => 0))), (q_4, .inl (cy 0, 100, .inl (fun _ => 0))), (q_5, .inl (cy 0, 100, .inl (fun _ => 0))), (q_6, .inl (cy 0, 100, .inl (fun _ => 0))), (q_7, .inl (cy 2, 100, .inl (fun _ => 0)))] := hD.sub [0, 1, 2, 3, 4, 5, 6, 7] (by decide) rfl
  have hpost : True := by
    trivial
  exact W.vret hx hb hr (fun t9 ht hW => ⟨⟨(q_1, q_2, q_3, q_4, q_5, q_6, q_7), rfl, hpost, by rw [ht]; exact hP9, va_K.moved hW.alike hK, hD9⟩, hS.F ht⟩) hS.2.2 dX2_init_60

set_option maxHeartbeats 4000000 in
set_option maxRecDepth 100000 in
theorem c_X9_init (l : Launch) (dC : Nat → ClassId) (dI : Nat → Nat → Nat) (cy : Nat → ClassId) (qa : Nat) (sz : Nat)  : Met l yX9_init wsX9_init ({ frames := 1, cells := 1, slots := 40, locals := 12 }) (va_Pc [.ref qa] (fun U => U.heap.size = sz ∧ va_P (dC, dI) vwCl [(qa, .inr (9, [.null, .int 0]))] U.heap ∧ va_K (dC, dI) vwCl (tyL cy) U ∧ va_D (fun _ => True) [(qa, .inr (9, [.null, .int 0]))])) (va_Qv (S := Nat) (fun q0 => True) (fun q0 => fun t => va_P (dC, dI) vwCl [(qa, .inr (9, [.ref q0, .int 0])), (q0, .inl (cy 0, 40, .inl (fun _ => 0)))] t.heap ∧ va_K (dC, dI) vwCl (tyL cy) t ∧ va_D (va_A [(qa, .inr (9, [.null, .int 0]))] sz) [(qa, .inr (9, [.ref q0, .int 0])), (q0, .inl (cy 0, 40, .inl (fun _ => 0)))]) (va_A [(qa, .inr (9, [.null, .int 0]))] sz)) 1 40 (va_A [(qa, .inr (9, [.null, .int 0]))] sz) := by
  refine Met.ofW (cc := cX9_init) (maxL := 1) (ret := none) (by decide) rfl ?_
  intro pp ee ss mm args below meth cc0 s₁ B hml hv
  obtain ⟨rfl, hsz, hP, hK, hD0⟩ := hv
  have hx := B.exec
  have hb := B.bytes
  have hr := B.returns
  have hts := atoms_spec (ws := wsX9_init) B.pre
  have hown : ss.vm.findClass RX9 = some mm.cls := findClass_of_methodNamed B.named
  have hlocks := B.notSynchronized
  have hin : meth.name = "<init>" := (name_of_methodNamed B.named B.method).1
  have hL0 := hts (.methodLink RX9 3 objectInit) (by decide +kernel)
  have hL1 := hts (.instanceMethod objectInit) (by decide +kernel)
  have hL2 := hts (.arrayClass .int) (by decide +kernel)
  have hL3 := hts (.fieldLink RX9 9 "HereLived$Words" "widths" "[I") (by decide +kernel)
  have hiX9 : ∀ w ∈ wsX90, w ∈ wsX9_init := by decide +kernel
  subst hsz
  have hD := hD0.self (sz := ss.heap.size)
  generalize hAe : va_A [(qa, .inr (9, [.null, .int 0]))] ss.heap.size = A at hD ⊢
  have hA : ∀ q : Nat, ss.heap.size ≤ q → A q := fun q h => by rw [← hAe]; exact Or.inr h
  have hS : va_S A ss.heap ss.heap [] := va_S.rf
  have hP : va_P (dC, dI) vwCl [(qa, .inr (9, [.null, .int 0]))] ss.heap := hP
  have hl := lv_entry ([.ref qa]) (n := 1) (Nat.le_of_ble_eq_true rfl)
  rw [lg_entry_eq]
  generalize (lg_sl ([.ref qa]) ++ List.replicate (1 - (lg_sl ([.ref qa])).length) Slot.unset).toArray = ls at hl ⊢
  have hl : lv_has ls 1 [(0, .ref qa)] := hl
  refine bw_Q (fun Q hQ => ?_)
  refine bw_H0 (fun H locs eH eL => ?_)
  have hS : va_S A ss.heap H locs := by rw [eH, eL]; exact hS
  have hP : va_P (dC, dI) vwCl [(qa, .inr (9, [.null, .int 0]))] H := by rw [eH]; exact hP
  change W pp l ee { frames := 1, cells := 1, slots := 40, locals := 12 } ss mm _ below meth cc0 H locs 0 0 Q (F0 mm 0 ls [])
  refine lv_aload_n hx hb dX9_init_0 rfl (lv_at hl 0 rfl) ?_
  refine W.objInit hx hb hown hL0 hL1 (hts _ (List.mem_of_getElem? (i := 3) rfl)) rfl (by rw [hml]; exact hl.1) rfl dX9_init_1 (Nat.le_of_ble_eq_true rfl) (Nat.le_of_ble_eq_true rfl) ?_
  refine W.eq (g2 := F0 mm 4 ls []) rfl ?_
  refine lv_aload_n hx hb dX9_init_4 rfl (lv_at hl 0 rfl) ?_
  refine lv_bipush (v := 40) hx hb dX9_init_5 (by decide) ?_
  refine va_newa (atype := .int) (ty := .int) (N' := 40) (a0 := (40, .inl (fun _ => 0))) hx hb hL2 rfl hK hP hD hS hA (newa_I 40) (by decide +kernel) (by decide +kernel) (by decide +kernel) (by decide +kernel) (by decide +kernel) dX9_init_7 (fun q_1 cA9 H hK9 hP hD hS => ?_)
  obtain rfl : cA9 = cy 0 := bw_cy hK hK9 0 rfl rfl
  have hP : va_P (dC, dI) vwCl [(qa, .inr (9, [.null, .int 0])), (q_1, .inl (cy 0, 40, .inl (fun _ => 0)))] H := hP
  have hD : va_D A [(qa, .inr (9, [.null, .int 0])), (q_1, .inl (cy 0, 40, .inl (fun _ => 0)))] := hD
  refine va_putF (D := (dC, dI)) (ci := 9) (v := .ref q_1) (ty := (tyX9 0)) (C := RX9) (T := TX9) (N := 2) hx hb hts hiX9 tyX9 tyX9_ok nmX9 hown hK hP hD hS 0 rfl rfl 0 (by decide) hL3 (fun _ h9 => h9) rfl hin rfl (by decide +kernel) rfl rfl (Nat.le_of_ble_eq_true rfl) dX9_init_9 (fun H locs hP hD hS => ?_)
  have hP : va_P (dC, dI) vwCl [(qa, .inr (9, [.ref q_1, .int 0])), (q_1, .inl (cy 0, 40, .inl (fun _ => 0)))] H := hP
  have hD : va_D A [(qa, .inr (9, [.ref q_1, .int 0])), (q_1, .inl (cy 0, 40, .inl (fun _ => 0)))] := hD
  refine bw_Qe hQ ?_
  have hP9 : va_P (dC, dI) vwCl [(qa, .inr (9, [.ref q_1, .int 0])), (q_1, .inl (cy 0, 40, .inl (fun _ => 0)))] H := hP.sub [0, 1] rfl
  have hD9 : va_D A [(qa, .inr (9, [.ref q_1, .int 0])), (q_1, .inl (cy 0, 40, .inl (fun _ => 0)))] := hD.sub [0, 1] (by decide) rfl
  have hpost : True := by
    trivial
  exact W.vret hx hb hr (fun t9 ht hW => ⟨⟨q_1, rfl, hpost, by rw [ht]; exact hP9, va_K.moved hW.alike hK, hD9⟩, hS.F ht⟩) hS.2.2 dX9_init_12

set_option maxHeartbeats 4000000 in
set_option maxRecDepth 100000 in
theorem c_X1_init (l : Launch) (dC : Nat → ClassId) (dI : Nat → Nat → Nat) (cy : Nat → ClassId) (qa : Nat) (sz : Nat)  : Met l yX1_init wsX1_init ({ frames := 1, cells := 4, slots := 754, locals := 12 }) (va_Pc [.ref qa] (fun U => U.heap.size = sz ∧ va_P (dC, dI) vwCl [(qa, .inr (1, [.int 0, .null, .null, .null, .null]))] U.heap ∧ va_K (dC, dI) vwCl (tyL cy) U ∧ va_D (fun _ => True) [(qa, .inr (1, [.int 0, .null, .null, .null, .null]))])) (va_Qv (S := Nat × Nat × Nat × Nat) (fun u => match u with | (q1, q2, q3, q4) => True) (fun u => match u with | (q1, q2, q3, q4) => fun t => va_P (dC, dI) vwCl [(qa, .inr (1, [.int 0, .ref q1, .ref q2, .ref q3, .ref q4])), (q1, .inl (cy 0, 8, .inl (fun _ => 0))), (q2, .inl (cy 0, 8, .inl (fun _ => 0))), (q3, .inl (cy 0, 369, .inl (fun _ => 0))), (q4, .inl (cy 0, 369, .inl (fun _ => 0)))] t.heap ∧ va_K (dC, dI) vwCl (tyL cy) t ∧ va_D (va_A [(qa, .inr (1, [.int 0, .null, .null, .null, .null]))] sz) [(qa, .inr (1, [.int 0, .ref q1, .ref q2, .ref q3, .ref q4])), (q1, .inl (cy 0, 8, .inl (fun _ => 0))), (q2, .inl (cy 0, 8, .inl (fun _ => 0))), (q3, .inl (cy 0, 369, .inl (fun _ => 0))), (q4, .inl (cy 0, 369, .inl (fun _ => 0)))]) (va_A [(qa, .inr (1, [.int 0, .null, .null, .null, .null]))] sz)) 4 754 (va_A [(qa, .inr (1, [.int 0, .null, .null, .null, .null]))] sz) := by
  refine Met.ofW (cc := cX1_init) (maxL := 1) (ret := none) (by decide) rfl ?_
  intro pp ee ss mm args below meth cc0 s₁ B hml hv
  obtain ⟨rfl, hsz, hP, hK, hD0⟩ := hv
  have hx := B.exec
  have hb := B.bytes
  have hr := B.returns
  have hts := atoms_spec (ws := wsX1_init) B.pre
  have hown : ss.vm.findClass RX1 = some mm.cls := findClass_of_methodNamed B.named
  have hlocks := B.notSynchronized
  have hin : meth.name = "<init>" := (name_of_methodNamed B.named B.method).1
  have hL0 := hts (.methodLink RX1 3 objectInit) (by decide +kernel)
  have hL1 := hts (.instanceMethod objectInit) (by decide +kernel)
  have hL2 := hts (.arrayClass .int) (by decide +kernel)
  have hL3 := hts (.fieldLink RX1 9 "HereLived$Fitting" "lineWords" "[I") (by decide +kernel)
  have hL4 := hts (.fieldLink RX1 15 "HereLived$Fitting" "lineWidths" "[I") (by decide +kernel)
  have hL5 := hts (.fieldLink RX1 18 "HereLived$Fitting" "sum" "[I") (by decide +kernel)
  have hL6 := hts (.fieldLink RX1 21 "HereLived$Fitting" "taken" "[I") (by decide +kernel)
  have hiX1 : ∀ w ∈ wsX10, w ∈ wsX1_init := by decide +kernel
  subst hsz
  have hD := hD0.self (sz := ss.heap.size)
  generalize hAe : va_A [(qa, .inr (1, [.int 0, .null, .null, .null, .null]))] ss.heap.size = A at hD ⊢
  have hA : ∀ q : Nat, ss.heap.size ≤ q → A q := fun q h => by rw [← hAe]; exact Or.inr h
  have hS : va_S A ss.heap ss.heap [] := va_S.rf
  have hP : va_P (dC, dI) vwCl [(qa, .inr (1, [.int 0, .null, .null, .null, .null]))] ss.heap := hP
  have hl := lv_entry ([.ref qa]) (n := 1) (Nat.le_of_ble_eq_true rfl)
  rw [lg_entry_eq]
  generalize (lg_sl ([.ref qa]) ++ List.replicate (1 - (lg_sl ([.ref qa])).length) Slot.unset).toArray = ls at hl ⊢
  have hl : lv_has ls 1 [(0, .ref qa)] := hl
  refine bw_Q (fun Q hQ => ?_)
  refine bw_H0 (fun H locs eH eL => ?_)
  have hS : va_S A ss.heap H locs := by rw [eH, eL]; exact hS
  have hP : va_P (dC, dI) vwCl [(qa, .inr (1, [.int 0, .null, .null, .null, .null]))] H := by rw [eH]; exact hP
  change W pp l ee { frames := 1, cells := 4, slots := 754, locals := 12 } ss mm _ below meth cc0 H locs 0 0 Q (F0 mm 0 ls [])
  refine lv_aload_n hx hb dX1_init_0 rfl (lv_at hl 0 rfl) ?_
  refine W.objInit hx hb hown hL0 hL1 (hts _ (List.mem_of_getElem? (i := 3) rfl)) rfl (by rw [hml]; exact hl.1) rfl dX1_init_1 (Nat.le_of_ble_eq_true rfl) (Nat.le_of_ble_eq_true rfl) ?_
  refine W.eq (g2 := F0 mm 4 ls []) rfl ?_
  refine lv_aload_n hx hb dX1_init_4 rfl (lv_at hl 0 rfl) ?_
  refine lv_bipush (v := 8) hx hb dX1_init_5 (by decide) ?_
  refine va_newa (atype := .int) (ty := .int) (N' := 8) (a0 := (8, .inl (fun _ => 0))) hx hb hL2 rfl hK hP hD hS hA (newa_I 8) (by decide +kernel) (by decide +kernel) (by decide +kernel) (by decide +kernel) (by decide +kernel) dX1_init_7 (fun q_1 cA9 H hK9 hP hD hS => ?_)
  obtain rfl : cA9 = cy 0 := bw_cy hK hK9 0 rfl rfl
  have hP : va_P (dC, dI) vwCl [(qa, .inr (1, [.int 0, .null, .null, .null, .null])), (q_1, .inl (cy 0, 8, .inl (fun _ => 0)))] H := hP
  have hD : va_D A [(qa, .inr (1, [.int 0, .null, .null, .null, .null])), (q_1, .inl (cy 0, 8, .inl (fun _ => 0)))] := hD
  refine va_putF (D := (dC, dI)) (ci := 1) (v := .ref q_1) (ty := (tyX1 1)) (C := RX1) (T := TX1) (N := 5) hx hb hts hiX1 tyX1 tyX1_ok nmX1 hown hK hP hD hS 0 rfl rfl 1 (by decide) hL3 (fun _ h9 => h9) rfl hin rfl (by decide +kernel) rfl rfl (Nat.le_of_ble_eq_true rfl) dX1_init_9 (fun H locs hP hD hS => ?_)
  have hP : va_P (dC, dI) vwCl [(qa, .inr (1, [.int 0, .ref q_1, .null, .null, .null])), (q_1, .inl (cy 0, 8, .inl (fun _ => 0)))] H := hP
  have hD : va_D A [(qa, .inr (1, [.int 0, .ref q_1, .null, .null, .null])), (q_1, .inl (cy 0, 8, .inl (fun _ => 0)))] := hD
  refine lv_aload_n hx hb dX1_init_12 rfl (lv_at hl 0 rfl) ?_
  refine lv_bipush (v := 8) hx hb dX1_init_13 (by decide) ?_
  refine va_newa (atype := .int) (ty := .int) (N' := 8) (a0 := (8, .inl (fun _ => 0))) hx hb hL2 rfl hK hP hD hS hA (newa_I 8) (by decide +kernel) (by decide +kernel) (by decide +kernel) (by decide +kernel) (by decide +kernel) dX1_init_15 (fun q_2 cA9 H hK9 hP hD hS => ?_)
  obtain rfl : cA9 = cy 0 := bw_cy hK hK9 0 rfl rfl
  have hP : va_P (dC, dI) vwCl [(qa, .inr (1, [.int 0, .ref q_1, .null, .null, .null])), (q_1, .inl (cy 0, 8, .inl (fun _ => 0))), (q_2, .inl (cy 0, 8, .inl (fun _ => 0)))] H := hP
  have hD : va_D A [(qa, .inr (1, [.int 0, .ref q_1, .null, .null, .null])), (q_1, .inl (cy 0, 8, .inl (fun _ => 0))), (q_2, .inl (cy 0, 8, .inl (fun _ => 0)))] := hD
  refine va_putF (D := (dC, dI)) (ci := 1) (v := .ref q_2) (ty := (tyX1 2)) (C := RX1) (T := TX1) (N := 5) hx hb hts hiX1 tyX1 tyX1_ok nmX1 hown hK hP hD hS 0 rfl rfl 2 (by decide) hL4 (fun _ h9 => h9) rfl hin rfl (by decide +kernel) rfl rfl (Nat.le_of_ble_eq_true rfl) dX1_init_17 (fun H locs hP hD hS => ?_)
  have hP : va_P (dC, dI) vwCl [(qa, .inr (1, [.int 0, .ref q_1, .ref q_2, .null, .null])), (q_1, .inl (cy 0, 8, .inl (fun _ => 0))), (q_2, .inl (cy 0, 8, .inl (fun _ => 0)))] H := hP
  have hD : va_D A [(qa, .inr (1, [.int 0, .ref q_1, .ref q_2, .null, .null])), (q_1, .inl (cy 0, 8, .inl (fun _ => 0))), (q_2, .inl (cy 0, 8, .inl (fun _ => 0)))] := hD
  refine lv_aload_n hx hb dX1_init_20 rfl (lv_at hl 0 rfl) ?_
  refine lv_sipush (v := 369) hx hb dX1_init_21 (by decide) ?_
  refine va_newa (atype := .int) (ty := .int) (N' := 369) (a0 := (369, .inl (fun _ => 0))) hx hb hL2 rfl hK hP hD hS hA (newa_I 369) (by decide +kernel) (by decide +kernel) (by decide +kernel) (by decide +kernel) (by decide +kernel) dX1_init_24 (fun q_3 cA9 H hK9 hP hD hS => ?_)
  obtain rfl : cA9 = cy 0 := bw_cy hK hK9 0 rfl rfl
  have hP : va_P (dC, dI) vwCl [(qa, .inr (1, [.int 0, .ref q_1, .ref q_2, .null, .null])), (q_1, .inl (cy 0, 8, .inl (fun _ => 0))), (q_2, .inl (cy 0, 8, .inl (fun _ => 0))), (q_3, .inl (cy 0, 369, .inl (fun _ => 0)))] H := hP
  have hD : va_D A [(qa, .inr (1, [.int 0, .ref q_1, .ref q_2, .null, .null])), (q_1, .inl (cy 0, 8, .inl (fun _ => 0))), (q_2, .inl (cy 0, 8, .inl (fun _ => 0))), (q_3, .inl (cy 0, 369, .inl (fun _ => 0)))] := hD
  refine va_putF (D := (dC, dI)) (ci := 1) (v := .ref q_3) (ty := (tyX1 3)) (C := RX1) (T := TX1) (N := 5) hx hb hts hiX1 tyX1 tyX1_ok nmX1 hown hK hP hD hS 0 rfl rfl 3 (by decide) hL5 (fun _ h9 => h9) rfl hin rfl (by decide +kernel) rfl rfl (Nat.le_of_ble_eq_true rfl) dX1_init_26 (fun H locs hP hD hS => ?_)
  have hP : va_P (dC, dI) vwCl [(qa, .inr (1, [.int 0, .ref q_1, .ref q_2, .ref q_3, .null])), (q_1, .inl (cy 0, 8, .inl (fun _ => 0))), (q_2, .inl (cy 0, 8, .inl (fun _ => 0))), (q_3, .inl (cy 0, 369, .inl (fun _ => 0)))] H := hP
  have hD : va_D A [(qa, .inr (1, [.int 0, .ref q_1, .ref q_2, .ref q_3, .null])), (q_1, .inl (cy 0, 8, .inl (fun _ => 0))), (q_2, .inl (cy 0, 8, .inl (fun _ => 0))), (q_3, .inl (cy 0, 369, .inl (fun _ => 0)))] := hD
  refine lv_aload_n hx hb dX1_init_29 rfl (lv_at hl 0 rfl) ?_
  refine lv_sipush (v := 369) hx hb dX1_init_30 (by decide) ?_
  refine va_newa (atype := .int) (ty := .int) (N' := 369) (a0 := (369, .inl (fun _ => 0))) hx hb hL2 rfl hK hP hD hS hA (newa_I 369) (by decide +kernel) (by decide +kernel) (by decide +kernel) (by decide +kernel) (by decide +kernel) dX1_init_33 (fun q_4 cA9 H hK9 hP hD hS => ?_)
  obtain rfl : cA9 = cy 0 := bw_cy hK hK9 0 rfl rfl
  have hP : va_P (dC, dI) vwCl [(qa, .inr (1, [.int 0, .ref q_1, .ref q_2, .ref q_3, .null])), (q_1, .inl (cy 0, 8, .inl (fun _ => 0))), (q_2, .inl (cy 0, 8, .inl (fun _ => 0))), (q_3, .inl (cy 0, 369, .inl (fun _ => 0))), (q_4, .inl (cy 0, 369, .inl (fun _ => 0)))] H := hP
  have hD : va_D A [(qa, .inr (1, [.int 0, .ref q_1, .ref q_2, .ref q_3, .null])), (q_1, .inl (cy 0, 8, .inl (fun _ => 0))), (q_2, .inl (cy 0, 8, .inl (fun _ => 0))), (q_3, .inl (cy 0, 369, .inl (fun _ => 0))), (q_4, .inl (cy 0, 369, .inl (fun _ => 0)))] := hD
  refine va_putF (D := (dC, dI)) (ci := 1) (v := .ref q_4) (ty := (tyX1 4)) (C := RX1) (T := TX1) (N := 5) hx hb hts hiX1 tyX1 tyX1_ok nmX1 hown hK hP hD hS 0 rfl rfl 4 (by decide) hL6 (fun _ h9 => h9) rfl hin rfl (by decide +kernel) rfl rfl (Nat.le_of_ble_eq_true rfl) dX1_init_35 (fun H locs hP hD hS => ?_)
  have hP : va_P (dC, dI) vwCl [(qa, .inr (1, [.int 0, .ref q_1, .ref q_2, .ref q_3, .ref q_4])), (q_1, .inl (cy 0, 8, .inl (fun _ => 0))), (q_2, .inl (cy 0, 8, .inl (fun _ => 0))), (q_3, .inl (cy 0, 369, .inl (fun _ => 0))), (q_4, .inl (cy 0, 369, .inl (fun _ => 0)))] H := hP
  have hD : va_D A [(qa, .inr (1, [.int 0, .ref q_1, .ref q_2, .ref q_3, .ref q_4])), (q_1, .inl (cy 0, 8, .inl (fun _ => 0))), (q_2, .inl (cy 0, 8, .inl (fun _ => 0))), (q_3, .inl (cy 0, 369, .inl (fun _ => 0))), (q_4, .inl (cy 0, 369, .inl (fun _ => 0)))] := hD
  refine bw_Qe hQ ?_
  have hP9 : va_P (dC, dI) vwCl [(qa, .inr (1, [.int 0, .ref q_1, .ref q_2, .ref q_3, .ref q_4])), (q_1, .inl (cy 0, 8, .inl (fun _ => 0))), (q_2, .inl (cy 0, 8, .inl (fun _ => 0))), (q_3, .inl (cy 0, 369, .inl (fun _ => 0))), (q_4, .inl (cy 0, 369, .inl (fun _ => 0)))] H := hP.sub [0, 1, 2, 3, 4] rfl
  have hD9 : va_D A [(qa, .inr (1, [.int 0, .ref q_1, .ref q_2, .ref q_3, .ref q_4])), (q_1, .inl (cy 0, 8, .inl (fun _ => 0))), (q_2, .inl (cy 0, 8, .inl (fun _ => 0))), (q_3, .inl (cy 0, 369, .inl (fun _ => 0))), (q_4, .inl (cy 0, 369, .inl (fun _ => 0)))] := hD.sub [0, 1, 2, 3, 4] (by decide) rfl
  have hpost : True := by
    trivial
  exact W.vret hx hb hr (fun t9 ht hW => ⟨⟨(q_1, q_2, q_3, q_4), rfl, hpost, by rw [ht]; exact hP9, va_K.moved hW.alike hK, hD9⟩, hS.F ht⟩) hS.2.2 dX1_init_38

set_option maxHeartbeats 4000000 in
set_option maxRecDepth 100000 in
theorem c_X0_init (l : Launch) (dC : Nat → ClassId) (dI : Nat → Nat → Nat) (cy : Nat → ClassId) (qa : Nat) (sz : Nat)  : Met l yX0_init wsX0_init ({ frames := 1, cells := 10, slots := 960, locals := 12 }) (va_Pc [.ref qa] (fun U => U.heap.size = sz ∧ va_P (dC, dI) vwCl [(qa, .inr (0, [.null, .null, .null, .null, .null, .null, .null, .null, .null, .null, .int 0]))] U.heap ∧ va_K (dC, dI) vwCl (tyL cy) U ∧ va_D (fun _ => True) [(qa, .inr (0, [.null, .null, .null, .null, .null, .null, .null, .null, .null, .null, .int 0]))])) (va_Qv (S := Nat × Nat × Nat × Nat × Nat × Nat × Nat × Nat × Nat × Nat) (fun u => match u with | (q0, q1, q2, q3, q4, q5, q6, q7, q8, q9) => True) (fun u => match u with | (q0, q1, q2, q3, q4, q5, q6, q7, q8, q9) => fun t => va_P (dC, dI) vwCl [(qa, .inr (0, [.ref q0, .ref q1, .ref q2, .ref q3, .ref q4, .ref q5, .ref q6, .ref q7, .ref q8, .ref q9, .int 0])), (q0, .inl (cy 0, 40, .inl (fun _ => 0))), (q1, .inl (cy 0, 40, .inl (fun _ => 0))), (q2, .inl (cy 0, 40, .inl (fun _ => 0))), (q3, .inl (cy 0, 40, .inl (fun _ => 0))), (q4, .inl (cy 0, 40, .inl (fun _ => 0))), (q5, .inl (cy 0, 40, .inl (fun _ => 0))), (q6, .inl (cy 0, 40, .inl (fun _ => 0))), (q7, .inl (cy 0, 40, .inl (fun _ => 0))), (q8, .inl (cy 0, 320, .inl (fun _ => 0))), (q9, .inl (cy 0, 320, .inl (fun _ => 0)))] t.heap ∧ va_K (dC, dI) vwCl (tyL cy) t ∧ va_D (va_A [(qa, .inr (0, [.null, .null, .null, .null, .null, .null, .null, .null, .null, .null, .int 0]))] sz) [(qa, .inr (0, [.ref q0, .ref q1, .ref q2, .ref q3, .ref q4, .ref q5, .ref q6, .ref q7, .ref q8, .ref q9, .int 0])), (q0, .inl (cy 0, 40, .inl (fun _ => 0))), (q1, .inl (cy 0, 40, .inl (fun _ => 0))), (q2, .inl (cy 0, 40, .inl (fun _ => 0))), (q3, .inl (cy 0, 40, .inl (fun _ => 0))), (q4, .inl (cy 0, 40, .inl (fun _ => 0))), (q5, .inl (cy 0, 40, .inl (fun _ => 0))), (q6, .inl (cy 0, 40, .inl (fun _ => 0))), (q7, .inl (cy 0, 40, .inl (fun _ => 0))), (q8, .inl (cy 0, 320, .inl (fun _ => 0))), (q9, .inl (cy 0, 320, .inl (fun _ => 0)))]) (va_A [(qa, .inr (0, [.null, .null, .null, .null, .null, .null, .null, .null, .null, .null, .int 0]))] sz)) 10 960 (va_A [(qa, .inr (0, [.null, .null, .null, .null, .null, .null, .null, .null, .null, .null, .int 0]))] sz) := by
  refine Met.ofW (cc := cX0_init) (maxL := 1) (ret := none) (by decide) rfl ?_
  intro pp ee ss mm args below meth cc0 s₁ B hml hv
  obtain ⟨rfl, hsz, hP, hK, hD0⟩ := hv
  have hx := B.exec
  have hb := B.bytes
  have hr := B.returns
  have hts := atoms_spec (ws := wsX0_init) B.pre
  have hown : ss.vm.findClass RX0 = some mm.cls := findClass_of_methodNamed B.named
  have hlocks := B.notSynchronized
  have hin : meth.name = "<init>" := (name_of_methodNamed B.named B.method).1
  have hL0 := hts (.methodLink RX0 3 objectInit) (by decide +kernel)
  have hL1 := hts (.instanceMethod objectInit) (by decide +kernel)
  have hL2 := hts (.arrayClass .int) (by decide +kernel)
  have hL3 := hts (.fieldLink RX0 9 "HereLived$Askings" "ofPerson" "[I") (by decide +kernel)
  have hL4 := hts (.fieldLink RX0 15 "HereLived$Askings" "ofSite" "[I") (by decide +kernel)
  have hL5 := hts (.fieldLink RX0 18 "HereLived$Askings" "year" "[I") (by decide +kernel)
  have hL6 := hts (.fieldLink RX0 21 "HereLived$Askings" "state" "[I") (by decide +kernel)
  have hL7 := hts (.fieldLink RX0 24 "HereLived$Askings" "yes" "[I") (by decide +kernel)
  have hL8 := hts (.fieldLink RX0 27 "HereLived$Askings" "no" "[I") (by decide +kernel)
  have hL9 := hts (.fieldLink RX0 30 "HereLived$Askings" "spokeAgainst" "[I") (by decide +kernel)
  have hL10 := hts (.fieldLink RX0 33 "HereLived$Askings" "lines" "[I") (by decide +kernel)
  have hL11 := hts (.fieldLink RX0 36 "HereLived$Askings" "lineWords" "[I") (by decide +kernel)
  have hL12 := hts (.fieldLink RX0 39 "HereLived$Askings" "lineWidths" "[I") (by decide +kernel)
  have hiX0 : ∀ w ∈ wsX00, w ∈ wsX0_init := by decide +kernel
  subst hsz
  have hD := hD0.self (sz := ss.heap.size)
  generalize hAe : va_A [(qa, .inr (0, [.null, .null, .null, .null, .null, .null, .null, .null, .null, .null, .int 0]))] ss.heap.size = A at hD ⊢
  have hA : ∀ q : Nat, ss.heap.size ≤ q → A q := fun q h => by rw [← hAe]; exact Or.inr h
  have hS : va_S A ss.heap ss.heap [] := va_S.rf
  have hP : va_P (dC, dI) vwCl [(qa, .inr (0, [.null, .null, .null, .null, .null, .null, .null, .null, .null, .null, .int 0]))] ss.heap := hP
  have hl := lv_entry ([.ref qa]) (n := 1) (Nat.le_of_ble_eq_true rfl)
  rw [lg_entry_eq]
  generalize (lg_sl ([.ref qa]) ++ List.replicate (1 - (lg_sl ([.ref qa])).length) Slot.unset).toArray = ls at hl ⊢
  have hl : lv_has ls 1 [(0, .ref qa)] := hl
  refine bw_Q (fun Q hQ => ?_)
  refine bw_H0 (fun H locs eH eL => ?_)
  have hS : va_S A ss.heap H locs := by rw [eH, eL]; exact hS
  have hP : va_P (dC, dI) vwCl [(qa, .inr (0, [.null, .null, .null, .null, .null, .null, .null, .null, .null, .null, .int 0]))] H := by rw [eH]; exact hP
  change W pp l ee { frames := 1, cells := 10, slots := 960, locals := 12 } ss mm _ below meth cc0 H locs 0 0 Q (F0 mm 0 ls [])
  refine lv_aload_n hx hb dX0_init_0 rfl (lv_at hl 0 rfl) ?_
  refine W.objInit hx hb hown hL0 hL1 (hts _ (List.mem_of_getElem? (i := 3) rfl)) rfl (by rw [hml]; exact hl.1) rfl dX0_init_1 (Nat.le_of_ble_eq_true rfl) (Nat.le_of_ble_eq_true rfl) ?_
  refine W.eq (g2 := F0 mm 4 ls []) rfl ?_
  refine lv_aload_n hx hb dX0_init_4 rfl (lv_at hl 0 rfl) ?_
  refine lv_bipush (v := 40) hx hb dX0_init_5 (by decide) ?_
  refine va_newa (atype := .int) (ty := .int) (N' := 40) (a0 := (40, .inl (fun _ => 0))) hx hb hL2 rfl hK hP hD hS hA (newa_I 40) (by decide +kernel) (by decide +kernel) (by decide +kernel) (by decide +kernel) (by decide +kernel) dX0_init_7 (fun q_1 cA9 H hK9 hP hD hS => ?_)
  obtain rfl : cA9 = cy 0 := bw_cy hK hK9 0 rfl rfl
  have hP : va_P (dC, dI) vwCl [(qa, .inr (0, [.null, .null, .null, .null, .null, .null, .null, .null, .null, .null, .int 0])), (q_1, .inl (cy 0, 40, .inl (fun _ => 0)))] H := hP
  have hD : va_D A [(qa, .inr (0, [.null, .null, .null, .null, .null, .null, .null, .null, .null, .null, .int 0])), (q_1, .inl (cy 0, 40, .inl (fun _ => 0)))] := hD
  refine va_putF (D := (dC, dI)) (ci := 0) (v := .ref q_1) (ty := (tyX0 0)) (C := RX0) (T := TX0) (N := 11) hx hb hts hiX0 tyX0 tyX0_ok nmX0 hown hK hP hD hS 0 rfl rfl 0 (by decide) hL3 (fun _ h9 => h9) rfl hin rfl (by decide +kernel) rfl rfl (Nat.le_of_ble_eq_true rfl) dX0_init_9 (fun H locs hP hD hS => ?_)
  have hP : va_P (dC, dI) vwCl [(qa, .inr (0, [.ref q_1, .null, .null, .null, .null, .null, .null, .null, .null, .null, .int 0])), (q_1, .inl (cy 0, 40, .inl (fun _ => 0)))] H := hP
  have hD : va_D A [(qa, .inr (0, [.ref q_1, .null, .null, .null, .null, .null, .null, .null, .null, .null, .int 0])), (q_1, .inl (cy 0, 40, .inl (fun _ => 0)))] := hD
  refine lv_aload_n hx hb dX0_init_12 rfl (lv_at hl 0 rfl) ?_
  refine lv_bipush (v := 40) hx hb dX0_init_13 (by decide) ?_
  refine va_newa (atype := .int) (ty := .int) (N' := 40) (a0 := (40, .inl (fun _ => 0))) hx hb hL2 rfl hK hP hD hS hA (newa_I 40) (by decide +kernel) (by decide +kernel) (by decide +kernel) (by decide +kernel) (by decide +kernel) dX0_init_15 (fun q_2 cA9 H hK9 hP hD hS => ?_)
  obtain rfl : cA9 = cy 0 := bw_cy hK hK9 0 rfl rfl
  have hP : va_P (dC, dI) vwCl [(qa, .inr (0, [.ref q_1, .null, .null, .null, .null, .null, .null, .null, .null, .null, .int 0])), (q_1, .inl (cy 0, 40, .inl (fun _ => 0))), (q_2, .inl (cy 0, 40, .inl (fun _ => 0)))] H := hP
  have hD : va_D A [(qa, .inr (0, [.ref q_1, .null, .null, .null, .null, .null, .null, .null, .null, .null, .int 0])), (q_1, .inl (cy 0, 40, .inl (fun _ => 0))), (q_2, .inl (cy 0, 40, .inl (fun _ => 0)))] := hD
  refine va_putF (D := (dC, dI)) (ci := 0) (v := .ref q_2) (ty := (tyX0 1)) (C := RX0) (T := TX0) (N := 11) hx hb hts hiX0 tyX0 tyX0_ok nmX0 hown hK hP hD hS 0 rfl rfl 1 (by decide) hL4 (fun _ h9 => h9) rfl hin rfl (by decide +kernel) rfl rfl (Nat.le_of_ble_eq_true rfl) dX0_init_17 (fun H locs hP hD hS => ?_)
  have hP : va_P (dC, dI) vwCl [(qa, .inr (0, [.ref q_1, .ref q_2, .null, .null, .null, .null, .null, .null, .null, .null, .int 0])), (q_1, .inl (cy 0, 40, .inl (fun _ => 0))), (q_2, .inl (cy 0, 40, .inl (fun _ => 0)))] H := hP
  have hD : va_D A [(qa, .inr (0, [.ref q_1, .ref q_2, .null, .null, .null, .null, .null, .null, .null, .null, .int 0])), (q_1, .inl (cy 0, 40, .inl (fun _ => 0))), (q_2, .inl (cy 0, 40, .inl (fun _ => 0)))] := hD
  refine lv_aload_n hx hb dX0_init_20 rfl (lv_at hl 0 rfl) ?_
  refine lv_bipush (v := 40) hx hb dX0_init_21 (by decide) ?_
  refine va_newa (atype := .int) (ty := .int) (N' := 40) (a0 := (40, .inl (fun _ => 0))) hx hb hL2 rfl hK hP hD hS hA (newa_I 40) (by decide +kernel) (by decide +kernel) (by decide +kernel) (by decide +kernel) (by decide +kernel) dX0_init_23 (fun q_3 cA9 H hK9 hP hD hS => ?_)
  obtain rfl : cA9 = cy 0 := bw_cy hK hK9 0 rfl rfl
  have hP : va_P (dC, dI) vwCl [(qa, .inr (0, [.ref q_1, .ref q_2, .null, .null, .null, .null, .null, .null, .null, .null, .int 0])), (q_1, .inl (cy 0, 40, .inl (fun _ => 0))), (q_2, .inl (cy 0, 40, .inl (fun _ => 0))), (q_3, .inl (cy 0, 40, .inl (fun _ => 0)))] H := hP
  have hD : va_D A [(qa, .inr (0, [.ref q_1, .ref q_2, .null, .null, .null, .null, .null, .null, .null, .null, .int 0])), (q_1, .inl (cy 0, 40, .inl (fun _ => 0))), (q_2, .inl (cy 0, 40, .inl (fun _ => 0))), (q_3, .inl (cy 0, 40, .inl (fun _ => 0)))] := hD
  refine va_putF (D := (dC, dI)) (ci := 0) (v := .ref q_3) (ty := (tyX0 2)) (C := RX0) (T := TX0) (N := 11) hx hb hts hiX0 tyX0 tyX0_ok nmX0 hown hK hP hD hS 0 rfl rfl 2 (by decide) hL5 (fun _ h9 => h9) rfl hin rfl (by decide +kernel) rfl rfl (Nat.le_of_ble_eq_true rfl) dX0_init_25 (fun H locs hP hD hS => ?_)
  have hP : va_P (dC, dI) vwCl [(qa, .inr (0, [.ref q_1, .ref q_2, .ref q_3, .null, .null, .null, .null, .null, .null, .null, .int 0])), (q_1, .inl (cy 0, 40, .inl (fun _ => 0))), (q_2, .inl (cy 0, 40, .inl (fun _ => 0))), (q_3, .inl (cy 0, 40, .inl (fun _ => 0)))] H := hP
  have hD : va_D A [(qa, .inr (0, [.ref q_1, .ref q_2, .ref q_3, .null, .null, .null, .null, .null, .null, .null, .int 0])), (q_1, .inl (cy 0, 40, .inl (fun _ => 0))), (q_2, .inl (cy 0, 40, .inl (fun _ => 0))), (q_3, .inl (cy 0, 40, .inl (fun _ => 0)))] := hD
  refine lv_aload_n hx hb dX0_init_28 rfl (lv_at hl 0 rfl) ?_
  refine lv_bipush (v := 40) hx hb dX0_init_29 (by decide) ?_
  refine va_newa (atype := .int) (ty := .int) (N' := 40) (a0 := (40, .inl (fun _ => 0))) hx hb hL2 rfl hK hP hD hS hA (newa_I 40) (by decide +kernel) (by decide +kernel) (by decide +kernel) (by decide +kernel) (by decide +kernel) dX0_init_31 (fun q_4 cA9 H hK9 hP hD hS => ?_)
  obtain rfl : cA9 = cy 0 := bw_cy hK hK9 0 rfl rfl
  have hP : va_P (dC, dI) vwCl [(qa, .inr (0, [.ref q_1, .ref q_2, .ref q_3, .null, .null, .null, .null, .null, .null, .null, .int 0])), (q_1, .inl (cy 0, 40, .inl (fun _ => 0))), (q_2, .inl (cy 0, 40, .inl (fun _ => 0))), (q_3, .inl (cy 0, 40, .inl (fun _ => 0))), (q_4, .inl (cy 0, 40, .inl (fun _ => 0)))] H := hP
  have hD : va_D A [(qa, .inr (0, [.ref q_1, .ref q_2, .ref q_3, .null, .null, .null, .null, .null, .null, .null, .int 0])), (q_1, .inl (cy 0, 40, .inl (fun _ => 0))), (q_2, .inl (cy 0, 40, .inl (fun _ => 0))), (q_3, .inl (cy 0, 40, .inl (fun _ => 0))), (q_4, .inl (cy 0, 40, .inl (fun _ => 0)))] := hD
  refine va_putF (D := (dC, dI)) (ci := 0) (v := .ref q_4) (ty := (tyX0 3)) (C := RX0) (T := TX0) (N := 11) hx hb hts hiX0 tyX0 tyX0_ok nmX0 hown hK hP hD hS 0 rfl rfl 3 (by decide) hL6 (fun _ h9 => h9) rfl hin rfl (by decide +kernel) rfl rfl (Nat.le_of_ble_eq_true rfl) dX0_init_33 (fun H locs hP hD hS => ?_)
  have hP : va_P (dC, dI) vwCl [(qa, .inr (0, [.ref q_1, .ref q_2, .ref q_3, .ref q_4, .null, .null, .null, .null, .null, .null, .int 0])), (q_1, .inl (cy 0, 40, .inl (fun _ => 0))), (q_2, .inl (cy 0, 40, .inl (fun _ => 0))), (q_3, .inl (cy 0, 40, .inl (fun _ => 0))), (q_4, .inl (cy 0, 40, .inl (fun _ => 0)))] H := hP
  have hD : va_D A [(qa, .inr (0, [.ref q_1, .ref q_2, .ref q_3, .ref q_4, .null, .null, .null, .null, .null, .null, .int 0])), (q_1, .inl (cy 0, 40, .inl (fun _ => 0))), (q_2, .inl (cy 0, 40, .inl (fun _ => 0))), (q_3, .inl (cy 0, 40, .inl (fun _ => 0))), (q_4, .inl (cy 0, 40, .inl (fun _ => 0)))] := hD
  refine lv_aload_n hx hb dX0_init_36 rfl (lv_at hl 0 rfl) ?_
  refine lv_bipush (v := 40) hx hb dX0_init_37 (by decide) ?_
  refine va_newa (atype := .int) (ty := .int) (N' := 40) (a0 := (40, .inl (fun _ => 0))) hx hb hL2 rfl hK hP hD hS hA (newa_I 40) (by decide +kernel) (by decide +kernel) (by decide +kernel) (by decide +kernel) (by decide +kernel) dX0_init_39 (fun q_5 cA9 H hK9 hP hD hS => ?_)
  obtain rfl : cA9 = cy 0 := bw_cy hK hK9 0 rfl rfl
  have hP : va_P (dC, dI) vwCl [(qa, .inr (0, [.ref q_1, .ref q_2, .ref q_3, .ref q_4, .null, .null, .null, .null, .null, .null, .int 0])), (q_1, .inl (cy 0, 40, .inl (fun _ => 0))), (q_2, .inl (cy 0, 40, .inl (fun _ => 0))), (q_3, .inl (cy 0, 40, .inl (fun _ => 0))), (q_4, .inl (cy 0, 40, .inl (fun _ => 0))), (q_5, .inl (cy 0, 40, .inl (fun _ => 0)))] H := hP
  have hD : va_D A [(qa, .inr (0, [.ref q_1, .ref q_2, .ref q_3, .ref q_4, .null, .null, .null, .null, .null, .null, .int 0])), (q_1, .inl (cy 0, 40, .inl (fun _ => 0))), (q_2, .inl (cy 0, 40, .inl (fun _ => 0))), (q_3, .inl (cy 0, 40, .inl (fun _ => 0))), (q_4, .inl (cy 0, 40, .inl (fun _ => 0))), (q_5, .inl (cy 0, 40, .inl (fun _ => 0)))] := hD
  refine va_putF (D := (dC, dI)) (ci := 0) (v := .ref q_5) (ty := (tyX0 4)) (C := RX0) (T := TX0) (N := 11) hx hb hts hiX0 tyX0 tyX0_ok nmX0 hown hK hP hD hS 0 rfl rfl 4 (by decide) hL7 (fun _ h9 => h9) rfl hin rfl (by decide +kernel) rfl rfl (Nat.le_of_ble_eq_true rfl) dX0_init_41 (fun H locs hP hD hS => ?_)
  have hP : va_P (dC, dI) vwCl [(qa, .inr (0, [.ref q_1, .ref q_2, .ref q_3, .ref q_4, .ref q_5, .null, .null, .null, .null, .null, .int 0])), (q_1, .inl (cy 0, 40, .inl (fun _ => 0))), (q_2, .inl (cy 0, 40, .inl (fun _ => 0))), (q_3, .inl (cy 0, 40, .inl (fun _ => 0))), (q_4, .inl (cy 0, 40, .inl (fun _ => 0))), (q_5, .inl (cy 0, 40, .inl (fun _ => 0)))] H := hP
  have hD : va_D A [(qa, .inr (0, [.ref q_1, .ref q_2, .ref q_3, .ref q_4, .ref q_5, .null, .null, .null, .null, .null, .int 0])), (q_1, .inl (cy 0, 40, .inl (fun _ => 0))), (q_2, .inl (cy 0, 40, .inl (fun _ => 0))), (q_3, .inl (cy 0, 40, .inl (fun _ => 0))), (q_4, .inl (cy 0, 40, .inl (fun _ => 0))), (q_5, .inl (cy 0, 40, .inl (fun _ => 0)))] := hD
  refine lv_aload_n hx hb dX0_init_44 rfl (lv_at hl 0 rfl) ?_
  refine lv_bipush (v := 40) hx hb dX0_init_45 (by decide) ?_
  refine va_newa (atype := .int) (ty := .int) (N' := 40) (a0 := (40, .inl (fun _ => 0))) hx hb hL2 rfl hK hP hD hS hA (newa_I 40) (by decide +kernel) (by decide +kernel) (by decide +kernel) (by decide +kernel) (by decide +kernel) dX0_init_47 (fun q_6 cA9 H hK9 hP hD hS => ?_)
  obtain rfl : cA9 = cy 0 := bw_cy hK hK9 0 rfl rfl
  have hP : va_P (dC, dI) vwCl [(qa, .inr (0, [.ref q_1, .ref q_2, .ref q_3, .ref q_4, .ref q_5, .null, .null, .null, .null, .null, .int 0])), (q_1, .inl (cy 0, 40, .inl (fun _ => 0))), (q_2, .inl (cy 0, 40, .inl (fun _ => 0))), (q_3, .inl (cy 0, 40, .inl (fun _ => 0))), (q_4, .inl (cy 0, 40, .inl (fun _ => 0))), (q_5, .inl (cy 0, 40, .inl (fun _ => 0))), (q_6, .inl (cy 0, 40, .inl (fun _ => 0)))] H := hP
  have hD : va_D A [(qa, .inr (0, [.ref q_1, .ref q_2, .ref q_3, .ref q_4, .ref q_5, .null, .null, .null, .null, .null, .int 0])), (q_1, .inl (cy 0, 40, .inl (fun _ => 0))), (q_2, .inl (cy 0, 40, .inl (fun _ => 0))), (q_3, .inl (cy 0, 40, .inl (fun _ => 0))), (q_4, .inl (cy 0, 40, .inl (fun _ => 0))), (q_5, .inl (cy 0, 40, .inl (fun _ => 0))), (q_6, .inl (cy 0, 40, .inl (fun _ => 0)))] := hD
  refine va_putF (D := (dC, dI)) (ci := 0) (v := .ref q_6) (ty := (tyX0 5)) (C := RX0) (T := TX0) (N := 11) hx hb hts hiX0 tyX0 tyX0_ok nmX0 hown hK hP hD hS 0 rfl rfl 5 (by decide) hL8 (fun _ h9 => h9) rfl hin rfl (by decide +kernel) rfl rfl (Nat.le_of_ble_eq_true rfl) dX0_init_49 (fun H locs hP hD hS => ?_)
  have hP : va_P (dC, dI) vwCl [(qa, .inr (0, [.ref q_1, .ref q_2, .ref q_3, .ref q_4, .ref q_5, .ref q_6, .null, .null, .null, .null, .int 0])), (q_1, .inl (cy 0, 40, .inl (fun _ => 0))), (q_2, .inl (cy 0, 40, .inl (fun _ => 0))), (q_3, .inl (cy 0, 40, .inl (fun _ => 0))), (q_4, .inl (cy 0, 40, .inl (fun _ => 0))), (q_5, .inl (cy 0, 40, .inl (fun _ => 0))), (q_6, .inl (cy 0, 40, .inl (fun _ => 0)))] H := hP
  have hD : va_D A [(qa, .inr (0, [.ref q_1, .ref q_2, .ref q_3, .ref q_4, .ref q_5, .ref q_6, .null, .null, .null, .null, .int 0])), (q_1, .inl (cy 0, 40, .inl (fun _ => 0))), (q_2, .inl (cy 0, 40, .inl (fun _ => 0))), (q_3, .inl (cy 0, 40, .inl (fun _ => 0))), (q_4, .inl (cy 0, 40, .inl (fun _ => 0))), (q_5, .inl (cy 0, 40, .inl (fun _ => 0))), (q_6, .inl (cy 0, 40, .inl (fun _ => 0)))] := hD
  refine lv_aload_n hx hb dX0_init_52 rfl (lv_at hl 0 rfl) ?_
  refine lv_bipush (v := 40) hx hb dX0_init_53 (by decide) ?_
  refine va_newa (atype := .int) (ty := .int) (N' := 40) (a0 := (40, .inl (fun _ => 0))) hx hb hL2 rfl hK hP hD hS hA (newa_I 40) (by decide +kernel) (by decide +kernel) (by decide +kernel) (by decide +kernel) (by decide +kernel) dX0_init_55 (fun q_7 cA9 H hK9 hP hD hS => ?_)
  obtain rfl : cA9 = cy 0 := bw_cy hK hK9 0 rfl rfl
  have hP : va_P (dC, dI) vwCl [(qa, .inr (0, [.ref q_1, .ref q_2, .ref q_3, .ref q_4, .ref q_5, .ref q_6, .null, .null, .null, .null, .int 0])), (q_1, .inl (cy 0, 40, .inl (fun _ => 0))), (q_2, .inl (cy 0, 40, .inl (fun _ => 0))), (q_3, .inl (cy 0, 40, .inl (fun _ => 0))), (q_4, .inl (cy 0, 40, .inl (fun _ => 0))), (q_5, .inl (cy 0, 40, .inl (fun _ => 0))), (q_6, .inl (cy 0, 40, .inl (fun _ => 0))), (q_7, .inl (cy 0, 40, .inl (fun _ => 0)))] H := hP
  have hD : va_D A [(qa, .inr (0, [.ref q_1, .ref q_2, .ref q_3, .ref q_4, .ref q_5, .ref q_6, .null, .null, .null, .null, .int 0])), (q_1, .inl (cy 0, 40, .inl (fun _ => 0))), (q_2, .inl (cy 0, 40, .inl (fun _ => 0))), (q_3, .inl (cy 0, 40, .inl (fun _ => 0))), (q_4, .inl (cy 0, 40, .inl (fun _ => 0))), (q_5, .inl (cy 0, 40, .inl (fun _ => 0))), (q_6, .inl (cy 0, 40, .inl (fun _ => 0))), (q_7, .inl (cy 0, 40, .inl (fun _ => 0)))] := hD
  refine va_putF (D := (dC, dI)) (ci := 0) (v := .ref q_7) (ty := (tyX0 6)) (C := RX0) (T := TX0) (N := 11) hx hb hts hiX0 tyX0 tyX0_ok nmX0 hown hK hP hD hS 0 rfl rfl 6 (by decide) hL9 (fun _ h9 => h9) rfl hin rfl (by decide +kernel) rfl rfl (Nat.le_of_ble_eq_true rfl) dX0_init_57 (fun H locs hP hD hS => ?_)
  have hP : va_P (dC, dI) vwCl [(qa, .inr (0, [.ref q_1, .ref q_2, .ref q_3, .ref q_4, .ref q_5, .ref q_6, .ref q_7, .null, .null, .null, .int 0])), (q_1, .inl (cy 0, 40, .inl (fun _ => 0))), (q_2, .inl (cy 0, 40, .inl (fun _ => 0))), (q_3, .inl (cy 0, 40, .inl (fun _ => 0))), (q_4, .inl (cy 0, 40, .inl (fun _ => 0))), (q_5, .inl (cy 0, 40, .inl (fun _ => 0))), (q_6, .inl (cy 0, 40, .inl (fun _ => 0))), (q_7, .inl (cy 0, 40, .inl (fun _ => 0)))] H := hP
  have hD : va_D A [(qa, .inr (0, [.ref q_1, .ref q_2, .ref q_3, .ref q_4, .ref q_5, .ref q_6, .ref q_7, .null, .null, .null, .int 0])), (q_1, .inl (cy 0, 40, .inl (fun _ => 0))), (q_2, .inl (cy 0, 40, .inl (fun _ => 0))), (q_3, .inl (cy 0, 40, .inl (fun _ => 0))), (q_4, .inl (cy 0, 40, .inl (fun _ => 0))), (q_5, .inl (cy 0, 40, .inl (fun _ => 0))), (q_6, .inl (cy 0, 40, .inl (fun _ => 0))), (q_7, .inl (cy 0, 40, .inl (fun _ => 0)))] := hD
  refine lv_aload_n hx hb dX0_init_60 rfl (lv_at hl 0 rfl) ?_
  refine lv_bipush (v := 40) hx hb dX0_init_61 (by decide) ?_
  refine va_newa (atype := .int) (ty := .int) (N' := 40) (a0 := (40, .inl (fun _ => 0))) hx hb hL2 rfl hK hP hD hS hA (newa_I 40) (by decide +kernel) (by decide +kernel) (by decide +kernel) (by decide +kernel) (by decide +kernel) dX0_init_63 (fun q_8 cA9 H hK9 hP hD hS => ?_)
  obtain rfl : cA9 = cy 0 := bw_cy hK hK9 0 rfl rfl
  have hP : va_P (dC, dI) vwCl [(qa, .inr (0, [.ref q_1, .ref q_2, .ref q_3, .ref q_4, .ref q_5, .ref q_6, .ref q_7, .null, .null, .null, .int 0])), (q_1, .inl (cy 0, 40, .inl (fun _ => 0))), (q_2, .inl (cy 0, 40, .inl (fun _ => 0))), (q_3, .inl (cy 0, 40, .inl (fun _ => 0))), (q_4, .inl (cy 0, 40, .inl (fun _ => 0))), (q_5, .inl (cy 0, 40, .inl (fun _ => 0))), (q_6, .inl (cy 0, 40, .inl (fun _ => 0))), (q_7, .inl (cy 0, 40, .inl (fun _ => 0))), (q_8, .inl (cy 0, 40, .inl (fun _ => 0)))] H := hP
  have hD : va_D A [(qa, .inr (0, [.ref q_1, .ref q_2, .ref q_3, .ref q_4, .ref q_5, .ref q_6, .ref q_7, .null, .null, .null, .int 0])), (q_1, .inl (cy 0, 40, .inl (fun _ => 0))), (q_2, .inl (cy 0, 40, .inl (fun _ => 0))), (q_3, .inl (cy 0, 40, .inl (fun _ => 0))), (q_4, .inl (cy 0, 40, .inl (fun _ => 0))), (q_5, .inl (cy 0, 40, .inl (fun _ => 0))), (q_6, .inl (cy 0, 40, .inl (fun _ => 0))), (q_7, .inl (cy 0, 40, .inl (fun _ => 0))), (q_8, .inl (cy 0, 40, .inl (fun _ => 0)))] := hD
  refine va_putF (D := (dC, dI)) (ci := 0) (v := .ref q_8) (ty := (tyX0 7)) (C := RX0) (T := TX0) (N := 11) hx hb hts hiX0 tyX0 tyX0_ok nmX0 hown hK hP hD hS 0 rfl rfl 7 (by decide) hL10 (fun _ h9 => h9) rfl hin rfl (by decide +kernel) rfl rfl (Nat.le_of_ble_eq_true rfl) dX0_init_65 (fun H locs hP hD hS => ?_)
  have hP : va_P (dC, dI) vwCl [(qa, .inr (0, [.ref q_1, .ref q_2, .ref q_3, .ref q_4, .ref q_5, .ref q_6, .ref q_7, .ref q_8, .null, .null, .int 0])), (q_1, .inl (cy 0, 40, .inl (fun _ => 0))), (q_2, .inl (cy 0, 40, .inl (fun _ => 0))), (q_3, .inl (cy 0, 40, .inl (fun _ => 0))), (q_4, .inl (cy 0, 40, .inl (fun _ => 0))), (q_5, .inl (cy 0, 40, .inl (fun _ => 0))), (q_6, .inl (cy 0, 40, .inl (fun _ => 0))), (q_7, .inl (cy 0, 40, .inl (fun _ => 0))), (q_8, .inl (cy 0, 40, .inl (fun _ => 0)))] H := hP
  have hD : va_D A [(qa, .inr (0, [.ref q_1, .ref q_2, .ref q_3, .ref q_4, .ref q_5, .ref q_6, .ref q_7, .ref q_8, .null, .null, .int 0])), (q_1, .inl (cy 0, 40, .inl (fun _ => 0))), (q_2, .inl (cy 0, 40, .inl (fun _ => 0))), (q_3, .inl (cy 0, 40, .inl (fun _ => 0))), (q_4, .inl (cy 0, 40, .inl (fun _ => 0))), (q_5, .inl (cy 0, 40, .inl (fun _ => 0))), (q_6, .inl (cy 0, 40, .inl (fun _ => 0))), (q_7, .inl (cy 0, 40, .inl (fun _ => 0))), (q_8, .inl (cy 0, 40, .inl (fun _ => 0)))] := hD
  refine lv_aload_n hx hb dX0_init_68 rfl (lv_at hl 0 rfl) ?_
  refine lv_sipush (v := 320) hx hb dX0_init_69 (by decide) ?_
  refine va_newa (atype := .int) (ty := .int) (N' := 320) (a0 := (320, .inl (fun _ => 0))) hx hb hL2 rfl hK hP hD hS hA (newa_I 320) (by decide +kernel) (by decide +kernel) (by decide +kernel) (by decide +kernel) (by decide +kernel) dX0_init_72 (fun q_9 cA9 H hK9 hP hD hS => ?_)
  obtain rfl : cA9 = cy 0 := bw_cy hK hK9 0 rfl rfl
  have hP : va_P (dC, dI) vwCl [(qa, .inr (0, [.ref q_1, .ref q_2, .ref q_3, .ref q_4, .ref q_5, .ref q_6, .ref q_7, .ref q_8, .null, .null, .int 0])), (q_1, .inl (cy 0, 40, .inl (fun _ => 0))), (q_2, .inl (cy 0, 40, .inl (fun _ => 0))), (q_3, .inl (cy 0, 40, .inl (fun _ => 0))), (q_4, .inl (cy 0, 40, .inl (fun _ => 0))), (q_5, .inl (cy 0, 40, .inl (fun _ => 0))), (q_6, .inl (cy 0, 40, .inl (fun _ => 0))), (q_7, .inl (cy 0, 40, .inl (fun _ => 0))), (q_8, .inl (cy 0, 40, .inl (fun _ => 0))), (q_9, .inl (cy 0, 320, .inl (fun _ => 0)))] H := hP
  have hD : va_D A [(qa, .inr (0, [.ref q_1, .ref q_2, .ref q_3, .ref q_4, .ref q_5, .ref q_6, .ref q_7, .ref q_8, .null, .null, .int 0])), (q_1, .inl (cy 0, 40, .inl (fun _ => 0))), (q_2, .inl (cy 0, 40, .inl (fun _ => 0))), (q_3, .inl (cy 0, 40, .inl (fun _ => 0))), (q_4, .inl (cy 0, 40, .inl (fun _ => 0))), (q_5, .inl (cy 0, 40, .inl (fun _ => 0))), (q_6, .inl (cy 0, 40, .inl (fun _ => 0))), (q_7, .inl (cy 0, 40, .inl (fun _ => 0))), (q_8, .inl (cy 0, 40, .inl (fun _ => 0))), (q_9, .inl (cy 0, 320, .inl (fun _ => 0)))] := hD
  refine va_putF (D := (dC, dI)) (ci := 0) (v := .ref q_9) (ty := (tyX0 8)) (C := RX0) (T := TX0) (N := 11) hx hb hts hiX0 tyX0 tyX0_ok nmX0 hown hK hP hD hS 0 rfl rfl 8 (by decide) hL11 (fun _ h9 => h9) rfl hin rfl (by decide +kernel) rfl rfl (Nat.le_of_ble_eq_true rfl) dX0_init_74 (fun H locs hP hD hS => ?_)
  have hP : va_P (dC, dI) vwCl [(qa, .inr (0, [.ref q_1, .ref q_2, .ref q_3, .ref q_4, .ref q_5, .ref q_6, .ref q_7, .ref q_8, .ref q_9, .null, .int 0])), (q_1, .inl (cy 0, 40, .inl (fun _ => 0))), (q_2, .inl (cy 0, 40, .inl (fun _ => 0))), (q_3, .inl (cy 0, 40, .inl (fun _ => 0))), (q_4, .inl (cy 0, 40, .inl (fun _ => 0))), (q_5, .inl (cy 0, 40, .inl (fun _ => 0))), (q_6, .inl (cy 0, 40, .inl (fun _ => 0))), (q_7, .inl (cy 0, 40, .inl (fun _ => 0))), (q_8, .inl (cy 0, 40, .inl (fun _ => 0))), (q_9, .inl (cy 0, 320, .inl (fun _ => 0)))] H := hP
  have hD : va_D A [(qa, .inr (0, [.ref q_1, .ref q_2, .ref q_3, .ref q_4, .ref q_5, .ref q_6, .ref q_7, .ref q_8, .ref q_9, .null, .int 0])), (q_1, .inl (cy 0, 40, .inl (fun _ => 0))), (q_2, .inl (cy 0, 40, .inl (fun _ => 0))), (q_3, .inl (cy 0, 40, .inl (fun _ => 0))), (q_4, .inl (cy 0, 40, .inl (fun _ => 0))), (q_5, .inl (cy 0, 40, .inl (fun _ => 0))), (q_6, .inl (cy 0, 40, .inl (fun _ => 0))), (q_7, .inl (cy 0, 40, .inl (fun _ => 0))), (q_8, .inl (cy 0, 40, .inl (fun _ => 0))), (q_9, .inl (cy 0, 320, .inl (fun _ => 0)))] := hD
  refine lv_aload_n hx hb dX0_init_77 rfl (lv_at hl 0 rfl) ?_
  refine lv_sipush (v := 320) hx hb dX0_init_78 (by decide) ?_
  refine va_newa (atype := .int) (ty := .int) (N' := 320) (a0 := (320, .inl (fun _ => 0))) hx hb hL2 rfl hK hP hD hS hA (newa_I 320) (by decide +kernel) (by decide +kernel) (by decide +kernel) (by decide +kernel) (by decide +kernel) dX0_init_81 (fun q_10 cA9 H hK9 hP hD hS => ?_)
  obtain rfl : cA9 = cy 0 := bw_cy hK hK9 0 rfl rfl
  have hP : va_P (dC, dI) vwCl [(qa, .inr (0, [.ref q_1, .ref q_2, .ref q_3, .ref q_4, .ref q_5, .ref q_6, .ref q_7, .ref q_8, .ref q_9, .null, .int 0])), (q_1, .inl (cy 0, 40, .inl (fun _ => 0))), (q_2, .inl (cy 0, 40, .inl (fun _ => 0))), (q_3, .inl (cy 0, 40, .inl (fun _ => 0))), (q_4, .inl (cy 0, 40, .inl (fun _ => 0))), (q_5, .inl (cy 0, 40, .inl (fun _ => 0))), (q_6, .inl (cy 0, 40, .inl (fun _ => 0))), (q_7, .inl (cy 0, 40, .inl (fun _ => 0))), (q_8, .inl (cy 0, 40, .inl (fun _ => 0))), (q_9, .inl (cy 0, 320, .inl (fun _ => 0))), (q_10, .inl (cy 0, 320, .inl (fun _ => 0)))] H := hP
  have hD : va_D A [(qa, .inr (0, [.ref q_1, .ref q_2, .ref q_3, .ref q_4, .ref q_5, .ref q_6, .ref q_7, .ref q_8, .ref q_9, .null, .int 0])), (q_1, .inl (cy 0, 40, .inl (fun _ => 0))), (q_2, .inl (cy 0, 40, .inl (fun _ => 0))), (q_3, .inl (cy 0, 40, .inl (fun _ => 0))), (q_4, .inl (cy 0, 40, .inl (fun _ => 0))), (q_5, .inl (cy 0, 40, .inl (fun _ => 0))), (q_6, .inl (cy 0, 40, .inl (fun _ => 0))), (q_7, .inl (cy 0, 40, .inl (fun _ => 0))), (q_8, .inl (cy 0, 40, .inl (fun _ => 0))), (q_9, .inl (cy 0, 320, .inl (fun _ => 0))), (q_10, .inl (cy 0, 320, .inl (fun _ => 0)))] := hD
  refine va_putF (D := (dC, dI)) (ci := 0) (v := .ref q_10) (ty := (tyX0 9)) (C := RX0) (T := TX0) (N := 11) hx hb hts hiX0 tyX0 tyX0_ok nmX0 hown hK hP hD hS 0 rfl rfl 9 (by decide) hL12 (fun _ h9 => h9) rfl hin rfl (by decide +kernel) rfl rfl (Nat.le_of_ble_eq_true rfl) dX0_init_83 (fun H locs hP hD hS => ?_)
  have hP : va_P (dC, dI) vwCl [(qa, .inr (0, [.ref q_1, .ref q_2, .ref q_3, .ref q_4, .ref q_5, .ref q_6, .ref q_7, .ref q_8, .ref q_9, .ref q_10, .int 0])), (q_1, .inl (cy 0, 40, .inl (fun _ => 0))), (q_2, .inl (cy 0, 40, .inl (fun _ => 0))), (q_3, .inl (cy 0, 40, .inl (fun _ => 0))), (q_4, .inl (cy 0, 40, .inl (fun _ => 0))), (q_5, .inl (cy 0, 40, .inl (fun _ => 0))), (q_6, .inl (cy 0, 40, .inl (fun _ => 0))), (q_7, .inl (cy 0, 40, .inl (fun _ => 0))), (q_8, .inl (cy 0, 40, .inl (fun _ => 0))), (q_9, .inl (cy 0, 320, .inl (fun _ => 0))), (q_10, .inl (cy 0, 320, .inl (fun _ => 0)))] H := hP
  have hD : va_D A [(qa, .inr (0, [.ref q_1, .ref q_2, .ref q_3, .ref q_4, .ref q_5, .ref q_6, .ref q_7, .ref q_8, .ref q_9, .ref q_10, .int 0])), (q_1, .inl (cy 0, 40, .inl (fun _ => 0))), (q_2, .inl (cy 0, 40, .inl (fun _ => 0))), (q_3, .inl (cy 0, 40, .inl (fun _ => 0))), (q_4, .inl (cy 0, 40, .inl (fun _ => 0))), (q_5, .inl (cy 0, 40, .inl (fun _ => 0))), (q_6, .inl (cy 0, 40, .inl (fun _ => 0))), (q_7, .inl (cy 0, 40, .inl (fun _ => 0))), (q_8, .inl (cy 0, 40, .inl (fun _ => 0))), (q_9, .inl (cy 0, 320, .inl (fun _ => 0))), (q_10, .inl (cy 0, 320, .inl (fun _ => 0)))] := hD
  refine bw_Qe hQ ?_
  have hP9 : va_P (dC, dI) vwCl [(qa, .inr (0, [.ref q_1, .ref q_2, .ref q_3, .ref q_4, .ref q_5, .ref q_6, .ref q_7, .ref q_8, .ref q_9, .ref q_10, .int 0])), (q_1, .inl (cy 0, 40, .inl (fun _ => 0))), (q_2, .inl (cy 0, 40, .inl (fun _ => 0))), (q_3, .inl (cy 0, 40, .inl (fun _ => 0))), (q_4, .inl (cy 0, 40, .inl (fun _ => 0))), (q_5, .inl (cy 0, 40, .inl (fun _ => 0))), (q_6, .inl (cy 0, 40, .inl (fun _ => 0))), (q_7, .inl (cy 0, 40, .inl (fun _ => 0))), (q_8, .inl (cy 0, 40, .inl (fun _ => 0))), (q_9, .inl (cy 0, 320, .inl (fun _ => 0))), (q_10, .inl (cy 0, 320, .inl (fun _ => 0)))] H := hP.sub [0, 1, 2, 3, 4, 5, 6, 7, 8, 9, 10] rfl
  have hD9 : va_D A [(qa, .inr (0, [.ref q_1, .ref q_2, .ref q_3, .ref q_4, .ref q_5, .ref q_6, .ref q_7, .ref q_8, .ref q_9, .ref q_10, .int 0])), (q_1, .inl (cy 0, 40, .inl (fun _ => 0))), (q_2, .inl (cy 0, 40, .inl (fun _ => 0))), (q_3, .inl (cy 0, 40, .inl (fun _ => 0))), (q_4, .inl (cy 0, 40, .inl (fun _ => 0))), (q_5, .inl (cy 0, 40, .inl (fun _ => 0))), (q_6, .inl (cy 0, 40, .inl (fun _ => 0))), (q_7, .inl (cy 0, 40, .inl (fun _ => 0))), (q_8, .inl (cy 0, 40, .inl (fun _ => 0))), (q_9, .inl (cy 0, 320, .inl (fun _ => 0))), (q_10, .inl (cy 0, 320, .inl (fun _ => 0)))] := hD.sub [0, 1, 2, 3, 4, 5, 6, 7, 8, 9, 10] (by decide) rfl
  have hpost : True := by
    trivial
  exact W.vret hx hb hr (fun t9 ht hW => ⟨⟨(q_1, q_2, q_3, q_4, q_5, q_6, q_7, q_8, q_9, q_10), rfl, hpost, by rw [ht]; exact hP9, va_K.moved hW.alike hK, hD9⟩, hS.F ht⟩) hS.2.2 dX0_init_86

set_option maxHeartbeats 4000000 in
set_option maxRecDepth 100000 in
theorem c_X4_init (l : Launch) (dC : Nat → ClassId) (dI : Nat → Nat → Nat) (cy : Nat → ClassId) (qa : Nat) (sz : Nat)  : Met l yX4_init wsX4_init ({ frames := 1, cells := 1, slots := 18, locals := 21 }) (va_Pc [.ref qa] (fun U => U.heap.size = sz ∧ va_P (dC, dI) vwCl [(qa, .inr (4, [.null]))] U.heap ∧ va_K (dC, dI) vwCl (tyL cy) U ∧ va_D (fun _ => True) [(qa, .inr (4, [.null]))])) (va_Qv (S := Nat × (Nat → Int32)) (fun u => match u with | (q0, f2) => agr f2 dPl) (fun u => match u with | (q0, f2) => fun t => va_P (dC, dI) vwCl [(qa, .inr (4, [.ref q0])), (q0, .inl (cy 0, 18, .inl f2))] t.heap ∧ va_K (dC, dI) vwCl (tyL cy) t ∧ va_D (va_A [(qa, .inr (4, [.null]))] sz) [(qa, .inr (4, [.ref q0])), (q0, .inl (cy 0, 18, .inl f2))]) (va_A [(qa, .inr (4, [.null]))] sz)) 1 18 (va_A [(qa, .inr (4, [.null]))] sz) := by
  refine Met.ofW (cc := cX4_init) (maxL := 1) (ret := none) (by decide) rfl ?_
  intro pp ee ss mm args below meth cc0 s₁ B hml hv
  obtain ⟨rfl, hsz, hP, hK, hD0⟩ := hv
  have hx := B.exec
  have hb := B.bytes
  have hr := B.returns
  have hts := atoms_spec (ws := wsX4_init) B.pre
  have hown : ss.vm.findClass RX4 = some mm.cls := findClass_of_methodNamed B.named
  have hlocks := B.notSynchronized
  have hin : meth.name = "<init>" := (name_of_methodNamed B.named B.method).1
  have hL0 := hts (.methodLink RX4 3 objectInit) (by decide +kernel)
  have hL1 := hts (.instanceMethod objectInit) (by decide +kernel)
  have hL2 := hts (.arrayClass .int) (by decide +kernel)
  have hL3 := hts (.fieldLink RX4 9 "HereLived$RuleBook" "told" "[I") (by decide +kernel)
  have hiX4 : ∀ w ∈ wsX40, w ∈ wsX4_init := by decide +kernel
  subst hsz
  have hD := hD0.self (sz := ss.heap.size)
  generalize hAe : va_A [(qa, .inr (4, [.null]))] ss.heap.size = A at hD ⊢
  have hA : ∀ q : Nat, ss.heap.size ≤ q → A q := fun q h => by rw [← hAe]; exact Or.inr h
  have hS : va_S A ss.heap ss.heap [] := va_S.rf
  have hP : va_P (dC, dI) vwCl [(qa, .inr (4, [.null]))] ss.heap := hP
  have hl := lv_entry ([.ref qa]) (n := 1) (Nat.le_of_ble_eq_true rfl)
  rw [lg_entry_eq]
  generalize (lg_sl ([.ref qa]) ++ List.replicate (1 - (lg_sl ([.ref qa])).length) Slot.unset).toArray = ls at hl ⊢
  have hl : lv_has ls 1 [(0, .ref qa)] := hl
  refine bw_Q (fun Q hQ => ?_)
  refine bw_H0 (fun H locs eH eL => ?_)
  have hS : va_S A ss.heap H locs := by rw [eH, eL]; exact hS
  have hP : va_P (dC, dI) vwCl [(qa, .inr (4, [.null]))] H := by rw [eH]; exact hP
  change W pp l ee { frames := 1, cells := 1, slots := 18, locals := 21 } ss mm _ below meth cc0 H locs 0 0 Q (F0 mm 0 ls [])
  refine lv_aload_n hx hb dX4_init_0 rfl (lv_at hl 0 rfl) ?_
  refine W.objInit hx hb hown hL0 hL1 (hts _ (List.mem_of_getElem? (i := 3) rfl)) rfl (by rw [hml]; exact hl.1) rfl dX4_init_1 (Nat.le_of_ble_eq_true rfl) (Nat.le_of_ble_eq_true rfl) ?_
  refine W.eq (g2 := F0 mm 4 ls []) rfl ?_
  refine lv_aload_n hx hb dX4_init_4 rfl (lv_at hl 0 rfl) ?_
  refine lv_bipush (v := 18) hx hb dX4_init_5 (by decide) ?_
  refine va_newa (atype := .int) (ty := .int) (N' := 18) (a0 := (18, .inl (fun _ => 0))) hx hb hL2 rfl hK hP hD hS hA (newa_I 18) (by decide +kernel) (by decide +kernel) (by decide +kernel) (by decide +kernel) (by decide +kernel) dX4_init_7 (fun q_1 cA9 H hK9 hP hD hS => ?_)
  obtain rfl : cA9 = cy 0 := bw_cy hK hK9 0 rfl rfl
  have hP : va_P (dC, dI) vwCl [(qa, .inr (4, [.null])), (q_1, .inl (cy 0, 18, .inl (fun _ => 0)))] H := hP
  have hD : va_D A [(qa, .inr (4, [.null])), (q_1, .inl (cy 0, 18, .inl (fun _ => 0)))] := hD
  refine va_putF (D := (dC, dI)) (ci := 4) (v := .ref q_1) (ty := (tyX4 0)) (C := RX4) (T := TX4) (N := 1) hx hb hts hiX4 tyX4 tyX4_ok nmX4 hown hK hP hD hS 0 rfl rfl 0 (by decide) hL3 (fun _ h9 => h9) rfl hin rfl (by decide +kernel) rfl rfl (Nat.le_of_ble_eq_true rfl) dX4_init_9 (fun H locs hP hD hS => ?_)
  have hP : va_P (dC, dI) vwCl [(qa, .inr (4, [.ref q_1])), (q_1, .inl (cy 0, 18, .inl (fun _ => 0)))] H := hP
  have hD : va_D A [(qa, .inr (4, [.ref q_1])), (q_1, .inl (cy 0, 18, .inl (fun _ => 0)))] := hD
  refine lv_aload_n hx hb dX4_init_12 rfl (lv_at hl 0 rfl) ?_
  have hPc : va_P (dC, dI) vwCl [(qa, .inr (4, [.ref q_1])), (q_1, .inl (cy 0, 18, .inl (fun _ => 0)))] H := hP.sub [0, 1] rfl
  have hDc : va_D A [(qa, .inr (4, [.ref q_1])), (q_1, .inl (cy 0, 18, .inl (fun _ => 0)))] := hD.sub [0, 1] (by decide) rfl
  have hFc := va_free (wc := [(qa, .inr (4, [.ref q_1])), (q_1, .inl (cy 0, 18, .inl (fun _ => 0)))]) hD hS hA [0, 1] rfl
  refine va_callv (va_runV (As := []) (rest := []) ⟨hx, hb, hml, hown, hts⟩ (c_X4_tellNothing l dC dI cy qa q_1 (fun _ => 0) H.size) (cwV 0 hts gX4_init_X4_tellNothing rfl rfl rfl (by decide +kernel) ⟨Nat.le_of_ble_eq_true rfl, Nat.le_of_ble_eq_true rfl⟩) ⟨fun a U g mk q => by obtain ⟨q0, q1, qP, qK, qD⟩ := q; exact ⟨q0, q1, qP, va_K.moved (u := U) (U := U.calling g mk a) (Vm.Alike.refl U.vm) qK, qD⟩, va_recv hK hPc (ci := 4) (q0 := 0) rfl rfl, fun U hU hW => ⟨rfl, by rw [hU], by rw [hU]; exact hPc, va_K.moved hW.alike hK, hDc.weaken (fun _ _ _ _ => trivial)⟩⟩ rfl rfl hl.1 rfl (lv_room (Nat.le_of_ble_eq_true rfl)) dX4_init_13 ⟨by decide +kernel, by decide +kernel⟩) hS (fun q _ h => hFc q h) hFc (fun u t9 H1 locs ht hvm hw hB hz1 hk1 hS => ?_)
  obtain ⟨f2_2, rfl⟩ : ∃ z, z = u := ⟨_, rfl⟩
  have htn9 := hw
  try dsimp only at htn9
  obtain ⟨hP1, hK1, hD1⟩ := hB
  rw [ht] at hP1
  obtain ⟨hP, hD⟩ := va_join (wr := []) (w1 := [(qa, .inr (4, [.ref q_1])), (q_1, .inl (cy 0, 18, .inl f2_2))]) hP hD [0, 1] [] rfl rfl (by decide) (by decide) hk1 hFc hP1 hD1
  generalize H1 = H at hP hS ⊢
  have hP : va_P (dC, dI) vwCl [(qa, .inr (4, [.ref q_1])), (q_1, .inl (cy 0, 18, .inl f2_2))] H := hP.sub [0, 1] rfl
  have hD : va_D A [(qa, .inr (4, [.ref q_1])), (q_1, .inl (cy 0, 18, .inl f2_2))] := hD.sub [0, 1] (by decide) rfl
  refine bw_Qe hQ ?_
  have hP9 : va_P (dC, dI) vwCl [(qa, .inr (4, [.ref q_1])), (q_1, .inl (cy 0, 18, .inl f2_2))] H := hP.sub [0, 1] rfl
  have hD9 : va_D A [(qa, .inr (4, [.ref q_1])), (q_1, .inl (cy 0, 18, .inl f2_2))] := hD.sub [0, 1] (by decide) rfl
  have hpost : agr f2_2 dPl := by
    exact htn9
  exact W.vret hx hb hr (fun t9 ht hW => ⟨⟨(q_1, f2_2), rfl, hpost, by rw [ht]; exact hP9, va_K.moved hW.alike hK, hD9⟩, hS.F ht⟩) hS.2.2 dX4_init_16

set_option maxHeartbeats 4000000 in
set_option maxRecDepth 100000 in
theorem c_X7_init (l : Launch) (dC : Nat → ClassId) (dI : Nat → Nat → Nat) (cy : Nat → ClassId) (qa : Nat) (r1 : Nat) (r2 : Nat) (r3 : Nat) (sz : Nat)  : Met l yX7_init wsX7_init ({ frames := 1, cells := 2, slots := 20, locals := 12 }) (va_Pc [.ref qa, .ref r1, .ref r2, .ref r3] (fun U => U.heap.size = sz ∧ va_P (dC, dI) vwCl [(qa, .inr (7, [.null, .null, .null, .null, .null, .int 0]))] U.heap ∧ va_K (dC, dI) vwCl (tyL cy) U ∧ va_D (fun _ => True) [(qa, .inr (7, [.null, .null, .null, .null, .null, .int 0]))])) (va_Qv (S := Nat × Nat) (fun u => match u with | (q3, q4) => True) (fun u => match u with | (q3, q4) => fun t => va_P (dC, dI) vwCl [(qa, .inr (7, [.ref r1, .ref r2, .ref r3, .ref q3, .ref q4, .int 0])), (q3, .inl (cy 1, 10, .inr (.inl (fun _ => 0)))), (q4, .inl (cy 1, 10, .inr (.inl (fun _ => 0))))] t.heap ∧ va_K (dC, dI) vwCl (tyL cy) t ∧ va_D (va_A [(qa, .inr (7, [.null, .null, .null, .null, .null, .int 0]))] sz) [(qa, .inr (7, [.ref r1, .ref r2, .ref r3, .ref q3, .ref q4, .int 0])), (q3, .inl (cy 1, 10, .inr (.inl (fun _ => 0)))), (q4, .inl (cy 1, 10, .inr (.inl (fun _ => 0))))]) (va_A [(qa, .inr (7, [.null, .null, .null, .null, .null, .int 0]))] sz)) 2 20 (va_A [(qa, .inr (7, [.null, .null, .null, .null, .null, .int 0]))] sz) := by
  refine Met.ofW (cc := cX7_init) (maxL := 4) (ret := none) (by decide) rfl ?_
  intro pp ee ss mm args below meth cc0 s₁ B hml hv
  obtain ⟨rfl, hsz, hP, hK, hD0⟩ := hv
  have hx := B.exec
  have hb := B.bytes
  have hr := B.returns
  have hts := atoms_spec (ws := wsX7_init) B.pre
  have hown : ss.vm.findClass RX7 = some mm.cls := findClass_of_methodNamed B.named
  have hlocks := B.notSynchronized
  have hin : meth.name = "<init>" := (name_of_methodNamed B.named B.method).1
  have hL0 := hts (.methodLink RX7 3 objectInit) (by decide +kernel)
  have hL1 := hts (.instanceMethod objectInit) (by decide +kernel)
  have hL2 := hts (.fieldLink RX7 9 "HereLived$Stay" "sites" "LHereLived$Sites;") (by decide +kernel)
  have hL3 := hts (.fieldLink RX7 15 "HereLived$Stay" "people" "LHereLived$People;") (by decide +kernel)
  have hL4 := hts (.fieldLink RX7 19 "HereLived$Stay" "papers" "LHereLived$Papers;") (by decide +kernel)
  have hL5 := hts (.arrayClass .long) (by decide +kernel)
  have hL6 := hts (.fieldLink RX7 23 "HereLived$Stay" "sure" "[J") (by decide +kernel)
  have hL7 := hts (.fieldLink RX7 27 "HereLived$Stay" "maybe" "[J") (by decide +kernel)
  have hiX7 : ∀ w ∈ wsX70, w ∈ wsX7_init := by decide +kernel
  subst hsz
  have hD := hD0.self (sz := ss.heap.size)
  generalize hAe : va_A [(qa, .inr (7, [.null, .null, .null, .null, .null, .int 0]))] ss.heap.size = A at hD ⊢
  have hA : ∀ q : Nat, ss.heap.size ≤ q → A q := fun q h => by rw [← hAe]; exact Or.inr h
  have hS : va_S A ss.heap ss.heap [] := va_S.rf
  have hP : va_P (dC, dI) vwCl [(qa, .inr (7, [.null, .null, .null, .null, .null, .int 0]))] ss.heap := hP
  have hl := lv_entry ([.ref qa, .ref r1, .ref r2, .ref r3]) (n := 4) (Nat.le_of_ble_eq_true rfl)
  rw [lg_entry_eq]
  generalize (lg_sl ([.ref qa, .ref r1, .ref r2, .ref r3]) ++ List.replicate (4 - (lg_sl ([.ref qa, .ref r1, .ref r2, .ref r3])).length) Slot.unset).toArray = ls at hl ⊢
  have hl : lv_has ls 4 [(0, .ref qa), (1, .ref r1), (2, .ref r2), (3, .ref r3)] := hl
  refine bw_Q (fun Q hQ => ?_)
  refine bw_H0 (fun H locs eH eL => ?_)
  have hS : va_S A ss.heap H locs := by rw [eH, eL]; exact hS
  have hP : va_P (dC, dI) vwCl [(qa, .inr (7, [.null, .null, .null, .null, .null, .int 0]))] H := by rw [eH]; exact hP
  change W pp l ee { frames := 1, cells := 2, slots := 20, locals := 12 } ss mm _ below meth cc0 H locs 0 0 Q (F0 mm 0 ls [])
  refine lv_aload_n hx hb dX7_init_0 rfl (lv_at hl 0 rfl) ?_
  refine W.objInit hx hb hown hL0 hL1 (hts _ (List.mem_of_getElem? (i := 3) rfl)) rfl (by rw [hml]; exact hl.1) rfl dX7_init_1 (Nat.le_of_ble_eq_true rfl) (Nat.le_of_ble_eq_true rfl) ?_
  refine W.eq (g2 := F0 mm 4 ls []) rfl ?_
  refine lv_aload_n hx hb dX7_init_4 rfl (lv_at hl 0 rfl) ?_
  refine lv_aload_n hx hb dX7_init_5 rfl (lv_at hl 1 rfl) ?_
  refine va_putF (D := (dC, dI)) (ci := 7) (v := .ref r1) (ty := (tyX7 0)) (C := RX7) (T := TX7) (N := 6) hx hb hts hiX7 tyX7 tyX7_ok nmX7 hown hK hP hD hS 0 rfl rfl 0 (by decide) hL2 (fun _ h9 => h9) rfl hin rfl (by decide +kernel) rfl rfl (Nat.le_of_ble_eq_true rfl) dX7_init_6 (fun H locs hP hD hS => ?_)
  have hP : va_P (dC, dI) vwCl [(qa, .inr (7, [.ref r1, .null, .null, .null, .null, .int 0]))] H := hP
  have hD : va_D A [(qa, .inr (7, [.ref r1, .null, .null, .null, .null, .int 0]))] := hD
  refine lv_aload_n hx hb dX7_init_9 rfl (lv_at hl 0 rfl) ?_
  refine lv_aload_n hx hb dX7_init_10 rfl (lv_at hl 2 rfl) ?_
  refine va_putF (D := (dC, dI)) (ci := 7) (v := .ref r2) (ty := (tyX7 1)) (C := RX7) (T := TX7) (N := 6) hx hb hts hiX7 tyX7 tyX7_ok nmX7 hown hK hP hD hS 0 rfl rfl 1 (by decide) hL3 (fun _ h9 => h9) rfl hin rfl (by decide +kernel) rfl rfl (Nat.le_of_ble_eq_true rfl) dX7_init_11 (fun H locs hP hD hS => ?_)
  have hP : va_P (dC, dI) vwCl [(qa, .inr (7, [.ref r1, .ref r2, .null, .null, .null, .int 0]))] H := hP
  have hD : va_D A [(qa, .inr (7, [.ref r1, .ref r2, .null, .null, .null, .int 0]))] := hD
  refine lv_aload_n hx hb dX7_init_14 rfl (lv_at hl 0 rfl) ?_
  refine lv_aload_n hx hb dX7_init_15 rfl (lv_at hl 3 rfl) ?_
  refine va_putF (D := (dC, dI)) (ci := 7) (v := .ref r3) (ty := (tyX7 2)) (C := RX7) (T := TX7) (N := 6) hx hb hts hiX7 tyX7 tyX7_ok nmX7 hown hK hP hD hS 0 rfl rfl 2 (by decide) hL4 (fun _ h9 => h9) rfl hin rfl (by decide +kernel) rfl rfl (Nat.le_of_ble_eq_true rfl) dX7_init_16 (fun H locs hP hD hS => ?_)
  have hP : va_P (dC, dI) vwCl [(qa, .inr (7, [.ref r1, .ref r2, .ref r3, .null, .null, .int 0]))] H := hP
  have hD : va_D A [(qa, .inr (7, [.ref r1, .ref r2, .ref r3, .null, .null, .int 0]))] := hD
  refine lv_aload_n hx hb dX7_init_19 rfl (lv_at hl 0 rfl) ?_
  refine lv_bipush (v := 10) hx hb dX7_init_20 (by decide) ?_
  refine va_newa (atype := .long) (ty := .long) (N' := 10) (a0 := (10, .inr (.inl (fun _ => 0)))) hx hb hL5 rfl hK hP hD hS hA (newa_J 10) (by decide +kernel) (by decide +kernel) (by decide +kernel) (by decide +kernel) (by decide +kernel) dX7_init_22 (fun q_1 cA9 H hK9 hP hD hS => ?_)
  obtain rfl : cA9 = cy 1 := bw_cy hK hK9 1 rfl rfl
  have hP : va_P (dC, dI) vwCl [(qa, .inr (7, [.ref r1, .ref r2, .ref r3, .null, .null, .int 0])), (q_1, .inl (cy 1, 10, .inr (.inl (fun _ => 0))))] H := hP
  have hD : va_D A [(qa, .inr (7, [.ref r1, .ref r2, .ref r3, .null, .null, .int 0])), (q_1, .inl (cy 1, 10, .inr (.inl (fun _ => 0))))] := hD
  refine va_putF (D := (dC, dI)) (ci := 7) (v := .ref q_1) (ty := (tyX7 3)) (C := RX7) (T := TX7) (N := 6) hx hb hts hiX7 tyX7 tyX7_ok nmX7 hown hK hP hD hS 0 rfl rfl 3 (by decide) hL6 (fun _ h9 => h9) rfl hin rfl (by decide +kernel) rfl rfl (Nat.le_of_ble_eq_true rfl) dX7_init_24 (fun H locs hP hD hS => ?_)
  have hP : va_P (dC, dI) vwCl [(qa, .inr (7, [.ref r1, .ref r2, .ref r3, .ref q_1, .null, .int 0])), (q_1, .inl (cy 1, 10, .inr (.inl (fun _ => 0))))] H := hP
  have hD : va_D A [(qa, .inr (7, [.ref r1, .ref r2, .ref r3, .ref q_1, .null, .int 0])), (q_1, .inl (cy 1, 10, .inr (.inl (fun _ => 0))))] := hD
  refine lv_aload_n hx hb dX7_init_27 rfl (lv_at hl 0 rfl) ?_
  refine lv_bipush (v := 10) hx hb dX7_init_28 (by decide) ?_
  refine va_newa (atype := .long) (ty := .long) (N' := 10) (a0 := (10, .inr (.inl (fun _ => 0)))) hx hb hL5 rfl hK hP hD hS hA (newa_J 10) (by decide +kernel) (by decide +kernel) (by decide +kernel) (by decide +kernel) (by decide +kernel) dX7_init_30 (fun q_2 cA9 H hK9 hP hD hS => ?_)
  obtain rfl : cA9 = cy 1 := bw_cy hK hK9 1 rfl rfl
  have hP : va_P (dC, dI) vwCl [(qa, .inr (7, [.ref r1, .ref r2, .ref r3, .ref q_1, .null, .int 0])), (q_1, .inl (cy 1, 10, .inr (.inl (fun _ => 0)))), (q_2, .inl (cy 1, 10, .inr (.inl (fun _ => 0))))] H := hP
  have hD : va_D A [(qa, .inr (7, [.ref r1, .ref r2, .ref r3, .ref q_1, .null, .int 0])), (q_1, .inl (cy 1, 10, .inr (.inl (fun _ => 0)))), (q_2, .inl (cy 1, 10, .inr (.inl (fun _ => 0))))] := hD
  refine va_putF (D := (dC, dI)) (ci := 7) (v := .ref q_2) (ty := (tyX7 4)) (C := RX7) (T := TX7) (N := 6) hx hb hts hiX7 tyX7 tyX7_ok nmX7 hown hK hP hD hS 0 rfl rfl 4 (by decide) hL7 (fun _ h9 => h9) rfl hin rfl (by decide +kernel) rfl rfl (Nat.le_of_ble_eq_true rfl) dX7_init_32 (fun H locs hP hD hS => ?_)
  have hP : va_P (dC, dI) vwCl [(qa, .inr (7, [.ref r1, .ref r2, .ref r3, .ref q_1, .ref q_2, .int 0])), (q_1, .inl (cy 1, 10, .inr (.inl (fun _ => 0)))), (q_2, .inl (cy 1, 10, .inr (.inl (fun _ => 0))))] H := hP
  have hD : va_D A [(qa, .inr (7, [.ref r1, .ref r2, .ref r3, .ref q_1, .ref q_2, .int 0])), (q_1, .inl (cy 1, 10, .inr (.inl (fun _ => 0)))), (q_2, .inl (cy 1, 10, .inr (.inl (fun _ => 0))))] := hD
  refine bw_Qe hQ ?_
  have hP9 : va_P (dC, dI) vwCl [(qa, .inr (7, [.ref r1, .ref r2, .ref r3, .ref q_1, .ref q_2, .int 0])), (q_1, .inl (cy 1, 10, .inr (.inl (fun _ => 0)))), (q_2, .inl (cy 1, 10, .inr (.inl (fun _ => 0))))] H := hP.sub [0, 1, 2] rfl
  have hD9 : va_D A [(qa, .inr (7, [.ref r1, .ref r2, .ref r3, .ref q_1, .ref q_2, .int 0])), (q_1, .inl (cy 1, 10, .inr (.inl (fun _ => 0)))), (q_2, .inl (cy 1, 10, .inr (.inl (fun _ => 0))))] := hD.sub [0, 1, 2] (by decide) rfl
  have hpost : True := by
    trivial
  exact W.vret hx hb hr (fun t9 ht hW => ⟨⟨(q_1, q_2), rfl, hpost, by rw [ht]; exact hP9, va_K.moved hW.alike hK, hD9⟩, hS.F ht⟩) hS.2.2 dX7_init_35

set_option maxHeartbeats 4000000 in
set_option maxRecDepth 100000 in
theorem c_X5_init (l : Launch) (dC : Nat → ClassId) (dI : Nat → Nat → Nat) (cy : Nat → ClassId) (qa : Nat) (r1 : Nat) (sz : Nat)  : Met l yX5_init wsX5_init ({ frames := 2, cells := 2, slots := 19, locals := 41 }) (va_Pc [.ref qa, .ref r1] (fun U => U.heap.size = sz ∧ va_P (dC, dI) vwCl [(qa, .inr (5, [.null, .int 0, .int 0, .int 0, .null, .int 0, .int 0, .int 0, .int 0, .int 0, .int 0, .int 0]))] U.heap ∧ va_K (dC, dI) vwCl (tyL cy) U ∧ va_D (fun _ => True) [(qa, .inr (5, [.null, .int 0, .int 0, .int 0, .null, .int 0, .int 0, .int 0, .int 0, .int 0, .int 0, .int 0]))])) (va_Qv (S := Nat × Nat × (Nat → Int32)) (fun u => match u with | (q0, q1, f2) => agr f2 dPl) (fun u => match u with | (q0, q1, f2) => fun t => va_P (dC, dI) vwCl [(qa, .inr (5, [.ref q0, .int 0, .int 0, .int (-1), .ref r1, .int 0, .int 0, .int 0, .int 0, .int 0, .int 0, .int 0])), (q0, .inr (4, [.ref q1])), (q1, .inl (cy 0, 18, .inl f2))] t.heap ∧ va_K (dC, dI) vwCl (tyL cy) t ∧ va_D (va_A [(qa, .inr (5, [.null, .int 0, .int 0, .int 0, .null, .int 0, .int 0, .int 0, .int 0, .int 0, .int 0, .int 0]))] sz) [(qa, .inr (5, [.ref q0, .int 0, .int 0, .int (-1), .ref r1, .int 0, .int 0, .int 0, .int 0, .int 0, .int 0, .int 0])), (q0, .inr (4, [.ref q1])), (q1, .inl (cy 0, 18, .inl f2))]) (va_A [(qa, .inr (5, [.null, .int 0, .int 0, .int 0, .null, .int 0, .int 0, .int 0, .int 0, .int 0, .int 0, .int 0]))] sz)) 2 19 (va_A [(qa, .inr (5, [.null, .int 0, .int 0, .int 0, .null, .int 0, .int 0, .int 0, .int 0, .int 0, .int 0, .int 0]))] sz) := by
  refine Met.ofW (cc := cX5_init) (maxL := 2) (ret := none) (by decide) rfl ?_
  intro pp ee ss mm args below meth cc0 s₁ B hml hv
  obtain ⟨rfl, hsz, hP, hK, hD0⟩ := hv
  have hx := B.exec
  have hb := B.bytes
  have hr := B.returns
  have hts := atoms_spec (ws := wsX5_init) B.pre
  have hown : ss.vm.findClass RX5 = some mm.cls := findClass_of_methodNamed B.named
  have hlocks := B.notSynchronized
  have hin : meth.name = "<init>" := (name_of_methodNamed B.named B.method).1
  have hL0 := hts (.methodLink RX5 3 objectInit) (by decide +kernel)
  have hL1 := hts (.instanceMethod objectInit) (by decide +kernel)
  have hL2 := hts (.fieldLink RX5 9 "HereLived$RuleReader" "tape" "LHereLived$Tape;") (by decide +kernel)
  have hL3 := hts (.classLink RX5 15 RX4) (by decide +kernel)
  have hL4 := hts (.instantiable RX4 1) (by decide +kernel)
  have hL5 := hts (.initialized RX4) (by decide +kernel)
  have hL6 := hts (.methodLink RX5 17 yX4_init) (by decide +kernel)
  have hL7 := hts (.instanceMethod yX4_init) (by decide +kernel)
  have hL8 := hts (.fieldLink RX5 18 "HereLived$RuleReader" "draft" "LHereLived$RuleBook;") (by decide +kernel)
  have hL9 := hts (.fieldLink RX5 22 "HereLived$RuleReader" "faultKind" "I") (by decide +kernel)
  have hL10 := hts (.fieldLink RX5 26 "HereLived$RuleReader" "faultPlace" "I") (by decide +kernel)
  have hiX4 : ∀ w ∈ wsX40, w ∈ wsX5_init := by decide +kernel
  have hiX5 : ∀ w ∈ wsX50, w ∈ wsX5_init := by decide +kernel
  subst hsz
  have hD := hD0.self (sz := ss.heap.size)
  generalize hAe : va_A [(qa, .inr (5, [.null, .int 0, .int 0, .int 0, .null, .int 0, .int 0, .int 0, .int 0, .int 0, .int 0, .int 0]))] ss.heap.size = A at hD ⊢
  have hA : ∀ q : Nat, ss.heap.size ≤ q → A q := fun q h => by rw [← hAe]; exact Or.inr h
  have hS : va_S A ss.heap ss.heap [] := va_S.rf
  have hP : va_P (dC, dI) vwCl [(qa, .inr (5, [.null, .int 0, .int 0, .int 0, .null, .int 0, .int 0, .int 0, .int 0, .int 0, .int 0, .int 0]))] ss.heap := hP
  have hl := lv_entry ([.ref qa, .ref r1]) (n := 2) (Nat.le_of_ble_eq_true rfl)
  rw [lg_entry_eq]
  generalize (lg_sl ([.ref qa, .ref r1]) ++ List.replicate (2 - (lg_sl ([.ref qa, .ref r1])).length) Slot.unset).toArray = ls at hl ⊢
  have hl : lv_has ls 2 [(0, .ref qa), (1, .ref r1)] := hl
  refine bw_Q (fun Q hQ => ?_)
  refine bw_H0 (fun H locs eH eL => ?_)
  have hS : va_S A ss.heap H locs := by rw [eH, eL]; exact hS
  have hP : va_P (dC, dI) vwCl [(qa, .inr (5, [.null, .int 0, .int 0, .int 0, .null, .int 0, .int 0, .int 0, .int 0, .int 0, .int 0, .int 0]))] H := by rw [eH]; exact hP
  change W pp l ee { frames := 2, cells := 2, slots := 19, locals := 41 } ss mm _ below meth cc0 H locs 0 0 Q (F0 mm 0 ls [])
  refine lv_aload_n hx hb dX5_init_0 rfl (lv_at hl 0 rfl) ?_
  refine W.objInit hx hb hown hL0 hL1 (hts _ (List.mem_of_getElem? (i := 3) rfl)) rfl (by rw [hml]; exact hl.1) rfl dX5_init_1 (Nat.le_of_ble_eq_true rfl) (Nat.le_of_ble_eq_true rfl) ?_
  refine W.eq (g2 := F0 mm 4 ls []) rfl ?_
  refine lv_aload_n hx hb dX5_init_4 rfl (lv_at hl 0 rfl) ?_
  refine lv_aload_n hx hb dX5_init_5 rfl (lv_at hl 1 rfl) ?_
  refine va_putF (D := (dC, dI)) (ci := 5) (v := .ref r1) (ty := (tyX5 4)) (C := RX5) (T := TX5) (N := 12) hx hb hts hiX5 tyX5 tyX5_ok nmX5 hown hK hP hD hS 0 rfl rfl 4 (by decide) hL2 (fun _ h9 => h9) rfl hin rfl (by decide +kernel) rfl rfl (Nat.le_of_ble_eq_true rfl) dX5_init_6 (fun H locs hP hD hS => ?_)
  have hP : va_P (dC, dI) vwCl [(qa, .inr (5, [.null, .int 0, .int 0, .int 0, .ref r1, .int 0, .int 0, .int 0, .int 0, .int 0, .int 0, .int 0]))] H := hP
  have hD : va_D A [(qa, .inr (5, [.null, .int 0, .int 0, .int 0, .ref r1, .int 0, .int 0, .int 0, .int 0, .int 0, .int 0, .int 0]))] := hD
  refine lv_aload_n hx hb dX5_init_9 rfl (lv_at hl 0 rfl) ?_
  refine va_new (ci := 4) (fs := [.null]) (C := RX4) (T := TX4) (N := 1) hx hb hts hiX4 tyX4 tyX4_ok hown hL3 hL4 hL5 hK hP hD hS hA rfl (fun j hj => by rcases (show j = 0 by omega) with rfl <;> rfl) (by decide +kernel) (by decide +kernel) dX5_init_10 (fun q_1 H hP hD hS => ?_)
  have hP : va_P (dC, dI) vwCl [(qa, .inr (5, [.null, .int 0, .int 0, .int 0, .ref r1, .int 0, .int 0, .int 0, .int 0, .int 0, .int 0, .int 0])), (q_1, .inr (4, [.null]))] H := hP
  have hD : va_D A [(qa, .inr (5, [.null, .int 0, .int 0, .int 0, .ref r1, .int 0, .int 0, .int 0, .int 0, .int 0, .int 0, .int 0])), (q_1, .inr (4, [.null]))] := hD
  refine lv_dup hx hb dX5_init_13 rfl ?_
  have hPc : va_P (dC, dI) vwCl [(q_1, .inr (4, [.null]))] H := hP.sub [1] rfl
  have hDc : va_D A [(q_1, .inr (4, [.null]))] := hD.sub [1] (by decide) rfl
  have hFc := va_free (wc := [(q_1, .inr (4, [.null]))]) hD hS hA [1] rfl
  refine va_callv (va_runI (As := []) (rest := [.ref q_1, .ref qa]) ⟨hx, hb, hml, hown, hts⟩ (c_X4_init l dC dI cy q_1 H.size) (cwI 0 hts gX5_init_X4_init rfl rfl rfl hL5 hL6 hL7 rfl (by decide +kernel) ⟨Nat.le_of_ble_eq_true rfl, Nat.le_of_ble_eq_true rfl⟩) ⟨fun a U g mk q => by obtain ⟨q0, q1, qP, qK, qD⟩ := q; exact ⟨q0, q1, qP, va_K.moved (u := U) (U := U.calling g mk a) (Vm.Alike.refl U.vm) qK, qD⟩, fun U hU hW => ⟨rfl, by rw [hU], by rw [hU]; exact hPc, va_K.moved hW.alike hK, hDc.weaken (fun _ _ _ _ => trivial)⟩⟩ rfl rfl hl.1 rfl (lv_room (Nat.le_of_ble_eq_true rfl)) dX5_init_14 ⟨by decide +kernel, by decide +kernel⟩) hS (fun q _ h => hFc q h) hFc (fun u t9 H1 locs ht hvm hw hB hz1 hk1 hS => ?_)
  obtain ⟨q0_2, f2_3⟩ := u
  have hb9 := hw
  try dsimp only at hb9
  obtain ⟨hP1, hK1, hD1⟩ := hB
  rw [ht] at hP1
  obtain ⟨hP, hD⟩ := va_join (wr := [(qa, .inr (5, [.null, .int 0, .int 0, .int 0, .ref r1, .int 0, .int 0, .int 0, .int 0, .int 0, .int 0, .int 0]))]) (w1 := [(q_1, .inr (4, [.ref q0_2])), (q0_2, .inl (cy 0, 18, .inl f2_3))]) hP hD [1] [0] rfl rfl (by decide) (by decide) hk1 hFc hP1 hD1
  generalize H1 = H at hP hS ⊢
  have hP : va_P (dC, dI) vwCl [(qa, .inr (5, [.null, .int 0, .int 0, .int 0, .ref r1, .int 0, .int 0, .int 0, .int 0, .int 0, .int 0, .int 0])), (q_1, .inr (4, [.ref q0_2])), (q0_2, .inl (cy 0, 18, .inl f2_3))] H := hP.sub [0, 1, 2] rfl
  have hD : va_D A [(qa, .inr (5, [.null, .int 0, .int 0, .int 0, .ref r1, .int 0, .int 0, .int 0, .int 0, .int 0, .int 0, .int 0])), (q_1, .inr (4, [.ref q0_2])), (q0_2, .inl (cy 0, 18, .inl f2_3))] := hD.sub [0, 1, 2] (by decide) rfl
  refine va_putF (D := (dC, dI)) (ci := 5) (v := .ref q_1) (ty := (tyX5 0)) (C := RX5) (T := TX5) (N := 12) hx hb hts hiX5 tyX5 tyX5_ok nmX5 hown hK hP hD hS 0 rfl rfl 0 (by decide) hL8 (fun _ h9 => h9) rfl hin rfl (by decide +kernel) rfl rfl (Nat.le_of_ble_eq_true rfl) dX5_init_17 (fun H locs hP hD hS => ?_)
  have hP : va_P (dC, dI) vwCl [(qa, .inr (5, [.ref q_1, .int 0, .int 0, .int 0, .ref r1, .int 0, .int 0, .int 0, .int 0, .int 0, .int 0, .int 0])), (q_1, .inr (4, [.ref q0_2])), (q0_2, .inl (cy 0, 18, .inl f2_3))] H := hP
  have hD : va_D A [(qa, .inr (5, [.ref q_1, .int 0, .int 0, .int 0, .ref r1, .int 0, .int 0, .int 0, .int 0, .int 0, .int 0, .int 0])), (q_1, .inr (4, [.ref q0_2])), (q0_2, .inl (cy 0, 18, .inl f2_3))] := hD
  refine lv_aload_n hx hb dX5_init_20 rfl (lv_at hl 0 rfl) ?_
  refine lv_iconst (v := 0) hx hb dX5_init_21 (by decide) ?_
  refine va_put (D := (dC, dI)) (ci := 5) (v := .int 0) (ty := (tyX5 2)) (C := RX5) (T := TX5) (N := 12) hx hb hts hiX5 tyX5 tyX5_ok nmX5 hown hK hP hD hS 0 rfl rfl 2 (by decide) hL9 (fun _ h9 => h9) rfl (by decide +kernel) rfl rfl (Nat.le_of_ble_eq_true rfl) dX5_init_22 (fun H locs hP hD hS => ?_)
  have hP : va_P (dC, dI) vwCl [(qa, .inr (5, [.ref q_1, .int 0, .int 0, .int 0, .ref r1, .int 0, .int 0, .int 0, .int 0, .int 0, .int 0, .int 0])), (q_1, .inr (4, [.ref q0_2])), (q0_2, .inl (cy 0, 18, .inl f2_3))] H := hP
  have hD : va_D A [(qa, .inr (5, [.ref q_1, .int 0, .int 0, .int 0, .ref r1, .int 0, .int 0, .int 0, .int 0, .int 0, .int 0, .int 0])), (q_1, .inr (4, [.ref q0_2])), (q0_2, .inl (cy 0, 18, .inl f2_3))] := hD
  refine lv_aload_n hx hb dX5_init_25 rfl (lv_at hl 0 rfl) ?_
  refine lv_iconst (v := (-1)) hx hb dX5_init_26 (by decide) ?_
  refine va_put (D := (dC, dI)) (ci := 5) (v := .int (-1)) (ty := (tyX5 3)) (C := RX5) (T := TX5) (N := 12) hx hb hts hiX5 tyX5 tyX5_ok nmX5 hown hK hP hD hS 0 rfl rfl 3 (by decide) hL10 (fun _ h9 => h9) rfl (by decide +kernel) rfl rfl (Nat.le_of_ble_eq_true rfl) dX5_init_27 (fun H locs hP hD hS => ?_)
  have hP : va_P (dC, dI) vwCl [(qa, .inr (5, [.ref q_1, .int 0, .int 0, .int (-1), .ref r1, .int 0, .int 0, .int 0, .int 0, .int 0, .int 0, .int 0])), (q_1, .inr (4, [.ref q0_2])), (q0_2, .inl (cy 0, 18, .inl f2_3))] H := hP
  have hD : va_D A [(qa, .inr (5, [.ref q_1, .int 0, .int 0, .int (-1), .ref r1, .int 0, .int 0, .int 0, .int 0, .int 0, .int 0, .int 0])), (q_1, .inr (4, [.ref q0_2])), (q0_2, .inl (cy 0, 18, .inl f2_3))] := hD
  refine bw_Qe hQ ?_
  have hP9 : va_P (dC, dI) vwCl [(qa, .inr (5, [.ref q_1, .int 0, .int 0, .int (-1), .ref r1, .int 0, .int 0, .int 0, .int 0, .int 0, .int 0, .int 0])), (q_1, .inr (4, [.ref q0_2])), (q0_2, .inl (cy 0, 18, .inl f2_3))] H := hP.sub [0, 1, 2] rfl
  have hD9 : va_D A [(qa, .inr (5, [.ref q_1, .int 0, .int 0, .int (-1), .ref r1, .int 0, .int 0, .int 0, .int 0, .int 0, .int 0, .int 0])), (q_1, .inr (4, [.ref q0_2])), (q0_2, .inl (cy 0, 18, .inl f2_3))] := hD.sub [0, 1, 2] (by decide) rfl
  have hpost : agr f2_3 dPl := by
    exact hb9
  exact W.vret hx hb hr (fun t9 ht hW => ⟨⟨(q_1, q0_2, f2_3), rfl, hpost, by rw [ht]; exact hP9, va_K.moved hW.alike hK, hD9⟩, hS.F ht⟩) hS.2.2 dX5_init_30

/-! Throwable, Exception: names, words, decode rows -/
def RT1 : String := "java/lang/Throwable"
def RE1 : String := "java/lang/Exception"
def yT1 : MethodName := ⟨RT1, "<init>", "(Ljava/lang/String;Ljava/lang/Throwable;ZZ)V"⟩
def yE1 : MethodName := ⟨RE1, "<init>", "(Ljava/lang/String;Ljava/lang/Throwable;ZZ)V"⟩
abbrev cT1 : ByteArray := prog_23_method_5_code
abbrev cE1 : ByteArray := prog_15_method_5_code
def wsT1 : List Cond := .code yT1 cT1 5 none :: ([.methodLink RT1 1 objectInit, .instanceMethod objectInit, .code objectInit object_method_1_code 1 none, .initialized RT1, .fieldLink RT1 7 "java/lang/Throwable" "cause" "Ljava/lang/Throwable;", .fieldLink RT1 13 "java/lang/Throwable" "UNASSIGNED_STACK" "[Ljava/lang/StackTraceElement;", .fieldLink RT1 17 "java/lang/Throwable" "stackTrace" "[Ljava/lang/StackTraceElement;", .fieldLink RT1 20 "java/lang/Throwable" "SUPPRESSED_SENTINEL" "Ljava/util/List;", .fieldLink RT1 24 "java/lang/Throwable" "suppressedExceptions" "Ljava/util/List;", .fieldLink RT1 31 "java/lang/Throwable" "detailMessage" "Ljava/lang/String;"] ++ wsX110)
def wsE1 : List Cond := .code yE1 cE1 5 none :: ([.methodLink RE1 16 yT1, .instanceMethod yT1, .initialized RT1, .initialized RE1] ++ wsT1)
def wsS1 : List Cond := .code yX11_init cX11_init 1 none :: ([.methodLink RX11 1 yE1, .instanceMethod yE1, .initialized RE1, .initialized RX11] ++ wsE1)
theorem tE1_init_T1_init : GoodIn wsE1 wsT1 := goodIn_sub (fun w h => List.mem_cons_of_mem _ (List.mem_append_right _ h)) (by decide +kernel)
theorem tX11_init_E1_init : GoodIn wsS1 wsE1 := goodIn_sub (fun w h => List.mem_cons_of_mem _ (List.mem_append_right _ h)) (by decide +kernel)
theorem dT1_init_0 : decode cT1 0 = .ok (.aload_n 0, 1) := by decide +kernel
theorem dT1_init_1 : decode cT1 1 = .ok (.invokespecial 1, 3) := by decide +kernel
theorem dT1_init_4 : decode cT1 4 = .ok (.aload_n 0, 1) := by decide +kernel
theorem dT1_init_5 : decode cT1 5 = .ok (.aload_n 0, 1) := by decide +kernel
theorem dT1_init_6 : decode cT1 6 = .ok (.putfield 7, 3) := by decide +kernel
theorem dT1_init_9 : decode cT1 9 = .ok (.aload_n 0, 1) := by decide +kernel
theorem dT1_init_10 : decode cT1 10 = .ok (.getstatic 13, 3) := by decide +kernel
theorem dT1_init_13 : decode cT1 13 = .ok (.putfield 17, 3) := by decide +kernel
theorem dT1_init_16 : decode cT1 16 = .ok (.aload_n 0, 1) := by decide +kernel
theorem dT1_init_17 : decode cT1 17 = .ok (.getstatic 20, 3) := by decide +kernel
theorem dT1_init_20 : decode cT1 20 = .ok (.putfield 24, 3) := by decide +kernel
theorem dT1_init_23 : decode cT1 23 = .ok (.iload 4, 2) := by decide +kernel
theorem dT1_init_25 : decode cT1 25 = .ok (.ifCond .eq 11, 3) := by decide +kernel
theorem dT1_init_36 : decode cT1 36 = .ok (.aload_n 0, 1) := by decide +kernel
theorem dT1_init_37 : decode cT1 37 = .ok (.aconst_null, 1) := by decide +kernel
theorem dT1_init_38 : decode cT1 38 = .ok (.putfield 17, 3) := by decide +kernel
theorem dT1_init_41 : decode cT1 41 = .ok (.aload_n 0, 1) := by decide +kernel
theorem dT1_init_42 : decode cT1 42 = .ok (.aload_n 1, 1) := by decide +kernel
theorem dT1_init_43 : decode cT1 43 = .ok (.putfield 31, 3) := by decide +kernel
theorem dT1_init_46 : decode cT1 46 = .ok (.aload_n 0, 1) := by decide +kernel
theorem dT1_init_47 : decode cT1 47 = .ok (.aload_n 2, 1) := by decide +kernel
theorem dT1_init_48 : decode cT1 48 = .ok (.putfield 7, 3) := by decide +kernel
theorem dT1_init_51 : decode cT1 51 = .ok (.iload_n 3, 1) := by decide +kernel
theorem dT1_init_52 : decode cT1 52 = .ok (.ifCond .ne 8, 3) := by decide +kernel
theorem dT1_init_55 : decode cT1 55 = .ok (.aload_n 0, 1) := by decide +kernel
theorem dT1_init_56 : decode cT1 56 = .ok (.aconst_null, 1) := by decide +kernel
theorem dT1_init_57 : decode cT1 57 = .ok (.putfield 24, 3) := by decide +kernel
theorem dT1_init_60 : decode cT1 60 = .ok (.return_, 1) := by decide +kernel
theorem dE1_init_0 : decode cE1 0 = .ok (.aload_n 0, 1) := by decide +kernel
theorem dE1_init_1 : decode cE1 1 = .ok (.aload_n 1, 1) := by decide +kernel
theorem dE1_init_2 : decode cE1 2 = .ok (.aload_n 2, 1) := by decide +kernel
theorem dE1_init_3 : decode cE1 3 = .ok (.iload_n 3, 1) := by decide +kernel
theorem dE1_init_4 : decode cE1 4 = .ok (.iload 4, 2) := by decide +kernel
theorem dE1_init_6 : decode cE1 6 = .ok (.invokespecial 16, 3) := by decide +kernel
theorem dE1_init_9 : decode cE1 9 = .ok (.return_, 1) := by decide +kernel
set_option maxHeartbeats 4000000 in
set_option maxRecDepth 100000 in
theorem c_T1_init (l : Launch) (dC : Nat → ClassId) (dI : Nat → Nat → Nat) (cy : Nat → ClassId) (us1 us2 : Value) (qa : Nat) (xq0 : Value) (xq1 : Value) (xq2 : Value) (xq3 : Value) (xq4 : Value) (xq5 : Value) (sz : Nat)  : Met l yT1 wsT1 ({ frames := 1, cells := 0, slots := 0, locals := 12 }) (va_Pc [.ref qa, .null, .null, .int 0, .int 0] (fun U => U.heap.size = sz ∧ va_P (dC, dI) vwCl [(qa, .inr (11, [xq0, xq1, xq2, xq3, xq4, xq5]))] U.heap ∧ va_K (dC, dI) vwCl (tyL cy) U ∧ va_D (fun _ => True) [(qa, .inr (11, [xq0, xq1, xq2, xq3, xq4, xq5]))] ∧ tW us1 us2 (va_A [(qa, .inr (11, [xq0, xq1, xq2, xq3, xq4, xq5]))] sz) U U.heap)) (va_Qv (S := Unit) (fun _ => True) (fun _ => fun t => va_P (dC, dI) vwCl [(qa, .inr (11, [.null, .null, .null, .null, xq4, xq5]))] t.heap ∧ va_K (dC, dI) vwCl (tyL cy) t ∧ va_D (va_A [(qa, .inr (11, [xq0, xq1, xq2, xq3, xq4, xq5]))] sz) [(qa, .inr (11, [.null, .null, .null, .null, xq4, xq5]))]) (va_A [(qa, .inr (11, [xq0, xq1, xq2, xq3, xq4, xq5]))] sz)) 0 0 (va_A [(qa, .inr (11, [xq0, xq1, xq2, xq3, xq4, xq5]))] sz) := by
  refine Met.ofW (cc := cT1) (maxL := 5) (ret := none) (by decide) rfl ?_
  intro pp ee ss mm args below meth cc0 s₁ B hml hv
  obtain ⟨rfl, hsz, hP, hK, hD0, hE⟩ := hv
  have hx := B.exec
  have hb := B.bytes
  have hr := B.returns
  have hts := atoms_spec (ws := wsT1) B.pre
  have hown : ss.vm.findClass RT1 = some mm.cls := findClass_of_methodNamed B.named
  have hlocks := B.notSynchronized
  have hin : meth.name = "<init>" := (name_of_methodNamed B.named B.method).1
  have hL0 := hts (.methodLink RT1 1 objectInit) (by decide +kernel)
  have hL1 := hts (.instanceMethod objectInit) (by decide +kernel)
  have hL2 := hts (.fieldLink RT1 7 "java/lang/Throwable" "cause" "Ljava/lang/Throwable;") (by decide +kernel)
  have hL3 := hts (.fieldLink RT1 13 "java/lang/Throwable" "UNASSIGNED_STACK" "[Ljava/lang/StackTraceElement;") (by decide +kernel)
  have hL4 := hts (.fieldLink RT1 17 "java/lang/Throwable" "stackTrace" "[Ljava/lang/StackTraceElement;") (by decide +kernel)
  have hL5 := hts (.fieldLink RT1 20 "java/lang/Throwable" "SUPPRESSED_SENTINEL" "Ljava/util/List;") (by decide +kernel)
  have hL6 := hts (.fieldLink RT1 24 "java/lang/Throwable" "suppressedExceptions" "Ljava/util/List;") (by decide +kernel)
  have hL7 := hts (.fieldLink RT1 31 "java/lang/Throwable" "detailMessage" "Ljava/lang/String;") (by decide +kernel)
  have hiX11 : ∀ w ∈ wsX110, w ∈ wsT1 := by decide +kernel
  subst hsz
  have hD := hD0.self (sz := ss.heap.size)
  generalize hAe : va_A [(qa, .inr (11, [xq0, xq1, xq2, xq3, xq4, xq5]))] ss.heap.size = A at hD hE ⊢
  have hA : ∀ q : Nat, ss.heap.size ≤ q → A q := fun q h => by rw [← hAe]; exact Or.inr h
  have hS : va_S A ss.heap ss.heap [] := va_S.rf
  have hP : va_P (dC, dI) vwCl [(qa, .inr (11, [xq0, xq1, xq2, xq3, xq4, xq5]))] ss.heap := hP
  have hl := lv_entry ([.ref qa, .null, .null, .int 0, .int 0]) (n := 5) (Nat.le_of_ble_eq_true rfl)
  rw [lg_entry_eq]
  generalize (lg_sl ([.ref qa, .null, .null, .int 0, .int 0]) ++ List.replicate (5 - (lg_sl ([.ref qa, .null, .null, .int 0, .int 0])).length) Slot.unset).toArray = ls at hl ⊢
  have hl : lv_has ls 5 [(0, .ref qa), (1, .null), (2, .null), (3, .int 0), (4, .int 0)] := hl
  refine bw_Q (fun Q hQ => ?_)
  refine bw_H0 (fun H locs eH eL => ?_)
  have hS : va_S A ss.heap H locs := by rw [eH, eL]; exact hS
  have hP : va_P (dC, dI) vwCl [(qa, .inr (11, [xq0, xq1, xq2, xq3, xq4, xq5]))] H := by rw [eH]; exact hP
  change W pp l ee { frames := 1, cells := 0, slots := 0, locals := 12 } ss mm _ below meth cc0 H locs 0 0 Q (F0 mm 0 ls [])
  refine lv_aload_n hx hb dT1_init_0 rfl (lv_at hl 0 rfl) ?_
  refine W.objInit hx hb hown hL0 hL1 (hts _ (List.mem_of_getElem? (i := 3) rfl)) rfl (by rw [hml]; exact hl.1) rfl dT1_init_1 (Nat.le_of_ble_eq_true rfl) (Nat.le_of_ble_eq_true rfl) ?_
  refine W.eq (g2 := F0 mm 4 ls []) rfl ?_
  refine lv_aload_n hx hb dT1_init_4 rfl (lv_at hl 0 rfl) ?_
  refine lv_aload_n hx hb dT1_init_5 rfl (lv_at hl 0 rfl) ?_
  refine va_put (D := (dC, dI)) (ci := 11) (v := .ref qa) (ty := (tyX11 0)) (C := RX11) (T := TX11) (N := 6) hx hb hts hiX11 tyX11 tyX11_ok nmX11 hown hK hP hD hS 0 rfl rfl 0 (by decide) hL2 (fun _ h9 => h9) rfl (by decide +kernel) rfl rfl (Nat.le_of_ble_eq_true rfl) dT1_init_6 (fun H locs hP hD hS => ?_)
  have hP : va_P (dC, dI) vwCl [(qa, .inr (11, [.ref qa, xq1, xq2, xq3, xq4, xq5]))] H := hP
  have hD : va_D A [(qa, .inr (11, [.ref qa, xq1, xq2, xq3, xq4, xq5]))] := hD
  refine lv_aload_n hx hb dT1_init_9 rfl (lv_at hl 0 rfl) ?_
  rcases hE.2.2.1 with e_us1 | ⟨t_us1, e_us1⟩
  · have hZ9 := hE.1
    rw [e_us1] at hZ9
    refine va_gets hx hb hZ9 hS hown hL3 (fun _ h9 => h9) dT1_init_10 ?_
    refine va_put (D := (dC, dI)) (ci := 11) (v := .null) (ty := (tyX11 1)) (C := RX11) (T := TX11) (N := 6) hx hb hts hiX11 tyX11 tyX11_ok nmX11 hown hK hP hD hS 0 rfl rfl 1 (by decide) hL4 (fun _ h9 => h9) rfl (by decide +kernel) rfl rfl (Nat.le_of_ble_eq_true rfl) dT1_init_13 (fun H locs hP hD hS => ?_)
    have hP : va_P (dC, dI) vwCl [(qa, .inr (11, [.ref qa, .null, xq2, xq3, xq4, xq5]))] H := hP
    have hD : va_D A [(qa, .inr (11, [.ref qa, .null, xq2, xq3, xq4, xq5]))] := hD
    refine lv_aload_n hx hb dT1_init_16 rfl (lv_at hl 0 rfl) ?_
    rcases hE.2.2.2 with e_us2 | ⟨t_us2, e_us2⟩
    · have hZ9 := hE.2.1
      rw [e_us2] at hZ9
      refine va_gets hx hb hZ9 hS hown hL5 (fun _ h9 => h9) dT1_init_17 ?_
      refine va_put (D := (dC, dI)) (ci := 11) (v := .null) (ty := (tyX11 2)) (C := RX11) (T := TX11) (N := 6) hx hb hts hiX11 tyX11 tyX11_ok nmX11 hown hK hP hD hS 0 rfl rfl 2 (by decide) hL6 (fun _ h9 => h9) rfl (by decide +kernel) rfl rfl (Nat.le_of_ble_eq_true rfl) dT1_init_20 (fun H locs hP hD hS => ?_)
      have hP : va_P (dC, dI) vwCl [(qa, .inr (11, [.ref qa, .null, .null, xq3, xq4, xq5]))] H := hP
      have hD : va_D A [(qa, .inr (11, [.ref qa, .null, .null, xq3, xq4, xq5]))] := hD
      refine lv_iload hx hb dT1_init_23 (lv_at hl 4 rfl) ?_
      refine bw_if_eq (tgt := 36) (a := 0) hx hb dT1_init_25 (by decide) rfl (fun c_1 => ?_) (fun c_1 => ?_)
      · skip
        refine lv_aload_n hx hb dT1_init_36 rfl (lv_at hl 0 rfl) ?_
        refine lv_null hx hb dT1_init_37 ?_
        refine va_put (D := (dC, dI)) (ci := 11) (v := .null) (ty := (tyX11 1)) (C := RX11) (T := TX11) (N := 6) hx hb hts hiX11 tyX11 tyX11_ok nmX11 hown hK hP hD hS 0 rfl rfl 1 (by decide) hL4 (fun _ h9 => h9) rfl (by decide +kernel) rfl rfl (Nat.le_of_ble_eq_true rfl) dT1_init_38 (fun H locs hP hD hS => ?_)
        have hP : va_P (dC, dI) vwCl [(qa, .inr (11, [.ref qa, .null, .null, xq3, xq4, xq5]))] H := hP
        have hD : va_D A [(qa, .inr (11, [.ref qa, .null, .null, xq3, xq4, xq5]))] := hD
        refine lv_aload_n hx hb dT1_init_41 rfl (lv_at hl 0 rfl) ?_
        refine lv_aload_nN hx hb dT1_init_42 rfl (lv_at hl 1 rfl) ?_
        refine va_put (D := (dC, dI)) (ci := 11) (v := .null) (ty := (tyX11 3)) (C := RX11) (T := TX11) (N := 6) hx hb hts hiX11 tyX11 tyX11_ok nmX11 hown hK hP hD hS 0 rfl rfl 3 (by decide) hL7 (fun _ h9 => h9) rfl (by decide +kernel) rfl rfl (Nat.le_of_ble_eq_true rfl) dT1_init_43 (fun H locs hP hD hS => ?_)
        have hP : va_P (dC, dI) vwCl [(qa, .inr (11, [.ref qa, .null, .null, .null, xq4, xq5]))] H := hP
        have hD : va_D A [(qa, .inr (11, [.ref qa, .null, .null, .null, xq4, xq5]))] := hD
        refine lv_aload_n hx hb dT1_init_46 rfl (lv_at hl 0 rfl) ?_
        refine lv_aload_nN hx hb dT1_init_47 rfl (lv_at hl 2 rfl) ?_
        refine va_put (D := (dC, dI)) (ci := 11) (v := .null) (ty := (tyX11 0)) (C := RX11) (T := TX11) (N := 6) hx hb hts hiX11 tyX11 tyX11_ok nmX11 hown hK hP hD hS 0 rfl rfl 0 (by decide) hL2 (fun _ h9 => h9) rfl (by decide +kernel) rfl rfl (Nat.le_of_ble_eq_true rfl) dT1_init_48 (fun H locs hP hD hS => ?_)
        have hP : va_P (dC, dI) vwCl [(qa, .inr (11, [.null, .null, .null, .null, xq4, xq5]))] H := hP
        have hD : va_D A [(qa, .inr (11, [.null, .null, .null, .null, xq4, xq5]))] := hD
        refine lv_iload_n hx hb dT1_init_51 rfl (lv_at hl 3 rfl) ?_
        refine bw_if_ne (tgt := 60) (a := 0) hx hb dT1_init_52 (by decide) rfl (fun c_2 => ?_) (fun c_2 => ?_)
        · exact absurd c_2 (by decide)
        · skip
          refine lv_aload_n hx hb dT1_init_55 rfl (lv_at hl 0 rfl) ?_
          refine lv_null hx hb dT1_init_56 ?_
          refine va_put (D := (dC, dI)) (ci := 11) (v := .null) (ty := (tyX11 2)) (C := RX11) (T := TX11) (N := 6) hx hb hts hiX11 tyX11 tyX11_ok nmX11 hown hK hP hD hS 0 rfl rfl 2 (by decide) hL6 (fun _ h9 => h9) rfl (by decide +kernel) rfl rfl (Nat.le_of_ble_eq_true rfl) dT1_init_57 (fun H locs hP hD hS => ?_)
          have hP : va_P (dC, dI) vwCl [(qa, .inr (11, [.null, .null, .null, .null, xq4, xq5]))] H := hP
          have hD : va_D A [(qa, .inr (11, [.null, .null, .null, .null, xq4, xq5]))] := hD
          refine bw_Qe hQ ?_
          have hP9 : va_P (dC, dI) vwCl [(qa, .inr (11, [.null, .null, .null, .null, xq4, xq5]))] H := hP.sub [0] rfl
          have hD9 : va_D A [(qa, .inr (11, [.null, .null, .null, .null, xq4, xq5]))] := hD.sub [0] (by decide) rfl
          have hpost : True := by
            trivial
          exact W.vret hx hb hr (fun t9 ht hW => ⟨⟨(), rfl, hpost, by rw [ht]; exact hP9, va_K.moved hW.alike hK, hD9⟩, hS.F ht⟩) hS.2.2 dT1_init_60
      · exact absurd c_1 (by decide)
    · have hZ9 := hE.2.1
      rw [e_us2] at hZ9
      refine va_gets hx hb hZ9 hS hown hL5 (fun _ h9 => h9) dT1_init_17 ?_
      refine va_put (D := (dC, dI)) (ci := 11) (v := .ref t_us2) (ty := (tyX11 2)) (C := RX11) (T := TX11) (N := 6) hx hb hts hiX11 tyX11 tyX11_ok nmX11 hown hK hP hD hS 0 rfl rfl 2 (by decide) hL6 (fun _ h9 => h9) rfl (by decide +kernel) rfl rfl (Nat.le_of_ble_eq_true rfl) dT1_init_20 (fun H locs hP hD hS => ?_)
      have hP : va_P (dC, dI) vwCl [(qa, .inr (11, [.ref qa, .null, .ref t_us2, xq3, xq4, xq5]))] H := hP
      have hD : va_D A [(qa, .inr (11, [.ref qa, .null, .ref t_us2, xq3, xq4, xq5]))] := hD
      refine lv_iload hx hb dT1_init_23 (lv_at hl 4 rfl) ?_
      refine bw_if_eq (tgt := 36) (a := 0) hx hb dT1_init_25 (by decide) rfl (fun c_3 => ?_) (fun c_3 => ?_)
      · skip
        refine lv_aload_n hx hb dT1_init_36 rfl (lv_at hl 0 rfl) ?_
        refine lv_null hx hb dT1_init_37 ?_
        refine va_put (D := (dC, dI)) (ci := 11) (v := .null) (ty := (tyX11 1)) (C := RX11) (T := TX11) (N := 6) hx hb hts hiX11 tyX11 tyX11_ok nmX11 hown hK hP hD hS 0 rfl rfl 1 (by decide) hL4 (fun _ h9 => h9) rfl (by decide +kernel) rfl rfl (Nat.le_of_ble_eq_true rfl) dT1_init_38 (fun H locs hP hD hS => ?_)
        have hP : va_P (dC, dI) vwCl [(qa, .inr (11, [.ref qa, .null, .ref t_us2, xq3, xq4, xq5]))] H := hP
        have hD : va_D A [(qa, .inr (11, [.ref qa, .null, .ref t_us2, xq3, xq4, xq5]))] := hD
        refine lv_aload_n hx hb dT1_init_41 rfl (lv_at hl 0 rfl) ?_
        refine lv_aload_nN hx hb dT1_init_42 rfl (lv_at hl 1 rfl) ?_
        refine va_put (D := (dC, dI)) (ci := 11) (v := .null) (ty := (tyX11 3)) (C := RX11) (T := TX11) (N := 6) hx hb hts hiX11 tyX11 tyX11_ok nmX11 hown hK hP hD hS 0 rfl rfl 3 (by decide) hL7 (fun _ h9 => h9) rfl (by decide +kernel) rfl rfl (Nat.le_of_ble_eq_true rfl) dT1_init_43 (fun H locs hP hD hS => ?_)
        have hP : va_P (dC, dI) vwCl [(qa, .inr (11, [.ref qa, .null, .ref t_us2, .null, xq4, xq5]))] H := hP
        have hD : va_D A [(qa, .inr (11, [.ref qa, .null, .ref t_us2, .null, xq4, xq5]))] := hD
        refine lv_aload_n hx hb dT1_init_46 rfl (lv_at hl 0 rfl) ?_
        refine lv_aload_nN hx hb dT1_init_47 rfl (lv_at hl 2 rfl) ?_
        refine va_put (D := (dC, dI)) (ci := 11) (v := .null) (ty := (tyX11 0)) (C := RX11) (T := TX11) (N := 6) hx hb hts hiX11 tyX11 tyX11_ok nmX11 hown hK hP hD hS 0 rfl rfl 0 (by decide) hL2 (fun _ h9 => h9) rfl (by decide +kernel) rfl rfl (Nat.le_of_ble_eq_true rfl) dT1_init_48 (fun H locs hP hD hS => ?_)
        have hP : va_P (dC, dI) vwCl [(qa, .inr (11, [.null, .null, .ref t_us2, .null, xq4, xq5]))] H := hP
        have hD : va_D A [(qa, .inr (11, [.null, .null, .ref t_us2, .null, xq4, xq5]))] := hD
        refine lv_iload_n hx hb dT1_init_51 rfl (lv_at hl 3 rfl) ?_
        refine bw_if_ne (tgt := 60) (a := 0) hx hb dT1_init_52 (by decide) rfl (fun c_4 => ?_) (fun c_4 => ?_)
        · exact absurd c_4 (by decide)
        · skip
          refine lv_aload_n hx hb dT1_init_55 rfl (lv_at hl 0 rfl) ?_
          refine lv_null hx hb dT1_init_56 ?_
          refine va_put (D := (dC, dI)) (ci := 11) (v := .null) (ty := (tyX11 2)) (C := RX11) (T := TX11) (N := 6) hx hb hts hiX11 tyX11 tyX11_ok nmX11 hown hK hP hD hS 0 rfl rfl 2 (by decide) hL6 (fun _ h9 => h9) rfl (by decide +kernel) rfl rfl (Nat.le_of_ble_eq_true rfl) dT1_init_57 (fun H locs hP hD hS => ?_)
          have hP : va_P (dC, dI) vwCl [(qa, .inr (11, [.null, .null, .null, .null, xq4, xq5]))] H := hP
          have hD : va_D A [(qa, .inr (11, [.null, .null, .null, .null, xq4, xq5]))] := hD
          refine bw_Qe hQ ?_
          have hP9 : va_P (dC, dI) vwCl [(qa, .inr (11, [.null, .null, .null, .null, xq4, xq5]))] H := hP.sub [0] rfl
          have hD9 : va_D A [(qa, .inr (11, [.null, .null, .null, .null, xq4, xq5]))] := hD.sub [0] (by decide) rfl
          have hpost : True := by
            trivial
          exact W.vret hx hb hr (fun t9 ht hW => ⟨⟨(), rfl, hpost, by rw [ht]; exact hP9, va_K.moved hW.alike hK, hD9⟩, hS.F ht⟩) hS.2.2 dT1_init_60
      · exact absurd c_3 (by decide)
  · have hZ9 := hE.1
    rw [e_us1] at hZ9
    refine va_gets hx hb hZ9 hS hown hL3 (fun _ h9 => h9) dT1_init_10 ?_
    refine va_put (D := (dC, dI)) (ci := 11) (v := .ref t_us1) (ty := (tyX11 1)) (C := RX11) (T := TX11) (N := 6) hx hb hts hiX11 tyX11 tyX11_ok nmX11 hown hK hP hD hS 0 rfl rfl 1 (by decide) hL4 (fun _ h9 => h9) rfl (by decide +kernel) rfl rfl (Nat.le_of_ble_eq_true rfl) dT1_init_13 (fun H locs hP hD hS => ?_)
    have hP : va_P (dC, dI) vwCl [(qa, .inr (11, [.ref qa, .ref t_us1, xq2, xq3, xq4, xq5]))] H := hP
    have hD : va_D A [(qa, .inr (11, [.ref qa, .ref t_us1, xq2, xq3, xq4, xq5]))] := hD
    refine lv_aload_n hx hb dT1_init_16 rfl (lv_at hl 0 rfl) ?_
    rcases hE.2.2.2 with e_us2 | ⟨t_us2, e_us2⟩
    · have hZ9 := hE.2.1
      rw [e_us2] at hZ9
      refine va_gets hx hb hZ9 hS hown hL5 (fun _ h9 => h9) dT1_init_17 ?_
      refine va_put (D := (dC, dI)) (ci := 11) (v := .null) (ty := (tyX11 2)) (C := RX11) (T := TX11) (N := 6) hx hb hts hiX11 tyX11 tyX11_ok nmX11 hown hK hP hD hS 0 rfl rfl 2 (by decide) hL6 (fun _ h9 => h9) rfl (by decide +kernel) rfl rfl (Nat.le_of_ble_eq_true rfl) dT1_init_20 (fun H locs hP hD hS => ?_)
      have hP : va_P (dC, dI) vwCl [(qa, .inr (11, [.ref qa, .ref t_us1, .null, xq3, xq4, xq5]))] H := hP
      have hD : va_D A [(qa, .inr (11, [.ref qa, .ref t_us1, .null, xq3, xq4, xq5]))] := hD
      refine lv_iload hx hb dT1_init_23 (lv_at hl 4 rfl) ?_
      refine bw_if_eq (tgt := 36) (a := 0) hx hb dT1_init_25 (by decide) rfl (fun c_5 => ?_) (fun c_5 => ?_)
      · skip
        refine lv_aload_n hx hb dT1_init_36 rfl (lv_at hl 0 rfl) ?_
        refine lv_null hx hb dT1_init_37 ?_
        refine va_put (D := (dC, dI)) (ci := 11) (v := .null) (ty := (tyX11 1)) (C := RX11) (T := TX11) (N := 6) hx hb hts hiX11 tyX11 tyX11_ok nmX11 hown hK hP hD hS 0 rfl rfl 1 (by decide) hL4 (fun _ h9 => h9) rfl (by decide +kernel) rfl rfl (Nat.le_of_ble_eq_true rfl) dT1_init_38 (fun H locs hP hD hS => ?_)
        have hP : va_P (dC, dI) vwCl [(qa, .inr (11, [.ref qa, .null, .null, xq3, xq4, xq5]))] H := hP
        have hD : va_D A [(qa, .inr (11, [.ref qa, .null, .null, xq3, xq4, xq5]))] := hD
        refine lv_aload_n hx hb dT1_init_41 rfl (lv_at hl 0 rfl) ?_
        refine lv_aload_nN hx hb dT1_init_42 rfl (lv_at hl 1 rfl) ?_
        refine va_put (D := (dC, dI)) (ci := 11) (v := .null) (ty := (tyX11 3)) (C := RX11) (T := TX11) (N := 6) hx hb hts hiX11 tyX11 tyX11_ok nmX11 hown hK hP hD hS 0 rfl rfl 3 (by decide) hL7 (fun _ h9 => h9) rfl (by decide +kernel) rfl rfl (Nat.le_of_ble_eq_true rfl) dT1_init_43 (fun H locs hP hD hS => ?_)
        have hP : va_P (dC, dI) vwCl [(qa, .inr (11, [.ref qa, .null, .null, .null, xq4, xq5]))] H := hP
        have hD : va_D A [(qa, .inr (11, [.ref qa, .null, .null, .null, xq4, xq5]))] := hD
        refine lv_aload_n hx hb dT1_init_46 rfl (lv_at hl 0 rfl) ?_
        refine lv_aload_nN hx hb dT1_init_47 rfl (lv_at hl 2 rfl) ?_
        refine va_put (D := (dC, dI)) (ci := 11) (v := .null) (ty := (tyX11 0)) (C := RX11) (T := TX11) (N := 6) hx hb hts hiX11 tyX11 tyX11_ok nmX11 hown hK hP hD hS 0 rfl rfl 0 (by decide) hL2 (fun _ h9 => h9) rfl (by decide +kernel) rfl rfl (Nat.le_of_ble_eq_true rfl) dT1_init_48 (fun H locs hP hD hS => ?_)
        have hP : va_P (dC, dI) vwCl [(qa, .inr (11, [.null, .null, .null, .null, xq4, xq5]))] H := hP
        have hD : va_D A [(qa, .inr (11, [.null, .null, .null, .null, xq4, xq5]))] := hD
        refine lv_iload_n hx hb dT1_init_51 rfl (lv_at hl 3 rfl) ?_
        refine bw_if_ne (tgt := 60) (a := 0) hx hb dT1_init_52 (by decide) rfl (fun c_6 => ?_) (fun c_6 => ?_)
        · exact absurd c_6 (by decide)
        · skip
          refine lv_aload_n hx hb dT1_init_55 rfl (lv_at hl 0 rfl) ?_
          refine lv_null hx hb dT1_init_56 ?_
          refine va_put (D := (dC, dI)) (ci := 11) (v := .null) (ty := (tyX11 2)) (C := RX11) (T := TX11) (N := 6) hx hb hts hiX11 tyX11 tyX11_ok nmX11 hown hK hP hD hS 0 rfl rfl 2 (by decide) hL6 (fun _ h9 => h9) rfl (by decide +kernel) rfl rfl (Nat.le_of_ble_eq_true rfl) dT1_init_57 (fun H locs hP hD hS => ?_)
          have hP : va_P (dC, dI) vwCl [(qa, .inr (11, [.null, .null, .null, .null, xq4, xq5]))] H := hP
          have hD : va_D A [(qa, .inr (11, [.null, .null, .null, .null, xq4, xq5]))] := hD
          refine bw_Qe hQ ?_
          have hP9 : va_P (dC, dI) vwCl [(qa, .inr (11, [.null, .null, .null, .null, xq4, xq5]))] H := hP.sub [0] rfl
          have hD9 : va_D A [(qa, .inr (11, [.null, .null, .null, .null, xq4, xq5]))] := hD.sub [0] (by decide) rfl
          have hpost : True := by
            trivial
          exact W.vret hx hb hr (fun t9 ht hW => ⟨⟨(), rfl, hpost, by rw [ht]; exact hP9, va_K.moved hW.alike hK, hD9⟩, hS.F ht⟩) hS.2.2 dT1_init_60
      · exact absurd c_5 (by decide)
    · have hZ9 := hE.2.1
      rw [e_us2] at hZ9
      refine va_gets hx hb hZ9 hS hown hL5 (fun _ h9 => h9) dT1_init_17 ?_
      refine va_put (D := (dC, dI)) (ci := 11) (v := .ref t_us2) (ty := (tyX11 2)) (C := RX11) (T := TX11) (N := 6) hx hb hts hiX11 tyX11 tyX11_ok nmX11 hown hK hP hD hS 0 rfl rfl 2 (by decide) hL6 (fun _ h9 => h9) rfl (by decide +kernel) rfl rfl (Nat.le_of_ble_eq_true rfl) dT1_init_20 (fun H locs hP hD hS => ?_)
      have hP : va_P (dC, dI) vwCl [(qa, .inr (11, [.ref qa, .ref t_us1, .ref t_us2, xq3, xq4, xq5]))] H := hP
      have hD : va_D A [(qa, .inr (11, [.ref qa, .ref t_us1, .ref t_us2, xq3, xq4, xq5]))] := hD
      refine lv_iload hx hb dT1_init_23 (lv_at hl 4 rfl) ?_
      refine bw_if_eq (tgt := 36) (a := 0) hx hb dT1_init_25 (by decide) rfl (fun c_7 => ?_) (fun c_7 => ?_)
      · skip
        refine lv_aload_n hx hb dT1_init_36 rfl (lv_at hl 0 rfl) ?_
        refine lv_null hx hb dT1_init_37 ?_
        refine va_put (D := (dC, dI)) (ci := 11) (v := .null) (ty := (tyX11 1)) (C := RX11) (T := TX11) (N := 6) hx hb hts hiX11 tyX11 tyX11_ok nmX11 hown hK hP hD hS 0 rfl rfl 1 (by decide) hL4 (fun _ h9 => h9) rfl (by decide +kernel) rfl rfl (Nat.le_of_ble_eq_true rfl) dT1_init_38 (fun H locs hP hD hS => ?_)
        have hP : va_P (dC, dI) vwCl [(qa, .inr (11, [.ref qa, .null, .ref t_us2, xq3, xq4, xq5]))] H := hP
        have hD : va_D A [(qa, .inr (11, [.ref qa, .null, .ref t_us2, xq3, xq4, xq5]))] := hD
        refine lv_aload_n hx hb dT1_init_41 rfl (lv_at hl 0 rfl) ?_
        refine lv_aload_nN hx hb dT1_init_42 rfl (lv_at hl 1 rfl) ?_
        refine va_put (D := (dC, dI)) (ci := 11) (v := .null) (ty := (tyX11 3)) (C := RX11) (T := TX11) (N := 6) hx hb hts hiX11 tyX11 tyX11_ok nmX11 hown hK hP hD hS 0 rfl rfl 3 (by decide) hL7 (fun _ h9 => h9) rfl (by decide +kernel) rfl rfl (Nat.le_of_ble_eq_true rfl) dT1_init_43 (fun H locs hP hD hS => ?_)
        have hP : va_P (dC, dI) vwCl [(qa, .inr (11, [.ref qa, .null, .ref t_us2, .null, xq4, xq5]))] H := hP
        have hD : va_D A [(qa, .inr (11, [.ref qa, .null, .ref t_us2, .null, xq4, xq5]))] := hD
        refine lv_aload_n hx hb dT1_init_46 rfl (lv_at hl 0 rfl) ?_
        refine lv_aload_nN hx hb dT1_init_47 rfl (lv_at hl 2 rfl) ?_
        refine va_put (D := (dC, dI)) (ci := 11) (v := .null) (ty := (tyX11 0)) (C := RX11) (T := TX11) (N := 6) hx hb hts hiX11 tyX11 tyX11_ok nmX11 hown hK hP hD hS 0 rfl rfl 0 (by decide) hL2 (fun _ h9 => h9) rfl (by decide +kernel) rfl rfl (Nat.le_of_ble_eq_true rfl) dT1_init_48 (fun H locs hP hD hS => ?_)
        have hP : va_P (dC, dI) vwCl [(qa, .inr (11, [.null, .null, .ref t_us2, .null, xq4, xq5]))] H := hP
        have hD : va_D A [(qa, .inr (11, [.null, .null, .ref t_us2, .null, xq4, xq5]))] := hD
        refine lv_iload_n hx hb dT1_init_51 rfl (lv_at hl 3 rfl) ?_
        refine bw_if_ne (tgt := 60) (a := 0) hx hb dT1_init_52 (by decide) rfl (fun c_8 => ?_) (fun c_8 => ?_)
        · exact absurd c_8 (by decide)
        · skip
          refine lv_aload_n hx hb dT1_init_55 rfl (lv_at hl 0 rfl) ?_
          refine lv_null hx hb dT1_init_56 ?_
          refine va_put (D := (dC, dI)) (ci := 11) (v := .null) (ty := (tyX11 2)) (C := RX11) (T := TX11) (N := 6) hx hb hts hiX11 tyX11 tyX11_ok nmX11 hown hK hP hD hS 0 rfl rfl 2 (by decide) hL6 (fun _ h9 => h9) rfl (by decide +kernel) rfl rfl (Nat.le_of_ble_eq_true rfl) dT1_init_57 (fun H locs hP hD hS => ?_)
          have hP : va_P (dC, dI) vwCl [(qa, .inr (11, [.null, .null, .null, .null, xq4, xq5]))] H := hP
          have hD : va_D A [(qa, .inr (11, [.null, .null, .null, .null, xq4, xq5]))] := hD
          refine bw_Qe hQ ?_
          have hP9 : va_P (dC, dI) vwCl [(qa, .inr (11, [.null, .null, .null, .null, xq4, xq5]))] H := hP.sub [0] rfl
          have hD9 : va_D A [(qa, .inr (11, [.null, .null, .null, .null, xq4, xq5]))] := hD.sub [0] (by decide) rfl
          have hpost : True := by
            trivial
          exact W.vret hx hb hr (fun t9 ht hW => ⟨⟨(), rfl, hpost, by rw [ht]; exact hP9, va_K.moved hW.alike hK, hD9⟩, hS.F ht⟩) hS.2.2 dT1_init_60
      · exact absurd c_7 (by decide)

set_option maxHeartbeats 4000000 in
set_option maxRecDepth 100000 in
theorem c_E1_init (l : Launch) (dC : Nat → ClassId) (dI : Nat → Nat → Nat) (cy : Nat → ClassId) (us1 us2 : Value) (qa : Nat) (xq0 : Value) (xq1 : Value) (xq2 : Value) (xq3 : Value) (xq4 : Value) (xq5 : Value) (sz : Nat)  : Met l yE1 wsE1 ({ frames := 2, cells := 0, slots := 0, locals := 36 }) (va_Pc [.ref qa, .null, .null, .int 0, .int 0] (fun U => U.heap.size = sz ∧ va_P (dC, dI) vwCl [(qa, .inr (11, [xq0, xq1, xq2, xq3, xq4, xq5]))] U.heap ∧ va_K (dC, dI) vwCl (tyL cy) U ∧ va_D (fun _ => True) [(qa, .inr (11, [xq0, xq1, xq2, xq3, xq4, xq5]))] ∧ tW us1 us2 (va_A [(qa, .inr (11, [xq0, xq1, xq2, xq3, xq4, xq5]))] sz) U U.heap)) (va_Qv (S := Unit) (fun _ => True) (fun _ => fun t => va_P (dC, dI) vwCl [(qa, .inr (11, [.null, .null, .null, .null, xq4, xq5]))] t.heap ∧ va_K (dC, dI) vwCl (tyL cy) t ∧ va_D (va_A [(qa, .inr (11, [xq0, xq1, xq2, xq3, xq4, xq5]))] sz) [(qa, .inr (11, [.null, .null, .null, .null, xq4, xq5]))]) (va_A [(qa, .inr (11, [xq0, xq1, xq2, xq3, xq4, xq5]))] sz)) 0 0 (va_A [(qa, .inr (11, [xq0, xq1, xq2, xq3, xq4, xq5]))] sz) := by
  refine Met.ofW (cc := cE1) (maxL := 5) (ret := none) (by decide) rfl ?_
  intro pp ee ss mm args below meth cc0 s₁ B hml hv
  obtain ⟨rfl, hsz, hP, hK, hD0, hE⟩ := hv
  have hx := B.exec
  have hb := B.bytes
  have hr := B.returns
  have hts := atoms_spec (ws := wsE1) B.pre
  have hown : ss.vm.findClass RE1 = some mm.cls := findClass_of_methodNamed B.named
  have hlocks := B.notSynchronized
  have hin : meth.name = "<init>" := (name_of_methodNamed B.named B.method).1
  have hL0 := hts (.initialized RT1) (by decide +kernel)
  have hL1 := hts (.methodLink RE1 16 yT1) (by decide +kernel)
  have hL2 := hts (.instanceMethod yT1) (by decide +kernel)
  subst hsz
  have hD := hD0.self (sz := ss.heap.size)
  generalize hAe : va_A [(qa, .inr (11, [xq0, xq1, xq2, xq3, xq4, xq5]))] ss.heap.size = A at hD hE ⊢
  have hA : ∀ q : Nat, ss.heap.size ≤ q → A q := fun q h => by rw [← hAe]; exact Or.inr h
  have hS : va_S A ss.heap ss.heap [] := va_S.rf
  have hP : va_P (dC, dI) vwCl [(qa, .inr (11, [xq0, xq1, xq2, xq3, xq4, xq5]))] ss.heap := hP
  have hl := lv_entry ([.ref qa, .null, .null, .int 0, .int 0]) (n := 5) (Nat.le_of_ble_eq_true rfl)
  rw [lg_entry_eq]
  generalize (lg_sl ([.ref qa, .null, .null, .int 0, .int 0]) ++ List.replicate (5 - (lg_sl ([.ref qa, .null, .null, .int 0, .int 0])).length) Slot.unset).toArray = ls at hl ⊢
  have hl : lv_has ls 5 [(0, .ref qa), (1, .null), (2, .null), (3, .int 0), (4, .int 0)] := hl
  refine bw_Q (fun Q hQ => ?_)
  refine bw_H0 (fun H locs eH eL => ?_)
  have hS : va_S A ss.heap H locs := by rw [eH, eL]; exact hS
  have hP : va_P (dC, dI) vwCl [(qa, .inr (11, [xq0, xq1, xq2, xq3, xq4, xq5]))] H := by rw [eH]; exact hP
  change W pp l ee { frames := 2, cells := 0, slots := 0, locals := 36 } ss mm _ below meth cc0 H locs 0 0 Q (F0 mm 0 ls [])
  refine lv_aload_n hx hb dE1_init_0 rfl (lv_at hl 0 rfl) ?_
  refine lv_aload_nN hx hb dE1_init_1 rfl (lv_at hl 1 rfl) ?_
  refine lv_aload_nN hx hb dE1_init_2 rfl (lv_at hl 2 rfl) ?_
  refine lv_iload_n hx hb dE1_init_3 rfl (lv_at hl 3 rfl) ?_
  refine lv_iload hx hb dE1_init_4 (lv_at hl 4 rfl) ?_
  have hPc : va_P (dC, dI) vwCl [(qa, .inr (11, [xq0, xq1, xq2, xq3, xq4, xq5]))] H := hP.sub [0] rfl
  have hDc : va_D A [(qa, .inr (11, [xq0, xq1, xq2, xq3, xq4, xq5]))] := hD.sub [0] (by decide) rfl
  have hFc := va_free (wc := [(qa, .inr (11, [xq0, xq1, xq2, xq3, xq4, xq5]))]) hD hS hA [0] rfl
  refine va_callv (va_runI (As := [.null, .null, .int 0, .int 0]) (rest := []) ⟨hx, hb, hml, hown, hts⟩ (c_T1_init l dC dI cy us1 us2 qa xq0 xq1 xq2 xq3 xq4 xq5 H.size) (cwI 4 hts tE1_init_T1_init rfl rfl rfl hL0 hL1 hL2 rfl (by decide +kernel) ⟨Nat.le_of_ble_eq_true rfl, Nat.le_of_ble_eq_true rfl⟩) ⟨fun a U g mk q => by obtain ⟨q0, q1, qP, qK, qD, qE⟩ := q; exact ⟨q0, q1, qP, va_K.moved (u := U) (U := U.calling g mk a) (Vm.Alike.refl U.vm) qK, qD, tW.call qE g mk a⟩, fun U hU hW => ⟨rfl, by rw [hU], by rw [hU]; exact hPc, va_K.moved hW.alike hK, hDc.weaken (fun _ _ _ _ => trivial), ((hE.kept hS.2.1).go hW hU).narrow hFc⟩⟩ rfl rfl hl.1 rfl (lv_room (Nat.le_of_ble_eq_true rfl)) dE1_init_6 ⟨Nat.le_of_ble_eq_true rfl, Nat.le_of_ble_eq_true rfl⟩) hS (fun q _ h => hFc q h) hFc (fun u t9 H1 locs ht hvm hw hB hz1 hk1 hS => ?_)
  have hr_1 := hw
  try dsimp only at hr_1
  obtain ⟨hP1, hK1, hD1⟩ := hB
  rw [ht] at hP1
  obtain ⟨hP, hD⟩ := va_join (wr := []) (w1 := [(qa, .inr (11, [.null, .null, .null, .null, xq4, xq5]))]) hP hD [0] [] rfl rfl (by decide) (by decide) hk1 hFc hP1 hD1
  generalize H1 = H at hP hS ⊢
  have hP : va_P (dC, dI) vwCl [(qa, .inr (11, [.null, .null, .null, .null, xq4, xq5]))] H := hP.sub [0] rfl
  have hD : va_D A [(qa, .inr (11, [.null, .null, .null, .null, xq4, xq5]))] := hD.sub [0] (by decide) rfl
  refine bw_Qe hQ ?_
  have hP9 : va_P (dC, dI) vwCl [(qa, .inr (11, [.null, .null, .null, .null, xq4, xq5]))] H := hP.sub [0] rfl
  have hD9 : va_D A [(qa, .inr (11, [.null, .null, .null, .null, xq4, xq5]))] := hD.sub [0] (by decide) rfl
  have hpost : True := by
    trivial
  exact W.vret hx hb hr (fun t9 ht hW => ⟨⟨(), rfl, hpost, by rw [ht]; exact hP9, va_K.moved hW.alike hK, hD9⟩, hS.F ht⟩) hS.2.2 dE1_init_9

set_option maxHeartbeats 4000000 in
set_option maxRecDepth 100000 in
theorem c_X11_init (l : Launch) (dC : Nat → ClassId) (dI : Nat → Nat → Nat) (cy : Nat → ClassId) (us1 us2 : Value) (qa : Nat) (xq0 : Value) (xq1 : Value) (xq2 : Value) (xq3 : Value) (xq4 : Value) (xq5 : Value) (sz : Nat)  : Met l yX11_init wsS1 ({ frames := 3, cells := 0, slots := 0, locals := 60 }) (va_Pc [.ref qa] (fun U => U.heap.size = sz ∧ va_P (dC, dI) vwCl [(qa, .inr (11, [xq0, xq1, xq2, xq3, xq4, xq5]))] U.heap ∧ va_K (dC, dI) vwCl (tyL cy) U ∧ va_D (fun _ => True) [(qa, .inr (11, [xq0, xq1, xq2, xq3, xq4, xq5]))] ∧ tW us1 us2 (va_A [(qa, .inr (11, [xq0, xq1, xq2, xq3, xq4, xq5]))] sz) U U.heap)) (va_Qv (S := Unit) (fun _ => True) (fun _ => fun t => va_P (dC, dI) vwCl [(qa, .inr (11, [.null, .null, .null, .null, xq4, xq5]))] t.heap ∧ va_K (dC, dI) vwCl (tyL cy) t ∧ va_D (va_A [(qa, .inr (11, [xq0, xq1, xq2, xq3, xq4, xq5]))] sz) [(qa, .inr (11, [.null, .null, .null, .null, xq4, xq5]))]) (va_A [(qa, .inr (11, [xq0, xq1, xq2, xq3, xq4, xq5]))] sz)) 0 0 (va_A [(qa, .inr (11, [xq0, xq1, xq2, xq3, xq4, xq5]))] sz) := by
  refine Met.ofW (cc := cX11_init) (maxL := 1) (ret := none) (by decide) rfl ?_
  intro pp ee ss mm args below meth cc0 s₁ B hml hv
  obtain ⟨rfl, hsz, hP, hK, hD0, hE⟩ := hv
  have hx := B.exec
  have hb := B.bytes
  have hr := B.returns
  have hts := atoms_spec (ws := wsS1) B.pre
  have hown : ss.vm.findClass RX11 = some mm.cls := findClass_of_methodNamed B.named
  have hlocks := B.notSynchronized
  have hin : meth.name = "<init>" := (name_of_methodNamed B.named B.method).1
  have hL0 := hts (.initialized RE1) (by decide +kernel)
  have hL1 := hts (.methodLink RX11 1 yE1) (by decide +kernel)
  have hL2 := hts (.instanceMethod yE1) (by decide +kernel)
  subst hsz
  have hD := hD0.self (sz := ss.heap.size)
  generalize hAe : va_A [(qa, .inr (11, [xq0, xq1, xq2, xq3, xq4, xq5]))] ss.heap.size = A at hD hE ⊢
  have hA : ∀ q : Nat, ss.heap.size ≤ q → A q := fun q h => by rw [← hAe]; exact Or.inr h
  have hS : va_S A ss.heap ss.heap [] := va_S.rf
  have hP : va_P (dC, dI) vwCl [(qa, .inr (11, [xq0, xq1, xq2, xq3, xq4, xq5]))] ss.heap := hP
  have hl := lv_entry ([.ref qa]) (n := 1) (Nat.le_of_ble_eq_true rfl)
  rw [lg_entry_eq]
  generalize (lg_sl ([.ref qa]) ++ List.replicate (1 - (lg_sl ([.ref qa])).length) Slot.unset).toArray = ls at hl ⊢
  have hl : lv_has ls 1 [(0, .ref qa)] := hl
  refine bw_Q (fun Q hQ => ?_)
  refine bw_H0 (fun H locs eH eL => ?_)
  have hS : va_S A ss.heap H locs := by rw [eH, eL]; exact hS
  have hP : va_P (dC, dI) vwCl [(qa, .inr (11, [xq0, xq1, xq2, xq3, xq4, xq5]))] H := by rw [eH]; exact hP
  change W pp l ee { frames := 3, cells := 0, slots := 0, locals := 60 } ss mm _ below meth cc0 H locs 0 0 Q (F0 mm 0 ls [])
  refine lv_aload_n hx hb dX11_init_0 rfl (lv_at hl 0 rfl) ?_
  refine lv_null hx hb dX11_init_1 ?_
  refine lv_null hx hb dX11_init_2 ?_
  refine lv_iconst (v := 0) hx hb dX11_init_3 (by decide) ?_
  refine lv_iconst (v := 0) hx hb dX11_init_4 (by decide) ?_
  have hPc : va_P (dC, dI) vwCl [(qa, .inr (11, [xq0, xq1, xq2, xq3, xq4, xq5]))] H := hP.sub [0] rfl
  have hDc : va_D A [(qa, .inr (11, [xq0, xq1, xq2, xq3, xq4, xq5]))] := hD.sub [0] (by decide) rfl
  have hFc := va_free (wc := [(qa, .inr (11, [xq0, xq1, xq2, xq3, xq4, xq5]))]) hD hS hA [0] rfl
  refine va_callv (va_runI (As := [.null, .null, .int 0, .int 0]) (rest := []) ⟨hx, hb, hml, hown, hts⟩ (c_E1_init l dC dI cy us1 us2 qa xq0 xq1 xq2 xq3 xq4 xq5 H.size) (cwI 4 hts tX11_init_E1_init rfl rfl rfl hL0 hL1 hL2 rfl (by decide +kernel) ⟨Nat.le_of_ble_eq_true rfl, Nat.le_of_ble_eq_true rfl⟩) ⟨fun a U g mk q => by obtain ⟨q0, q1, qP, qK, qD, qE⟩ := q; exact ⟨q0, q1, qP, va_K.moved (u := U) (U := U.calling g mk a) (Vm.Alike.refl U.vm) qK, qD, tW.call qE g mk a⟩, fun U hU hW => ⟨rfl, by rw [hU], by rw [hU]; exact hPc, va_K.moved hW.alike hK, hDc.weaken (fun _ _ _ _ => trivial), ((hE.kept hS.2.1).go hW hU).narrow hFc⟩⟩ rfl rfl hl.1 rfl (lv_room (Nat.le_of_ble_eq_true rfl)) dX11_init_5 ⟨Nat.le_of_ble_eq_true rfl, Nat.le_of_ble_eq_true rfl⟩) hS (fun q _ h => hFc q h) hFc (fun u t9 H1 locs ht hvm hw hB hz1 hk1 hS => ?_)
  have hr_1 := hw
  try dsimp only at hr_1
  obtain ⟨hP1, hK1, hD1⟩ := hB
  rw [ht] at hP1
  obtain ⟨hP, hD⟩ := va_join (wr := []) (w1 := [(qa, .inr (11, [.null, .null, .null, .null, xq4, xq5]))]) hP hD [0] [] rfl rfl (by decide) (by decide) hk1 hFc hP1 hD1
  generalize H1 = H at hP hS ⊢
  have hP : va_P (dC, dI) vwCl [(qa, .inr (11, [.null, .null, .null, .null, xq4, xq5]))] H := hP.sub [0] rfl
  have hD : va_D A [(qa, .inr (11, [.null, .null, .null, .null, xq4, xq5]))] := hD.sub [0] (by decide) rfl
  refine bw_Qe hQ ?_
  have hP9 : va_P (dC, dI) vwCl [(qa, .inr (11, [.null, .null, .null, .null, xq4, xq5]))] H := hP.sub [0] rfl
  have hD9 : va_D A [(qa, .inr (11, [.null, .null, .null, .null, xq4, xq5]))] := hD.sub [0] (by decide) rfl
  have hpost : True := by
    trivial
  exact W.vret hx hb hr (fun t9 ht hW => ⟨⟨(), rfl, hpost, by rw [ht]; exact hP9, va_K.moved hW.alike hK, hD9⟩, hS.F ht⟩) hS.2.2 dX11_init_8

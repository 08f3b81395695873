theorem lnW_lo (v : Nat → Nat) (i m : Nat) : -2 ≤ lnW v i m := by
  unfold lnW; omega
set_option maxHeartbeats 4000000 in
set_option maxRecDepth 100000 in
theorem c_X1_keepRow (l : Launch) (dC : Nat → ClassId) (dI : Nat → Nat → Nat) (cy : Nat → ClassId) (ad : Nat → Nat) (fl : Nat) (fw : Nat → Int32) (fx : Nat → Int32) (fs : Nat → Int32) (ft : Nat → Int32) (wn : Nat) (ww : Nat → Int32) (L : Nat) (wd : Nat) (v : Nat → Nat) (sz : Nat) (hv : wR ww wn v) (hvb : ∀ k, k < wn → v k ≤ 144) (hwn : wn ≤ 40) (hwd : wd ≤ 400) (hLa : 1 ≤ L) (hLb : L ≤ 8) (hw1 : 1 ≤ wn) (hrows : ∀ k, 1 ≤ k → k ≤ L → ∀ i, i < wn → fOK v wn wd fs ft k i) (hF : fF v wn wd L 0 ≠ -1) : Met l yX1_keepRow wsX1_keepRow ({ frames := 0, cells := 0, slots := 0, locals := 0 }) (va_Pc [.ref (ad 43), .ref (ad 41), .int (nI L)] (fun U => U.heap.size = sz ∧ va_P (dC, dI) vwCl [(ad 43, .inr (1, [.int (nI fl), .ref (ad 44), .ref (ad 45), .ref (ad 46), .ref (ad 47)])), (ad 44, .inl (cy 0, 8, .inl fw)), (ad 45, .inl (cy 0, 8, .inl fx)), (ad 46, .inl (cy 0, 369, .inl fs)), (ad 47, .inl (cy 0, 369, .inl ft)), (ad 41, .inr (9, [.ref (ad 42), .int (nI wn)])), (ad 42, .inl (cy 0, 40, .inl ww))] U.heap ∧ va_K (dC, dI) vwCl (tyL cy) U ∧ va_D (fun _ => True) [(ad 43, .inr (1, [.int (nI fl), .ref (ad 44), .ref (ad 45), .ref (ad 46), .ref (ad 47)])), (ad 44, .inl (cy 0, 8, .inl fw)), (ad 45, .inl (cy 0, 8, .inl fx)), (ad 46, .inl (cy 0, 369, .inl fs)), (ad 47, .inl (cy 0, 369, .inl ft)), (ad 41, .inr (9, [.ref (ad 42), .int (nI wn)])), (ad 42, .inl (cy 0, 40, .inl ww))])) (va_Qv (S := Nat × (Nat → Int32) × (Nat → Int32)) (fun u => match u with | (fl2, fw2, fx2) => rwP v wn wd L fl2 fw2 fx2) (fun u => match u with | (fl2, fw2, fx2) => fun t => va_P (dC, dI) vwCl [(ad 43, .inr (1, [.int (nI fl2), .ref (ad 44), .ref (ad 45), .ref (ad 46), .ref (ad 47)])), (ad 44, .inl (cy 0, 8, .inl fw2)), (ad 45, .inl (cy 0, 8, .inl fx2)), (ad 46, .inl (cy 0, 369, .inl fs)), (ad 47, .inl (cy 0, 369, .inl ft)), (ad 41, .inr (9, [.ref (ad 42), .int (nI wn)])), (ad 42, .inl (cy 0, 40, .inl ww))] t.heap ∧ va_K (dC, dI) vwCl (tyL cy) t ∧ va_D (va_A [(ad 43, .inr (1, [.int (nI fl), .ref (ad 44), .ref (ad 45), .ref (ad 46), .ref (ad 47)])), (ad 44, .inl (cy 0, 8, .inl fw)), (ad 45, .inl (cy 0, 8, .inl fx)), (ad 46, .inl (cy 0, 369, .inl fs)), (ad 47, .inl (cy 0, 369, .inl ft)), (ad 41, .inr (9, [.ref (ad 42), .int (nI wn)])), (ad 42, .inl (cy 0, 40, .inl ww))] sz) [(ad 43, .inr (1, [.int (nI fl2), .ref (ad 44), .ref (ad 45), .ref (ad 46), .ref (ad 47)])), (ad 44, .inl (cy 0, 8, .inl fw2)), (ad 45, .inl (cy 0, 8, .inl fx2)), (ad 46, .inl (cy 0, 369, .inl fs)), (ad 47, .inl (cy 0, 369, .inl ft)), (ad 41, .inr (9, [.ref (ad 42), .int (nI wn)])), (ad 42, .inl (cy 0, 40, .inl ww))]) (va_A [(ad 43, .inr (1, [.int (nI fl), .ref (ad 44), .ref (ad 45), .ref (ad 46), .ref (ad 47)])), (ad 44, .inl (cy 0, 8, .inl fw)), (ad 45, .inl (cy 0, 8, .inl fx)), (ad 46, .inl (cy 0, 369, .inl fs)), (ad 47, .inl (cy 0, 369, .inl ft)), (ad 41, .inr (9, [.ref (ad 42), .int (nI wn)])), (ad 42, .inl (cy 0, 40, .inl ww))] sz)) 0 0 (va_A [(ad 43, .inr (1, [.int (nI fl), .ref (ad 44), .ref (ad 45), .ref (ad 46), .ref (ad 47)])), (ad 44, .inl (cy 0, 8, .inl fw)), (ad 45, .inl (cy 0, 8, .inl fx)), (ad 46, .inl (cy 0, 369, .inl fs)), (ad 47, .inl (cy 0, 369, .inl ft)), (ad 41, .inr (9, [.ref (ad 42), .int (nI wn)])), (ad 42, .inl (cy 0, 40, .inl ww))] sz) := by
  refine Met.ofW (cc := cX1_keepRow) (maxL := 8) (ret := none) (by decide) rfl ?_
  intro pp ee ss mm args below meth cc0 s₁ B hml hv
  obtain ⟨rfl, hsz, hP, hK, hD0⟩ := hv
  have hx := B.exec
  have hb := B.bytes
  have hr := B.returns
  have hts := atoms_spec (ws := wsX1_keepRow) B.pre
  have hown : ss.vm.findClass RX1 = some mm.cls := findClass_of_methodNamed B.named
  have hlocks := B.notSynchronized
  have hL0 := hts (.fieldLink RX1 45 "HereLived$Fitting" "lines" "I") (by decide +kernel)
  have hL1 := hts (.fieldLink RX1 24 "HereLived$Words" "size" "I") (by decide +kernel)
  have hL2 := hts (.fieldLink RX1 21 "HereLived$Fitting" "taken" "[I") (by decide +kernel)
  have hL3 := hts (.fieldLink RX1 9 "HereLived$Fitting" "lineWords" "[I") (by decide +kernel)
  have hL4 := hts (.fieldLink RX1 15 "HereLived$Fitting" "lineWidths" "[I") (by decide +kernel)
  have hL5 := hts (.fieldLink RX1 38 "HereLived$Words" "widths" "[I") (by decide +kernel)
  have hiX1 : ∀ w ∈ wsX10, w ∈ wsX1_keepRow := by decide +kernel
  have hiX9 : ∀ w ∈ wsX90, w ∈ wsX1_keepRow := by decide +kernel
  subst hsz
  have hD := hD0.self (sz := ss.heap.size)
  generalize hAe : va_A [(ad 43, .inr (1, [.int (nI fl), .ref (ad 44), .ref (ad 45), .ref (ad 46), .ref (ad 47)])), (ad 44, .inl (cy 0, 8, .inl fw)), (ad 45, .inl (cy 0, 8, .inl fx)), (ad 46, .inl (cy 0, 369, .inl fs)), (ad 47, .inl (cy 0, 369, .inl ft)), (ad 41, .inr (9, [.ref (ad 42), .int (nI wn)])), (ad 42, .inl (cy 0, 40, .inl ww))] ss.heap.size = A at hD ⊢
  have hA : ∀ q : Nat, ss.heap.size ≤ q → A q := fun q h => by rw [← hAe]; exact Or.inr h
  have hS : va_S A ss.heap ss.heap [] := va_S.rf
  have hP : va_P (dC, dI) vwCl [(ad 43, .inr (1, [.int (nI fl), .ref (ad 44), .ref (ad 45), .ref (ad 46), .ref (ad 47)])), (ad 44, .inl (cy 0, 8, .inl fw)), (ad 45, .inl (cy 0, 8, .inl fx)), (ad 46, .inl (cy 0, 369, .inl fs)), (ad 47, .inl (cy 0, 369, .inl ft)), (ad 41, .inr (9, [.ref (ad 42), .int (nI wn)])), (ad 42, .inl (cy 0, 40, .inl ww))] ss.heap := hP
  have hl := lv_entry ([.ref (ad 43), .ref (ad 41), .int (nI L)]) (n := 8) (Nat.le_of_ble_eq_true rfl)
  rw [lg_entry_eq]
  generalize (lg_sl ([.ref (ad 43), .ref (ad 41), .int (nI L)]) ++ List.replicate (8 - (lg_sl ([.ref (ad 43), .ref (ad 41), .int (nI L)])).length) Slot.unset).toArray = ls at hl ⊢
  have hl : lv_has ls 8 [(0, .ref (ad 43)), (1, .ref (ad 41)), (2, .int (nI L))] := hl
  refine bw_Q (fun Q hQ => ?_)
  refine bw_H0 (fun H locs eH eL => ?_)
  have hS : va_S A ss.heap H locs := by rw [eH, eL]; exact hS
  have hP : va_P (dC, dI) vwCl [(ad 43, .inr (1, [.int (nI fl), .ref (ad 44), .ref (ad 45), .ref (ad 46), .ref (ad 47)])), (ad 44, .inl (cy 0, 8, .inl fw)), (ad 45, .inl (cy 0, 8, .inl fx)), (ad 46, .inl (cy 0, 369, .inl fs)), (ad 47, .inl (cy 0, 369, .inl ft)), (ad 41, .inr (9, [.ref (ad 42), .int (nI wn)])), (ad 42, .inl (cy 0, 40, .inl ww))] H := by rw [eH]; exact hP
  change W pp l ee { frames := 0, cells := 0, slots := 0, locals := 0 } ss mm _ below meth cc0 H locs 0 0 Q (F0 mm 0 ls [])
  refine lv_aload_n hx hb dX1_keepRow_0 rfl (lv_at hl 0 rfl) ?_
  refine lv_iconst (v := 0) hx hb dX1_keepRow_1 (by decide) ?_
  refine va_put (D := (dC, dI)) (ci := 1) (v := .int 0) (ty := (tyX1 0)) (C := RX1) (T := TX1) (N := 5) hx hb hts hiX1 tyX1 tyX1_ok nmX1 hown hK hP hD hS 0 rfl rfl 0 (by decide) hL0 (fun _ h9 => h9) rfl (by decide +kernel) rfl rfl (Nat.le_of_ble_eq_true rfl) dX1_keepRow_2 (fun H locs hP hD hS => ?_)
  have hP : va_P (dC, dI) vwCl [(ad 43, .inr (1, [.int 0, .ref (ad 44), .ref (ad 45), .ref (ad 46), .ref (ad 47)])), (ad 44, .inl (cy 0, 8, .inl fw)), (ad 45, .inl (cy 0, 8, .inl fx)), (ad 46, .inl (cy 0, 369, .inl fs)), (ad 47, .inl (cy 0, 369, .inl ft)), (ad 41, .inr (9, [.ref (ad 42), .int (nI wn)])), (ad 42, .inl (cy 0, 40, .inl ww))] H := hP
  have hD : va_D A [(ad 43, .inr (1, [.int 0, .ref (ad 44), .ref (ad 45), .ref (ad 46), .ref (ad 47)])), (ad 44, .inl (cy 0, 8, .inl fw)), (ad 45, .inl (cy 0, 8, .inl fx)), (ad 46, .inl (cy 0, 369, .inl fs)), (ad 47, .inl (cy 0, 369, .inl ft)), (ad 41, .inr (9, [.ref (ad 42), .int (nI wn)])), (ad 42, .inl (cy 0, 40, .inl ww))] := hD
  refine lv_iconst (v := 0) hx hb dX1_keepRow_5 (by decide) ?_
  refine lv_istore_n (lv' := [(3, .int 0), (0, .ref (ad 43)), (1, .ref (ad 41)), (2, .int (nI L))]) hx hb dX1_keepRow_6 rfl hl (by decide) rfl (fun ls hl => ?_)
  refine lv_iload_n hx hb dX1_keepRow_7 rfl (lv_at hl 3 rfl) ?_
  refine lv_istore (lv' := [(4, .int (nI L)), (3, .int 0), (0, .ref (ad 43)), (1, .ref (ad 41)), (2, .int (nI L))]) hx hb dX1_keepRow_8 hl (by decide) rfl (fun ls hl => ?_)
  have L_10 : ∀ (n9 : Nat), ∀ (j : Nat) (p : Nat) (z : Int32) (f1 : Nat → Int32) (g1 : Nat → Int32), (L - j) < n9 → (j ≤ L) → (p = pos v wn wd L j) → (z.toInt = ((L : Nat) : Int) - ((j : Nat) : Int)) → (p ≤ wn) → (p < wn → fF v wn wd (L - j) p ≠ -1) → (∀ i, i < j → pos v wn wd L i < wn) → (∀ i, i < j → f1 i = hW v wn wd L i ∧ g1 i = hX v wn wd L i) → ∀ (H : Heap) (locs : List Loc), va_P (dC, dI) vwCl [(ad 43, .inr (1, [.int (nI j), .ref (ad 44), .ref (ad 45), .ref (ad 46), .ref (ad 47)])), (ad 44, .inl (cy 0, 8, .inl f1)), (ad 45, .inl (cy 0, 8, .inl g1)), (ad 46, .inl (cy 0, 369, .inl fs)), (ad 47, .inl (cy 0, 369, .inl ft)), (ad 41, .inr (9, [.ref (ad 42), .int (nI wn)])), (ad 42, .inl (cy 0, 40, .inl ww))] H → va_D A [(ad 43, .inr (1, [.int (nI j), .ref (ad 44), .ref (ad 45), .ref (ad 46), .ref (ad 47)])), (ad 44, .inl (cy 0, 8, .inl f1)), (ad 45, .inl (cy 0, 8, .inl g1)), (ad 46, .inl (cy 0, 369, .inl fs)), (ad 47, .inl (cy 0, 369, .inl ft)), (ad 41, .inr (9, [.ref (ad 42), .int (nI wn)])), (ad 42, .inl (cy 0, 40, .inl ww))] → va_S A ss.heap H locs → ∀ (ls : Array Slot), lv_has ls 8 [(0, .ref (ad 43)), (1, .ref (ad 41)), (2, .int (nI L)), (3, .int (nI p)), (4, .int z)] → W pp l ee { frames := 0, cells := 0, slots := 0, locals := 0 } ss mm (List.toArray [Value.ref (ad 43), Value.ref (ad 41), Value.int (nI L)]) below meth cc0 H locs 0 0 Q (F0 mm 10 ls []) := by
    intro n9
    induction n9 with
    | zero => intro j p z f1 g1 hm9; exact absurd hm9 (Nat.not_lt_zero _)
    | succ n9 ih10 =>
      intro j p z f1 g1 hm10 hj hp hz hpn hF1 hlt hrow
      intro H locs hP hD hS
      intro ls hl
      refine lv_iload hx hb dX1_keepRow_10 (lv_at hl 4 rfl) ?_
      refine lv_iconst (v := 1) hx hb dX1_keepRow_12 (by decide) ?_
      refine bw_icmp_lt (tgt := 117) (a := z.toInt) (b := 1) hx hb dX1_keepRow_13 (by decide) rfl rfl (fun c_1 => ?_) (fun c_1 => ?_)
      · skip
        refine bw_Qe hQ ?_
        have hP9 : va_P (dC, dI) vwCl [(ad 43, .inr (1, [.int (nI j), .ref (ad 44), .ref (ad 45), .ref (ad 46), .ref (ad 47)])), (ad 44, .inl (cy 0, 8, .inl f1)), (ad 45, .inl (cy 0, 8, .inl g1)), (ad 46, .inl (cy 0, 369, .inl fs)), (ad 47, .inl (cy 0, 369, .inl ft)), (ad 41, .inr (9, [.ref (ad 42), .int (nI wn)])), (ad 42, .inl (cy 0, 40, .inl ww))] H := hP.sub [0, 1, 2, 3, 4, 5, 6] rfl
        have hD9 : va_D A [(ad 43, .inr (1, [.int (nI j), .ref (ad 44), .ref (ad 45), .ref (ad 46), .ref (ad 47)])), (ad 44, .inl (cy 0, 8, .inl f1)), (ad 45, .inl (cy 0, 8, .inl g1)), (ad 46, .inl (cy 0, 369, .inl fs)), (ad 47, .inl (cy 0, 369, .inl ft)), (ad 41, .inr (9, [.ref (ad 42), .int (nI wn)])), (ad 42, .inl (cy 0, 40, .inl ww))] := hD.sub [0, 1, 2, 3, 4, 5, 6] (by decide) rfl
        have hpost : rwP v wn wd L j f1 g1 := by
          have e9 : p = wn := by
            rcases Nat.lt_or_ge p wn with q | q
            · have h9 := hF1 q
              rw [show L - j = 0 by omega] at h9
              exact absurd rfl h9
            · omega
          exact ⟨⟨hj, by rw [← hp]; exact e9, hlt⟩, hrow⟩
        exact W.vret hx hb hr (fun t9 ht hW => ⟨⟨(j, f1, g1), rfl, hpost, by rw [ht]; exact hP9, va_K.moved hW.alike hK, hD9⟩, hS.F ht⟩) hS.2.2 dX1_keepRow_117
      · skip
        refine lv_iload_n hx hb dX1_keepRow_16 rfl (lv_at hl 3 rfl) ?_
        refine lv_aload_n hx hb dX1_keepRow_17 rfl (lv_at hl 1 rfl) ?_
        refine va_get (D := (dC, dI)) (ci := 9) (v := .int (nI wn)) (C := RX9) (T := TX9) (N := 2) hx hb hts hiX9 hown hK hP 5 rfl rfl 1 (by decide) hL1 (fun _ h9 => h9) rfl dX1_keepRow_18 ?_
        refine bw_icmp_ge (tgt := 117) (a := ((p : Nat) : Int)) (b := ((wn : Nat) : Int)) hx hb dX1_keepRow_21 (by decide) (nI_toInt (by omega)) (nI_toInt (by omega)) (fun c_2 => ?_) (fun c_2 => ?_)
        · skip
          refine bw_Qe hQ ?_
          have hP9 : va_P (dC, dI) vwCl [(ad 43, .inr (1, [.int (nI j), .ref (ad 44), .ref (ad 45), .ref (ad 46), .ref (ad 47)])), (ad 44, .inl (cy 0, 8, .inl f1)), (ad 45, .inl (cy 0, 8, .inl g1)), (ad 46, .inl (cy 0, 369, .inl fs)), (ad 47, .inl (cy 0, 369, .inl ft)), (ad 41, .inr (9, [.ref (ad 42), .int (nI wn)])), (ad 42, .inl (cy 0, 40, .inl ww))] H := hP.sub [0, 1, 2, 3, 4, 5, 6] rfl
          have hD9 : va_D A [(ad 43, .inr (1, [.int (nI j), .ref (ad 44), .ref (ad 45), .ref (ad 46), .ref (ad 47)])), (ad 44, .inl (cy 0, 8, .inl f1)), (ad 45, .inl (cy 0, 8, .inl g1)), (ad 46, .inl (cy 0, 369, .inl fs)), (ad 47, .inl (cy 0, 369, .inl ft)), (ad 41, .inr (9, [.ref (ad 42), .int (nI wn)])), (ad 42, .inl (cy 0, 40, .inl ww))] := hD.sub [0, 1, 2, 3, 4, 5, 6] (by decide) rfl
          have hpost : rwP v wn wd L j f1 g1 := by
            have e9 : p = wn := by
              rcases Nat.lt_or_ge p wn with q | q
              · have h9 := hF1 q
                rw [show L - j = 0 by omega] at h9
                exact absurd rfl h9
              · omega
            exact ⟨⟨hj, by rw [← hp]; exact e9, hlt⟩, hrow⟩
          exact W.vret hx hb hr (fun t9 ht hW => ⟨⟨(j, f1, g1), rfl, hpost, by rw [ht]; exact hP9, va_K.moved hW.alike hK, hD9⟩, hS.F ht⟩) hS.2.2 dX1_keepRow_117
        · skip
          obtain ⟨hA1, hA2, hA3, hA4⟩ := fC_in (v := v) (W := wd) (l := L - j) (i := p) (by omega) (by omega) (hF1 (by omega))
          refine lv_iload_n hx hb dX1_keepRow_24 rfl (lv_at hl 3 rfl) ?_
          refine lv_aload_n hx hb dX1_keepRow_25 rfl (lv_at hl 0 rfl) ?_
          refine va_get (D := (dC, dI)) (ci := 1) (v := .ref (ad 47)) (C := RX1) (T := TX1) (N := 5) hx hb hts hiX1 hown hK hP 0 rfl rfl 4 (by decide) hL2 (fun _ h9 => h9) rfl dX1_keepRow_26 ?_
          refine lv_iload hx hb dX1_keepRow_29 (lv_at hl 4 rfl) ?_
          refine bw_re (show z = nI (L - j) from nI_back (by omega)) ?_
          refine lv_bipush (v := 41) hx hb dX1_keepRow_31 (by decide) ?_
          refine lv_imul hx hb dX1_keepRow_33 ?_
          refine bw_re (show (nI (L - j)) * 41 = nI ((L - j) * 41) from pk_mul (L - j) (41)) ?_
          refine lv_iload_n hx hb dX1_keepRow_34 rfl (lv_at hl 3 rfl) ?_
          refine lv_iadd hx hb dX1_keepRow_35 ?_
          refine bw_re (show (nI ((L - j) * 41)) + (nI p) = nI ((L - j) * 41 + p) from nI_add ((L - j) * 41) (p)) ?_
          refine bw_iald hx hb hK hP 4 0 rfl rfl (j := ((L - j) * 41 + p)) (nI_toInt (by omega)) (by omega) dX1_keepRow_36 ?_
          refine bw_re (show ft ((L - j) * 41 + p) = nI (fC v wn wd (L - j) p) from (hrows (L - j) (by omega) (by omega) p (by omega)).2) ?_
          refine lv_iadd hx hb dX1_keepRow_37 ?_
          refine bw_re (show (nI p) + (nI (fC v wn wd (L - j) p)) = nI (p + (fC v wn wd (L - j) p)) from nI_add (p) (fC v wn wd (L - j) p)) ?_
          refine lv_istore (lv' := [(5, .int (nI (p + (fC v wn wd (L - j) p)))), (0, .ref (ad 43)), (1, .ref (ad 41)), (2, .int (nI L)), (3, .int (nI p)), (4, .int z)]) hx hb dX1_keepRow_38 hl (by decide) rfl (fun ls hl => ?_)
          refine lv_bipush (v := (-2)) hx hb dX1_keepRow_40 (by decide) ?_
          refine lv_istore (lv' := [(6, .int (-2)), (5, .int (nI (p + (fC v wn wd (L - j) p)))), (0, .ref (ad 43)), (1, .ref (ad 41)), (2, .int (nI L)), (3, .int (nI p)), (4, .int z)]) hx hb dX1_keepRow_42 hl (by decide) rfl (fun ls hl => ?_)
          refine lv_iload_n hx hb dX1_keepRow_44 rfl (lv_at hl 5 rfl) ?_
          refine lv_istore (lv' := [(7, .int (nI p)), (6, .int (-2)), (5, .int (nI (p + (fC v wn wd (L - j) p)))), (0, .ref (ad 43)), (1, .ref (ad 41)), (2, .int (nI L)), (3, .int (nI p)), (4, .int z)]) hx hb dX1_keepRow_45 hl (by decide) rfl (fun ls hl => ?_)
          have L_47 : ∀ (n9 : Nat), ∀ (q1 : Nat) (u : Int32), (fC v wn wd (L - j) p - q1) < n9 → (q1 ≤ fC v wn wd (L - j) p) → (u.toInt = lnW v p q1) → ∀ (H : Heap) (locs : List Loc), va_P (dC, dI) vwCl [(ad 43, .inr (1, [.int (nI j), .ref (ad 44), .ref (ad 45), .ref (ad 46), .ref (ad 47)])), (ad 44, .inl (cy 0, 8, .inl f1)), (ad 45, .inl (cy 0, 8, .inl g1)), (ad 46, .inl (cy 0, 369, .inl fs)), (ad 47, .inl (cy 0, 369, .inl ft)), (ad 41, .inr (9, [.ref (ad 42), .int (nI wn)])), (ad 42, .inl (cy 0, 40, .inl ww))] H → va_D A [(ad 43, .inr (1, [.int (nI j), .ref (ad 44), .ref (ad 45), .ref (ad 46), .ref (ad 47)])), (ad 44, .inl (cy 0, 8, .inl f1)), (ad 45, .inl (cy 0, 8, .inl g1)), (ad 46, .inl (cy 0, 369, .inl fs)), (ad 47, .inl (cy 0, 369, .inl ft)), (ad 41, .inr (9, [.ref (ad 42), .int (nI wn)])), (ad 42, .inl (cy 0, 40, .inl ww))] → va_S A ss.heap H locs → ∀ (ls : Array Slot), lv_has ls 8 [(0, .ref (ad 43)), (1, .ref (ad 41)), (2, .int (nI L)), (3, .int (nI p)), (4, .int z), (5, .int (nI (p + fC v wn wd (L - j) p))), (6, .int u), (7, .int (nI (p + q1)))] → W pp l ee { frames := 0, cells := 0, slots := 0, locals := 0 } ss mm (List.toArray [Value.ref (ad 43), Value.ref (ad 41), Value.int (nI L)]) below meth cc0 H locs 0 0 Q (F0 mm 47 ls []) := by
            intro n9
            induction n9 with
            | zero => intro q1 u hm9; exact absurd hm9 (Nat.not_lt_zero _)
            | succ n9 ih47 =>
              intro q1 u hm47 hq hu
              intro H locs hP hD hS
              intro ls hl
              have hlm := lnW_mono v p q1 (fC v wn wd (L - j) p - q1)
              rw [show q1 + (fC v wn wd (L - j) p - q1) = fC v wn wd (L - j) p by omega] at hlm
              have hls := lnW_s v p q1
              refine lv_iload hx hb dX1_keepRow_47 (lv_at hl 7 rfl) ?_
              refine lv_iload hx hb dX1_keepRow_49 (lv_at hl 5 rfl) ?_
              refine bw_icmp_ge (tgt := 74) (a := ((p + q1 : Nat) : Int)) (b := ((p + fC v wn wd (L - j) p : Nat) : Int)) hx hb dX1_keepRow_51 (by decide) (nI_toInt (by omega)) (nI_toInt (by omega)) (fun c_3 => ?_) (fun c_3 => ?_)
              · skip
                refine lv_aload_n hx hb dX1_keepRow_74 rfl (lv_at hl 0 rfl) ?_
                refine va_get (D := (dC, dI)) (ci := 1) (v := .ref (ad 44)) (C := RX1) (T := TX1) (N := 5) hx hb hts hiX1 hown hK hP 0 rfl rfl 1 (by decide) hL3 (fun _ h9 => h9) rfl dX1_keepRow_75 ?_
                refine lv_aload_n hx hb dX1_keepRow_78 rfl (lv_at hl 0 rfl) ?_
                refine va_get (D := (dC, dI)) (ci := 1) (v := .int (nI j)) (C := RX1) (T := TX1) (N := 5) hx hb hts hiX1 hown hK hP 0 rfl rfl 0 (by decide) hL0 (fun _ h9 => h9) rfl dX1_keepRow_79 ?_
                refine lv_iload hx hb dX1_keepRow_82 (lv_at hl 5 rfl) ?_
                refine lv_iload_n hx hb dX1_keepRow_84 rfl (lv_at hl 3 rfl) ?_
                refine lv_isub hx hb dX1_keepRow_85 ?_
                refine bw_re (show (nI (p + fC v wn wd (L - j) p)) - (nI p) = nI ((p + fC v wn wd (L - j) p) - p) from pk_sub (a := p + fC v wn wd (L - j) p) (b := p) (by omega)) ?_
                refine bw_iast hx hb hK hP hD hS 1 0 rfl rfl (j := j) (nI_toInt (by omega)) (by omega) dX1_keepRow_86 (fun H locs hP hD hS => ?_)
                have hP : va_P (dC, dI) vwCl [(ad 43, .inr (1, [.int (nI j), .ref (ad 44), .ref (ad 45), .ref (ad 46), .ref (ad 47)])), (ad 44, .inl (cy 0, 8, .inl (upd f1 j (nI ((p + fC v wn wd (L - j) p) - p))))), (ad 45, .inl (cy 0, 8, .inl g1)), (ad 46, .inl (cy 0, 369, .inl fs)), (ad 47, .inl (cy 0, 369, .inl ft)), (ad 41, .inr (9, [.ref (ad 42), .int (nI wn)])), (ad 42, .inl (cy 0, 40, .inl ww))] H := hP
                have hD : va_D A [(ad 43, .inr (1, [.int (nI j), .ref (ad 44), .ref (ad 45), .ref (ad 46), .ref (ad 47)])), (ad 44, .inl (cy 0, 8, .inl (upd f1 j (nI ((p + fC v wn wd (L - j) p) - p))))), (ad 45, .inl (cy 0, 8, .inl g1)), (ad 46, .inl (cy 0, 369, .inl fs)), (ad 47, .inl (cy 0, 369, .inl ft)), (ad 41, .inr (9, [.ref (ad 42), .int (nI wn)])), (ad 42, .inl (cy 0, 40, .inl ww))] := hD
                refine lv_aload_n hx hb dX1_keepRow_87 rfl (lv_at hl 0 rfl) ?_
                refine va_get (D := (dC, dI)) (ci := 1) (v := .ref (ad 45)) (C := RX1) (T := TX1) (N := 5) hx hb hts hiX1 hown hK hP 0 rfl rfl 2 (by decide) hL4 (fun _ h9 => h9) rfl dX1_keepRow_88 ?_
                refine lv_aload_n hx hb dX1_keepRow_91 rfl (lv_at hl 0 rfl) ?_
                refine va_get (D := (dC, dI)) (ci := 1) (v := .int (nI j)) (C := RX1) (T := TX1) (N := 5) hx hb hts hiX1 hown hK hP 0 rfl rfl 0 (by decide) hL0 (fun _ h9 => h9) rfl dX1_keepRow_92 ?_
                refine lv_iload hx hb dX1_keepRow_95 (lv_at hl 6 rfl) ?_
                refine bw_iast hx hb hK hP hD hS 2 0 rfl rfl (j := j) (nI_toInt (by omega)) (by omega) dX1_keepRow_97 (fun H locs hP hD hS => ?_)
                have hP : va_P (dC, dI) vwCl [(ad 43, .inr (1, [.int (nI j), .ref (ad 44), .ref (ad 45), .ref (ad 46), .ref (ad 47)])), (ad 44, .inl (cy 0, 8, .inl (upd f1 j (nI ((p + fC v wn wd (L - j) p) - p))))), (ad 45, .inl (cy 0, 8, .inl (upd g1 j u))), (ad 46, .inl (cy 0, 369, .inl fs)), (ad 47, .inl (cy 0, 369, .inl ft)), (ad 41, .inr (9, [.ref (ad 42), .int (nI wn)])), (ad 42, .inl (cy 0, 40, .inl ww))] H := hP
                have hD : va_D A [(ad 43, .inr (1, [.int (nI j), .ref (ad 44), .ref (ad 45), .ref (ad 46), .ref (ad 47)])), (ad 44, .inl (cy 0, 8, .inl (upd f1 j (nI ((p + fC v wn wd (L - j) p) - p))))), (ad 45, .inl (cy 0, 8, .inl (upd g1 j u))), (ad 46, .inl (cy 0, 369, .inl fs)), (ad 47, .inl (cy 0, 369, .inl ft)), (ad 41, .inr (9, [.ref (ad 42), .int (nI wn)])), (ad 42, .inl (cy 0, 40, .inl ww))] := hD
                refine lv_aload_n hx hb dX1_keepRow_98 rfl (lv_at hl 0 rfl) ?_
                refine lv_dup hx hb dX1_keepRow_99 rfl ?_
                refine va_get (D := (dC, dI)) (ci := 1) (v := .int (nI j)) (C := RX1) (T := TX1) (N := 5) hx hb hts hiX1 hown hK hP 0 rfl rfl 0 (by decide) hL0 (fun _ h9 => h9) rfl dX1_keepRow_100 ?_
                refine lv_iconst (v := 1) hx hb dX1_keepRow_103 (by decide) ?_
                refine lv_iadd hx hb dX1_keepRow_104 ?_
                refine bw_re (show (nI j) + 1 = nI (j + 1) from nI_add (j) (1)) ?_
                refine va_put (D := (dC, dI)) (ci := 1) (v := .int (nI (j + 1))) (ty := (tyX1 0)) (C := RX1) (T := TX1) (N := 5) hx hb hts hiX1 tyX1 tyX1_ok nmX1 hown hK hP hD hS 0 rfl rfl 0 (by decide) hL0 (fun _ h9 => h9) rfl (by decide +kernel) rfl rfl (Nat.le_of_ble_eq_true rfl) dX1_keepRow_105 (fun H locs hP hD hS => ?_)
                have hP : va_P (dC, dI) vwCl [(ad 43, .inr (1, [.int (nI (j + 1)), .ref (ad 44), .ref (ad 45), .ref (ad 46), .ref (ad 47)])), (ad 44, .inl (cy 0, 8, .inl (upd f1 j (nI ((p + fC v wn wd (L - j) p) - p))))), (ad 45, .inl (cy 0, 8, .inl (upd g1 j u))), (ad 46, .inl (cy 0, 369, .inl fs)), (ad 47, .inl (cy 0, 369, .inl ft)), (ad 41, .inr (9, [.ref (ad 42), .int (nI wn)])), (ad 42, .inl (cy 0, 40, .inl ww))] H := hP
                have hD : va_D A [(ad 43, .inr (1, [.int (nI (j + 1)), .ref (ad 44), .ref (ad 45), .ref (ad 46), .ref (ad 47)])), (ad 44, .inl (cy 0, 8, .inl (upd f1 j (nI ((p + fC v wn wd (L - j) p) - p))))), (ad 45, .inl (cy 0, 8, .inl (upd g1 j u))), (ad 46, .inl (cy 0, 369, .inl fs)), (ad 47, .inl (cy 0, 369, .inl ft)), (ad 41, .inr (9, [.ref (ad 42), .int (nI wn)])), (ad 42, .inl (cy 0, 40, .inl ww))] := hD
                refine lv_iload hx hb dX1_keepRow_108 (lv_at hl 5 rfl) ?_
                refine lv_istore_n (lv' := [(3, .int (nI (p + fC v wn wd (L - j) p))), (0, .ref (ad 43)), (1, .ref (ad 41)), (2, .int (nI L)), (4, .int z), (5, .int (nI (p + fC v wn wd (L - j) p))), (6, .int u), (7, .int (nI (p + q1)))]) hx hb dX1_keepRow_110 rfl hl (by decide) rfl (fun ls hl => ?_)
                obtain ⟨z_4, ez_4⟩ : ∃ y9 : Int32, y9 = z + (-1) := ⟨_, rfl⟩
                have tz_4 : z_4.toInt = z.toInt + (-1) := by rw [ez_4]; exact tI_add rfl rfl (by omega) (by omega)
                refine lv_iinc (v := z_4) (lv' := [(4, .int z_4), (3, .int (nI (p + fC v wn wd (L - j) p))), (0, .ref (ad 43)), (1, .ref (ad 41)), (2, .int (nI L)), (5, .int (nI (p + fC v wn wd (L - j) p))), (6, .int u), (7, .int (nI (p + q1)))]) hx hb dX1_keepRow_111 hl (k := 4) rfl (by rw [ez_4]; rfl) (by decide) rfl (fun ls hl => ?_)
                refine lv_goto (tgt := 10) hx hb dX1_keepRow_114 (by decide) ?_
                have hI_hp : (p + fC v wn wd (L - j) p) = pos v wn wd L (j + 1) := by
                  rw [hp]; rfl
                have hI_hz : z_4.toInt = ((L : Nat) : Int) - (((j + 1) : Nat) : Int) := by
                  omega
                have hI_hF1 : (p + fC v wn wd (L - j) p) < wn → fF v wn wd (L - (j + 1)) (p + fC v wn wd (L - j) p) ≠ -1 := by
                  intro q
                  rw [show L - (j + 1) = L - j - 1 by omega]
                  exact hA4 q
                have hI_hlt : ∀ i, i < (j + 1) → pos v wn wd L i < wn := by
                  intro i hi
                  by_cases q : i = j
                  · rw [q, ← hp]; omega
                  · exact hlt i (by omega)
                have hI_hrow : ∀ i, i < (j + 1) → (upd f1 j (nI ((p + fC v wn wd (L - j) p) - p))) i = hW v wn wd L i ∧ (upd g1 j u) i = hX v wn wd L i := by
                  have e7 : q1 = fC v wn wd (L - j) p := by omega
                  rw [e7] at hu
                  have hpos := lnW_pos v p hA1
                  intro i hi
                  by_cases q : i = j
                  · rw [q, pk_us, pk_us]
                    unfold hW hX
                    rw [← hp]
                    exact ⟨congrArg nI (by omega), nI_back (by omega)⟩
                  · rw [pk_un q, pk_un q]; exact hrow i (by omega)
                exact ih10 (j + 1) (p + fC v wn wd (L - j) p) z_4 (upd f1 j (nI ((p + fC v wn wd (L - j) p) - p))) (upd g1 j u) (by omega) (by first | assumption | omega) hI_hp hI_hz (by first | assumption | omega) hI_hF1 hI_hlt hI_hrow H locs hP hD hS ls (lv_sub hl [2, 3, 4, 1, 0] rfl)
              · skip
                have hvb1 := hvb (p + q1) (by omega)
                have hlo := lnW_lo v p q1
                refine lv_iload hx hb dX1_keepRow_54 (lv_at hl 6 rfl) ?_
                refine lv_iconst (v := 2) hx hb dX1_keepRow_56 (by decide) ?_
                refine lv_aload_n hx hb dX1_keepRow_57 rfl (lv_at hl 1 rfl) ?_
                refine va_get (D := (dC, dI)) (ci := 9) (v := .ref (ad 42)) (C := RX9) (T := TX9) (N := 2) hx hb hts hiX9 hown hK hP 5 rfl rfl 0 (by decide) hL5 (fun _ h9 => h9) rfl dX1_keepRow_58 ?_
                refine lv_iload hx hb dX1_keepRow_61 (lv_at hl 7 rfl) ?_
                refine bw_iald hx hb hK hP 6 0 rfl rfl (j := (p + q1)) (nI_toInt (by omega)) (by omega) dX1_keepRow_63 ?_
                refine bw_re (show ww (p + q1) = nI (v (p + q1)) from (hv _ (by omega))) ?_
                refine lv_iadd hx hb dX1_keepRow_64 ?_
                refine bw_re (show 2 + (nI (v (p + q1))) = nI (2 + v (p + q1)) from nI_add (2) (v (p + q1))) ?_
                refine lv_iadd hx hb dX1_keepRow_65 ?_
                refine bw_nm (a := (u.toInt + ((2 + v (p + q1) : Nat) : Int))) (tI_add rfl (nI_toInt (by omega)) (by omega) (by omega)) (fun un eun tun => ?_)
                refine bw_re (show un = un from rfl) ?_
                refine lv_istore (lv' := [(6, .int un), (0, .ref (ad 43)), (1, .ref (ad 41)), (2, .int (nI L)), (3, .int (nI p)), (4, .int z), (5, .int (nI (p + fC v wn wd (L - j) p))), (7, .int (nI (p + q1)))]) hx hb dX1_keepRow_66 hl (by decide) rfl (fun ls hl => ?_)
                refine lv_iinc (v := nI (p + q1 + 1)) (lv' := [(7, .int (nI (p + q1 + 1))), (6, .int un), (0, .ref (ad 43)), (1, .ref (ad 41)), (2, .int (nI L)), (3, .int (nI p)), (4, .int z), (5, .int (nI (p + fC v wn wd (L - j) p)))]) hx hb dX1_keepRow_68 hl (k := 7) rfl (show nI (p + q1) + Int32.ofInt 1 = nI (p + q1 + 1) from nI_add (p + q1) 1) (by decide) rfl (fun ls hl => ?_)
                refine lv_goto (tgt := 47) hx hb dX1_keepRow_71 (by decide) ?_
                have hI_hq : (q1 + 1) ≤ fC v wn wd (L - j) p := by
                  omega
                have hI_hu : un.toInt = lnW v p (q1 + 1) := by
                  omega
                exact ih47 (q1 + 1) un (by omega) hI_hq hI_hu H locs hP hD hS ls (lv_sub hl [2, 3, 4, 5, 6, 7, 1, 0] rfl)
          have hI_hq : 0 ≤ fC v wn wd (L - j) p := by
            omega
          have hI_hu : ((-2) : Int32).toInt = lnW v p 0 := by
            rfl
          exact L_47 ((fC v wn wd (L - j) p - 0) + 1) 0 (-2) (by omega) hI_hq hI_hu H locs hP hD hS ls (lv_sub hl [3, 4, 5, 6, 7, 2, 1, 0] rfl)
  have hI_hp : 0 = pos v wn wd L 0 := by
    rfl
  have hI_hz : (nI L).toInt = ((L : Nat) : Int) - ((0 : Nat) : Int) := by
    rw [nI_toInt (by omega)]; omega
  have hI_hF1 : 0 < wn → fF v wn wd (L - 0) 0 ≠ -1 := by
    intro _
    rw [show L - 0 = L by omega]; exact hF
  have hI_hlt : ∀ i, i < 0 → pos v wn wd L i < wn := by
    exact fun i hi => absurd hi (Nat.not_lt_zero _)
  have hI_hrow : ∀ i, i < 0 → fw i = hW v wn wd L i ∧ fx i = hX v wn wd L i := by
    exact fun i hi => absurd hi (Nat.not_lt_zero _)
  exact L_10 ((L - 0) + 1) 0 0 (nI L) fw fx (by omega) (by first | assumption | omega) hI_hp hI_hz (by first | assumption | omega) hI_hF1 hI_hlt hI_hrow H locs hP hD hS ls (lv_sub hl [2, 3, 4, 1, 0] rfl)

set_option maxHeartbeats 4000000 in
set_option maxRecDepth 100000 in
theorem c_X1_fits (l : Launch) (dC : Nat → ClassId) (dI : Nat → Nat → Nat) (cy : Nat → ClassId) (ad : Nat → Nat) (fl : Nat) (fw : Nat → Int32) (fx : Nat → Int32) (fs : Nat → Int32) (ft : Nat → Int32) (wn : Nat) (ww : Nat → Int32) (wd : Nat) (L : Nat) (v : Nat → Nat) (sz : Nat) (hv : wR ww wn v) (hvb : ∀ k, k < wn → v k ≤ 144) (hwn : wn ≤ 40) (hwd : wd ≤ 400) (hLa : 1 ≤ L) (hLb : L ≤ 8) (hw1 : 1 ≤ wn) : Met l yX1_fits wsX1_fits ({ frames := 2, cells := 0, slots := 0, locals := 52 }) (va_Pc [.ref (ad 43), .ref (ad 41), .int (nI wd), .int (nI L)] (fun U => U.heap.size = sz ∧ va_P (dC, dI) vwCl [(ad 43, .inr (1, [.int (nI fl), .ref (ad 44), .ref (ad 45), .ref (ad 46), .ref (ad 47)])), (ad 44, .inl (cy 0, 8, .inl fw)), (ad 45, .inl (cy 0, 8, .inl fx)), (ad 46, .inl (cy 0, 369, .inl fs)), (ad 47, .inl (cy 0, 369, .inl ft)), (ad 41, .inr (9, [.ref (ad 42), .int (nI wn)])), (ad 42, .inl (cy 0, 40, .inl ww))] U.heap ∧ va_K (dC, dI) vwCl (tyL cy) U ∧ va_D (fun _ => True) [(ad 43, .inr (1, [.int (nI fl), .ref (ad 44), .ref (ad 45), .ref (ad 46), .ref (ad 47)])), (ad 44, .inl (cy 0, 8, .inl fw)), (ad 45, .inl (cy 0, 8, .inl fx)), (ad 46, .inl (cy 0, 369, .inl fs)), (ad 47, .inl (cy 0, 369, .inl ft)), (ad 41, .inr (9, [.ref (ad 42), .int (nI wn)])), (ad 42, .inl (cy 0, 40, .inl ww))])) (va_Qi (S := Nat × (Nat → Int32) × (Nat → Int32) × (Nat → Int32) × (Nat → Int32)) (fun r => fun u => match u with | (fl2, fw2, fx2, fs2, ft2) => fitP v wn wd L r fl2 fw2 fx2) (fun u => match u with | (fl2, fw2, fx2, fs2, ft2) => fun t => va_P (dC, dI) vwCl [(ad 43, .inr (1, [.int (nI fl2), .ref (ad 44), .ref (ad 45), .ref (ad 46), .ref (ad 47)])), (ad 44, .inl (cy 0, 8, .inl fw2)), (ad 45, .inl (cy 0, 8, .inl fx2)), (ad 46, .inl (cy 0, 369, .inl fs2)), (ad 47, .inl (cy 0, 369, .inl ft2)), (ad 41, .inr (9, [.ref (ad 42), .int (nI wn)])), (ad 42, .inl (cy 0, 40, .inl ww))] t.heap ∧ va_K (dC, dI) vwCl (tyL cy) t ∧ va_D (va_A [(ad 43, .inr (1, [.int (nI fl), .ref (ad 44), .ref (ad 45), .ref (ad 46), .ref (ad 47)])), (ad 44, .inl (cy 0, 8, .inl fw)), (ad 45, .inl (cy 0, 8, .inl fx)), (ad 46, .inl (cy 0, 369, .inl fs)), (ad 47, .inl (cy 0, 369, .inl ft)), (ad 41, .inr (9, [.ref (ad 42), .int (nI wn)])), (ad 42, .inl (cy 0, 40, .inl ww))] sz) [(ad 43, .inr (1, [.int (nI fl2), .ref (ad 44), .ref (ad 45), .ref (ad 46), .ref (ad 47)])), (ad 44, .inl (cy 0, 8, .inl fw2)), (ad 45, .inl (cy 0, 8, .inl fx2)), (ad 46, .inl (cy 0, 369, .inl fs2)), (ad 47, .inl (cy 0, 369, .inl ft2)), (ad 41, .inr (9, [.ref (ad 42), .int (nI wn)])), (ad 42, .inl (cy 0, 40, .inl ww))]) (va_A [(ad 43, .inr (1, [.int (nI fl), .ref (ad 44), .ref (ad 45), .ref (ad 46), .ref (ad 47)])), (ad 44, .inl (cy 0, 8, .inl fw)), (ad 45, .inl (cy 0, 8, .inl fx)), (ad 46, .inl (cy 0, 369, .inl fs)), (ad 47, .inl (cy 0, 369, .inl ft)), (ad 41, .inr (9, [.ref (ad 42), .int (nI wn)])), (ad 42, .inl (cy 0, 40, .inl ww))] sz)) 0 0 (va_A [(ad 43, .inr (1, [.int (nI fl), .ref (ad 44), .ref (ad 45), .ref (ad 46), .ref (ad 47)])), (ad 44, .inl (cy 0, 8, .inl fw)), (ad 45, .inl (cy 0, 8, .inl fx)), (ad 46, .inl (cy 0, 369, .inl fs)), (ad 47, .inl (cy 0, 369, .inl ft)), (ad 41, .inr (9, [.ref (ad 42), .int (nI wn)])), (ad 42, .inl (cy 0, 40, .inl ww))] sz) := by
  refine Met.ofW (cc := cX1_fits) (maxL := 6) (ret := (some .boolean)) (by decide) rfl ?_
  intro pp ee ss mm args below meth cc0 s₁ B hml hv
  obtain ⟨rfl, hsz, hP, hK, hD0⟩ := hv
  have hx := B.exec
  have hb := B.bytes
  have hr := B.returns
  have hts := atoms_spec (ws := wsX1_fits) B.pre
  have hown : ss.vm.findClass RX1 = some mm.cls := findClass_of_methodNamed B.named
  have hlocks := B.notSynchronized
  have hL0 := hts (.fieldLink RX1 18 "HereLived$Fitting" "sum" "[I") (by decide +kernel)
  have hL1 := hts (.fieldLink RX1 24 "HereLived$Words" "size" "I") (by decide +kernel)
  have hiX1 : ∀ w ∈ wsX10, w ∈ wsX1_fits := by decide +kernel
  have hiX9 : ∀ w ∈ wsX90, w ∈ wsX1_fits := by decide +kernel
  subst hsz
  have hD := hD0.self (sz := ss.heap.size)
  generalize hAe : va_A [(ad 43, .inr (1, [.int (nI fl), .ref (ad 44), .ref (ad 45), .ref (ad 46), .ref (ad 47)])), (ad 44, .inl (cy 0, 8, .inl fw)), (ad 45, .inl (cy 0, 8, .inl fx)), (ad 46, .inl (cy 0, 369, .inl fs)), (ad 47, .inl (cy 0, 369, .inl ft)), (ad 41, .inr (9, [.ref (ad 42), .int (nI wn)])), (ad 42, .inl (cy 0, 40, .inl ww))] ss.heap.size = A at hD ⊢
  have hA : ∀ q : Nat, ss.heap.size ≤ q → A q := fun q h => by rw [← hAe]; exact Or.inr h
  have hS : va_S A ss.heap ss.heap [] := va_S.rf
  have hP : va_P (dC, dI) vwCl [(ad 43, .inr (1, [.int (nI fl), .ref (ad 44), .ref (ad 45), .ref (ad 46), .ref (ad 47)])), (ad 44, .inl (cy 0, 8, .inl fw)), (ad 45, .inl (cy 0, 8, .inl fx)), (ad 46, .inl (cy 0, 369, .inl fs)), (ad 47, .inl (cy 0, 369, .inl ft)), (ad 41, .inr (9, [.ref (ad 42), .int (nI wn)])), (ad 42, .inl (cy 0, 40, .inl ww))] ss.heap := hP
  have hl := lv_entry ([.ref (ad 43), .ref (ad 41), .int (nI wd), .int (nI L)]) (n := 6) (Nat.le_of_ble_eq_true rfl)
  rw [lg_entry_eq]
  generalize (lg_sl ([.ref (ad 43), .ref (ad 41), .int (nI wd), .int (nI L)]) ++ List.replicate (6 - (lg_sl ([.ref (ad 43), .ref (ad 41), .int (nI wd), .int (nI L)])).length) Slot.unset).toArray = ls at hl ⊢
  have hl : lv_has ls 6 [(0, .ref (ad 43)), (1, .ref (ad 41)), (2, .int (nI wd)), (3, .int (nI L))] := hl
  refine bw_Q (fun Q hQ => ?_)
  refine bw_H0 (fun H locs eH eL => ?_)
  have hS : va_S A ss.heap H locs := by rw [eH, eL]; exact hS
  have hP : va_P (dC, dI) vwCl [(ad 43, .inr (1, [.int (nI fl), .ref (ad 44), .ref (ad 45), .ref (ad 46), .ref (ad 47)])), (ad 44, .inl (cy 0, 8, .inl fw)), (ad 45, .inl (cy 0, 8, .inl fx)), (ad 46, .inl (cy 0, 369, .inl fs)), (ad 47, .inl (cy 0, 369, .inl ft)), (ad 41, .inr (9, [.ref (ad 42), .int (nI wn)])), (ad 42, .inl (cy 0, 40, .inl ww))] H := by rw [eH]; exact hP
  change W pp l ee { frames := 2, cells := 0, slots := 0, locals := 52 } ss mm _ below meth cc0 H locs 0 0 Q (F0 mm 0 ls [])
  refine lv_iconst (v := 1) hx hb dX1_fits_0 (by decide) ?_
  refine lv_istore (lv' := [(4, .int 1), (0, .ref (ad 43)), (1, .ref (ad 41)), (2, .int (nI wd)), (3, .int (nI L))]) hx hb dX1_fits_1 hl (by decide) rfl (fun ls hl => ?_)
  have L_3 : ∀ (n9 : Nat), ∀ (lv : Nat) (f1 : Nat → Int32) (g1 : Nat → Int32), (L + 1 - lv) < n9 → (1 ≤ lv) → (lv ≤ L + 1) → (∀ k, 1 ≤ k → k < lv → ∀ i, i < wn → fOK v wn wd f1 g1 k i) → ∀ (H : Heap) (locs : List Loc), va_P (dC, dI) vwCl [(ad 43, .inr (1, [.int (nI fl), .ref (ad 44), .ref (ad 45), .ref (ad 46), .ref (ad 47)])), (ad 44, .inl (cy 0, 8, .inl fw)), (ad 45, .inl (cy 0, 8, .inl fx)), (ad 46, .inl (cy 0, 369, .inl f1)), (ad 47, .inl (cy 0, 369, .inl g1)), (ad 41, .inr (9, [.ref (ad 42), .int (nI wn)])), (ad 42, .inl (cy 0, 40, .inl ww))] H → va_D A [(ad 43, .inr (1, [.int (nI fl), .ref (ad 44), .ref (ad 45), .ref (ad 46), .ref (ad 47)])), (ad 44, .inl (cy 0, 8, .inl fw)), (ad 45, .inl (cy 0, 8, .inl fx)), (ad 46, .inl (cy 0, 369, .inl f1)), (ad 47, .inl (cy 0, 369, .inl g1)), (ad 41, .inr (9, [.ref (ad 42), .int (nI wn)])), (ad 42, .inl (cy 0, 40, .inl ww))] → va_S A ss.heap H locs → ∀ (ls : Array Slot), lv_has ls 6 [(0, .ref (ad 43)), (1, .ref (ad 41)), (2, .int (nI wd)), (3, .int (nI L)), (4, .int (nI lv))] → W pp l ee { frames := 2, cells := 0, slots := 0, locals := 52 } ss mm (List.toArray [Value.ref (ad 43), Value.ref (ad 41), Value.int (nI wd), Value.int (nI L)]) below meth cc0 H locs 0 0 Q (F0 mm 3 ls []) := by
    intro n9
    induction n9 with
    | zero => intro lv f1 g1 hm9; exact absurd hm9 (Nat.not_lt_zero _)
    | succ n9 ih3 =>
      intro lv f1 g1 hm3 hlv1 hlv2 hr1
      intro H locs hP hD hS
      intro ls hl
      refine lv_iload hx hb dX1_fits_3 (lv_at hl 4 rfl) ?_
      refine lv_iload_n hx hb dX1_fits_5 rfl (lv_at hl 3 rfl) ?_
      refine bw_icmp_gt (tgt := 44) (a := ((lv : Nat) : Int)) (b := ((L : Nat) : Int)) hx hb dX1_fits_6 (by decide) (nI_toInt (by omega)) (nI_toInt (by omega)) (fun c_1 => ?_) (fun c_1 => ?_)
      · skip
        have hrL : ∀ k, 1 ≤ k → k ≤ L → ∀ i, i < wn → fOK v wn wd f1 g1 k i := fun k a b i hi => hr1 k a (by omega) i hi
        have h00 := (hrL L hLa (Nat.le_refl _) 0 (by omega)).1
        refine lv_aload_n hx hb dX1_fits_44 rfl (lv_at hl 0 rfl) ?_
        refine va_get (D := (dC, dI)) (ci := 1) (v := .ref (ad 46)) (C := RX1) (T := TX1) (N := 5) hx hb hts hiX1 hown hK hP 0 rfl rfl 3 (by decide) hL0 (fun _ h9 => h9) rfl dX1_fits_45 ?_
        refine lv_iload_n hx hb dX1_fits_48 rfl (lv_at hl 3 rfl) ?_
        refine lv_bipush (v := 41) hx hb dX1_fits_49 (by decide) ?_
        refine lv_imul hx hb dX1_fits_51 ?_
        refine bw_re (show (nI L) * 41 = nI (L * 41) from pk_mul (L) (41)) ?_
        refine bw_iald hx hb hK hP 3 0 rfl rfl (j := (L * 41 + 0)) ((nI_toInt (by omega)).trans (by omega)) (by omega) dX1_fits_52 ?_
        refine lv_iconst (v := (-1)) hx hb dX1_fits_53 (by decide) ?_
        refine bw_icmp_ne (tgt := 59) (a := (f1 (L * 41 + 0)).toInt) (b := (-1)) hx hb dX1_fits_54 (by decide) rfl rfl (fun c_n => ?_) (fun c_n => ?_)
        · skip
          refine lv_aload_n hx hb dX1_fits_59 rfl (lv_at hl 0 rfl) ?_
          refine lv_aload_n hx hb dX1_fits_60 rfl (lv_at hl 1 rfl) ?_
          refine lv_iload_n hx hb dX1_fits_61 rfl (lv_at hl 3 rfl) ?_
          have hPc : va_P (dC, dI) vwCl [(ad 43, .inr (1, [.int (nI fl), .ref (ad 44), .ref (ad 45), .ref (ad 46), .ref (ad 47)])), (ad 44, .inl (cy 0, 8, .inl fw)), (ad 45, .inl (cy 0, 8, .inl fx)), (ad 46, .inl (cy 0, 369, .inl f1)), (ad 47, .inl (cy 0, 369, .inl g1)), (ad 41, .inr (9, [.ref (ad 42), .int (nI wn)])), (ad 42, .inl (cy 0, 40, .inl ww))] H := hP.sub [0, 1, 2, 3, 4, 5, 6] rfl
          have hDc : va_D A [(ad 43, .inr (1, [.int (nI fl), .ref (ad 44), .ref (ad 45), .ref (ad 46), .ref (ad 47)])), (ad 44, .inl (cy 0, 8, .inl fw)), (ad 45, .inl (cy 0, 8, .inl fx)), (ad 46, .inl (cy 0, 369, .inl f1)), (ad 47, .inl (cy 0, 369, .inl g1)), (ad 41, .inr (9, [.ref (ad 42), .int (nI wn)])), (ad 42, .inl (cy 0, 40, .inl ww))] := hD.sub [0, 1, 2, 3, 4, 5, 6] (by decide) rfl
          have hFc := va_free (wc := [(ad 43, .inr (1, [.int (nI fl), .ref (ad 44), .ref (ad 45), .ref (ad 46), .ref (ad 47)])), (ad 44, .inl (cy 0, 8, .inl fw)), (ad 45, .inl (cy 0, 8, .inl fx)), (ad 46, .inl (cy 0, 369, .inl f1)), (ad 47, .inl (cy 0, 369, .inl g1)), (ad 41, .inr (9, [.ref (ad 42), .int (nI wn)])), (ad 42, .inl (cy 0, 40, .inl ww))]) hD hS hA [0, 1, 2, 3, 4, 5, 6] rfl
          refine va_callv (va_runV (As := [.ref (ad 41), .int (nI L)]) (rest := []) ⟨hx, hb, hml, hown, hts⟩ (c_X1_keepRow l dC dI cy ad fl fw fx f1 g1 wn ww L wd v H.size (by first | assumption | omega) (by first | assumption | omega) (by first | assumption | omega) (by first | assumption | omega) (by first | assumption | omega) (by first | assumption | omega) (by first | assumption | omega) (hrL) (by rw [← h00]; exact c_n)) (cwV 2 hts gX1_fits_X1_keepRow rfl rfl rfl (by decide +kernel) ⟨Nat.le_of_ble_eq_true rfl, Nat.le_of_ble_eq_true rfl⟩) ⟨fun a U g mk q => by obtain ⟨q0, q1, qP, qK, qD⟩ := q; exact ⟨q0, q1, qP, va_K.moved (u := U) (U := U.calling g mk a) (Vm.Alike.refl U.vm) qK, qD⟩, va_recv hK hPc (ci := 1) (q0 := 0) rfl rfl, fun U hU hW => ⟨rfl, by rw [hU], by rw [hU]; exact hPc, va_K.moved hW.alike hK, hDc.weaken (fun _ _ _ _ => trivial)⟩⟩ rfl rfl hl.1 rfl (lv_room (Nat.le_of_ble_eq_true rfl)) dX1_fits_62 ⟨Nat.le_of_ble_eq_true rfl, Nat.le_of_ble_eq_true rfl⟩) hS (fun q _ h => hFc q h) hFc (fun u t9 H1 locs ht hvm hw hB hz1 hk1 hS => ?_)
          obtain ⟨fl2_2, fw2_3, fx2_4⟩ := u
          have hkr := hw
          try dsimp only at hkr
          obtain ⟨hP1, hK1, hD1⟩ := hB
          rw [ht] at hP1
          obtain ⟨hP, hD⟩ := va_join (wr := []) (w1 := [(ad 43, .inr (1, [.int (nI fl2_2), .ref (ad 44), .ref (ad 45), .ref (ad 46), .ref (ad 47)])), (ad 44, .inl (cy 0, 8, .inl fw2_3)), (ad 45, .inl (cy 0, 8, .inl fx2_4)), (ad 46, .inl (cy 0, 369, .inl f1)), (ad 47, .inl (cy 0, 369, .inl g1)), (ad 41, .inr (9, [.ref (ad 42), .int (nI wn)])), (ad 42, .inl (cy 0, 40, .inl ww))]) hP hD [0, 1, 2, 3, 4, 5, 6] [] rfl rfl (by decide) (by decide) hk1 hFc hP1 hD1
          generalize H1 = H at hP hS ⊢
          have hP : va_P (dC, dI) vwCl [(ad 43, .inr (1, [.int (nI fl2_2), .ref (ad 44), .ref (ad 45), .ref (ad 46), .ref (ad 47)])), (ad 44, .inl (cy 0, 8, .inl fw2_3)), (ad 45, .inl (cy 0, 8, .inl fx2_4)), (ad 46, .inl (cy 0, 369, .inl f1)), (ad 47, .inl (cy 0, 369, .inl g1)), (ad 41, .inr (9, [.ref (ad 42), .int (nI wn)])), (ad 42, .inl (cy 0, 40, .inl ww))] H := hP.sub [0, 1, 2, 3, 4, 5, 6] rfl
          have hD : va_D A [(ad 43, .inr (1, [.int (nI fl2_2), .ref (ad 44), .ref (ad 45), .ref (ad 46), .ref (ad 47)])), (ad 44, .inl (cy 0, 8, .inl fw2_3)), (ad 45, .inl (cy 0, 8, .inl fx2_4)), (ad 46, .inl (cy 0, 369, .inl f1)), (ad 47, .inl (cy 0, 369, .inl g1)), (ad 41, .inr (9, [.ref (ad 42), .int (nI wn)])), (ad 42, .inl (cy 0, 40, .inl ww))] := hD.sub [0, 1, 2, 3, 4, 5, 6] (by decide) rfl
          refine lv_iconst (v := 1) hx hb dX1_fits_65 (by decide) ?_
          refine bw_Qe hQ ?_
          have hP9 : va_P (dC, dI) vwCl [(ad 43, .inr (1, [.int (nI fl2_2), .ref (ad 44), .ref (ad 45), .ref (ad 46), .ref (ad 47)])), (ad 44, .inl (cy 0, 8, .inl fw2_3)), (ad 45, .inl (cy 0, 8, .inl fx2_4)), (ad 46, .inl (cy 0, 369, .inl f1)), (ad 47, .inl (cy 0, 369, .inl g1)), (ad 41, .inr (9, [.ref (ad 42), .int (nI wn)])), (ad 42, .inl (cy 0, 40, .inl ww))] H := hP.sub [0, 1, 2, 3, 4, 5, 6] rfl
          have hD9 : va_D A [(ad 43, .inr (1, [.int (nI fl2_2), .ref (ad 44), .ref (ad 45), .ref (ad 46), .ref (ad 47)])), (ad 44, .inl (cy 0, 8, .inl fw2_3)), (ad 45, .inl (cy 0, 8, .inl fx2_4)), (ad 46, .inl (cy 0, 369, .inl f1)), (ad 47, .inl (cy 0, 369, .inl g1)), (ad 41, .inr (9, [.ref (ad 42), .int (nI wn)])), (ad 42, .inl (cy 0, 40, .inl ww))] := hD.sub [0, 1, 2, 3, 4, 5, 6] (by decide) rfl
          have hpost : fitP v wn wd L (1 : Int32) fl2_2 fw2_3 fx2_4 := by
            exact Or.inr ⟨rfl, by rw [← h00]; exact c_n, hkr⟩
          exact W.zret (v := 1) hx hb hr (by rfl) (fun t9 ht hW => ⟨⟨1, (fl2_2, fw2_3, fx2_4, f1, g1), rfl, hpost, by rw [ht]; exact hP9, va_K.moved hW.alike hK, hD9⟩, hS.F ht⟩) hS.2.2 dX1_fits_66
        · skip
          refine lv_iconst (v := 0) hx hb dX1_fits_57 (by decide) ?_
          refine bw_Qe hQ ?_
          have hP9 : va_P (dC, dI) vwCl [(ad 43, .inr (1, [.int (nI fl), .ref (ad 44), .ref (ad 45), .ref (ad 46), .ref (ad 47)])), (ad 44, .inl (cy 0, 8, .inl fw)), (ad 45, .inl (cy 0, 8, .inl fx)), (ad 46, .inl (cy 0, 369, .inl f1)), (ad 47, .inl (cy 0, 369, .inl g1)), (ad 41, .inr (9, [.ref (ad 42), .int (nI wn)])), (ad 42, .inl (cy 0, 40, .inl ww))] H := hP.sub [0, 1, 2, 3, 4, 5, 6] rfl
          have hD9 : va_D A [(ad 43, .inr (1, [.int (nI fl), .ref (ad 44), .ref (ad 45), .ref (ad 46), .ref (ad 47)])), (ad 44, .inl (cy 0, 8, .inl fw)), (ad 45, .inl (cy 0, 8, .inl fx)), (ad 46, .inl (cy 0, 369, .inl f1)), (ad 47, .inl (cy 0, 369, .inl g1)), (ad 41, .inr (9, [.ref (ad 42), .int (nI wn)])), (ad 42, .inl (cy 0, 40, .inl ww))] := hD.sub [0, 1, 2, 3, 4, 5, 6] (by decide) rfl
          have hpost : fitP v wn wd L (0 : Int32) fl fw fx := by
            exact Or.inl ⟨rfl, by rw [← h00]; exact c_n⟩
          exact W.zret (v := 0) hx hb hr (by rfl) (fun t9 ht hW => ⟨⟨0, (fl, fw, fx, f1, g1), rfl, hpost, by rw [ht]; exact hP9, va_K.moved hW.alike hK, hD9⟩, hS.F ht⟩) hS.2.2 dX1_fits_58
      · skip
        refine lv_aload_n hx hb dX1_fits_9 rfl (lv_at hl 1 rfl) ?_
        refine va_get (D := (dC, dI)) (ci := 9) (v := .int (nI wn)) (C := RX9) (T := TX9) (N := 2) hx hb hts hiX9 hown hK hP 5 rfl rfl 1 (by decide) hL1 (fun _ h9 => h9) rfl dX1_fits_10 ?_
        refine lv_iconst (v := 1) hx hb dX1_fits_13 (by decide) ?_
        refine lv_isub hx hb dX1_fits_14 ?_
        refine bw_nm (a := (((wn : Nat) : Int) - 1)) (tI_sub (nI_toInt (by omega)) rfl (by omega) (by omega)) (fun z_5 ez_5 tz_5 => ?_)
        refine lv_istore (lv' := [(5, .int z_5), (0, .ref (ad 43)), (1, .ref (ad 41)), (2, .int (nI wd)), (3, .int (nI L)), (4, .int (nI lv))]) hx hb dX1_fits_15 hl (by decide) rfl (fun ls hl => ?_)
        have L_17 : ∀ (n9 : Nat), ∀ (z : Int32) (f2 : Nat → Int32) (g2 : Nat → Int32), ((z.toInt + 1).toNat) < n9 → (-1 ≤ z.toInt ∧ z.toInt < ((wn : Nat) : Int)) → (∀ k, 1 ≤ k → k < lv → ∀ i, i < wn → fOK v wn wd f2 g2 k i) → (∀ i, z.toInt < ((i : Nat) : Int) → i < wn → fOK v wn wd f2 g2 lv i) → ∀ (H : Heap) (locs : List Loc), va_P (dC, dI) vwCl [(ad 43, .inr (1, [.int (nI fl), .ref (ad 44), .ref (ad 45), .ref (ad 46), .ref (ad 47)])), (ad 44, .inl (cy 0, 8, .inl fw)), (ad 45, .inl (cy 0, 8, .inl fx)), (ad 46, .inl (cy 0, 369, .inl f2)), (ad 47, .inl (cy 0, 369, .inl g2)), (ad 41, .inr (9, [.ref (ad 42), .int (nI wn)])), (ad 42, .inl (cy 0, 40, .inl ww))] H → va_D A [(ad 43, .inr (1, [.int (nI fl), .ref (ad 44), .ref (ad 45), .ref (ad 46), .ref (ad 47)])), (ad 44, .inl (cy 0, 8, .inl fw)), (ad 45, .inl (cy 0, 8, .inl fx)), (ad 46, .inl (cy 0, 369, .inl f2)), (ad 47, .inl (cy 0, 369, .inl g2)), (ad 41, .inr (9, [.ref (ad 42), .int (nI wn)])), (ad 42, .inl (cy 0, 40, .inl ww))] → va_S A ss.heap H locs → ∀ (ls : Array Slot), lv_has ls 6 [(0, .ref (ad 43)), (1, .ref (ad 41)), (2, .int (nI wd)), (3, .int (nI L)), (4, .int (nI lv)), (5, .int z)] → W pp l ee { frames := 2, cells := 0, slots := 0, locals := 52 } ss mm (List.toArray [Value.ref (ad 43), Value.ref (ad 41), Value.int (nI wd), Value.int (nI L)]) below meth cc0 H locs 0 0 Q (F0 mm 17 ls []) := by
          intro n9
          induction n9 with
          | zero => intro z f2 g2 hm9; exact absurd hm9 (Nat.not_lt_zero _)
          | succ n9 ih17 =>
            intro z f2 g2 hm17 hz1 hr2 hr3
            intro H locs hP hD hS
            intro ls hl
            refine lv_iload hx hb dX1_fits_17 (lv_at hl 5 rfl) ?_
            refine bw_if_lt (tgt := 38) (a := z.toInt) hx hb dX1_fits_19 (by decide) rfl (fun c_6 => ?_) (fun c_6 => ?_)
            · skip
              refine lv_iinc (v := nI (lv + 1)) (lv' := [(4, .int (nI (lv + 1))), (0, .ref (ad 43)), (1, .ref (ad 41)), (2, .int (nI wd)), (3, .int (nI L)), (5, .int z)]) hx hb dX1_fits_38 hl (k := 4) rfl (show nI lv + Int32.ofInt 1 = nI (lv + 1) from nI_add lv 1) (by decide) rfl (fun ls hl => ?_)
              refine lv_goto (tgt := 3) hx hb dX1_fits_41 (by decide) ?_
              have hI_hr1 : ∀ k, 1 ≤ k → k < (lv + 1) → ∀ i, i < wn → fOK v wn wd f2 g2 k i := by
                intro k a b i hi
                by_cases q : k = lv
                · rw [q]; exact hr3 i (by omega) hi
                · exact hr2 k a (by omega) i hi
              exact ih3 (lv + 1) f2 g2 (by omega) (by first | assumption | omega) (by first | assumption | omega) hI_hr1 H locs hP hD hS ls (lv_sub hl [1, 2, 3, 4, 0] rfl)
            · skip
              refine lv_aload_n hx hb dX1_fits_22 rfl (lv_at hl 0 rfl) ?_
              refine lv_aload_n hx hb dX1_fits_23 rfl (lv_at hl 1 rfl) ?_
              refine lv_iload_n hx hb dX1_fits_24 rfl (lv_at hl 2 rfl) ?_
              refine lv_iload hx hb dX1_fits_25 (lv_at hl 4 rfl) ?_
              refine lv_iload hx hb dX1_fits_27 (lv_at hl 5 rfl) ?_
              refine bw_re (show z = nI z.toInt.toNat from nI_back (by omega)) ?_
              have hPc : va_P (dC, dI) vwCl [(ad 43, .inr (1, [.int (nI fl), .ref (ad 44), .ref (ad 45), .ref (ad 46), .ref (ad 47)])), (ad 46, .inl (cy 0, 369, .inl f2)), (ad 47, .inl (cy 0, 369, .inl g2)), (ad 41, .inr (9, [.ref (ad 42), .int (nI wn)])), (ad 42, .inl (cy 0, 40, .inl ww))] H := hP.sub [0, 3, 4, 5, 6] rfl
              have hDc : va_D A [(ad 43, .inr (1, [.int (nI fl), .ref (ad 44), .ref (ad 45), .ref (ad 46), .ref (ad 47)])), (ad 46, .inl (cy 0, 369, .inl f2)), (ad 47, .inl (cy 0, 369, .inl g2)), (ad 41, .inr (9, [.ref (ad 42), .int (nI wn)])), (ad 42, .inl (cy 0, 40, .inl ww))] := hD.sub [0, 3, 4, 5, 6] (by decide) rfl
              have hFc := va_free (wc := [(ad 43, .inr (1, [.int (nI fl), .ref (ad 44), .ref (ad 45), .ref (ad 46), .ref (ad 47)])), (ad 46, .inl (cy 0, 369, .inl f2)), (ad 47, .inl (cy 0, 369, .inl g2)), (ad 41, .inr (9, [.ref (ad 42), .int (nI wn)])), (ad 42, .inl (cy 0, 40, .inl ww))]) hD hS hA [0, 3, 4, 5, 6] rfl
              refine va_callv (va_runV (As := [.ref (ad 41), .int (nI wd), .int (nI lv), .int (nI z.toInt.toNat)]) (rest := []) ⟨hx, hb, hml, hown, hts⟩ (c_X1_fitFrom l dC dI cy ad fl f2 g2 wn ww wd lv z.toInt.toNat v H.size (by first | assumption | omega) (by first | assumption | omega) (by first | assumption | omega) (by first | assumption | omega) (by first | assumption | omega) (by first | assumption | omega) (by first | assumption | omega) (fun q j hj => hr2 (lv - 1) (by omega) (by omega) j hj)) (cwV 4 hts gX1_fits_X1_fitFrom rfl rfl rfl (by decide +kernel) ⟨Nat.le_of_ble_eq_true rfl, Nat.le_of_ble_eq_true rfl⟩) ⟨fun a U g mk q => by obtain ⟨q0, q1, qP, qK, qD⟩ := q; exact ⟨q0, q1, qP, va_K.moved (u := U) (U := U.calling g mk a) (Vm.Alike.refl U.vm) qK, qD⟩, va_recv hK hPc (ci := 1) (q0 := 0) rfl rfl, fun U hU hW => ⟨rfl, by rw [hU], by rw [hU]; exact hPc, va_K.moved hW.alike hK, hDc.weaken (fun _ _ _ _ => trivial)⟩⟩ rfl rfl hl.1 rfl (lv_room (Nat.le_of_ble_eq_true rfl)) dX1_fits_29 ⟨Nat.le_of_ble_eq_true rfl, Nat.le_of_ble_eq_true rfl⟩) hS (fun q _ h => hFc q h) hFc (fun u t9 H1 locs ht hvm hw hB hz1 hk1 hS => ?_)
              obtain ⟨b1_7, t1_8⟩ := u
              have hff := hw
              try dsimp only at hff
              obtain ⟨hP1, hK1, hD1⟩ := hB
              rw [ht] at hP1
              obtain ⟨hP, hD⟩ := va_join (wr := [(ad 44, .inl (cy 0, 8, .inl fw)), (ad 45, .inl (cy 0, 8, .inl fx))]) (w1 := [(ad 43, .inr (1, [.int (nI fl), .ref (ad 44), .ref (ad 45), .ref (ad 46), .ref (ad 47)])), (ad 46, .inl (cy 0, 369, .inl (upd f2 (lv * 41 + z.toInt.toNat) b1_7))), (ad 47, .inl (cy 0, 369, .inl (upd g2 (lv * 41 + z.toInt.toNat) (nI t1_8)))), (ad 41, .inr (9, [.ref (ad 42), .int (nI wn)])), (ad 42, .inl (cy 0, 40, .inl ww))]) hP hD [0, 3, 4, 5, 6] [1, 2] rfl rfl (by decide) (by decide) hk1 hFc hP1 hD1
              generalize H1 = H at hP hS ⊢
              have hP : va_P (dC, dI) vwCl [(ad 43, .inr (1, [.int (nI fl), .ref (ad 44), .ref (ad 45), .ref (ad 46), .ref (ad 47)])), (ad 44, .inl (cy 0, 8, .inl fw)), (ad 45, .inl (cy 0, 8, .inl fx)), (ad 46, .inl (cy 0, 369, .inl (upd f2 (lv * 41 + z.toInt.toNat) b1_7))), (ad 47, .inl (cy 0, 369, .inl (upd g2 (lv * 41 + z.toInt.toNat) (nI t1_8)))), (ad 41, .inr (9, [.ref (ad 42), .int (nI wn)])), (ad 42, .inl (cy 0, 40, .inl ww))] H := hP.sub [2, 0, 1, 3, 4, 5, 6] rfl
              have hD : va_D A [(ad 43, .inr (1, [.int (nI fl), .ref (ad 44), .ref (ad 45), .ref (ad 46), .ref (ad 47)])), (ad 44, .inl (cy 0, 8, .inl fw)), (ad 45, .inl (cy 0, 8, .inl fx)), (ad 46, .inl (cy 0, 369, .inl (upd f2 (lv * 41 + z.toInt.toNat) b1_7))), (ad 47, .inl (cy 0, 369, .inl (upd g2 (lv * 41 + z.toInt.toNat) (nI t1_8)))), (ad 41, .inr (9, [.ref (ad 42), .int (nI wn)])), (ad 42, .inl (cy 0, 40, .inl ww))] := hD.sub [2, 0, 1, 3, 4, 5, 6] (by decide) rfl
              obtain ⟨z_9, ez_9⟩ : ∃ y9 : Int32, y9 = z + (-1) := ⟨_, rfl⟩
              have tz_9 : z_9.toInt = z.toInt + (-1) := by rw [ez_9]; exact tI_add rfl rfl (by omega) (by omega)
              refine lv_iinc (v := z_9) (lv' := [(5, .int z_9), (0, .ref (ad 43)), (1, .ref (ad 41)), (2, .int (nI wd)), (3, .int (nI L)), (4, .int (nI lv))]) hx hb dX1_fits_32 hl (k := 5) rfl (by rw [ez_9]; rfl) (by decide) rfl (fun ls hl => ?_)
              refine lv_goto (tgt := 17) hx hb dX1_fits_35 (by decide) ?_
              have hI_hz1 : -1 ≤ z_9.toInt ∧ z_9.toInt < ((wn : Nat) : Int) := by
                omega
              have hI_hr2 : ∀ k, 1 ≤ k → k < lv → ∀ i, i < wn → fOK v wn wd (upd f2 (lv * 41 + z.toInt.toNat) b1_7) (upd g2 (lv * 41 + z.toInt.toNat) (nI t1_8)) k i := by
                intro k a b i hi
                exact fOK_upd (hr2 k a b i hi) (by omega)
              have hI_hr3 : ∀ i, z_9.toInt < ((i : Nat) : Int) → i < wn → fOK v wn wd (upd f2 (lv * 41 + z.toInt.toNat) b1_7) (upd g2 (lv * 41 + z.toInt.toNat) (nI t1_8)) lv i := by
                intro i a b
                by_cases q : i = z.toInt.toNat
                · rw [q]; exact fOK_new hff.1 hff.2
                · exact fOK_upd (hr3 i (by omega) b) (by omega)
              exact ih17 z_9 (upd f2 (lv * 41 + z.toInt.toNat) b1_7) (upd g2 (lv * 41 + z.toInt.toNat) (nI t1_8)) (by omega) hI_hz1 hI_hr2 hI_hr3 H locs hP hD hS ls (lv_sub hl [1, 2, 3, 4, 5, 0] rfl)
        have hI_hz1 : -1 ≤ z_5.toInt ∧ z_5.toInt < ((wn : Nat) : Int) := by
          omega
        have hI_hr2 : ∀ k, 1 ≤ k → k < lv → ∀ i, i < wn → fOK v wn wd f1 g1 k i := by
          exact hr1
        have hI_hr3 : ∀ i, z_5.toInt < ((i : Nat) : Int) → i < wn → fOK v wn wd f1 g1 lv i := by
          exact fun i a b => absurd a (by omega)
        exact L_17 (((z_5.toInt + 1).toNat) + 1) z_5 f1 g1 (by omega) hI_hz1 hI_hr2 hI_hr3 H locs hP hD hS ls (lv_sub hl [1, 2, 3, 4, 5, 0] rfl)
  have hI_hr1 : ∀ k, 1 ≤ k → k < 1 → ∀ i, i < wn → fOK v wn wd fs ft k i := by
    exact fun k a b => absurd b (by omega)
  exact L_3 ((L + 1 - 1) + 1) 1 fs ft (by omega) (by first | assumption | omega) (by first | assumption | omega) hI_hr1 H locs hP hD hS ls (lv_sub hl [1, 2, 3, 4, 0] rfl)

set_option maxHeartbeats 4000000 in
set_option maxRecDepth 100000 in
theorem c_X0_keepLines (l : Launch) (dC : Nat → ClassId) (dI : Nat → Nat → Nat) (cy : Nat → ClassId) (ad : Nat → Nat) (an : Nat) (aln : Nat → Int32) (alw : Nat → Int32) (alx : Nat → Int32) (fl : Nat) (fw : Nat → Int32) (fx : Nat → Int32) (a1 : Nat) (sz : Nat) (ha1 : a1 < 40) (hfl : fl ≤ 8) : Met l yX0_keepLines wsX0_keepLines ({ frames := 0, cells := 0, slots := 0, locals := 0 }) (va_Pc [.ref (ad 30), .int (nI a1), .ref (ad 43)] (fun U => U.heap.size = sz ∧ va_P (dC, dI) vwCl [(ad 30, .inr (0, [.ref (ad 31), .ref (ad 32), .ref (ad 33), .ref (ad 34), .ref (ad 35), .ref (ad 36), .ref (ad 37), .ref (ad 38), .ref (ad 39), .ref (ad 40), .int (nI an)])), (ad 38, .inl (cy 0, 40, .inl aln)), (ad 39, .inl (cy 0, 320, .inl alw)), (ad 40, .inl (cy 0, 320, .inl alx)), (ad 43, .inr (1, [.int (nI fl), .ref (ad 44), .ref (ad 45), .ref (ad 46), .ref (ad 47)])), (ad 44, .inl (cy 0, 8, .inl fw)), (ad 45, .inl (cy 0, 8, .inl fx))] U.heap ∧ va_K (dC, dI) vwCl (tyL cy) U ∧ va_D (fun _ => True) [(ad 30, .inr (0, [.ref (ad 31), .ref (ad 32), .ref (ad 33), .ref (ad 34), .ref (ad 35), .ref (ad 36), .ref (ad 37), .ref (ad 38), .ref (ad 39), .ref (ad 40), .int (nI an)])), (ad 38, .inl (cy 0, 40, .inl aln)), (ad 39, .inl (cy 0, 320, .inl alw)), (ad 40, .inl (cy 0, 320, .inl alx)), (ad 43, .inr (1, [.int (nI fl), .ref (ad 44), .ref (ad 45), .ref (ad 46), .ref (ad 47)])), (ad 44, .inl (cy 0, 8, .inl fw)), (ad 45, .inl (cy 0, 8, .inl fx))])) (va_Qv (S := (Nat → Int32) × (Nat → Int32)) (fun u => match u with | (alw2, alx2) => alw2 = wrR alw a1 fl fw ∧ alx2 = wrR alx a1 fl fx) (fun u => match u with | (alw2, alx2) => fun t => va_P (dC, dI) vwCl [(ad 30, .inr (0, [.ref (ad 31), .ref (ad 32), .ref (ad 33), .ref (ad 34), .ref (ad 35), .ref (ad 36), .ref (ad 37), .ref (ad 38), .ref (ad 39), .ref (ad 40), .int (nI an)])), (ad 38, .inl (cy 0, 40, .inl (upd aln a1 (nI fl)))), (ad 39, .inl (cy 0, 320, .inl alw2)), (ad 40, .inl (cy 0, 320, .inl alx2)), (ad 43, .inr (1, [.int (nI fl), .ref (ad 44), .ref (ad 45), .ref (ad 46), .ref (ad 47)])), (ad 44, .inl (cy 0, 8, .inl fw)), (ad 45, .inl (cy 0, 8, .inl fx))] t.heap ∧ va_K (dC, dI) vwCl (tyL cy) t ∧ va_D (va_A [(ad 30, .inr (0, [.ref (ad 31), .ref (ad 32), .ref (ad 33), .ref (ad 34), .ref (ad 35), .ref (ad 36), .ref (ad 37), .ref (ad 38), .ref (ad 39), .ref (ad 40), .int (nI an)])), (ad 38, .inl (cy 0, 40, .inl aln)), (ad 39, .inl (cy 0, 320, .inl alw)), (ad 40, .inl (cy 0, 320, .inl alx)), (ad 43, .inr (1, [.int (nI fl), .ref (ad 44), .ref (ad 45), .ref (ad 46), .ref (ad 47)])), (ad 44, .inl (cy 0, 8, .inl fw)), (ad 45, .inl (cy 0, 8, .inl fx))] sz) [(ad 30, .inr (0, [.ref (ad 31), .ref (ad 32), .ref (ad 33), .ref (ad 34), .ref (ad 35), .ref (ad 36), .ref (ad 37), .ref (ad 38), .ref (ad 39), .ref (ad 40), .int (nI an)])), (ad 38, .inl (cy 0, 40, .inl (upd aln a1 (nI fl)))), (ad 39, .inl (cy 0, 320, .inl alw2)), (ad 40, .inl (cy 0, 320, .inl alx2)), (ad 43, .inr (1, [.int (nI fl), .ref (ad 44), .ref (ad 45), .ref (ad 46), .ref (ad 47)])), (ad 44, .inl (cy 0, 8, .inl fw)), (ad 45, .inl (cy 0, 8, .inl fx))]) (va_A [(ad 30, .inr (0, [.ref (ad 31), .ref (ad 32), .ref (ad 33), .ref (ad 34), .ref (ad 35), .ref (ad 36), .ref (ad 37), .ref (ad 38), .ref (ad 39), .ref (ad 40), .int (nI an)])), (ad 38, .inl (cy 0, 40, .inl aln)), (ad 39, .inl (cy 0, 320, .inl alw)), (ad 40, .inl (cy 0, 320, .inl alx)), (ad 43, .inr (1, [.int (nI fl), .ref (ad 44), .ref (ad 45), .ref (ad 46), .ref (ad 47)])), (ad 44, .inl (cy 0, 8, .inl fw)), (ad 45, .inl (cy 0, 8, .inl fx))] sz)) 0 0 (va_A [(ad 30, .inr (0, [.ref (ad 31), .ref (ad 32), .ref (ad 33), .ref (ad 34), .ref (ad 35), .ref (ad 36), .ref (ad 37), .ref (ad 38), .ref (ad 39), .ref (ad 40), .int (nI an)])), (ad 38, .inl (cy 0, 40, .inl aln)), (ad 39, .inl (cy 0, 320, .inl alw)), (ad 40, .inl (cy 0, 320, .inl alx)), (ad 43, .inr (1, [.int (nI fl), .ref (ad 44), .ref (ad 45), .ref (ad 46), .ref (ad 47)])), (ad 44, .inl (cy 0, 8, .inl fw)), (ad 45, .inl (cy 0, 8, .inl fx))] sz) := by
  refine Met.ofW (cc := cX0_keepLines) (maxL := 4) (ret := none) (by decide) rfl ?_
  intro pp ee ss mm args below meth cc0 s₁ B hml hv
  obtain ⟨rfl, hsz, hP, hK, hD0⟩ := hv
  have hx := B.exec
  have hb := B.bytes
  have hr := B.returns
  have hts := atoms_spec (ws := wsX0_keepLines) B.pre
  have hown : ss.vm.findClass RX0 = some mm.cls := findClass_of_methodNamed B.named
  have hlocks := B.notSynchronized
  have hL0 := hts (.fieldLink RX0 33 "HereLived$Askings" "lines" "[I") (by decide +kernel)
  have hL1 := hts (.fieldLink RX0 46 "HereLived$Fitting" "lines" "I") (by decide +kernel)
  have hL2 := hts (.fieldLink RX0 36 "HereLived$Askings" "lineWords" "[I") (by decide +kernel)
  have hL3 := hts (.fieldLink RX0 50 "HereLived$Fitting" "lineWords" "[I") (by decide +kernel)
  have hL4 := hts (.fieldLink RX0 39 "HereLived$Askings" "lineWidths" "[I") (by decide +kernel)
  have hL5 := hts (.fieldLink RX0 51 "HereLived$Fitting" "lineWidths" "[I") (by decide +kernel)
  have hiX0 : ∀ w ∈ wsX00, w ∈ wsX0_keepLines := by decide +kernel
  have hiX1 : ∀ w ∈ wsX10, w ∈ wsX0_keepLines := by decide +kernel
  subst hsz
  have hD := hD0.self (sz := ss.heap.size)
  generalize hAe : va_A [(ad 30, .inr (0, [.ref (ad 31), .ref (ad 32), .ref (ad 33), .ref (ad 34), .ref (ad 35), .ref (ad 36), .ref (ad 37), .ref (ad 38), .ref (ad 39), .ref (ad 40), .int (nI an)])), (ad 38, .inl (cy 0, 40, .inl aln)), (ad 39, .inl (cy 0, 320, .inl alw)), (ad 40, .inl (cy 0, 320, .inl alx)), (ad 43, .inr (1, [.int (nI fl), .ref (ad 44), .ref (ad 45), .ref (ad 46), .ref (ad 47)])), (ad 44, .inl (cy 0, 8, .inl fw)), (ad 45, .inl (cy 0, 8, .inl fx))] ss.heap.size = A at hD ⊢
  have hA : ∀ q : Nat, ss.heap.size ≤ q → A q := fun q h => by rw [← hAe]; exact Or.inr h
  have hS : va_S A ss.heap ss.heap [] := va_S.rf
  have hP : va_P (dC, dI) vwCl [(ad 30, .inr (0, [.ref (ad 31), .ref (ad 32), .ref (ad 33), .ref (ad 34), .ref (ad 35), .ref (ad 36), .ref (ad 37), .ref (ad 38), .ref (ad 39), .ref (ad 40), .int (nI an)])), (ad 38, .inl (cy 0, 40, .inl aln)), (ad 39, .inl (cy 0, 320, .inl alw)), (ad 40, .inl (cy 0, 320, .inl alx)), (ad 43, .inr (1, [.int (nI fl), .ref (ad 44), .ref (ad 45), .ref (ad 46), .ref (ad 47)])), (ad 44, .inl (cy 0, 8, .inl fw)), (ad 45, .inl (cy 0, 8, .inl fx))] ss.heap := hP
  have hl := lv_entry ([.ref (ad 30), .int (nI a1), .ref (ad 43)]) (n := 4) (Nat.le_of_ble_eq_true rfl)
  rw [lg_entry_eq]
  generalize (lg_sl ([.ref (ad 30), .int (nI a1), .ref (ad 43)]) ++ List.replicate (4 - (lg_sl ([.ref (ad 30), .int (nI a1), .ref (ad 43)])).length) Slot.unset).toArray = ls at hl ⊢
  have hl : lv_has ls 4 [(0, .ref (ad 30)), (1, .int (nI a1)), (2, .ref (ad 43))] := hl
  refine bw_Q (fun Q hQ => ?_)
  refine bw_H0 (fun H locs eH eL => ?_)
  have hS : va_S A ss.heap H locs := by rw [eH, eL]; exact hS
  have hP : va_P (dC, dI) vwCl [(ad 30, .inr (0, [.ref (ad 31), .ref (ad 32), .ref (ad 33), .ref (ad 34), .ref (ad 35), .ref (ad 36), .ref (ad 37), .ref (ad 38), .ref (ad 39), .ref (ad 40), .int (nI an)])), (ad 38, .inl (cy 0, 40, .inl aln)), (ad 39, .inl (cy 0, 320, .inl alw)), (ad 40, .inl (cy 0, 320, .inl alx)), (ad 43, .inr (1, [.int (nI fl), .ref (ad 44), .ref (ad 45), .ref (ad 46), .ref (ad 47)])), (ad 44, .inl (cy 0, 8, .inl fw)), (ad 45, .inl (cy 0, 8, .inl fx))] H := by rw [eH]; exact hP
  change W pp l ee { frames := 0, cells := 0, slots := 0, locals := 0 } ss mm _ below meth cc0 H locs 0 0 Q (F0 mm 0 ls [])
  refine lv_aload_n hx hb dX0_keepLines_0 rfl (lv_at hl 0 rfl) ?_
  refine va_get (D := (dC, dI)) (ci := 0) (v := .ref (ad 38)) (C := RX0) (T := TX0) (N := 11) hx hb hts hiX0 hown hK hP 0 rfl rfl 7 (by decide) hL0 (fun _ h9 => h9) rfl dX0_keepLines_1 ?_
  refine lv_iload_n hx hb dX0_keepLines_4 rfl (lv_at hl 1 rfl) ?_
  refine lv_aload_n hx hb dX0_keepLines_5 rfl (lv_at hl 2 rfl) ?_
  refine va_get (D := (dC, dI)) (ci := 1) (v := .int (nI fl)) (C := RX1) (T := TX1) (N := 5) hx hb hts hiX1 hown hK hP 4 rfl rfl 0 (by decide) hL1 (fun _ h9 => h9) rfl dX0_keepLines_6 ?_
  refine bw_iast hx hb hK hP hD hS 1 0 rfl rfl (j := a1) (nI_toInt (by omega)) (by omega) dX0_keepLines_9 (fun H locs hP hD hS => ?_)
  have hP : va_P (dC, dI) vwCl [(ad 30, .inr (0, [.ref (ad 31), .ref (ad 32), .ref (ad 33), .ref (ad 34), .ref (ad 35), .ref (ad 36), .ref (ad 37), .ref (ad 38), .ref (ad 39), .ref (ad 40), .int (nI an)])), (ad 38, .inl (cy 0, 40, .inl (upd aln a1 (nI fl)))), (ad 39, .inl (cy 0, 320, .inl alw)), (ad 40, .inl (cy 0, 320, .inl alx)), (ad 43, .inr (1, [.int (nI fl), .ref (ad 44), .ref (ad 45), .ref (ad 46), .ref (ad 47)])), (ad 44, .inl (cy 0, 8, .inl fw)), (ad 45, .inl (cy 0, 8, .inl fx))] H := hP
  have hD : va_D A [(ad 30, .inr (0, [.ref (ad 31), .ref (ad 32), .ref (ad 33), .ref (ad 34), .ref (ad 35), .ref (ad 36), .ref (ad 37), .ref (ad 38), .ref (ad 39), .ref (ad 40), .int (nI an)])), (ad 38, .inl (cy 0, 40, .inl (upd aln a1 (nI fl)))), (ad 39, .inl (cy 0, 320, .inl alw)), (ad 40, .inl (cy 0, 320, .inl alx)), (ad 43, .inr (1, [.int (nI fl), .ref (ad 44), .ref (ad 45), .ref (ad 46), .ref (ad 47)])), (ad 44, .inl (cy 0, 8, .inl fw)), (ad 45, .inl (cy 0, 8, .inl fx))] := hD
  refine lv_iconst (v := 0) hx hb dX0_keepLines_10 (by decide) ?_
  refine lv_istore_n (lv' := [(3, .int 0), (0, .ref (ad 30)), (1, .int (nI a1)), (2, .ref (ad 43))]) hx hb dX0_keepLines_11 rfl hl (by decide) rfl (fun ls hl => ?_)
  have L_12 : ∀ (n9 : Nat), ∀ (k : Nat) (f : Nat → Int32) (g : Nat → Int32), (fl - k) < n9 → (k ≤ fl) → (f = wrR alw a1 k fw) → (g = wrR alx a1 k fx) → ∀ (H : Heap) (locs : List Loc), va_P (dC, dI) vwCl [(ad 30, .inr (0, [.ref (ad 31), .ref (ad 32), .ref (ad 33), .ref (ad 34), .ref (ad 35), .ref (ad 36), .ref (ad 37), .ref (ad 38), .ref (ad 39), .ref (ad 40), .int (nI an)])), (ad 38, .inl (cy 0, 40, .inl (upd aln a1 (nI fl)))), (ad 39, .inl (cy 0, 320, .inl f)), (ad 40, .inl (cy 0, 320, .inl g)), (ad 43, .inr (1, [.int (nI fl), .ref (ad 44), .ref (ad 45), .ref (ad 46), .ref (ad 47)])), (ad 44, .inl (cy 0, 8, .inl fw)), (ad 45, .inl (cy 0, 8, .inl fx))] H → va_D A [(ad 30, .inr (0, [.ref (ad 31), .ref (ad 32), .ref (ad 33), .ref (ad 34), .ref (ad 35), .ref (ad 36), .ref (ad 37), .ref (ad 38), .ref (ad 39), .ref (ad 40), .int (nI an)])), (ad 38, .inl (cy 0, 40, .inl (upd aln a1 (nI fl)))), (ad 39, .inl (cy 0, 320, .inl f)), (ad 40, .inl (cy 0, 320, .inl g)), (ad 43, .inr (1, [.int (nI fl), .ref (ad 44), .ref (ad 45), .ref (ad 46), .ref (ad 47)])), (ad 44, .inl (cy 0, 8, .inl fw)), (ad 45, .inl (cy 0, 8, .inl fx))] → va_S A ss.heap H locs → ∀ (ls : Array Slot), lv_has ls 4 [(0, .ref (ad 30)), (1, .int (nI a1)), (2, .ref (ad 43)), (3, .int (nI k))] → W pp l ee { frames := 0, cells := 0, slots := 0, locals := 0 } ss mm (List.toArray [Value.ref (ad 30), Value.int (nI a1), Value.ref (ad 43)]) below meth cc0 H locs 0 0 Q (F0 mm 12 ls []) := by
    intro n9
    induction n9 with
    | zero => intro k f g hm9; exact absurd hm9 (Nat.not_lt_zero _)
    | succ n9 ih12 =>
      intro k f g hm12 hk hf hg
      intro H locs hP hD hS
      intro ls hl
      refine lv_iload_n hx hb dX0_keepLines_12 rfl (lv_at hl 3 rfl) ?_
      refine lv_aload_n hx hb dX0_keepLines_13 rfl (lv_at hl 2 rfl) ?_
      refine va_get (D := (dC, dI)) (ci := 1) (v := .int (nI fl)) (C := RX1) (T := TX1) (N := 5) hx hb hts hiX1 hown hK hP 4 rfl rfl 0 (by decide) hL1 (fun _ h9 => h9) rfl dX0_keepLines_14 ?_
      refine bw_icmp_ge (tgt := 60) (a := ((k : Nat) : Int)) (b := ((fl : Nat) : Int)) hx hb dX0_keepLines_17 (by decide) (nI_toInt (by omega)) (nI_toInt (by omega)) (fun c_1 => ?_) (fun c_1 => ?_)
      · skip
        refine bw_Qe hQ ?_
        have hP9 : va_P (dC, dI) vwCl [(ad 30, .inr (0, [.ref (ad 31), .ref (ad 32), .ref (ad 33), .ref (ad 34), .ref (ad 35), .ref (ad 36), .ref (ad 37), .ref (ad 38), .ref (ad 39), .ref (ad 40), .int (nI an)])), (ad 38, .inl (cy 0, 40, .inl (upd aln a1 (nI fl)))), (ad 39, .inl (cy 0, 320, .inl f)), (ad 40, .inl (cy 0, 320, .inl g)), (ad 43, .inr (1, [.int (nI fl), .ref (ad 44), .ref (ad 45), .ref (ad 46), .ref (ad 47)])), (ad 44, .inl (cy 0, 8, .inl fw)), (ad 45, .inl (cy 0, 8, .inl fx))] H := hP.sub [0, 1, 2, 3, 4, 5, 6] rfl
        have hD9 : va_D A [(ad 30, .inr (0, [.ref (ad 31), .ref (ad 32), .ref (ad 33), .ref (ad 34), .ref (ad 35), .ref (ad 36), .ref (ad 37), .ref (ad 38), .ref (ad 39), .ref (ad 40), .int (nI an)])), (ad 38, .inl (cy 0, 40, .inl (upd aln a1 (nI fl)))), (ad 39, .inl (cy 0, 320, .inl f)), (ad 40, .inl (cy 0, 320, .inl g)), (ad 43, .inr (1, [.int (nI fl), .ref (ad 44), .ref (ad 45), .ref (ad 46), .ref (ad 47)])), (ad 44, .inl (cy 0, 8, .inl fw)), (ad 45, .inl (cy 0, 8, .inl fx))] := hD.sub [0, 1, 2, 3, 4, 5, 6] (by decide) rfl
        have hpost : f = wrR alw a1 fl fw ∧ g = wrR alx a1 fl fx := by
          have e9 : k = fl := by omega
          rw [e9] at hf hg
          exact ⟨hf, hg⟩
        exact W.vret hx hb hr (fun t9 ht hW => ⟨⟨(f, g), rfl, hpost, by rw [ht]; exact hP9, va_K.moved hW.alike hK, hD9⟩, hS.F ht⟩) hS.2.2 dX0_keepLines_60
      · skip
        refine lv_aload_n hx hb dX0_keepLines_20 rfl (lv_at hl 0 rfl) ?_
        refine va_get (D := (dC, dI)) (ci := 0) (v := .ref (ad 39)) (C := RX0) (T := TX0) (N := 11) hx hb hts hiX0 hown hK hP 0 rfl rfl 8 (by decide) hL2 (fun _ h9 => h9) rfl dX0_keepLines_21 ?_
        refine lv_iload_n hx hb dX0_keepLines_24 rfl (lv_at hl 1 rfl) ?_
        refine lv_bipush (v := 8) hx hb dX0_keepLines_25 (by decide) ?_
        refine lv_imul hx hb dX0_keepLines_27 ?_
        refine bw_re (show (nI a1) * 8 = nI (a1 * 8) from pk_mul (a1) (8)) ?_
        refine lv_iload_n hx hb dX0_keepLines_28 rfl (lv_at hl 3 rfl) ?_
        refine lv_iadd hx hb dX0_keepLines_29 ?_
        refine bw_re (show (nI (a1 * 8)) + (nI k) = nI (a1 * 8 + k) from nI_add (a1 * 8) (k)) ?_
        refine lv_aload_n hx hb dX0_keepLines_30 rfl (lv_at hl 2 rfl) ?_
        refine va_get (D := (dC, dI)) (ci := 1) (v := .ref (ad 44)) (C := RX1) (T := TX1) (N := 5) hx hb hts hiX1 hown hK hP 4 rfl rfl 1 (by decide) hL3 (fun _ h9 => h9) rfl dX0_keepLines_31 ?_
        refine lv_iload_n hx hb dX0_keepLines_34 rfl (lv_at hl 3 rfl) ?_
        refine bw_iald hx hb hK hP 5 0 rfl rfl (j := k) (nI_toInt (by omega)) (by omega) dX0_keepLines_35 ?_
        refine bw_iast hx hb hK hP hD hS 2 0 rfl rfl (j := (a1 * 8 + k)) (nI_toInt (by omega)) (by omega) dX0_keepLines_36 (fun H locs hP hD hS => ?_)
        have hP : va_P (dC, dI) vwCl [(ad 30, .inr (0, [.ref (ad 31), .ref (ad 32), .ref (ad 33), .ref (ad 34), .ref (ad 35), .ref (ad 36), .ref (ad 37), .ref (ad 38), .ref (ad 39), .ref (ad 40), .int (nI an)])), (ad 38, .inl (cy 0, 40, .inl (upd aln a1 (nI fl)))), (ad 39, .inl (cy 0, 320, .inl (upd f (a1 * 8 + k) (fw k)))), (ad 40, .inl (cy 0, 320, .inl g)), (ad 43, .inr (1, [.int (nI fl), .ref (ad 44), .ref (ad 45), .ref (ad 46), .ref (ad 47)])), (ad 44, .inl (cy 0, 8, .inl fw)), (ad 45, .inl (cy 0, 8, .inl fx))] H := hP
        have hD : va_D A [(ad 30, .inr (0, [.ref (ad 31), .ref (ad 32), .ref (ad 33), .ref (ad 34), .ref (ad 35), .ref (ad 36), .ref (ad 37), .ref (ad 38), .ref (ad 39), .ref (ad 40), .int (nI an)])), (ad 38, .inl (cy 0, 40, .inl (upd aln a1 (nI fl)))), (ad 39, .inl (cy 0, 320, .inl (upd f (a1 * 8 + k) (fw k)))), (ad 40, .inl (cy 0, 320, .inl g)), (ad 43, .inr (1, [.int (nI fl), .ref (ad 44), .ref (ad 45), .ref (ad 46), .ref (ad 47)])), (ad 44, .inl (cy 0, 8, .inl fw)), (ad 45, .inl (cy 0, 8, .inl fx))] := hD
        refine lv_aload_n hx hb dX0_keepLines_37 rfl (lv_at hl 0 rfl) ?_
        refine va_get (D := (dC, dI)) (ci := 0) (v := .ref (ad 40)) (C := RX0) (T := TX0) (N := 11) hx hb hts hiX0 hown hK hP 0 rfl rfl 9 (by decide) hL4 (fun _ h9 => h9) rfl dX0_keepLines_38 ?_
        refine lv_iload_n hx hb dX0_keepLines_41 rfl (lv_at hl 1 rfl) ?_
        refine lv_bipush (v := 8) hx hb dX0_keepLines_42 (by decide) ?_
        refine lv_imul hx hb dX0_keepLines_44 ?_
        refine bw_re (show (nI a1) * 8 = nI (a1 * 8) from pk_mul (a1) (8)) ?_
        refine lv_iload_n hx hb dX0_keepLines_45 rfl (lv_at hl 3 rfl) ?_
        refine lv_iadd hx hb dX0_keepLines_46 ?_
        refine bw_re (show (nI (a1 * 8)) + (nI k) = nI (a1 * 8 + k) from nI_add (a1 * 8) (k)) ?_
        refine lv_aload_n hx hb dX0_keepLines_47 rfl (lv_at hl 2 rfl) ?_
        refine va_get (D := (dC, dI)) (ci := 1) (v := .ref (ad 45)) (C := RX1) (T := TX1) (N := 5) hx hb hts hiX1 hown hK hP 4 rfl rfl 2 (by decide) hL5 (fun _ h9 => h9) rfl dX0_keepLines_48 ?_
        refine lv_iload_n hx hb dX0_keepLines_51 rfl (lv_at hl 3 rfl) ?_
        refine bw_iald hx hb hK hP 6 0 rfl rfl (j := k) (nI_toInt (by omega)) (by omega) dX0_keepLines_52 ?_
        refine bw_iast hx hb hK hP hD hS 3 0 rfl rfl (j := (a1 * 8 + k)) (nI_toInt (by omega)) (by omega) dX0_keepLines_53 (fun H locs hP hD hS => ?_)
        have hP : va_P (dC, dI) vwCl [(ad 30, .inr (0, [.ref (ad 31), .ref (ad 32), .ref (ad 33), .ref (ad 34), .ref (ad 35), .ref (ad 36), .ref (ad 37), .ref (ad 38), .ref (ad 39), .ref (ad 40), .int (nI an)])), (ad 38, .inl (cy 0, 40, .inl (upd aln a1 (nI fl)))), (ad 39, .inl (cy 0, 320, .inl (upd f (a1 * 8 + k) (fw k)))), (ad 40, .inl (cy 0, 320, .inl (upd g (a1 * 8 + k) (fx k)))), (ad 43, .inr (1, [.int (nI fl), .ref (ad 44), .ref (ad 45), .ref (ad 46), .ref (ad 47)])), (ad 44, .inl (cy 0, 8, .inl fw)), (ad 45, .inl (cy 0, 8, .inl fx))] H := hP
        have hD : va_D A [(ad 30, .inr (0, [.ref (ad 31), .ref (ad 32), .ref (ad 33), .ref (ad 34), .ref (ad 35), .ref (ad 36), .ref (ad 37), .ref (ad 38), .ref (ad 39), .ref (ad 40), .int (nI an)])), (ad 38, .inl (cy 0, 40, .inl (upd aln a1 (nI fl)))), (ad 39, .inl (cy 0, 320, .inl (upd f (a1 * 8 + k) (fw k)))), (ad 40, .inl (cy 0, 320, .inl (upd g (a1 * 8 + k) (fx k)))), (ad 43, .inr (1, [.int (nI fl), .ref (ad 44), .ref (ad 45), .ref (ad 46), .ref (ad 47)])), (ad 44, .inl (cy 0, 8, .inl fw)), (ad 45, .inl (cy 0, 8, .inl fx))] := hD
        refine lv_iinc (v := nI (k + 1)) (lv' := [(3, .int (nI (k + 1))), (0, .ref (ad 30)), (1, .int (nI a1)), (2, .ref (ad 43))]) hx hb dX0_keepLines_54 hl (k := 3) rfl (show nI k + Int32.ofInt 1 = nI (k + 1) from nI_add k 1) (by decide) rfl (fun ls hl => ?_)
        refine lv_goto (tgt := 12) hx hb dX0_keepLines_57 (by decide) ?_
        have hI_hf : (upd f (a1 * 8 + k) (fw k)) = wrR alw a1 (k + 1) fw := by
          rw [hf]; exact wrR_s _ _ _ _ rfl
        have hI_hg : (upd g (a1 * 8 + k) (fx k)) = wrR alx a1 (k + 1) fx := by
          rw [hg]; exact wrR_s _ _ _ _ rfl
        exact ih12 (k + 1) (upd f (a1 * 8 + k) (fw k)) (upd g (a1 * 8 + k) (fx k)) (by omega) (by first | assumption | omega) hI_hf hI_hg H locs hP hD hS ls (lv_sub hl [1, 2, 3, 0] rfl)
  have hI_hf : alw = wrR alw a1 0 fw := by
    exact (wrR_0 _ _ _).symm
  have hI_hg : alx = wrR alx a1 0 fx := by
    exact (wrR_0 _ _ _).symm
  exact L_12 ((fl - 0) + 1) 0 alw alx (by omega) (by first | assumption | omega) hI_hf hI_hg H locs hP hD hS ls (lv_sub hl [1, 2, 3, 0] rfl)

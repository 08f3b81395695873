theorem prt_le (lw : Int) : prt lw ≤ 2 := by
  unfold prt
  by_cases q : lw = 5 ∨ lw = 7
  · rw [if_pos q]; omega
  · rw [if_neg q]; omega
set_option maxHeartbeats 4000000 in
set_option maxRecDepth 100000 in
theorem c_X5_takeLineWord (l : Launch) (dC : Nat → ClassId) (dI : Nat → Nat → Nat) (cy : Nat → ClassId) (sa sv : Nat → Nat) (fv : Value) (ad : Nat → Nat) (rl : Nat) (fk : Int32) (fp : Int32) (ts : Nat) (te : Nat) (lw : Int32) (pa : Nat) (rt : Int32) (tw : Nat) (tm : Nat) (tn : Nat) (tb : Nat → Int32) (dt : Nat → Int32) (th : Nat) (d : Nat → Int32) (sz : Nat) (hts1 : ts < te) (hte1 : te ≤ tn) (htn : tn ≤ 600) (htE : tEnd tb tn ts te) (hI : rI lw.toInt pa tw tm) (hth : lw.toInt = 7 → 1 ≤ pa → rt = nI th ∧ th < 8) (hag : agr dt d) (hrg : rgs dt) (hlw : lw.toInt = -1) : Met l yX5_takeLineWord wsX5_takeLineWord ({ frames := 5, cells := 0, slots := 0, locals := 107 }) (va_Pc [.ref (ad 27)] (fun U => U.heap.size = sz ∧ va_P (dC, dI) vwCl [(ad 27, .inr (5, [.ref (ad 28), .int (nI rl), .int fk, .int fp, .ref (ad 1), .int (nI ts), .int (nI te), .int lw, .int (nI pa), .int rt, .int (nI tw), .int (nI tm)])), (ad 1, .inr (8, [.ref (ad 2), .int (nI tn)])), (ad 2, .inl (cy 0, 600, .inl tb)), (ad 28, .inr (4, [.ref (ad 29)])), (ad 29, .inl (cy 0, 18, .inl dt))] U.heap ∧ va_K (dC, dI) vwCl (tyL cy) U ∧ va_D (fun _ => True) [(ad 27, .inr (5, [.ref (ad 28), .int (nI rl), .int fk, .int fp, .ref (ad 1), .int (nI ts), .int (nI te), .int lw, .int (nI pa), .int rt, .int (nI tw), .int (nI tm)])), (ad 1, .inr (8, [.ref (ad 2), .int (nI tn)])), (ad 2, .inl (cy 0, 600, .inl tb)), (ad 28, .inr (4, [.ref (ad 29)])), (ad 29, .inl (cy 0, 18, .inl dt))] ∧ sW sa sv fv (va_A [(ad 27, .inr (5, [.ref (ad 28), .int (nI rl), .int fk, .int fp, .ref (ad 1), .int (nI ts), .int (nI te), .int lw, .int (nI pa), .int rt, .int (nI tw), .int (nI tm)])), (ad 1, .inr (8, [.ref (ad 2), .int (nI tn)])), (ad 2, .inl (cy 0, 600, .inl tb)), (ad 28, .inr (4, [.ref (ad 29)])), (ad 29, .inl (cy 0, 18, .inl dt))] sz) U U.heap)) (va_Qi (S := Nat × Int32 × Nat × Int32 × Nat × Nat × (Nat → Int32) × Nat × (Nat → Int32)) (fun r => fun u => match u with | (rl2, lw2, pa2, rt2, tw2, tm2, dt2, th2, d2) => tkP tb tn ts lw.toInt pa th tw tm rl d r.toInt te lw2.toInt pa2 th2 tw2 tm2 rl2 d2 ∧ rI lw2.toInt pa2 tw2 tm2 ∧ (lw2.toInt = 7 → 1 ≤ pa2 → rt2 = nI th2 ∧ th2 < 8) ∧ agr dt2 d2 ∧ rgs dt2) (fun u => match u with | (rl2, lw2, pa2, rt2, tw2, tm2, dt2, th2, d2) => fun t => va_P (dC, dI) vwCl [(ad 27, .inr (5, [.ref (ad 28), .int (nI rl2), .int fk, .int fp, .ref (ad 1), .int (nI ts), .int (nI te), .int lw2, .int (nI pa2), .int rt2, .int (nI tw2), .int (nI tm2)])), (ad 1, .inr (8, [.ref (ad 2), .int (nI tn)])), (ad 2, .inl (cy 0, 600, .inl tb)), (ad 28, .inr (4, [.ref (ad 29)])), (ad 29, .inl (cy 0, 18, .inl dt2))] t.heap ∧ va_K (dC, dI) vwCl (tyL cy) t ∧ va_D (va_A [(ad 27, .inr (5, [.ref (ad 28), .int (nI rl), .int fk, .int fp, .ref (ad 1), .int (nI ts), .int (nI te), .int lw, .int (nI pa), .int rt, .int (nI tw), .int (nI tm)])), (ad 1, .inr (8, [.ref (ad 2), .int (nI tn)])), (ad 2, .inl (cy 0, 600, .inl tb)), (ad 28, .inr (4, [.ref (ad 29)])), (ad 29, .inl (cy 0, 18, .inl dt))] sz) [(ad 27, .inr (5, [.ref (ad 28), .int (nI rl2), .int fk, .int fp, .ref (ad 1), .int (nI ts), .int (nI te), .int lw2, .int (nI pa2), .int rt2, .int (nI tw2), .int (nI tm2)])), (ad 1, .inr (8, [.ref (ad 2), .int (nI tn)])), (ad 2, .inl (cy 0, 600, .inl tb)), (ad 28, .inr (4, [.ref (ad 29)])), (ad 29, .inl (cy 0, 18, .inl dt2))]) (va_A [(ad 27, .inr (5, [.ref (ad 28), .int (nI rl), .int fk, .int fp, .ref (ad 1), .int (nI ts), .int (nI te), .int lw, .int (nI pa), .int rt, .int (nI tw), .int (nI tm)])), (ad 1, .inr (8, [.ref (ad 2), .int (nI tn)])), (ad 2, .inl (cy 0, 600, .inl tb)), (ad 28, .inr (4, [.ref (ad 29)])), (ad 29, .inl (cy 0, 18, .inl dt))] sz)) 0 0 (va_A [(ad 27, .inr (5, [.ref (ad 28), .int (nI rl), .int fk, .int fp, .ref (ad 1), .int (nI ts), .int (nI te), .int lw, .int (nI pa), .int rt, .int (nI tw), .int (nI tm)])), (ad 1, .inr (8, [.ref (ad 2), .int (nI tn)])), (ad 2, .inl (cy 0, 600, .inl tb)), (ad 28, .inr (4, [.ref (ad 29)])), (ad 29, .inl (cy 0, 18, .inl dt))] sz) := by
  refine Met.ofW (cc := cX5_takeLineWord) (maxL := 3) (ret := (some .int)) (by decide) rfl ?_
  intro pp ee ss mm args below meth cc0 s₁ B hml hv
  obtain ⟨rfl, hsz, hP, hK, hD0, hE⟩ := hv
  have hx := B.exec
  have hb := B.bytes
  have hr := B.returns
  have hts := atoms_spec (ws := wsX5_takeLineWord) B.pre
  have hown : ss.vm.findClass RX5 = some mm.cls := findClass_of_methodNamed B.named
  have hlocks := B.notSynchronized
  have hL0 := hts (.fieldLink RX5 44 "HereLived$RuleReader" "toldWords" "I") (by decide +kernel)
  have hL1 := hts (.fieldLink RX5 35 "HereLived$RuleReader" "lineWord" "I") (by decide +kernel)
  have hL2 := hts (.fieldLink RX5 38 "HereLived$RuleReader" "parts" "I") (by decide +kernel)
  have hiX5 : ∀ w ∈ wsX50, w ∈ wsX5_takeLineWord := by decide +kernel
  subst hsz
  have hD := hD0.self (sz := ss.heap.size)
  generalize hAe : va_A [(ad 27, .inr (5, [.ref (ad 28), .int (nI rl), .int fk, .int fp, .ref (ad 1), .int (nI ts), .int (nI te), .int lw, .int (nI pa), .int rt, .int (nI tw), .int (nI tm)])), (ad 1, .inr (8, [.ref (ad 2), .int (nI tn)])), (ad 2, .inl (cy 0, 600, .inl tb)), (ad 28, .inr (4, [.ref (ad 29)])), (ad 29, .inl (cy 0, 18, .inl dt))] ss.heap.size = A at hD hE ⊢
  have hA : ∀ q : Nat, ss.heap.size ≤ q → A q := fun q h => by rw [← hAe]; exact Or.inr h
  have hS : va_S A ss.heap ss.heap [] := va_S.rf
  have hP : va_P (dC, dI) vwCl [(ad 27, .inr (5, [.ref (ad 28), .int (nI rl), .int fk, .int fp, .ref (ad 1), .int (nI ts), .int (nI te), .int lw, .int (nI pa), .int rt, .int (nI tw), .int (nI tm)])), (ad 1, .inr (8, [.ref (ad 2), .int (nI tn)])), (ad 2, .inl (cy 0, 600, .inl tb)), (ad 28, .inr (4, [.ref (ad 29)])), (ad 29, .inl (cy 0, 18, .inl dt))] ss.heap := hP
  have hl := lv_entry ([.ref (ad 27)]) (n := 3) (Nat.le_of_ble_eq_true rfl)
  rw [lg_entry_eq]
  generalize (lg_sl ([.ref (ad 27)]) ++ List.replicate (3 - (lg_sl ([.ref (ad 27)])).length) Slot.unset).toArray = ls at hl ⊢
  have hl : lv_has ls 3 [(0, .ref (ad 27))] := hl
  refine bw_Q (fun Q hQ => ?_)
  refine bw_H0 (fun H locs eH eL => ?_)
  have hS : va_S A ss.heap H locs := by rw [eH, eL]; exact hS
  have hP : va_P (dC, dI) vwCl [(ad 27, .inr (5, [.ref (ad 28), .int (nI rl), .int fk, .int fp, .ref (ad 1), .int (nI ts), .int (nI te), .int lw, .int (nI pa), .int rt, .int (nI tw), .int (nI tm)])), (ad 1, .inr (8, [.ref (ad 2), .int (nI tn)])), (ad 2, .inl (cy 0, 600, .inl tb)), (ad 28, .inr (4, [.ref (ad 29)])), (ad 29, .inl (cy 0, 18, .inl dt))] H := by rw [eH]; exact hP
  change W pp l ee { frames := 5, cells := 0, slots := 0, locals := 107 } ss mm _ below meth cc0 H locs 0 0 Q (F0 mm 0 ls [])
  have hte := tE_eq htE
  obtain ⟨hI1, hI2, hI3, hI4, hI5⟩ := id hI
  refine lv_iconst (v := (-1)) hx hb dX5_takeLineWord_0 (by decide) ?_
  refine lv_istore_n (lv' := [(1, .int (-1)), (0, .ref (ad 27))]) hx hb dX5_takeLineWord_1 rfl hl (by decide) rfl (fun ls hl => ?_)
  refine lv_iconst (v := 0) hx hb dX5_takeLineWord_2 (by decide) ?_
  refine lv_istore_n (lv' := [(2, .int 0), (1, .int (-1)), (0, .ref (ad 27))]) hx hb dX5_takeLineWord_3 rfl hl (by decide) rfl (fun ls hl => ?_)
  have L_4 : ∀ (n9 : Nat), ∀ (w : Nat) (z : Int32), (8 - w) < n9 → (w ≤ 8) → (z.toInt = kwTo tb ts te w) → ∀ (H : Heap) (locs : List Loc), va_P (dC, dI) vwCl [(ad 27, .inr (5, [.ref (ad 28), .int (nI rl), .int fk, .int fp, .ref (ad 1), .int (nI ts), .int (nI te), .int lw, .int (nI pa), .int rt, .int (nI tw), .int (nI tm)])), (ad 1, .inr (8, [.ref (ad 2), .int (nI tn)])), (ad 2, .inl (cy 0, 600, .inl tb)), (ad 28, .inr (4, [.ref (ad 29)])), (ad 29, .inl (cy 0, 18, .inl dt))] H → va_D A [(ad 27, .inr (5, [.ref (ad 28), .int (nI rl), .int fk, .int fp, .ref (ad 1), .int (nI ts), .int (nI te), .int lw, .int (nI pa), .int rt, .int (nI tw), .int (nI tm)])), (ad 1, .inr (8, [.ref (ad 2), .int (nI tn)])), (ad 2, .inl (cy 0, 600, .inl tb)), (ad 28, .inr (4, [.ref (ad 29)])), (ad 29, .inl (cy 0, 18, .inl dt))] → va_S A ss.heap H locs → ∀ (ls : Array Slot), lv_has ls 3 [(0, .ref (ad 27)), (1, .int z), (2, .int (nI w))] → W pp l ee { frames := 5, cells := 0, slots := 0, locals := 107 } ss mm (List.toArray [Value.ref (ad 27)]) below meth cc0 H locs 0 0 Q (F0 mm 4 ls []) := by
    intro n9
    induction n9 with
    | zero => intro w z hm9; exact absurd hm9 (Nat.not_lt_zero _)
    | succ n9 ih4 =>
      intro w z hm4 hw hz
      intro H locs hP hD hS
      intro ls hl
      have hkr := kw_rng (tb := tb) (ts := ts) (te := te) w
      refine lv_iload_n hx hb dX5_takeLineWord_4 rfl (lv_at hl 2 rfl) ?_
      refine lv_bipush (v := 8) hx hb dX5_takeLineWord_5 (by decide) ?_
      have L_34 : ∀ (z : Int32), (z.toInt = kwTo tb ts te 8) → ∀ (H : Heap) (locs : List Loc), va_P (dC, dI) vwCl [(ad 27, .inr (5, [.ref (ad 28), .int (nI rl), .int fk, .int fp, .ref (ad 1), .int (nI ts), .int (nI te), .int lw, .int (nI pa), .int rt, .int (nI tw), .int (nI tm)])), (ad 1, .inr (8, [.ref (ad 2), .int (nI tn)])), (ad 2, .inl (cy 0, 600, .inl tb)), (ad 28, .inr (4, [.ref (ad 29)])), (ad 29, .inl (cy 0, 18, .inl dt))] H → va_D A [(ad 27, .inr (5, [.ref (ad 28), .int (nI rl), .int fk, .int fp, .ref (ad 1), .int (nI ts), .int (nI te), .int lw, .int (nI pa), .int rt, .int (nI tw), .int (nI tm)])), (ad 1, .inr (8, [.ref (ad 2), .int (nI tn)])), (ad 2, .inl (cy 0, 600, .inl tb)), (ad 28, .inr (4, [.ref (ad 29)])), (ad 29, .inl (cy 0, 18, .inl dt))] → va_S A ss.heap H locs → ∀ (ls : Array Slot), lv_has ls 3 [(0, .ref (ad 27)), (1, .int z)] → W pp l ee { frames := 5, cells := 0, slots := 0, locals := 107 } ss mm (List.toArray [Value.ref (ad 27)]) below meth cc0 H locs 0 0 Q (F0 mm 34 ls []) := by
        intro z hz8
        intro H locs hP hD hS
        intro ls hl
        have hkr8 := kw_rng (tb := tb) (ts := ts) (te := te) 8
        refine lv_iload_n hx hb dX5_takeLineWord_34 rfl (lv_at hl 1 rfl) ?_
        refine lv_iconst (v := (-1)) hx hb dX5_takeLineWord_35 (by decide) ?_
        refine bw_icmp_ne (tgt := 41) (a := z.toInt) (b := (-1)) hx hb dX5_takeLineWord_36 (by decide) rfl rfl (fun c_1 => ?_) (fun c_1 => ?_)
        · skip
          refine lv_iload_n hx hb dX5_takeLineWord_41 rfl (lv_at hl 1 rfl) ?_
          refine lv_bipush (v := 7) hx hb dX5_takeLineWord_42 (by decide) ?_
          refine bw_icmp_eq (tgt := 60) (a := z.toInt) (b := 7) hx hb dX5_takeLineWord_44 (by decide) rfl rfl (fun c_2 => ?_) (fun c_2 => ?_)
          · skip
            refine lv_aload_n hx hb dX5_takeLineWord_60 rfl (lv_at hl 0 rfl) ?_
            refine lv_dup hx hb dX5_takeLineWord_61 rfl ?_
            refine va_get (D := (dC, dI)) (ci := 5) (v := .int (nI tw)) (C := RX5) (T := TX5) (N := 12) hx hb hts hiX5 hown hK hP 0 rfl rfl 10 (by decide) hL0 (fun _ h9 => h9) rfl dX5_takeLineWord_62 ?_
            refine lv_iconst (v := 1) hx hb dX5_takeLineWord_65 (by decide) ?_
            refine lv_iload_n hx hb dX5_takeLineWord_66 rfl (lv_at hl 1 rfl) ?_
            refine bw_re (show z = nI z.toInt.toNat from nI_back (by omega)) ?_
            refine lv_ishl hx hb dX5_takeLineWord_67 ?_
            refine bw_re (show (1 : Int32) <<< ((nI z.toInt.toNat) &&& 31) = nI (2 ^ z.toInt.toNat) from (one_shl8 _ (by omega))) ?_
            refine lv_ior hx hb dX5_takeLineWord_68 ?_
            refine bw_re (show (nI tw) ||| (nI (2 ^ z.toInt.toNat)) = nI (tw ||| 2 ^ z.toInt.toNat) from (fa_or _ _)) ?_
            refine va_put (D := (dC, dI)) (ci := 5) (v := .int (nI (tw ||| 2 ^ z.toInt.toNat))) (ty := (tyX5 10)) (C := RX5) (T := TX5) (N := 12) hx hb hts hiX5 tyX5 tyX5_ok nmX5 hown hK hP hD hS 0 rfl rfl 10 (by decide) hL0 (fun _ h9 => h9) rfl (by decide +kernel) rfl rfl (Nat.le_of_ble_eq_true rfl) dX5_takeLineWord_69 (fun H locs hP hD hS => ?_)
            have hP : va_P (dC, dI) vwCl [(ad 27, .inr (5, [.ref (ad 28), .int (nI rl), .int fk, .int fp, .ref (ad 1), .int (nI ts), .int (nI te), .int lw, .int (nI pa), .int rt, .int (nI (tw ||| 2 ^ z.toInt.toNat)), .int (nI tm)])), (ad 1, .inr (8, [.ref (ad 2), .int (nI tn)])), (ad 2, .inl (cy 0, 600, .inl tb)), (ad 28, .inr (4, [.ref (ad 29)])), (ad 29, .inl (cy 0, 18, .inl dt))] H := hP
            have hD : va_D A [(ad 27, .inr (5, [.ref (ad 28), .int (nI rl), .int fk, .int fp, .ref (ad 1), .int (nI ts), .int (nI te), .int lw, .int (nI pa), .int rt, .int (nI (tw ||| 2 ^ z.toInt.toNat)), .int (nI tm)])), (ad 1, .inr (8, [.ref (ad 2), .int (nI tn)])), (ad 2, .inl (cy 0, 600, .inl tb)), (ad 28, .inr (4, [.ref (ad 29)])), (ad 29, .inl (cy 0, 18, .inl dt))] := hD
            refine lv_aload_n hx hb dX5_takeLineWord_72 rfl (lv_at hl 0 rfl) ?_
            refine lv_iload_n hx hb dX5_takeLineWord_73 rfl (lv_at hl 1 rfl) ?_
            refine va_put (D := (dC, dI)) (ci := 5) (v := .int z) (ty := (tyX5 7)) (C := RX5) (T := TX5) (N := 12) hx hb hts hiX5 tyX5 tyX5_ok nmX5 hown hK hP hD hS 0 rfl rfl 7 (by decide) hL1 (fun _ h9 => h9) rfl (by decide +kernel) rfl rfl (Nat.le_of_ble_eq_true rfl) dX5_takeLineWord_74 (fun H locs hP hD hS => ?_)
            have hP : va_P (dC, dI) vwCl [(ad 27, .inr (5, [.ref (ad 28), .int (nI rl), .int fk, .int fp, .ref (ad 1), .int (nI ts), .int (nI te), .int z, .int (nI pa), .int rt, .int (nI (tw ||| 2 ^ z.toInt.toNat)), .int (nI tm)])), (ad 1, .inr (8, [.ref (ad 2), .int (nI tn)])), (ad 2, .inl (cy 0, 600, .inl tb)), (ad 28, .inr (4, [.ref (ad 29)])), (ad 29, .inl (cy 0, 18, .inl dt))] H := hP
            have hD : va_D A [(ad 27, .inr (5, [.ref (ad 28), .int (nI rl), .int fk, .int fp, .ref (ad 1), .int (nI ts), .int (nI te), .int z, .int (nI pa), .int rt, .int (nI (tw ||| 2 ^ z.toInt.toNat)), .int (nI tm)])), (ad 1, .inr (8, [.ref (ad 2), .int (nI tn)])), (ad 2, .inl (cy 0, 600, .inl tb)), (ad 28, .inr (4, [.ref (ad 29)])), (ad 29, .inl (cy 0, 18, .inl dt))] := hD
            refine lv_aload_n hx hb dX5_takeLineWord_77 rfl (lv_at hl 0 rfl) ?_
            refine lv_iconst (v := 0) hx hb dX5_takeLineWord_78 (by decide) ?_
            refine va_put (D := (dC, dI)) (ci := 5) (v := .int 0) (ty := (tyX5 8)) (C := RX5) (T := TX5) (N := 12) hx hb hts hiX5 tyX5 tyX5_ok nmX5 hown hK hP hD hS 0 rfl rfl 8 (by decide) hL2 (fun _ h9 => h9) rfl (by decide +kernel) rfl rfl (Nat.le_of_ble_eq_true rfl) dX5_takeLineWord_79 (fun H locs hP hD hS => ?_)
            have hP : va_P (dC, dI) vwCl [(ad 27, .inr (5, [.ref (ad 28), .int (nI rl), .int fk, .int fp, .ref (ad 1), .int (nI ts), .int (nI te), .int z, .int 0, .int rt, .int (nI (tw ||| 2 ^ z.toInt.toNat)), .int (nI tm)])), (ad 1, .inr (8, [.ref (ad 2), .int (nI tn)])), (ad 2, .inl (cy 0, 600, .inl tb)), (ad 28, .inr (4, [.ref (ad 29)])), (ad 29, .inl (cy 0, 18, .inl dt))] H := hP
            have hD : va_D A [(ad 27, .inr (5, [.ref (ad 28), .int (nI rl), .int fk, .int fp, .ref (ad 1), .int (nI ts), .int (nI te), .int z, .int 0, .int rt, .int (nI (tw ||| 2 ^ z.toInt.toNat)), .int (nI tm)])), (ad 1, .inr (8, [.ref (ad 2), .int (nI tn)])), (ad 2, .inl (cy 0, 600, .inl tb)), (ad 28, .inr (4, [.ref (ad 29)])), (ad 29, .inl (cy 0, 18, .inl dt))] := hD
            refine lv_iconst (v := 0) hx hb dX5_takeLineWord_82 (by decide) ?_
            refine bw_Qe hQ ?_
            have hP9 : va_P (dC, dI) vwCl [(ad 27, .inr (5, [.ref (ad 28), .int (nI rl), .int fk, .int fp, .ref (ad 1), .int (nI ts), .int (nI te), .int z, .int (nI 0), .int rt, .int (nI (tw ||| 2 ^ z.toInt.toNat)), .int (nI tm)])), (ad 1, .inr (8, [.ref (ad 2), .int (nI tn)])), (ad 2, .inl (cy 0, 600, .inl tb)), (ad 28, .inr (4, [.ref (ad 29)])), (ad 29, .inl (cy 0, 18, .inl dt))] H := hP.sub [0, 1, 2, 3, 4] rfl
            have hD9 : va_D A [(ad 27, .inr (5, [.ref (ad 28), .int (nI rl), .int fk, .int fp, .ref (ad 1), .int (nI ts), .int (nI te), .int z, .int (nI 0), .int rt, .int (nI (tw ||| 2 ^ z.toInt.toNat)), .int (nI tm)])), (ad 1, .inr (8, [.ref (ad 2), .int (nI tn)])), (ad 2, .inl (cy 0, 600, .inl tb)), (ad 28, .inr (4, [.ref (ad 29)])), (ad 29, .inl (cy 0, 18, .inl dt))] := hD.sub [0, 1, 2, 3, 4] (by decide) rfl
            have hpost : tkP tb tn ts lw.toInt pa th tw tm rl d (0 : Int32).toInt te z.toInt 0 0 (tw ||| 2 ^ z.toInt.toNat) tm rl d ∧ rI z.toInt 0 (tw ||| 2 ^ z.toInt.toNat) tm ∧ (z.toInt = 7 → 1 ≤ 0 → rt = nI 0 ∧ 0 < 8) ∧ agr dt d ∧ rgs dt := by
              refine ⟨Or.inl ⟨rfl, ?_⟩, ⟨by omega, by omega, by omega, or256 _ hI4 _ (by omega), hI5⟩, fun _ q => absurd q (by omega), hag, hrg⟩
              rw [stp_W (by omega) hlw]
              unfold stW
              rw [hte]
              rw [cif_f (by omega)]
              rw [cif_f (fun q => by first | exact q.1 (by omega) | exact bit_f (j := z.toInt.toNat) hI4 (by omega) (by rw [ez2, ez1]) c_b (by rw [hz8]; exact q.2))]
              rw [← hz8]
            exact W.iret (v := 0) hx hb hr (fun t9 ht hW => ⟨⟨0, (rl, z, 0, rt, tw ||| 2 ^ z.toInt.toNat, tm, dt, 0, d), rfl, hpost, by rw [ht]; exact hP9, va_K.moved hW.alike hK, hD9⟩, hS.F ht⟩) hS.2.2 dX5_takeLineWord_83
          · skip
            refine lv_aload_n hx hb dX5_takeLineWord_47 rfl (lv_at hl 0 rfl) ?_
            refine va_get (D := (dC, dI)) (ci := 5) (v := .int (nI tw)) (C := RX5) (T := TX5) (N := 12) hx hb hts hiX5 hown hK hP 0 rfl rfl 10 (by decide) hL0 (fun _ h9 => h9) rfl dX5_takeLineWord_48 ?_
            refine lv_iload_n hx hb dX5_takeLineWord_51 rfl (lv_at hl 1 rfl) ?_
            refine bw_re (show z = nI z.toInt.toNat from nI_back (by omega)) ?_
            refine lv_ishr hx hb dX5_takeLineWord_52 ?_
            refine lv_topi (fun z1 ez1 => ?_)
            refine lv_iconst (v := 1) hx hb dX5_takeLineWord_53 (by decide) ?_
            refine lv_iand hx hb dX5_takeLineWord_54 ?_
            refine lv_topi (fun z2 ez2 => ?_)
            refine bw_if_eq (tgt := 60) (a := z2.toInt) hx hb dX5_takeLineWord_55 (by decide) rfl (fun c_b => ?_) (fun c_b => ?_)
            · skip
              refine lv_aload_n hx hb dX5_takeLineWord_60 rfl (lv_at hl 0 rfl) ?_
              refine lv_dup hx hb dX5_takeLineWord_61 rfl ?_
              refine va_get (D := (dC, dI)) (ci := 5) (v := .int (nI tw)) (C := RX5) (T := TX5) (N := 12) hx hb hts hiX5 hown hK hP 0 rfl rfl 10 (by decide) hL0 (fun _ h9 => h9) rfl dX5_takeLineWord_62 ?_
              refine lv_iconst (v := 1) hx hb dX5_takeLineWord_65 (by decide) ?_
              refine lv_iload_n hx hb dX5_takeLineWord_66 rfl (lv_at hl 1 rfl) ?_
              refine bw_re (show z = nI z.toInt.toNat from nI_back (by omega)) ?_
              refine lv_ishl hx hb dX5_takeLineWord_67 ?_
              refine bw_re (show (1 : Int32) <<< ((nI z.toInt.toNat) &&& 31) = nI (2 ^ z.toInt.toNat) from (one_shl8 _ (by omega))) ?_
              refine lv_ior hx hb dX5_takeLineWord_68 ?_
              refine bw_re (show (nI tw) ||| (nI (2 ^ z.toInt.toNat)) = nI (tw ||| 2 ^ z.toInt.toNat) from (fa_or _ _)) ?_
              refine va_put (D := (dC, dI)) (ci := 5) (v := .int (nI (tw ||| 2 ^ z.toInt.toNat))) (ty := (tyX5 10)) (C := RX5) (T := TX5) (N := 12) hx hb hts hiX5 tyX5 tyX5_ok nmX5 hown hK hP hD hS 0 rfl rfl 10 (by decide) hL0 (fun _ h9 => h9) rfl (by decide +kernel) rfl rfl (Nat.le_of_ble_eq_true rfl) dX5_takeLineWord_69 (fun H locs hP hD hS => ?_)
              have hP : va_P (dC, dI) vwCl [(ad 27, .inr (5, [.ref (ad 28), .int (nI rl), .int fk, .int fp, .ref (ad 1), .int (nI ts), .int (nI te), .int lw, .int (nI pa), .int rt, .int (nI (tw ||| 2 ^ z.toInt.toNat)), .int (nI tm)])), (ad 1, .inr (8, [.ref (ad 2), .int (nI tn)])), (ad 2, .inl (cy 0, 600, .inl tb)), (ad 28, .inr (4, [.ref (ad 29)])), (ad 29, .inl (cy 0, 18, .inl dt))] H := hP
              have hD : va_D A [(ad 27, .inr (5, [.ref (ad 28), .int (nI rl), .int fk, .int fp, .ref (ad 1), .int (nI ts), .int (nI te), .int lw, .int (nI pa), .int rt, .int (nI (tw ||| 2 ^ z.toInt.toNat)), .int (nI tm)])), (ad 1, .inr (8, [.ref (ad 2), .int (nI tn)])), (ad 2, .inl (cy 0, 600, .inl tb)), (ad 28, .inr (4, [.ref (ad 29)])), (ad 29, .inl (cy 0, 18, .inl dt))] := hD
              refine lv_aload_n hx hb dX5_takeLineWord_72 rfl (lv_at hl 0 rfl) ?_
              refine lv_iload_n hx hb dX5_takeLineWord_73 rfl (lv_at hl 1 rfl) ?_
              refine va_put (D := (dC, dI)) (ci := 5) (v := .int z) (ty := (tyX5 7)) (C := RX5) (T := TX5) (N := 12) hx hb hts hiX5 tyX5 tyX5_ok nmX5 hown hK hP hD hS 0 rfl rfl 7 (by decide) hL1 (fun _ h9 => h9) rfl (by decide +kernel) rfl rfl (Nat.le_of_ble_eq_true rfl) dX5_takeLineWord_74 (fun H locs hP hD hS => ?_)
              have hP : va_P (dC, dI) vwCl [(ad 27, .inr (5, [.ref (ad 28), .int (nI rl), .int fk, .int fp, .ref (ad 1), .int (nI ts), .int (nI te), .int z, .int (nI pa), .int rt, .int (nI (tw ||| 2 ^ z.toInt.toNat)), .int (nI tm)])), (ad 1, .inr (8, [.ref (ad 2), .int (nI tn)])), (ad 2, .inl (cy 0, 600, .inl tb)), (ad 28, .inr (4, [.ref (ad 29)])), (ad 29, .inl (cy 0, 18, .inl dt))] H := hP
              have hD : va_D A [(ad 27, .inr (5, [.ref (ad 28), .int (nI rl), .int fk, .int fp, .ref (ad 1), .int (nI ts), .int (nI te), .int z, .int (nI pa), .int rt, .int (nI (tw ||| 2 ^ z.toInt.toNat)), .int (nI tm)])), (ad 1, .inr (8, [.ref (ad 2), .int (nI tn)])), (ad 2, .inl (cy 0, 600, .inl tb)), (ad 28, .inr (4, [.ref (ad 29)])), (ad 29, .inl (cy 0, 18, .inl dt))] := hD
              refine lv_aload_n hx hb dX5_takeLineWord_77 rfl (lv_at hl 0 rfl) ?_
              refine lv_iconst (v := 0) hx hb dX5_takeLineWord_78 (by decide) ?_
              refine va_put (D := (dC, dI)) (ci := 5) (v := .int 0) (ty := (tyX5 8)) (C := RX5) (T := TX5) (N := 12) hx hb hts hiX5 tyX5 tyX5_ok nmX5 hown hK hP hD hS 0 rfl rfl 8 (by decide) hL2 (fun _ h9 => h9) rfl (by decide +kernel) rfl rfl (Nat.le_of_ble_eq_true rfl) dX5_takeLineWord_79 (fun H locs hP hD hS => ?_)
              have hP : va_P (dC, dI) vwCl [(ad 27, .inr (5, [.ref (ad 28), .int (nI rl), .int fk, .int fp, .ref (ad 1), .int (nI ts), .int (nI te), .int z, .int 0, .int rt, .int (nI (tw ||| 2 ^ z.toInt.toNat)), .int (nI tm)])), (ad 1, .inr (8, [.ref (ad 2), .int (nI tn)])), (ad 2, .inl (cy 0, 600, .inl tb)), (ad 28, .inr (4, [.ref (ad 29)])), (ad 29, .inl (cy 0, 18, .inl dt))] H := hP
              have hD : va_D A [(ad 27, .inr (5, [.ref (ad 28), .int (nI rl), .int fk, .int fp, .ref (ad 1), .int (nI ts), .int (nI te), .int z, .int 0, .int rt, .int (nI (tw ||| 2 ^ z.toInt.toNat)), .int (nI tm)])), (ad 1, .inr (8, [.ref (ad 2), .int (nI tn)])), (ad 2, .inl (cy 0, 600, .inl tb)), (ad 28, .inr (4, [.ref (ad 29)])), (ad 29, .inl (cy 0, 18, .inl dt))] := hD
              refine lv_iconst (v := 0) hx hb dX5_takeLineWord_82 (by decide) ?_
              refine bw_Qe hQ ?_
              have hP9 : va_P (dC, dI) vwCl [(ad 27, .inr (5, [.ref (ad 28), .int (nI rl), .int fk, .int fp, .ref (ad 1), .int (nI ts), .int (nI te), .int z, .int (nI 0), .int rt, .int (nI (tw ||| 2 ^ z.toInt.toNat)), .int (nI tm)])), (ad 1, .inr (8, [.ref (ad 2), .int (nI tn)])), (ad 2, .inl (cy 0, 600, .inl tb)), (ad 28, .inr (4, [.ref (ad 29)])), (ad 29, .inl (cy 0, 18, .inl dt))] H := hP.sub [0, 1, 2, 3, 4] rfl
              have hD9 : va_D A [(ad 27, .inr (5, [.ref (ad 28), .int (nI rl), .int fk, .int fp, .ref (ad 1), .int (nI ts), .int (nI te), .int z, .int (nI 0), .int rt, .int (nI (tw ||| 2 ^ z.toInt.toNat)), .int (nI tm)])), (ad 1, .inr (8, [.ref (ad 2), .int (nI tn)])), (ad 2, .inl (cy 0, 600, .inl tb)), (ad 28, .inr (4, [.ref (ad 29)])), (ad 29, .inl (cy 0, 18, .inl dt))] := hD.sub [0, 1, 2, 3, 4] (by decide) rfl
              have hpost : tkP tb tn ts lw.toInt pa th tw tm rl d (0 : Int32).toInt te z.toInt 0 0 (tw ||| 2 ^ z.toInt.toNat) tm rl d ∧ rI z.toInt 0 (tw ||| 2 ^ z.toInt.toNat) tm ∧ (z.toInt = 7 → 1 ≤ 0 → rt = nI 0 ∧ 0 < 8) ∧ agr dt d ∧ rgs dt := by
                refine ⟨Or.inl ⟨rfl, ?_⟩, ⟨by omega, by omega, by omega, or256 _ hI4 _ (by omega), hI5⟩, fun _ q => absurd q (by omega), hag, hrg⟩
                rw [stp_W (by omega) hlw]
                unfold stW
                rw [hte]
                rw [cif_f (by omega)]
                rw [cif_f (fun q => by first | exact q.1 (by omega) | exact bit_f (j := z.toInt.toNat) hI4 (by omega) (by rw [ez2, ez1]) c_b (by rw [hz8]; exact q.2))]
                rw [← hz8]
              exact W.iret (v := 0) hx hb hr (fun t9 ht hW => ⟨⟨0, (rl, z, 0, rt, tw ||| 2 ^ z.toInt.toNat, tm, dt, 0, d), rfl, hpost, by rw [ht]; exact hP9, va_K.moved hW.alike hK, hD9⟩, hS.F ht⟩) hS.2.2 dX5_takeLineWord_83
            · skip
              refine lv_iconst (v := 3) hx hb dX5_takeLineWord_58 (by decide) ?_
              refine bw_Qe hQ ?_
              have hP9 : va_P (dC, dI) vwCl [(ad 27, .inr (5, [.ref (ad 28), .int (nI rl), .int fk, .int fp, .ref (ad 1), .int (nI ts), .int (nI te), .int lw, .int (nI pa), .int rt, .int (nI tw), .int (nI tm)])), (ad 1, .inr (8, [.ref (ad 2), .int (nI tn)])), (ad 2, .inl (cy 0, 600, .inl tb)), (ad 28, .inr (4, [.ref (ad 29)])), (ad 29, .inl (cy 0, 18, .inl dt))] H := hP.sub [0, 1, 2, 3, 4] rfl
              have hD9 : va_D A [(ad 27, .inr (5, [.ref (ad 28), .int (nI rl), .int fk, .int fp, .ref (ad 1), .int (nI ts), .int (nI te), .int lw, .int (nI pa), .int rt, .int (nI tw), .int (nI tm)])), (ad 1, .inr (8, [.ref (ad 2), .int (nI tn)])), (ad 2, .inl (cy 0, 600, .inl tb)), (ad 28, .inr (4, [.ref (ad 29)])), (ad 29, .inl (cy 0, 18, .inl dt))] := hD.sub [0, 1, 2, 3, 4] (by decide) rfl
              have hpost : tkP tb tn ts lw.toInt pa th tw tm rl d (3 : Int32).toInt te lw.toInt pa th tw tm rl d ∧ rI lw.toInt pa tw tm ∧ (lw.toInt = 7 → 1 ≤ pa → rt = nI th ∧ th < 8) ∧ agr dt d ∧ rgs dt := by
                refine ⟨Or.inr ⟨by decide, ?_⟩, hI, hth, hag, hrg⟩
                rw [stp_W (by omega) hlw]
                unfold stW
                rw [hte]
                rw [cif_f (by omega)]
                exact cif_t ⟨by omega, by rw [← hz8]; exact bit_t hI4 (by omega) (by rw [ez2, ez1]) c_b⟩
              exact W.iret (v := 3) hx hb hr (fun t9 ht hW => ⟨⟨3, (rl, lw, pa, rt, tw, tm, dt, th, d), rfl, hpost, by rw [ht]; exact hP9, va_K.moved hW.alike hK, hD9⟩, hS.F ht⟩) hS.2.2 dX5_takeLineWord_59
        · skip
          refine lv_iconst (v := 1) hx hb dX5_takeLineWord_39 (by decide) ?_
          refine bw_Qe hQ ?_
          have hP9 : va_P (dC, dI) vwCl [(ad 27, .inr (5, [.ref (ad 28), .int (nI rl), .int fk, .int fp, .ref (ad 1), .int (nI ts), .int (nI te), .int lw, .int (nI pa), .int rt, .int (nI tw), .int (nI tm)])), (ad 1, .inr (8, [.ref (ad 2), .int (nI tn)])), (ad 2, .inl (cy 0, 600, .inl tb)), (ad 28, .inr (4, [.ref (ad 29)])), (ad 29, .inl (cy 0, 18, .inl dt))] H := hP.sub [0, 1, 2, 3, 4] rfl
          have hD9 : va_D A [(ad 27, .inr (5, [.ref (ad 28), .int (nI rl), .int fk, .int fp, .ref (ad 1), .int (nI ts), .int (nI te), .int lw, .int (nI pa), .int rt, .int (nI tw), .int (nI tm)])), (ad 1, .inr (8, [.ref (ad 2), .int (nI tn)])), (ad 2, .inl (cy 0, 600, .inl tb)), (ad 28, .inr (4, [.ref (ad 29)])), (ad 29, .inl (cy 0, 18, .inl dt))] := hD.sub [0, 1, 2, 3, 4] (by decide) rfl
          have hpost : tkP tb tn ts lw.toInt pa th tw tm rl d (1 : Int32).toInt te lw.toInt pa th tw tm rl d ∧ rI lw.toInt pa tw tm ∧ (lw.toInt = 7 → 1 ≤ pa → rt = nI th ∧ th < 8) ∧ agr dt d ∧ rgs dt := by
            refine ⟨Or.inr ⟨by decide, ?_⟩, hI, hth, hag, hrg⟩
            rw [stp_W (by omega) hlw]
            unfold stW
            rw [hte]
            exact cif_t (by omega)
          exact W.iret (v := 1) hx hb hr (fun t9 ht hW => ⟨⟨1, (rl, lw, pa, rt, tw, tm, dt, th, d), rfl, hpost, by rw [ht]; exact hP9, va_K.moved hW.alike hK, hD9⟩, hS.F ht⟩) hS.2.2 dX5_takeLineWord_40
      refine bw_icmp_ge (tgt := 34) (a := ((w : Nat) : Int)) (b := 8) hx hb dX5_takeLineWord_7 (by decide) (nI_toInt (by omega)) rfl (fun c_3 => ?_) (fun c_3 => ?_)
      · skip
        have hI_hz8 : z.toInt = kwTo tb ts te 8 := by
          first
            | (rw [show (8 : Nat) = w by omega]; exact hz)
            | (rw [show (8 : Nat) = w + (8 - w) by omega, kw_stay (by omega)]; exact hz)
        exact L_34 z hI_hz8 H locs hP hD hS ls (lv_sub hl [0, 1] rfl)
      · skip
        refine lv_iload_n hx hb dX5_takeLineWord_10 rfl (lv_at hl 1 rfl) ?_
        refine lv_iconst (v := (-1)) hx hb dX5_takeLineWord_11 (by decide) ?_
        refine bw_icmp_ne (tgt := 34) (a := z.toInt) (b := (-1)) hx hb dX5_takeLineWord_12 (by decide) rfl rfl (fun c_4 => ?_) (fun c_4 => ?_)
        · skip
          have hI_hz8 : z.toInt = kwTo tb ts te 8 := by
            first
              | (rw [show (8 : Nat) = w by omega]; exact hz)
              | (rw [show (8 : Nat) = w + (8 - w) by omega, kw_stay (by omega)]; exact hz)
          exact L_34 z hI_hz8 H locs hP hD hS ls (lv_sub hl [0, 1] rfl)
        · skip
          refine lv_aload_n hx hb dX5_takeLineWord_15 rfl (lv_at hl 0 rfl) ?_
          refine lv_iload_n hx hb dX5_takeLineWord_16 rfl (lv_at hl 2 rfl) ?_
          refine bw_callSr (va_Run.run (va_runS (As := [.int (nI w)]) (rest := [.ref (ad 27)]) ⟨hx, hb, hml, hown, hts⟩ (c_X5_lineWordText l dC dI cy sa sv fv w (by first | assumption | omega)) (va_cwS 1 hts gX5_takeLineWord_X5_lineWordText rfl rfl rfl (by decide +kernel) ⟨Nat.le_of_ble_eq_true rfl, Nat.le_of_ble_eq_true rfl⟩) ⟨fun a U g mk q => by obtain ⟨q0, qP, qK, qE⟩ := q; exact ⟨q0, qP, va_K.moved (u := U) (U := U.calling g mk a) (Vm.Alike.refl U.vm) qK, sW.call qE g mk a⟩, fun U hU hW => ⟨rfl, (fun k q h => by simp at h), va_K.moved hW.alike hK, ((hE.kept hS.2.1).go hW hU).narrow (fun _ h => h.elim)⟩⟩ rfl rfl hl.1 rfl (lv_room (Nat.le_of_ble_eq_true rfl)) dX5_takeLineWord_17 ⟨Nat.le_of_ble_eq_true rfl, Nat.le_of_ble_eq_true rfl⟩)) (fun r_5 hr_5 => ?_)
          rw [hr_5]
          have hPc : va_P (dC, dI) vwCl [(ad 27, .inr (5, [.ref (ad 28), .int (nI rl), .int fk, .int fp, .ref (ad 1), .int (nI ts), .int (nI te), .int lw, .int (nI pa), .int rt, .int (nI tw), .int (nI tm)])), (ad 1, .inr (8, [.ref (ad 2), .int (nI tn)])), (ad 2, .inl (cy 0, 600, .inl tb))] H := hP.sub [0, 1, 2] rfl
          refine vp_callSi (va_Run.run (va_runV (As := [.ref (sa w)]) (rest := []) ⟨hx, hb, hml, hown, hts⟩ (c_X5_tokenIs l dC dI cy sa sv fv ad rl fk fp ts te lw pa rt tw tm tn tb w (by first | assumption | omega) (by first | assumption | omega) (by first | assumption | omega) (by first | assumption | omega)) (cwV 1 hts gX5_takeLineWord_X5_tokenIs rfl rfl rfl (by decide +kernel) ⟨Nat.le_of_ble_eq_true rfl, Nat.le_of_ble_eq_true rfl⟩) ⟨fun a U g mk q => by obtain ⟨q0, qP, qK, qE⟩ := q; exact ⟨q0, qP, va_K.moved (u := U) (U := U.calling g mk a) (Vm.Alike.refl U.vm) qK, sW.call qE g mk a⟩, va_recv hK hPc (ci := 5) (q0 := 0) rfl rfl, fun U hU hW => ⟨rfl, by rw [hU]; exact hPc, va_K.moved hW.alike hK, ((hE.kept hS.2.1).go hW hU).narrow (fun _ h => h.elim)⟩⟩ rfl rfl hl.1 rfl (lv_room (Nat.le_of_ble_eq_true rfl)) dX5_takeLineWord_20 ⟨Nat.le_of_ble_eq_true rfl, Nat.le_of_ble_eq_true rfl⟩)) (fun r_6 hr_6 => ?_)
          refine bw_ifeqP (tgt := 28) hx hb dX5_takeLineWord_23 (by decide) hr_6 (fun c_w => ?_) (fun c_w => ?_)
          · skip
            refine lv_iinc (v := nI (w + 1)) (lv' := [(2, .int (nI (w + 1))), (0, .ref (ad 27)), (1, .int z)]) hx hb dX5_takeLineWord_28 hl (k := 2) rfl (show nI w + Int32.ofInt 1 = nI (w + 1) from nI_add w 1) (by decide) rfl (fun ls hl => ?_)
            refine lv_goto (tgt := 4) hx hb dX5_takeLineWord_31 (by decide) ?_
            have hI_hz : z.toInt = kwTo tb ts te (w + 1) := by
              first
                | (rw [kw_hit (by omega) c_w]; exact nI_toInt (by omega))
                | (rw [kw_miss (by omega) c_w]; omega)
            exact ih4 (w + 1) z (by omega) (by first | assumption | omega) hI_hz H locs hP hD hS ls (lv_sub hl [1, 2, 0] rfl)
          · skip
            refine lv_iload_n hx hb dX5_takeLineWord_26 rfl (lv_at hl 2 rfl) ?_
            refine lv_istore_n (lv' := [(1, .int (nI w)), (0, .ref (ad 27)), (2, .int (nI w))]) hx hb dX5_takeLineWord_27 rfl hl (by decide) rfl (fun ls hl => ?_)
            refine lv_iinc (v := nI (w + 1)) (lv' := [(2, .int (nI (w + 1))), (1, .int (nI w)), (0, .ref (ad 27))]) hx hb dX5_takeLineWord_28 hl (k := 2) rfl (show nI w + Int32.ofInt 1 = nI (w + 1) from nI_add w 1) (by decide) rfl (fun ls hl => ?_)
            refine lv_goto (tgt := 4) hx hb dX5_takeLineWord_31 (by decide) ?_
            have hI_hz : (nI w).toInt = kwTo tb ts te (w + 1) := by
              first
                | (rw [kw_hit (by omega) c_w]; exact nI_toInt (by omega))
                | (rw [kw_miss (by omega) c_w]; omega)
            exact ih4 (w + 1) (nI w) (by omega) (by first | assumption | omega) hI_hz H locs hP hD hS ls (lv_sub hl [2, 1, 0] rfl)
  have hI_hz : ((-1) : Int32).toInt = kwTo tb ts te 0 := by
    rfl
  exact L_4 ((8 - 0) + 1) 0 (-1) (by omega) (by first | assumption | omega) hI_hz H locs hP hD hS ls (lv_sub hl [2, 1, 0] rfl)

set_option maxHeartbeats 4000000 in
set_option maxRecDepth 100000 in
theorem c_X5_takeLineEnd (l : Launch) (dC : Nat → ClassId) (dI : Nat → Nat → Nat) (cy : Nat → ClassId) (sa sv : Nat → Nat) (fv : Value) (ad : Nat → Nat) (rl : Nat) (fk : Int32) (fp : Int32) (ts : Nat) (te : Nat) (lw : Int32) (pa : Nat) (rt : Int32) (tw : Nat) (tm : Nat) (tn : Nat) (tb : Nat → Int32) (dt : Nat → Int32) (th : Nat) (d : Nat → Int32) (sz : Nat) (hts1 : ts < te) (hte1 : te ≤ tn) (htn : tn ≤ 600) (htE : tEnd tb tn ts te) (hI : rI lw.toInt pa tw tm) (hth : lw.toInt = 7 → 1 ≤ pa → rt = nI th ∧ th < 8) (hag : agr dt d) (hrg : rgs dt) (hlw : lw.toInt ≠ -1) (hpp : prt lw.toInt ≤ pa) : Met l yX5_takeLineEnd wsX5_takeLineEnd ({ frames := 5, cells := 0, slots := 0, locals := 107 }) (va_Pc [.ref (ad 27)] (fun U => U.heap.size = sz ∧ va_P (dC, dI) vwCl [(ad 27, .inr (5, [.ref (ad 28), .int (nI rl), .int fk, .int fp, .ref (ad 1), .int (nI ts), .int (nI te), .int lw, .int (nI pa), .int rt, .int (nI tw), .int (nI tm)])), (ad 1, .inr (8, [.ref (ad 2), .int (nI tn)])), (ad 2, .inl (cy 0, 600, .inl tb)), (ad 28, .inr (4, [.ref (ad 29)])), (ad 29, .inl (cy 0, 18, .inl dt))] U.heap ∧ va_K (dC, dI) vwCl (tyL cy) U ∧ va_D (fun _ => True) [(ad 27, .inr (5, [.ref (ad 28), .int (nI rl), .int fk, .int fp, .ref (ad 1), .int (nI ts), .int (nI te), .int lw, .int (nI pa), .int rt, .int (nI tw), .int (nI tm)])), (ad 1, .inr (8, [.ref (ad 2), .int (nI tn)])), (ad 2, .inl (cy 0, 600, .inl tb)), (ad 28, .inr (4, [.ref (ad 29)])), (ad 29, .inl (cy 0, 18, .inl dt))] ∧ sW sa sv fv (va_A [(ad 27, .inr (5, [.ref (ad 28), .int (nI rl), .int fk, .int fp, .ref (ad 1), .int (nI ts), .int (nI te), .int lw, .int (nI pa), .int rt, .int (nI tw), .int (nI tm)])), (ad 1, .inr (8, [.ref (ad 2), .int (nI tn)])), (ad 2, .inl (cy 0, 600, .inl tb)), (ad 28, .inr (4, [.ref (ad 29)])), (ad 29, .inl (cy 0, 18, .inl dt))] sz) U U.heap)) (va_Qi (S := Nat × Int32 × Nat × Int32 × Nat × Nat × (Nat → Int32) × Nat × (Nat → Int32)) (fun r => fun u => match u with | (rl2, lw2, pa2, rt2, tw2, tm2, dt2, th2, d2) => tkP tb tn ts lw.toInt pa th tw tm rl d r.toInt te lw2.toInt pa2 th2 tw2 tm2 rl2 d2 ∧ rI lw2.toInt pa2 tw2 tm2 ∧ (lw2.toInt = 7 → 1 ≤ pa2 → rt2 = nI th2 ∧ th2 < 8) ∧ agr dt2 d2 ∧ rgs dt2) (fun u => match u with | (rl2, lw2, pa2, rt2, tw2, tm2, dt2, th2, d2) => fun t => va_P (dC, dI) vwCl [(ad 27, .inr (5, [.ref (ad 28), .int (nI rl2), .int fk, .int fp, .ref (ad 1), .int (nI ts), .int (nI te), .int lw2, .int (nI pa2), .int rt2, .int (nI tw2), .int (nI tm2)])), (ad 1, .inr (8, [.ref (ad 2), .int (nI tn)])), (ad 2, .inl (cy 0, 600, .inl tb)), (ad 28, .inr (4, [.ref (ad 29)])), (ad 29, .inl (cy 0, 18, .inl dt2))] t.heap ∧ va_K (dC, dI) vwCl (tyL cy) t ∧ va_D (va_A [(ad 27, .inr (5, [.ref (ad 28), .int (nI rl), .int fk, .int fp, .ref (ad 1), .int (nI ts), .int (nI te), .int lw, .int (nI pa), .int rt, .int (nI tw), .int (nI tm)])), (ad 1, .inr (8, [.ref (ad 2), .int (nI tn)])), (ad 2, .inl (cy 0, 600, .inl tb)), (ad 28, .inr (4, [.ref (ad 29)])), (ad 29, .inl (cy 0, 18, .inl dt))] sz) [(ad 27, .inr (5, [.ref (ad 28), .int (nI rl2), .int fk, .int fp, .ref (ad 1), .int (nI ts), .int (nI te), .int lw2, .int (nI pa2), .int rt2, .int (nI tw2), .int (nI tm2)])), (ad 1, .inr (8, [.ref (ad 2), .int (nI tn)])), (ad 2, .inl (cy 0, 600, .inl tb)), (ad 28, .inr (4, [.ref (ad 29)])), (ad 29, .inl (cy 0, 18, .inl dt2))]) (va_A [(ad 27, .inr (5, [.ref (ad 28), .int (nI rl), .int fk, .int fp, .ref (ad 1), .int (nI ts), .int (nI te), .int lw, .int (nI pa), .int rt, .int (nI tw), .int (nI tm)])), (ad 1, .inr (8, [.ref (ad 2), .int (nI tn)])), (ad 2, .inl (cy 0, 600, .inl tb)), (ad 28, .inr (4, [.ref (ad 29)])), (ad 29, .inl (cy 0, 18, .inl dt))] sz)) 0 0 (va_A [(ad 27, .inr (5, [.ref (ad 28), .int (nI rl), .int fk, .int fp, .ref (ad 1), .int (nI ts), .int (nI te), .int lw, .int (nI pa), .int rt, .int (nI tw), .int (nI tm)])), (ad 1, .inr (8, [.ref (ad 2), .int (nI tn)])), (ad 2, .inl (cy 0, 600, .inl tb)), (ad 28, .inr (4, [.ref (ad 29)])), (ad 29, .inl (cy 0, 18, .inl dt))] sz) := by
  refine Met.ofW (cc := cX5_takeLineEnd) (maxL := 1) (ret := (some .int)) (by decide) rfl ?_
  intro pp ee ss mm args below meth cc0 s₁ B hml hv
  obtain ⟨rfl, hsz, hP, hK, hD0, hE⟩ := hv
  have hx := B.exec
  have hb := B.bytes
  have hr := B.returns
  have hts := atoms_spec (ws := wsX5_takeLineEnd) B.pre
  have hown : ss.vm.findClass RX5 = some mm.cls := findClass_of_methodNamed B.named
  have hlocks := B.notSynchronized
  have hL0 := hts (.fieldLink RX5 32 "HereLived$RuleReader" "lines" "I") (by decide +kernel)
  have hL1 := hts (.fieldLink RX5 35 "HereLived$RuleReader" "lineWord" "I") (by decide +kernel)
  have hiX5 : ∀ w ∈ wsX50, w ∈ wsX5_takeLineEnd := by decide +kernel
  subst hsz
  have hD := hD0.self (sz := ss.heap.size)
  generalize hAe : va_A [(ad 27, .inr (5, [.ref (ad 28), .int (nI rl), .int fk, .int fp, .ref (ad 1), .int (nI ts), .int (nI te), .int lw, .int (nI pa), .int rt, .int (nI tw), .int (nI tm)])), (ad 1, .inr (8, [.ref (ad 2), .int (nI tn)])), (ad 2, .inl (cy 0, 600, .inl tb)), (ad 28, .inr (4, [.ref (ad 29)])), (ad 29, .inl (cy 0, 18, .inl dt))] ss.heap.size = A at hD hE ⊢
  have hA : ∀ q : Nat, ss.heap.size ≤ q → A q := fun q h => by rw [← hAe]; exact Or.inr h
  have hS : va_S A ss.heap ss.heap [] := va_S.rf
  have hP : va_P (dC, dI) vwCl [(ad 27, .inr (5, [.ref (ad 28), .int (nI rl), .int fk, .int fp, .ref (ad 1), .int (nI ts), .int (nI te), .int lw, .int (nI pa), .int rt, .int (nI tw), .int (nI tm)])), (ad 1, .inr (8, [.ref (ad 2), .int (nI tn)])), (ad 2, .inl (cy 0, 600, .inl tb)), (ad 28, .inr (4, [.ref (ad 29)])), (ad 29, .inl (cy 0, 18, .inl dt))] ss.heap := hP
  have hl := lv_entry ([.ref (ad 27)]) (n := 1) (Nat.le_of_ble_eq_true rfl)
  rw [lg_entry_eq]
  generalize (lg_sl ([.ref (ad 27)]) ++ List.replicate (1 - (lg_sl ([.ref (ad 27)])).length) Slot.unset).toArray = ls at hl ⊢
  have hl : lv_has ls 1 [(0, .ref (ad 27))] := hl
  refine bw_Q (fun Q hQ => ?_)
  refine bw_H0 (fun H locs eH eL => ?_)
  have hS : va_S A ss.heap H locs := by rw [eH, eL]; exact hS
  have hP : va_P (dC, dI) vwCl [(ad 27, .inr (5, [.ref (ad 28), .int (nI rl), .int fk, .int fp, .ref (ad 1), .int (nI ts), .int (nI te), .int lw, .int (nI pa), .int rt, .int (nI tw), .int (nI tm)])), (ad 1, .inr (8, [.ref (ad 2), .int (nI tn)])), (ad 2, .inl (cy 0, 600, .inl tb)), (ad 28, .inr (4, [.ref (ad 29)])), (ad 29, .inl (cy 0, 18, .inl dt))] H := by rw [eH]; exact hP
  change W pp l ee { frames := 5, cells := 0, slots := 0, locals := 107 } ss mm _ below meth cc0 H locs 0 0 Q (F0 mm 0 ls [])
  have hte := tE_eq htE
  obtain ⟨hI1, hI2, hI3, hI4, hI5⟩ := id hI
  refine lv_aload_n hx hb dX5_takeLineEnd_0 rfl (lv_at hl 0 rfl) ?_
  refine va_ldcS hx hb hown (show vk_R RX5 103 ";" (sa 10) ss from (hE.1 10 (by decide)).1) dX5_takeLineEnd_1 ?_
  have hPc : va_P (dC, dI) vwCl [(ad 27, .inr (5, [.ref (ad 28), .int (nI rl), .int fk, .int fp, .ref (ad 1), .int (nI ts), .int (nI te), .int lw, .int (nI pa), .int rt, .int (nI tw), .int (nI tm)])), (ad 1, .inr (8, [.ref (ad 2), .int (nI tn)])), (ad 2, .inl (cy 0, 600, .inl tb))] H := hP.sub [0, 1, 2] rfl
  refine vp_callSi (va_Run.run (va_runV (As := [.ref (sa 10)]) (rest := []) ⟨hx, hb, hml, hown, hts⟩ (c_X5_tokenIs l dC dI cy sa sv fv ad rl fk fp ts te lw pa rt tw tm tn tb 10 (by first | assumption | omega) (by first | assumption | omega) (by first | assumption | omega) (by first | assumption | omega)) (cwV 1 hts gX5_takeLineEnd_X5_tokenIs rfl rfl rfl (by decide +kernel) ⟨Nat.le_of_ble_eq_true rfl, Nat.le_of_ble_eq_true rfl⟩) ⟨fun a U g mk q => by obtain ⟨q0, qP, qK, qE⟩ := q; exact ⟨q0, qP, va_K.moved (u := U) (U := U.calling g mk a) (Vm.Alike.refl U.vm) qK, sW.call qE g mk a⟩, va_recv hK hPc (ci := 5) (q0 := 0) rfl rfl, fun U hU hW => ⟨rfl, by rw [hU]; exact hPc, va_K.moved hW.alike hK, ((hE.kept hS.2.1).go hW hU).narrow (fun _ h => h.elim)⟩⟩ rfl rfl hl.1 rfl (lv_room (Nat.le_of_ble_eq_true rfl)) dX5_takeLineEnd_3 ⟨Nat.le_of_ble_eq_true rfl, Nat.le_of_ble_eq_true rfl⟩)) (fun r_1 hr_1 => ?_)
  refine bw_ifneP (tgt := 11) hx hb dX5_takeLineEnd_6 (by decide) hr_1 (fun c_w => ?_) (fun c_w => ?_)
  · skip
    refine lv_aload_n hx hb dX5_takeLineEnd_11 rfl (lv_at hl 0 rfl) ?_
    refine lv_dup hx hb dX5_takeLineEnd_12 rfl ?_
    refine va_get (D := (dC, dI)) (ci := 5) (v := .int (nI rl)) (C := RX5) (T := TX5) (N := 12) hx hb hts hiX5 hown hK hP 0 rfl rfl 1 (by decide) hL0 (fun _ h9 => h9) rfl dX5_takeLineEnd_13 ?_
    refine lv_iconst (v := 1) hx hb dX5_takeLineEnd_16 (by decide) ?_
    refine lv_iadd hx hb dX5_takeLineEnd_17 ?_
    refine bw_re (show (nI rl) + 1 = nI (rl + 1) from nI_add (rl) (1)) ?_
    refine va_put (D := (dC, dI)) (ci := 5) (v := .int (nI (rl + 1))) (ty := (tyX5 1)) (C := RX5) (T := TX5) (N := 12) hx hb hts hiX5 tyX5 tyX5_ok nmX5 hown hK hP hD hS 0 rfl rfl 1 (by decide) hL0 (fun _ h9 => h9) rfl (by decide +kernel) rfl rfl (Nat.le_of_ble_eq_true rfl) dX5_takeLineEnd_18 (fun H locs hP hD hS => ?_)
    have hP : va_P (dC, dI) vwCl [(ad 27, .inr (5, [.ref (ad 28), .int (nI (rl + 1)), .int fk, .int fp, .ref (ad 1), .int (nI ts), .int (nI te), .int lw, .int (nI pa), .int rt, .int (nI tw), .int (nI tm)])), (ad 1, .inr (8, [.ref (ad 2), .int (nI tn)])), (ad 2, .inl (cy 0, 600, .inl tb)), (ad 28, .inr (4, [.ref (ad 29)])), (ad 29, .inl (cy 0, 18, .inl dt))] H := hP
    have hD : va_D A [(ad 27, .inr (5, [.ref (ad 28), .int (nI (rl + 1)), .int fk, .int fp, .ref (ad 1), .int (nI ts), .int (nI te), .int lw, .int (nI pa), .int rt, .int (nI tw), .int (nI tm)])), (ad 1, .inr (8, [.ref (ad 2), .int (nI tn)])), (ad 2, .inl (cy 0, 600, .inl tb)), (ad 28, .inr (4, [.ref (ad 29)])), (ad 29, .inl (cy 0, 18, .inl dt))] := hD
    refine lv_aload_n hx hb dX5_takeLineEnd_21 rfl (lv_at hl 0 rfl) ?_
    refine lv_iconst (v := (-1)) hx hb dX5_takeLineEnd_22 (by decide) ?_
    refine va_put (D := (dC, dI)) (ci := 5) (v := .int (-1)) (ty := (tyX5 7)) (C := RX5) (T := TX5) (N := 12) hx hb hts hiX5 tyX5 tyX5_ok nmX5 hown hK hP hD hS 0 rfl rfl 7 (by decide) hL1 (fun _ h9 => h9) rfl (by decide +kernel) rfl rfl (Nat.le_of_ble_eq_true rfl) dX5_takeLineEnd_23 (fun H locs hP hD hS => ?_)
    have hP : va_P (dC, dI) vwCl [(ad 27, .inr (5, [.ref (ad 28), .int (nI (rl + 1)), .int fk, .int fp, .ref (ad 1), .int (nI ts), .int (nI te), .int (-1), .int (nI pa), .int rt, .int (nI tw), .int (nI tm)])), (ad 1, .inr (8, [.ref (ad 2), .int (nI tn)])), (ad 2, .inl (cy 0, 600, .inl tb)), (ad 28, .inr (4, [.ref (ad 29)])), (ad 29, .inl (cy 0, 18, .inl dt))] H := hP
    have hD : va_D A [(ad 27, .inr (5, [.ref (ad 28), .int (nI (rl + 1)), .int fk, .int fp, .ref (ad 1), .int (nI ts), .int (nI te), .int (-1), .int (nI pa), .int rt, .int (nI tw), .int (nI tm)])), (ad 1, .inr (8, [.ref (ad 2), .int (nI tn)])), (ad 2, .inl (cy 0, 600, .inl tb)), (ad 28, .inr (4, [.ref (ad 29)])), (ad 29, .inl (cy 0, 18, .inl dt))] := hD
    refine lv_iconst (v := 0) hx hb dX5_takeLineEnd_26 (by decide) ?_
    refine bw_Qe hQ ?_
    have hP9 : va_P (dC, dI) vwCl [(ad 27, .inr (5, [.ref (ad 28), .int (nI (rl + 1)), .int fk, .int fp, .ref (ad 1), .int (nI ts), .int (nI te), .int (-1), .int (nI pa), .int rt, .int (nI tw), .int (nI tm)])), (ad 1, .inr (8, [.ref (ad 2), .int (nI tn)])), (ad 2, .inl (cy 0, 600, .inl tb)), (ad 28, .inr (4, [.ref (ad 29)])), (ad 29, .inl (cy 0, 18, .inl dt))] H := hP.sub [0, 1, 2, 3, 4] rfl
    have hD9 : va_D A [(ad 27, .inr (5, [.ref (ad 28), .int (nI (rl + 1)), .int fk, .int fp, .ref (ad 1), .int (nI ts), .int (nI te), .int (-1), .int (nI pa), .int rt, .int (nI tw), .int (nI tm)])), (ad 1, .inr (8, [.ref (ad 2), .int (nI tn)])), (ad 2, .inl (cy 0, 600, .inl tb)), (ad 28, .inr (4, [.ref (ad 29)])), (ad 29, .inl (cy 0, 18, .inl dt))] := hD.sub [0, 1, 2, 3, 4] (by decide) rfl
    have hpost : tkP tb tn ts lw.toInt pa th tw tm rl d (0 : Int32).toInt te ((-1) : Int32).toInt pa th tw tm (rl + 1) d ∧ rI ((-1) : Int32).toInt pa tw tm ∧ (((-1) : Int32).toInt = 7 → 1 ≤ pa → rt = nI th ∧ th < 8) ∧ agr dt d ∧ rgs dt := by
      refine ⟨Or.inl ⟨rfl, ?_⟩, ⟨by decide, by decide, hI3, hI4, hI5⟩, fun q => absurd q (by decide), hag, hrg⟩
      rw [stp_E (by omega) hlw hpp]
      unfold stE
      rw [hte]
      exact cif_t c_w
    exact W.iret (v := 0) hx hb hr (fun t9 ht hW => ⟨⟨0, (rl + 1, (-1), pa, rt, tw, tm, dt, th, d), rfl, hpost, by rw [ht]; exact hP9, va_K.moved hW.alike hK, hD9⟩, hS.F ht⟩) hS.2.2 dX5_takeLineEnd_27
  · skip
    refine lv_iconst (v := 1) hx hb dX5_takeLineEnd_9 (by decide) ?_
    refine bw_Qe hQ ?_
    have hP9 : va_P (dC, dI) vwCl [(ad 27, .inr (5, [.ref (ad 28), .int (nI rl), .int fk, .int fp, .ref (ad 1), .int (nI ts), .int (nI te), .int lw, .int (nI pa), .int rt, .int (nI tw), .int (nI tm)])), (ad 1, .inr (8, [.ref (ad 2), .int (nI tn)])), (ad 2, .inl (cy 0, 600, .inl tb)), (ad 28, .inr (4, [.ref (ad 29)])), (ad 29, .inl (cy 0, 18, .inl dt))] H := hP.sub [0, 1, 2, 3, 4] rfl
    have hD9 : va_D A [(ad 27, .inr (5, [.ref (ad 28), .int (nI rl), .int fk, .int fp, .ref (ad 1), .int (nI ts), .int (nI te), .int lw, .int (nI pa), .int rt, .int (nI tw), .int (nI tm)])), (ad 1, .inr (8, [.ref (ad 2), .int (nI tn)])), (ad 2, .inl (cy 0, 600, .inl tb)), (ad 28, .inr (4, [.ref (ad 29)])), (ad 29, .inl (cy 0, 18, .inl dt))] := hD.sub [0, 1, 2, 3, 4] (by decide) rfl
    have hpost : tkP tb tn ts lw.toInt pa th tw tm rl d (1 : Int32).toInt te lw.toInt pa th tw tm rl d ∧ rI lw.toInt pa tw tm ∧ (lw.toInt = 7 → 1 ≤ pa → rt = nI th ∧ th < 8) ∧ agr dt d ∧ rgs dt := by
      refine ⟨Or.inr ⟨by decide, ?_⟩, hI, hth, hag, hrg⟩
      rw [stp_E (by omega) hlw hpp]
      unfold stE
      rw [hte]
      exact cif_f c_w
    exact W.iret (v := 1) hx hb hr (fun t9 ht hW => ⟨⟨1, (rl, lw, pa, rt, tw, tm, dt, th, d), rfl, hpost, by rw [ht]; exact hP9, va_K.moved hW.alike hK, hD9⟩, hS.F ht⟩) hS.2.2 dX5_takeLineEnd_10

set_option maxHeartbeats 4000000 in
set_option maxRecDepth 100000 in
theorem c_X5_takeYesOrNo (l : Launch) (dC : Nat → ClassId) (dI : Nat → Nat → Nat) (cy : Nat → ClassId) (sa sv : Nat → Nat) (fv : Value) (ad : Nat → Nat) (rl : Nat) (fk : Int32) (fp : Int32) (ts : Nat) (te : Nat) (lw : Int32) (pa : Nat) (rt : Int32) (tw : Nat) (tm : Nat) (tn : Nat) (tb : Nat → Int32) (dt : Nat → Int32) (th : Nat) (d : Nat → Int32) (sz : Nat) (hts1 : ts < te) (hte1 : te ≤ tn) (htn : tn ≤ 600) (htE : tEnd tb tn ts te) (hI : rI lw.toInt pa tw tm) (hth : lw.toInt = 7 → 1 ≤ pa → rt = nI th ∧ th < 8) (hag : agr dt d) (hrg : rgs dt) (hlw : lw.toInt ≠ -1) (hpp : pa < prt lw.toInt) (h4 : lw.toInt = 4) : Met l yX5_takeYesOrNo wsX5_takeYesOrNo ({ frames := 5, cells := 0, slots := 0, locals := 107 }) (va_Pc [.ref (ad 27)] (fun U => U.heap.size = sz ∧ va_P (dC, dI) vwCl [(ad 27, .inr (5, [.ref (ad 28), .int (nI rl), .int fk, .int fp, .ref (ad 1), .int (nI ts), .int (nI te), .int lw, .int (nI pa), .int rt, .int (nI tw), .int (nI tm)])), (ad 1, .inr (8, [.ref (ad 2), .int (nI tn)])), (ad 2, .inl (cy 0, 600, .inl tb)), (ad 28, .inr (4, [.ref (ad 29)])), (ad 29, .inl (cy 0, 18, .inl dt))] U.heap ∧ va_K (dC, dI) vwCl (tyL cy) U ∧ va_D (fun _ => True) [(ad 27, .inr (5, [.ref (ad 28), .int (nI rl), .int fk, .int fp, .ref (ad 1), .int (nI ts), .int (nI te), .int lw, .int (nI pa), .int rt, .int (nI tw), .int (nI tm)])), (ad 1, .inr (8, [.ref (ad 2), .int (nI tn)])), (ad 2, .inl (cy 0, 600, .inl tb)), (ad 28, .inr (4, [.ref (ad 29)])), (ad 29, .inl (cy 0, 18, .inl dt))] ∧ sW sa sv fv (va_A [(ad 27, .inr (5, [.ref (ad 28), .int (nI rl), .int fk, .int fp, .ref (ad 1), .int (nI ts), .int (nI te), .int lw, .int (nI pa), .int rt, .int (nI tw), .int (nI tm)])), (ad 1, .inr (8, [.ref (ad 2), .int (nI tn)])), (ad 2, .inl (cy 0, 600, .inl tb)), (ad 28, .inr (4, [.ref (ad 29)])), (ad 29, .inl (cy 0, 18, .inl dt))] sz) U U.heap)) (va_Qi (S := Nat × Int32 × Nat × Int32 × Nat × Nat × (Nat → Int32) × Nat × (Nat → Int32)) (fun r => fun u => match u with | (rl2, lw2, pa2, rt2, tw2, tm2, dt2, th2, d2) => tkP tb tn ts lw.toInt pa th tw tm rl d r.toInt te lw2.toInt pa2 th2 tw2 tm2 rl2 d2 ∧ rI lw2.toInt pa2 tw2 tm2 ∧ (lw2.toInt = 7 → 1 ≤ pa2 → rt2 = nI th2 ∧ th2 < 8) ∧ agr dt2 d2 ∧ rgs dt2) (fun u => match u with | (rl2, lw2, pa2, rt2, tw2, tm2, dt2, th2, d2) => fun t => va_P (dC, dI) vwCl [(ad 27, .inr (5, [.ref (ad 28), .int (nI rl2), .int fk, .int fp, .ref (ad 1), .int (nI ts), .int (nI te), .int lw2, .int (nI pa2), .int rt2, .int (nI tw2), .int (nI tm2)])), (ad 1, .inr (8, [.ref (ad 2), .int (nI tn)])), (ad 2, .inl (cy 0, 600, .inl tb)), (ad 28, .inr (4, [.ref (ad 29)])), (ad 29, .inl (cy 0, 18, .inl dt2))] t.heap ∧ va_K (dC, dI) vwCl (tyL cy) t ∧ va_D (va_A [(ad 27, .inr (5, [.ref (ad 28), .int (nI rl), .int fk, .int fp, .ref (ad 1), .int (nI ts), .int (nI te), .int lw, .int (nI pa), .int rt, .int (nI tw), .int (nI tm)])), (ad 1, .inr (8, [.ref (ad 2), .int (nI tn)])), (ad 2, .inl (cy 0, 600, .inl tb)), (ad 28, .inr (4, [.ref (ad 29)])), (ad 29, .inl (cy 0, 18, .inl dt))] sz) [(ad 27, .inr (5, [.ref (ad 28), .int (nI rl2), .int fk, .int fp, .ref (ad 1), .int (nI ts), .int (nI te), .int lw2, .int (nI pa2), .int rt2, .int (nI tw2), .int (nI tm2)])), (ad 1, .inr (8, [.ref (ad 2), .int (nI tn)])), (ad 2, .inl (cy 0, 600, .inl tb)), (ad 28, .inr (4, [.ref (ad 29)])), (ad 29, .inl (cy 0, 18, .inl dt2))]) (va_A [(ad 27, .inr (5, [.ref (ad 28), .int (nI rl), .int fk, .int fp, .ref (ad 1), .int (nI ts), .int (nI te), .int lw, .int (nI pa), .int rt, .int (nI tw), .int (nI tm)])), (ad 1, .inr (8, [.ref (ad 2), .int (nI tn)])), (ad 2, .inl (cy 0, 600, .inl tb)), (ad 28, .inr (4, [.ref (ad 29)])), (ad 29, .inl (cy 0, 18, .inl dt))] sz)) 0 0 (va_A [(ad 27, .inr (5, [.ref (ad 28), .int (nI rl), .int fk, .int fp, .ref (ad 1), .int (nI ts), .int (nI te), .int lw, .int (nI pa), .int rt, .int (nI tw), .int (nI tm)])), (ad 1, .inr (8, [.ref (ad 2), .int (nI tn)])), (ad 2, .inl (cy 0, 600, .inl tb)), (ad 28, .inr (4, [.ref (ad 29)])), (ad 29, .inl (cy 0, 18, .inl dt))] sz) := by
  refine Met.ofW (cc := cX5_takeYesOrNo) (maxL := 2) (ret := (some .int)) (by decide) rfl ?_
  intro pp ee ss mm args below meth cc0 s₁ B hml hv
  obtain ⟨rfl, hsz, hP, hK, hD0, hE⟩ := hv
  have hx := B.exec
  have hb := B.bytes
  have hr := B.returns
  have hts := atoms_spec (ws := wsX5_takeYesOrNo) B.pre
  have hown : ss.vm.findClass RX5 = some mm.cls := findClass_of_methodNamed B.named
  have hlocks := B.notSynchronized
  have hL0 := hts (.fieldLink RX5 18 "HereLived$RuleReader" "draft" "LHereLived$RuleBook;") (by decide +kernel)
  have hL1 := hts (.fieldLink RX5 109 "HereLived$RuleBook" "told" "[I") (by decide +kernel)
  have hL2 := hts (.fieldLink RX5 38 "HereLived$RuleReader" "parts" "I") (by decide +kernel)
  have hiX4 : ∀ w ∈ wsX40, w ∈ wsX5_takeYesOrNo := by decide +kernel
  have hiX5 : ∀ w ∈ wsX50, w ∈ wsX5_takeYesOrNo := by decide +kernel
  subst hsz
  have hD := hD0.self (sz := ss.heap.size)
  generalize hAe : va_A [(ad 27, .inr (5, [.ref (ad 28), .int (nI rl), .int fk, .int fp, .ref (ad 1), .int (nI ts), .int (nI te), .int lw, .int (nI pa), .int rt, .int (nI tw), .int (nI tm)])), (ad 1, .inr (8, [.ref (ad 2), .int (nI tn)])), (ad 2, .inl (cy 0, 600, .inl tb)), (ad 28, .inr (4, [.ref (ad 29)])), (ad 29, .inl (cy 0, 18, .inl dt))] ss.heap.size = A at hD hE ⊢
  have hA : ∀ q : Nat, ss.heap.size ≤ q → A q := fun q h => by rw [← hAe]; exact Or.inr h
  have hS : va_S A ss.heap ss.heap [] := va_S.rf
  have hP : va_P (dC, dI) vwCl [(ad 27, .inr (5, [.ref (ad 28), .int (nI rl), .int fk, .int fp, .ref (ad 1), .int (nI ts), .int (nI te), .int lw, .int (nI pa), .int rt, .int (nI tw), .int (nI tm)])), (ad 1, .inr (8, [.ref (ad 2), .int (nI tn)])), (ad 2, .inl (cy 0, 600, .inl tb)), (ad 28, .inr (4, [.ref (ad 29)])), (ad 29, .inl (cy 0, 18, .inl dt))] ss.heap := hP
  have hl := lv_entry ([.ref (ad 27)]) (n := 2) (Nat.le_of_ble_eq_true rfl)
  rw [lg_entry_eq]
  generalize (lg_sl ([.ref (ad 27)]) ++ List.replicate (2 - (lg_sl ([.ref (ad 27)])).length) Slot.unset).toArray = ls at hl ⊢
  have hl : lv_has ls 2 [(0, .ref (ad 27))] := hl
  refine bw_Q (fun Q hQ => ?_)
  refine bw_H0 (fun H locs eH eL => ?_)
  have hS : va_S A ss.heap H locs := by rw [eH, eL]; exact hS
  have hP : va_P (dC, dI) vwCl [(ad 27, .inr (5, [.ref (ad 28), .int (nI rl), .int fk, .int fp, .ref (ad 1), .int (nI ts), .int (nI te), .int lw, .int (nI pa), .int rt, .int (nI tw), .int (nI tm)])), (ad 1, .inr (8, [.ref (ad 2), .int (nI tn)])), (ad 2, .inl (cy 0, 600, .inl tb)), (ad 28, .inr (4, [.ref (ad 29)])), (ad 29, .inl (cy 0, 18, .inl dt))] H := by rw [eH]; exact hP
  change W pp l ee { frames := 5, cells := 0, slots := 0, locals := 107 } ss mm _ below meth cc0 H locs 0 0 Q (F0 mm 0 ls [])
  have hte := tE_eq htE
  obtain ⟨hI1, hI2, hI3, hI4, hI5⟩ := id hI
  have hp4 : prt lw.toInt = 1 := by rw [h4]; rfl
  refine lv_aload_n hx hb dX5_takeYesOrNo_0 rfl (lv_at hl 0 rfl) ?_
  refine va_ldcS hx hb hown (show vk_R RX5 105 "yes" (sa 8) ss from (hE.1 8 (by decide)).1) dX5_takeYesOrNo_1 ?_
  have hPc : va_P (dC, dI) vwCl [(ad 27, .inr (5, [.ref (ad 28), .int (nI rl), .int fk, .int fp, .ref (ad 1), .int (nI ts), .int (nI te), .int lw, .int (nI pa), .int rt, .int (nI tw), .int (nI tm)])), (ad 1, .inr (8, [.ref (ad 2), .int (nI tn)])), (ad 2, .inl (cy 0, 600, .inl tb))] H := hP.sub [0, 1, 2] rfl
  refine vp_callSi (va_Run.run (va_runV (As := [.ref (sa 8)]) (rest := []) ⟨hx, hb, hml, hown, hts⟩ (c_X5_tokenIs l dC dI cy sa sv fv ad rl fk fp ts te lw pa rt tw tm tn tb 8 (by first | assumption | omega) (by first | assumption | omega) (by first | assumption | omega) (by first | assumption | omega)) (cwV 1 hts gX5_takeYesOrNo_X5_tokenIs rfl rfl rfl (by decide +kernel) ⟨Nat.le_of_ble_eq_true rfl, Nat.le_of_ble_eq_true rfl⟩) ⟨fun a U g mk q => by obtain ⟨q0, qP, qK, qE⟩ := q; exact ⟨q0, qP, va_K.moved (u := U) (U := U.calling g mk a) (Vm.Alike.refl U.vm) qK, sW.call qE g mk a⟩, va_recv hK hPc (ci := 5) (q0 := 0) rfl rfl, fun U hU hW => ⟨rfl, by rw [hU]; exact hPc, va_K.moved hW.alike hK, ((hE.kept hS.2.1).go hW hU).narrow (fun _ h => h.elim)⟩⟩ rfl rfl hl.1 rfl (lv_room (Nat.le_of_ble_eq_true rfl)) dX5_takeYesOrNo_3 ⟨Nat.le_of_ble_eq_true rfl, Nat.le_of_ble_eq_true rfl⟩)) (fun r_1 hr_1 => ?_)
  refine lv_istore_n (lv' := [(1, .int r_1), (0, .ref (ad 27))]) hx hb dX5_takeYesOrNo_6 rfl hl (by decide) rfl (fun ls hl => ?_)
  refine lv_iload_n hx hb dX5_takeYesOrNo_7 rfl (lv_at hl 0 rfl) ?_
  refine bw_ifneP (tgt := 22) hx hb dX5_takeYesOrNo_8 (by decide) hr_1 (fun c_y => ?_) (fun c_y => ?_)
  · skip
    refine lv_aload_n hx hb dX5_takeYesOrNo_22 rfl (lv_at hl 1 rfl) ?_
    refine va_get (D := (dC, dI)) (ci := 5) (v := .ref (ad 28)) (C := RX5) (T := TX5) (N := 12) hx hb hts hiX5 hown hK hP 0 rfl rfl 0 (by decide) hL0 (fun _ h9 => h9) rfl dX5_takeYesOrNo_23 ?_
    refine va_get (D := (dC, dI)) (ci := 4) (v := .ref (ad 29)) (C := RX4) (T := TX4) (N := 1) hx hb hts hiX4 hown hK hP 3 rfl rfl 0 (by decide) hL1 (fun _ h9 => h9) rfl dX5_takeYesOrNo_26 ?_
    refine lv_iconst (v := 4) hx hb dX5_takeYesOrNo_29 (by decide) ?_
    refine lv_iload_n hx hb dX5_takeYesOrNo_30 rfl (lv_at hl 0 rfl) ?_
    refine bw_ifeqP (tgt := 38) hx hb dX5_takeYesOrNo_31 (by decide) hr_1 (fun c_z => ?_) (fun c_z => ?_)
    · skip
      refine lv_iconst (v := 0) hx hb dX5_takeYesOrNo_38 (by decide) ?_
      refine bw_iast hx hb hK hP hD hS 4 0 rfl rfl (j := 4) rfl (by omega) dX5_takeYesOrNo_39 (fun H locs hP hD hS => ?_)
      have hP : va_P (dC, dI) vwCl [(ad 27, .inr (5, [.ref (ad 28), .int (nI rl), .int fk, .int fp, .ref (ad 1), .int (nI ts), .int (nI te), .int lw, .int (nI pa), .int rt, .int (nI tw), .int (nI tm)])), (ad 1, .inr (8, [.ref (ad 2), .int (nI tn)])), (ad 2, .inl (cy 0, 600, .inl tb)), (ad 28, .inr (4, [.ref (ad 29)])), (ad 29, .inl (cy 0, 18, .inl (upd dt 4 0)))] H := hP
      have hD : va_D A [(ad 27, .inr (5, [.ref (ad 28), .int (nI rl), .int fk, .int fp, .ref (ad 1), .int (nI ts), .int (nI te), .int lw, .int (nI pa), .int rt, .int (nI tw), .int (nI tm)])), (ad 1, .inr (8, [.ref (ad 2), .int (nI tn)])), (ad 2, .inl (cy 0, 600, .inl tb)), (ad 28, .inr (4, [.ref (ad 29)])), (ad 29, .inl (cy 0, 18, .inl (upd dt 4 0)))] := hD
      refine lv_aload_n hx hb dX5_takeYesOrNo_40 rfl (lv_at hl 1 rfl) ?_
      refine lv_dup hx hb dX5_takeYesOrNo_41 rfl ?_
      refine va_get (D := (dC, dI)) (ci := 5) (v := .int (nI pa)) (C := RX5) (T := TX5) (N := 12) hx hb hts hiX5 hown hK hP 0 rfl rfl 8 (by decide) hL2 (fun _ h9 => h9) rfl dX5_takeYesOrNo_42 ?_
      refine lv_iconst (v := 1) hx hb dX5_takeYesOrNo_45 (by decide) ?_
      refine lv_iadd hx hb dX5_takeYesOrNo_46 ?_
      refine bw_re (show (nI pa) + 1 = nI (pa + 1) from nI_add (pa) (1)) ?_
      refine va_put (D := (dC, dI)) (ci := 5) (v := .int (nI (pa + 1))) (ty := (tyX5 8)) (C := RX5) (T := TX5) (N := 12) hx hb hts hiX5 tyX5 tyX5_ok nmX5 hown hK hP hD hS 0 rfl rfl 8 (by decide) hL2 (fun _ h9 => h9) rfl (by decide +kernel) rfl rfl (Nat.le_of_ble_eq_true rfl) dX5_takeYesOrNo_47 (fun H locs hP hD hS => ?_)
      have hP : va_P (dC, dI) vwCl [(ad 27, .inr (5, [.ref (ad 28), .int (nI rl), .int fk, .int fp, .ref (ad 1), .int (nI ts), .int (nI te), .int lw, .int (nI (pa + 1)), .int rt, .int (nI tw), .int (nI tm)])), (ad 1, .inr (8, [.ref (ad 2), .int (nI tn)])), (ad 2, .inl (cy 0, 600, .inl tb)), (ad 28, .inr (4, [.ref (ad 29)])), (ad 29, .inl (cy 0, 18, .inl (upd dt 4 0)))] H := hP
      have hD : va_D A [(ad 27, .inr (5, [.ref (ad 28), .int (nI rl), .int fk, .int fp, .ref (ad 1), .int (nI ts), .int (nI te), .int lw, .int (nI (pa + 1)), .int rt, .int (nI tw), .int (nI tm)])), (ad 1, .inr (8, [.ref (ad 2), .int (nI tn)])), (ad 2, .inl (cy 0, 600, .inl tb)), (ad 28, .inr (4, [.ref (ad 29)])), (ad 29, .inl (cy 0, 18, .inl (upd dt 4 0)))] := hD
      refine lv_iconst (v := 0) hx hb dX5_takeYesOrNo_50 (by decide) ?_
      refine bw_Qe hQ ?_
      have hP9 : va_P (dC, dI) vwCl [(ad 27, .inr (5, [.ref (ad 28), .int (nI rl), .int fk, .int fp, .ref (ad 1), .int (nI ts), .int (nI te), .int lw, .int (nI (pa + 1)), .int rt, .int (nI tw), .int (nI tm)])), (ad 1, .inr (8, [.ref (ad 2), .int (nI tn)])), (ad 2, .inl (cy 0, 600, .inl tb)), (ad 28, .inr (4, [.ref (ad 29)])), (ad 29, .inl (cy 0, 18, .inl (upd dt 4 0)))] H := hP.sub [0, 1, 2, 3, 4] rfl
      have hD9 : va_D A [(ad 27, .inr (5, [.ref (ad 28), .int (nI rl), .int fk, .int fp, .ref (ad 1), .int (nI ts), .int (nI te), .int lw, .int (nI (pa + 1)), .int rt, .int (nI tw), .int (nI tm)])), (ad 1, .inr (8, [.ref (ad 2), .int (nI tn)])), (ad 2, .inl (cy 0, 600, .inl tb)), (ad 28, .inr (4, [.ref (ad 29)])), (ad 29, .inl (cy 0, 18, .inl (upd dt 4 0)))] := hD.sub [0, 1, 2, 3, 4] (by decide) rfl
      have hpost : tkP tb tn ts lw.toInt pa th tw tm rl d (0 : Int32).toInt te lw.toInt (pa + 1) th tw tm rl (upd d 4 0) ∧ rI lw.toInt (pa + 1) tw tm ∧ (lw.toInt = 7 → 1 ≤ (pa + 1) → rt = nI th ∧ th < 8) ∧ agr (upd dt 4 0) (upd d 4 0) ∧ rgs (upd dt 4 0) := by
        refine ⟨Or.inl ⟨rfl, ?_⟩, ⟨by omega, by omega, by omega, hI4, hI5⟩, fun q => absurd q (by omega), agr_upd hag 4 _, rgs_upd hrg (by decide) (fun q => absurd q (by decide)) (fun q => absurd q (by decide)) (fun q => absurd q (by decide))⟩
        rw [stp_Y (by omega) hlw hpp h4]
        unfold stY
        rw [hte]
        first
          | exact cif_t c_z
          | exact absurd c_y c_z
          | (rw [cif_f c_z]; exact cif_t c_n)
      exact W.iret (v := 0) hx hb hr (fun t9 ht hW => ⟨⟨0, (rl, lw, pa + 1, rt, tw, tm, upd dt 4 0, th, upd d 4 0), rfl, hpost, by rw [ht]; exact hP9, va_K.moved hW.alike hK, hD9⟩, hS.F ht⟩) hS.2.2 dX5_takeYesOrNo_51
    · skip
      refine lv_iconst (v := 1) hx hb dX5_takeYesOrNo_34 (by decide) ?_
      refine lv_goto (tgt := 39) hx hb dX5_takeYesOrNo_35 (by decide) ?_
      refine bw_iast hx hb hK hP hD hS 4 0 rfl rfl (j := 4) rfl (by omega) dX5_takeYesOrNo_39 (fun H locs hP hD hS => ?_)
      have hP : va_P (dC, dI) vwCl [(ad 27, .inr (5, [.ref (ad 28), .int (nI rl), .int fk, .int fp, .ref (ad 1), .int (nI ts), .int (nI te), .int lw, .int (nI pa), .int rt, .int (nI tw), .int (nI tm)])), (ad 1, .inr (8, [.ref (ad 2), .int (nI tn)])), (ad 2, .inl (cy 0, 600, .inl tb)), (ad 28, .inr (4, [.ref (ad 29)])), (ad 29, .inl (cy 0, 18, .inl (upd dt 4 1)))] H := hP
      have hD : va_D A [(ad 27, .inr (5, [.ref (ad 28), .int (nI rl), .int fk, .int fp, .ref (ad 1), .int (nI ts), .int (nI te), .int lw, .int (nI pa), .int rt, .int (nI tw), .int (nI tm)])), (ad 1, .inr (8, [.ref (ad 2), .int (nI tn)])), (ad 2, .inl (cy 0, 600, .inl tb)), (ad 28, .inr (4, [.ref (ad 29)])), (ad 29, .inl (cy 0, 18, .inl (upd dt 4 1)))] := hD
      refine lv_aload_n hx hb dX5_takeYesOrNo_40 rfl (lv_at hl 1 rfl) ?_
      refine lv_dup hx hb dX5_takeYesOrNo_41 rfl ?_
      refine va_get (D := (dC, dI)) (ci := 5) (v := .int (nI pa)) (C := RX5) (T := TX5) (N := 12) hx hb hts hiX5 hown hK hP 0 rfl rfl 8 (by decide) hL2 (fun _ h9 => h9) rfl dX5_takeYesOrNo_42 ?_
      refine lv_iconst (v := 1) hx hb dX5_takeYesOrNo_45 (by decide) ?_
      refine lv_iadd hx hb dX5_takeYesOrNo_46 ?_
      refine bw_re (show (nI pa) + 1 = nI (pa + 1) from nI_add (pa) (1)) ?_
      refine va_put (D := (dC, dI)) (ci := 5) (v := .int (nI (pa + 1))) (ty := (tyX5 8)) (C := RX5) (T := TX5) (N := 12) hx hb hts hiX5 tyX5 tyX5_ok nmX5 hown hK hP hD hS 0 rfl rfl 8 (by decide) hL2 (fun _ h9 => h9) rfl (by decide +kernel) rfl rfl (Nat.le_of_ble_eq_true rfl) dX5_takeYesOrNo_47 (fun H locs hP hD hS => ?_)
      have hP : va_P (dC, dI) vwCl [(ad 27, .inr (5, [.ref (ad 28), .int (nI rl), .int fk, .int fp, .ref (ad 1), .int (nI ts), .int (nI te), .int lw, .int (nI (pa + 1)), .int rt, .int (nI tw), .int (nI tm)])), (ad 1, .inr (8, [.ref (ad 2), .int (nI tn)])), (ad 2, .inl (cy 0, 600, .inl tb)), (ad 28, .inr (4, [.ref (ad 29)])), (ad 29, .inl (cy 0, 18, .inl (upd dt 4 1)))] H := hP
      have hD : va_D A [(ad 27, .inr (5, [.ref (ad 28), .int (nI rl), .int fk, .int fp, .ref (ad 1), .int (nI ts), .int (nI te), .int lw, .int (nI (pa + 1)), .int rt, .int (nI tw), .int (nI tm)])), (ad 1, .inr (8, [.ref (ad 2), .int (nI tn)])), (ad 2, .inl (cy 0, 600, .inl tb)), (ad 28, .inr (4, [.ref (ad 29)])), (ad 29, .inl (cy 0, 18, .inl (upd dt 4 1)))] := hD
      refine lv_iconst (v := 0) hx hb dX5_takeYesOrNo_50 (by decide) ?_
      refine bw_Qe hQ ?_
      have hP9 : va_P (dC, dI) vwCl [(ad 27, .inr (5, [.ref (ad 28), .int (nI rl), .int fk, .int fp, .ref (ad 1), .int (nI ts), .int (nI te), .int lw, .int (nI (pa + 1)), .int rt, .int (nI tw), .int (nI tm)])), (ad 1, .inr (8, [.ref (ad 2), .int (nI tn)])), (ad 2, .inl (cy 0, 600, .inl tb)), (ad 28, .inr (4, [.ref (ad 29)])), (ad 29, .inl (cy 0, 18, .inl (upd dt 4 1)))] H := hP.sub [0, 1, 2, 3, 4] rfl
      have hD9 : va_D A [(ad 27, .inr (5, [.ref (ad 28), .int (nI rl), .int fk, .int fp, .ref (ad 1), .int (nI ts), .int (nI te), .int lw, .int (nI (pa + 1)), .int rt, .int (nI tw), .int (nI tm)])), (ad 1, .inr (8, [.ref (ad 2), .int (nI tn)])), (ad 2, .inl (cy 0, 600, .inl tb)), (ad 28, .inr (4, [.ref (ad 29)])), (ad 29, .inl (cy 0, 18, .inl (upd dt 4 1)))] := hD.sub [0, 1, 2, 3, 4] (by decide) rfl
      have hpost : tkP tb tn ts lw.toInt pa th tw tm rl d (0 : Int32).toInt te lw.toInt (pa + 1) th tw tm rl (upd d 4 1) ∧ rI lw.toInt (pa + 1) tw tm ∧ (lw.toInt = 7 → 1 ≤ (pa + 1) → rt = nI th ∧ th < 8) ∧ agr (upd dt 4 1) (upd d 4 1) ∧ rgs (upd dt 4 1) := by
        refine ⟨Or.inl ⟨rfl, ?_⟩, ⟨by omega, by omega, by omega, hI4, hI5⟩, fun q => absurd q (by omega), agr_upd hag 4 _, rgs_upd hrg (by decide) (fun q => absurd q (by decide)) (fun q => absurd q (by decide)) (fun q => absurd q (by decide))⟩
        rw [stp_Y (by omega) hlw hpp h4]
        unfold stY
        rw [hte]
        first
          | exact cif_t c_z
          | exact absurd c_y c_z
          | (rw [cif_f c_z]; exact cif_t c_n)
      exact W.iret (v := 0) hx hb hr (fun t9 ht hW => ⟨⟨0, (rl, lw, pa + 1, rt, tw, tm, upd dt 4 1, th, upd d 4 1), rfl, hpost, by rw [ht]; exact hP9, va_K.moved hW.alike hK, hD9⟩, hS.F ht⟩) hS.2.2 dX5_takeYesOrNo_51
  · skip
    refine lv_aload_n hx hb dX5_takeYesOrNo_11 rfl (lv_at hl 1 rfl) ?_
    refine va_ldcS hx hb hown (show vk_R RX5 107 "no" (sa 9) ss from (hE.1 9 (by decide)).1) dX5_takeYesOrNo_12 ?_
    have hPc : va_P (dC, dI) vwCl [(ad 27, .inr (5, [.ref (ad 28), .int (nI rl), .int fk, .int fp, .ref (ad 1), .int (nI ts), .int (nI te), .int lw, .int (nI pa), .int rt, .int (nI tw), .int (nI tm)])), (ad 1, .inr (8, [.ref (ad 2), .int (nI tn)])), (ad 2, .inl (cy 0, 600, .inl tb))] H := hP.sub [0, 1, 2] rfl
    refine vp_callSi (va_Run.run (va_runV (As := [.ref (sa 9)]) (rest := []) ⟨hx, hb, hml, hown, hts⟩ (c_X5_tokenIs l dC dI cy sa sv fv ad rl fk fp ts te lw pa rt tw tm tn tb 9 (by first | assumption | omega) (by first | assumption | omega) (by first | assumption | omega) (by first | assumption | omega)) (cwV 1 hts gX5_takeYesOrNo_X5_tokenIs rfl rfl rfl (by decide +kernel) ⟨Nat.le_of_ble_eq_true rfl, Nat.le_of_ble_eq_true rfl⟩) ⟨fun a U g mk q => by obtain ⟨q0, qP, qK, qE⟩ := q; exact ⟨q0, qP, va_K.moved (u := U) (U := U.calling g mk a) (Vm.Alike.refl U.vm) qK, sW.call qE g mk a⟩, va_recv hK hPc (ci := 5) (q0 := 0) rfl rfl, fun U hU hW => ⟨rfl, by rw [hU]; exact hPc, va_K.moved hW.alike hK, ((hE.kept hS.2.1).go hW hU).narrow (fun _ h => h.elim)⟩⟩ rfl rfl hl.1 rfl (lv_room (Nat.le_of_ble_eq_true rfl)) dX5_takeYesOrNo_14 ⟨Nat.le_of_ble_eq_true rfl, Nat.le_of_ble_eq_true rfl⟩)) (fun r_2 hr_2 => ?_)
    refine bw_ifneP (tgt := 22) hx hb dX5_takeYesOrNo_17 (by decide) hr_2 (fun c_n => ?_) (fun c_n => ?_)
    · skip
      refine lv_aload_n hx hb dX5_takeYesOrNo_22 rfl (lv_at hl 1 rfl) ?_
      refine va_get (D := (dC, dI)) (ci := 5) (v := .ref (ad 28)) (C := RX5) (T := TX5) (N := 12) hx hb hts hiX5 hown hK hP 0 rfl rfl 0 (by decide) hL0 (fun _ h9 => h9) rfl dX5_takeYesOrNo_23 ?_
      refine va_get (D := (dC, dI)) (ci := 4) (v := .ref (ad 29)) (C := RX4) (T := TX4) (N := 1) hx hb hts hiX4 hown hK hP 3 rfl rfl 0 (by decide) hL1 (fun _ h9 => h9) rfl dX5_takeYesOrNo_26 ?_
      refine lv_iconst (v := 4) hx hb dX5_takeYesOrNo_29 (by decide) ?_
      refine lv_iload_n hx hb dX5_takeYesOrNo_30 rfl (lv_at hl 0 rfl) ?_
      refine bw_ifeqP (tgt := 38) hx hb dX5_takeYesOrNo_31 (by decide) hr_1 (fun c_z => ?_) (fun c_z => ?_)
      · skip
        refine lv_iconst (v := 0) hx hb dX5_takeYesOrNo_38 (by decide) ?_
        refine bw_iast hx hb hK hP hD hS 4 0 rfl rfl (j := 4) rfl (by omega) dX5_takeYesOrNo_39 (fun H locs hP hD hS => ?_)
        have hP : va_P (dC, dI) vwCl [(ad 27, .inr (5, [.ref (ad 28), .int (nI rl), .int fk, .int fp, .ref (ad 1), .int (nI ts), .int (nI te), .int lw, .int (nI pa), .int rt, .int (nI tw), .int (nI tm)])), (ad 1, .inr (8, [.ref (ad 2), .int (nI tn)])), (ad 2, .inl (cy 0, 600, .inl tb)), (ad 28, .inr (4, [.ref (ad 29)])), (ad 29, .inl (cy 0, 18, .inl (upd dt 4 0)))] H := hP
        have hD : va_D A [(ad 27, .inr (5, [.ref (ad 28), .int (nI rl), .int fk, .int fp, .ref (ad 1), .int (nI ts), .int (nI te), .int lw, .int (nI pa), .int rt, .int (nI tw), .int (nI tm)])), (ad 1, .inr (8, [.ref (ad 2), .int (nI tn)])), (ad 2, .inl (cy 0, 600, .inl tb)), (ad 28, .inr (4, [.ref (ad 29)])), (ad 29, .inl (cy 0, 18, .inl (upd dt 4 0)))] := hD
        refine lv_aload_n hx hb dX5_takeYesOrNo_40 rfl (lv_at hl 1 rfl) ?_
        refine lv_dup hx hb dX5_takeYesOrNo_41 rfl ?_
        refine va_get (D := (dC, dI)) (ci := 5) (v := .int (nI pa)) (C := RX5) (T := TX5) (N := 12) hx hb hts hiX5 hown hK hP 0 rfl rfl 8 (by decide) hL2 (fun _ h9 => h9) rfl dX5_takeYesOrNo_42 ?_
        refine lv_iconst (v := 1) hx hb dX5_takeYesOrNo_45 (by decide) ?_
        refine lv_iadd hx hb dX5_takeYesOrNo_46 ?_
        refine bw_re (show (nI pa) + 1 = nI (pa + 1) from nI_add (pa) (1)) ?_
        refine va_put (D := (dC, dI)) (ci := 5) (v := .int (nI (pa + 1))) (ty := (tyX5 8)) (C := RX5) (T := TX5) (N := 12) hx hb hts hiX5 tyX5 tyX5_ok nmX5 hown hK hP hD hS 0 rfl rfl 8 (by decide) hL2 (fun _ h9 => h9) rfl (by decide +kernel) rfl rfl (Nat.le_of_ble_eq_true rfl) dX5_takeYesOrNo_47 (fun H locs hP hD hS => ?_)
        have hP : va_P (dC, dI) vwCl [(ad 27, .inr (5, [.ref (ad 28), .int (nI rl), .int fk, .int fp, .ref (ad 1), .int (nI ts), .int (nI te), .int lw, .int (nI (pa + 1)), .int rt, .int (nI tw), .int (nI tm)])), (ad 1, .inr (8, [.ref (ad 2), .int (nI tn)])), (ad 2, .inl (cy 0, 600, .inl tb)), (ad 28, .inr (4, [.ref (ad 29)])), (ad 29, .inl (cy 0, 18, .inl (upd dt 4 0)))] H := hP
        have hD : va_D A [(ad 27, .inr (5, [.ref (ad 28), .int (nI rl), .int fk, .int fp, .ref (ad 1), .int (nI ts), .int (nI te), .int lw, .int (nI (pa + 1)), .int rt, .int (nI tw), .int (nI tm)])), (ad 1, .inr (8, [.ref (ad 2), .int (nI tn)])), (ad 2, .inl (cy 0, 600, .inl tb)), (ad 28, .inr (4, [.ref (ad 29)])), (ad 29, .inl (cy 0, 18, .inl (upd dt 4 0)))] := hD
        refine lv_iconst (v := 0) hx hb dX5_takeYesOrNo_50 (by decide) ?_
        refine bw_Qe hQ ?_
        have hP9 : va_P (dC, dI) vwCl [(ad 27, .inr (5, [.ref (ad 28), .int (nI rl), .int fk, .int fp, .ref (ad 1), .int (nI ts), .int (nI te), .int lw, .int (nI (pa + 1)), .int rt, .int (nI tw), .int (nI tm)])), (ad 1, .inr (8, [.ref (ad 2), .int (nI tn)])), (ad 2, .inl (cy 0, 600, .inl tb)), (ad 28, .inr (4, [.ref (ad 29)])), (ad 29, .inl (cy 0, 18, .inl (upd dt 4 0)))] H := hP.sub [0, 1, 2, 3, 4] rfl
        have hD9 : va_D A [(ad 27, .inr (5, [.ref (ad 28), .int (nI rl), .int fk, .int fp, .ref (ad 1), .int (nI ts), .int (nI te), .int lw, .int (nI (pa + 1)), .int rt, .int (nI tw), .int (nI tm)])), (ad 1, .inr (8, [.ref (ad 2), .int (nI tn)])), (ad 2, .inl (cy 0, 600, .inl tb)), (ad 28, .inr (4, [.ref (ad 29)])), (ad 29, .inl (cy 0, 18, .inl (upd dt 4 0)))] := hD.sub [0, 1, 2, 3, 4] (by decide) rfl
        have hpost : tkP tb tn ts lw.toInt pa th tw tm rl d (0 : Int32).toInt te lw.toInt (pa + 1) th tw tm rl (upd d 4 0) ∧ rI lw.toInt (pa + 1) tw tm ∧ (lw.toInt = 7 → 1 ≤ (pa + 1) → rt = nI th ∧ th < 8) ∧ agr (upd dt 4 0) (upd d 4 0) ∧ rgs (upd dt 4 0) := by
          refine ⟨Or.inl ⟨rfl, ?_⟩, ⟨by omega, by omega, by omega, hI4, hI5⟩, fun q => absurd q (by omega), agr_upd hag 4 _, rgs_upd hrg (by decide) (fun q => absurd q (by decide)) (fun q => absurd q (by decide)) (fun q => absurd q (by decide))⟩
          rw [stp_Y (by omega) hlw hpp h4]
          unfold stY
          rw [hte]
          first
            | exact cif_t c_z
            | exact absurd c_y c_z
            | (rw [cif_f c_z]; exact cif_t c_n)
        exact W.iret (v := 0) hx hb hr (fun t9 ht hW => ⟨⟨0, (rl, lw, pa + 1, rt, tw, tm, upd dt 4 0, th, upd d 4 0), rfl, hpost, by rw [ht]; exact hP9, va_K.moved hW.alike hK, hD9⟩, hS.F ht⟩) hS.2.2 dX5_takeYesOrNo_51
      · skip
        refine lv_iconst (v := 1) hx hb dX5_takeYesOrNo_34 (by decide) ?_
        refine lv_goto (tgt := 39) hx hb dX5_takeYesOrNo_35 (by decide) ?_
        refine bw_iast hx hb hK hP hD hS 4 0 rfl rfl (j := 4) rfl (by omega) dX5_takeYesOrNo_39 (fun H locs hP hD hS => ?_)
        have hP : va_P (dC, dI) vwCl [(ad 27, .inr (5, [.ref (ad 28), .int (nI rl), .int fk, .int fp, .ref (ad 1), .int (nI ts), .int (nI te), .int lw, .int (nI pa), .int rt, .int (nI tw), .int (nI tm)])), (ad 1, .inr (8, [.ref (ad 2), .int (nI tn)])), (ad 2, .inl (cy 0, 600, .inl tb)), (ad 28, .inr (4, [.ref (ad 29)])), (ad 29, .inl (cy 0, 18, .inl (upd dt 4 1)))] H := hP
        have hD : va_D A [(ad 27, .inr (5, [.ref (ad 28), .int (nI rl), .int fk, .int fp, .ref (ad 1), .int (nI ts), .int (nI te), .int lw, .int (nI pa), .int rt, .int (nI tw), .int (nI tm)])), (ad 1, .inr (8, [.ref (ad 2), .int (nI tn)])), (ad 2, .inl (cy 0, 600, .inl tb)), (ad 28, .inr (4, [.ref (ad 29)])), (ad 29, .inl (cy 0, 18, .inl (upd dt 4 1)))] := hD
        refine lv_aload_n hx hb dX5_takeYesOrNo_40 rfl (lv_at hl 1 rfl) ?_
        refine lv_dup hx hb dX5_takeYesOrNo_41 rfl ?_
        refine va_get (D := (dC, dI)) (ci := 5) (v := .int (nI pa)) (C := RX5) (T := TX5) (N := 12) hx hb hts hiX5 hown hK hP 0 rfl rfl 8 (by decide) hL2 (fun _ h9 => h9) rfl dX5_takeYesOrNo_42 ?_
        refine lv_iconst (v := 1) hx hb dX5_takeYesOrNo_45 (by decide) ?_
        refine lv_iadd hx hb dX5_takeYesOrNo_46 ?_
        refine bw_re (show (nI pa) + 1 = nI (pa + 1) from nI_add (pa) (1)) ?_
        refine va_put (D := (dC, dI)) (ci := 5) (v := .int (nI (pa + 1))) (ty := (tyX5 8)) (C := RX5) (T := TX5) (N := 12) hx hb hts hiX5 tyX5 tyX5_ok nmX5 hown hK hP hD hS 0 rfl rfl 8 (by decide) hL2 (fun _ h9 => h9) rfl (by decide +kernel) rfl rfl (Nat.le_of_ble_eq_true rfl) dX5_takeYesOrNo_47 (fun H locs hP hD hS => ?_)
        have hP : va_P (dC, dI) vwCl [(ad 27, .inr (5, [.ref (ad 28), .int (nI rl), .int fk, .int fp, .ref (ad 1), .int (nI ts), .int (nI te), .int lw, .int (nI (pa + 1)), .int rt, .int (nI tw), .int (nI tm)])), (ad 1, .inr (8, [.ref (ad 2), .int (nI tn)])), (ad 2, .inl (cy 0, 600, .inl tb)), (ad 28, .inr (4, [.ref (ad 29)])), (ad 29, .inl (cy 0, 18, .inl (upd dt 4 1)))] H := hP
        have hD : va_D A [(ad 27, .inr (5, [.ref (ad 28), .int (nI rl), .int fk, .int fp, .ref (ad 1), .int (nI ts), .int (nI te), .int lw, .int (nI (pa + 1)), .int rt, .int (nI tw), .int (nI tm)])), (ad 1, .inr (8, [.ref (ad 2), .int (nI tn)])), (ad 2, .inl (cy 0, 600, .inl tb)), (ad 28, .inr (4, [.ref (ad 29)])), (ad 29, .inl (cy 0, 18, .inl (upd dt 4 1)))] := hD
        refine lv_iconst (v := 0) hx hb dX5_takeYesOrNo_50 (by decide) ?_
        refine bw_Qe hQ ?_
        have hP9 : va_P (dC, dI) vwCl [(ad 27, .inr (5, [.ref (ad 28), .int (nI rl), .int fk, .int fp, .ref (ad 1), .int (nI ts), .int (nI te), .int lw, .int (nI (pa + 1)), .int rt, .int (nI tw), .int (nI tm)])), (ad 1, .inr (8, [.ref (ad 2), .int (nI tn)])), (ad 2, .inl (cy 0, 600, .inl tb)), (ad 28, .inr (4, [.ref (ad 29)])), (ad 29, .inl (cy 0, 18, .inl (upd dt 4 1)))] H := hP.sub [0, 1, 2, 3, 4] rfl
        have hD9 : va_D A [(ad 27, .inr (5, [.ref (ad 28), .int (nI rl), .int fk, .int fp, .ref (ad 1), .int (nI ts), .int (nI te), .int lw, .int (nI (pa + 1)), .int rt, .int (nI tw), .int (nI tm)])), (ad 1, .inr (8, [.ref (ad 2), .int (nI tn)])), (ad 2, .inl (cy 0, 600, .inl tb)), (ad 28, .inr (4, [.ref (ad 29)])), (ad 29, .inl (cy 0, 18, .inl (upd dt 4 1)))] := hD.sub [0, 1, 2, 3, 4] (by decide) rfl
        have hpost : tkP tb tn ts lw.toInt pa th tw tm rl d (0 : Int32).toInt te lw.toInt (pa + 1) th tw tm rl (upd d 4 1) ∧ rI lw.toInt (pa + 1) tw tm ∧ (lw.toInt = 7 → 1 ≤ (pa + 1) → rt = nI th ∧ th < 8) ∧ agr (upd dt 4 1) (upd d 4 1) ∧ rgs (upd dt 4 1) := by
          refine ⟨Or.inl ⟨rfl, ?_⟩, ⟨by omega, by omega, by omega, hI4, hI5⟩, fun q => absurd q (by omega), agr_upd hag 4 _, rgs_upd hrg (by decide) (fun q => absurd q (by decide)) (fun q => absurd q (by decide)) (fun q => absurd q (by decide))⟩
          rw [stp_Y (by omega) hlw hpp h4]
          unfold stY
          rw [hte]
          first
            | exact cif_t c_z
            | exact absurd c_y c_z
            | (rw [cif_f c_z]; exact cif_t c_n)
        exact W.iret (v := 0) hx hb hr (fun t9 ht hW => ⟨⟨0, (rl, lw, pa + 1, rt, tw, tm, upd dt 4 1, th, upd d 4 1), rfl, hpost, by rw [ht]; exact hP9, va_K.moved hW.alike hK, hD9⟩, hS.F ht⟩) hS.2.2 dX5_takeYesOrNo_51
    · skip
      refine lv_iconst (v := 1) hx hb dX5_takeYesOrNo_20 (by decide) ?_
      refine bw_Qe hQ ?_
      have hP9 : va_P (dC, dI) vwCl [(ad 27, .inr (5, [.ref (ad 28), .int (nI rl), .int fk, .int fp, .ref (ad 1), .int (nI ts), .int (nI te), .int lw, .int (nI pa), .int rt, .int (nI tw), .int (nI tm)])), (ad 1, .inr (8, [.ref (ad 2), .int (nI tn)])), (ad 2, .inl (cy 0, 600, .inl tb)), (ad 28, .inr (4, [.ref (ad 29)])), (ad 29, .inl (cy 0, 18, .inl dt))] H := hP.sub [0, 1, 2, 3, 4] rfl
      have hD9 : va_D A [(ad 27, .inr (5, [.ref (ad 28), .int (nI rl), .int fk, .int fp, .ref (ad 1), .int (nI ts), .int (nI te), .int lw, .int (nI pa), .int rt, .int (nI tw), .int (nI tm)])), (ad 1, .inr (8, [.ref (ad 2), .int (nI tn)])), (ad 2, .inl (cy 0, 600, .inl tb)), (ad 28, .inr (4, [.ref (ad 29)])), (ad 29, .inl (cy 0, 18, .inl dt))] := hD.sub [0, 1, 2, 3, 4] (by decide) rfl
      have hpost : tkP tb tn ts lw.toInt pa th tw tm rl d (1 : Int32).toInt te lw.toInt pa th tw tm rl d ∧ rI lw.toInt pa tw tm ∧ (lw.toInt = 7 → 1 ≤ pa → rt = nI th ∧ th < 8) ∧ agr dt d ∧ rgs dt := by
        refine ⟨Or.inr ⟨by decide, ?_⟩, hI, hth, hag, hrg⟩
        rw [stp_Y (by omega) hlw hpp h4]
        unfold stY
        rw [hte]
        rw [cif_f c_y]
        exact cif_f c_n
      exact W.iret (v := 1) hx hb hr (fun t9 ht hW => ⟨⟨1, (rl, lw, pa, rt, tw, tm, dt, th, d), rfl, hpost, by rw [ht]; exact hP9, va_K.moved hW.alike hK, hD9⟩, hS.F ht⟩) hS.2.2 dX5_takeYesOrNo_21

set_option maxHeartbeats 4000000 in
set_option maxRecDepth 100000 in
theorem c_X5_takeNumber (l : Launch) (dC : Nat → ClassId) (dI : Nat → Nat → Nat) (cy : Nat → ClassId) (sa sv : Nat → Nat) (fv : Value) (ad : Nat → Nat) (rl : Nat) (fk : Int32) (fp : Int32) (ts : Nat) (te : Nat) (lw : Int32) (pa : Nat) (rt : Int32) (tw : Nat) (tm : Nat) (tn : Nat) (tb : Nat → Int32) (dt : Nat → Int32) (th : Nat) (d : Nat → Int32) (sz : Nat) (hts1 : ts < te) (hte1 : te ≤ tn) (htn : tn ≤ 600) (htE : tEnd tb tn ts te) (hI : rI lw.toInt pa tw tm) (hth : lw.toInt = 7 → 1 ≤ pa → rt = nI th ∧ th < 8) (hag : agr dt d) (hrg : rgs dt) (hlw : lw.toInt ≠ -1) (hpp : pa < prt lw.toInt) (h4 : lw.toInt ≠ 4) : Met l yX5_takeNumber wsX5_takeNumber ({ frames := 2, cells := 0, slots := 0, locals := 42 }) (va_Pc [.ref (ad 27)] (fun U => U.heap.size = sz ∧ va_P (dC, dI) vwCl [(ad 27, .inr (5, [.ref (ad 28), .int (nI rl), .int fk, .int fp, .ref (ad 1), .int (nI ts), .int (nI te), .int lw, .int (nI pa), .int rt, .int (nI tw), .int (nI tm)])), (ad 1, .inr (8, [.ref (ad 2), .int (nI tn)])), (ad 2, .inl (cy 0, 600, .inl tb)), (ad 28, .inr (4, [.ref (ad 29)])), (ad 29, .inl (cy 0, 18, .inl dt))] U.heap ∧ va_K (dC, dI) vwCl (tyL cy) U ∧ va_D (fun _ => True) [(ad 27, .inr (5, [.ref (ad 28), .int (nI rl), .int fk, .int fp, .ref (ad 1), .int (nI ts), .int (nI te), .int lw, .int (nI pa), .int rt, .int (nI tw), .int (nI tm)])), (ad 1, .inr (8, [.ref (ad 2), .int (nI tn)])), (ad 2, .inl (cy 0, 600, .inl tb)), (ad 28, .inr (4, [.ref (ad 29)])), (ad 29, .inl (cy 0, 18, .inl dt))] ∧ sW sa sv fv (va_A [(ad 27, .inr (5, [.ref (ad 28), .int (nI rl), .int fk, .int fp, .ref (ad 1), .int (nI ts), .int (nI te), .int lw, .int (nI pa), .int rt, .int (nI tw), .int (nI tm)])), (ad 1, .inr (8, [.ref (ad 2), .int (nI tn)])), (ad 2, .inl (cy 0, 600, .inl tb)), (ad 28, .inr (4, [.ref (ad 29)])), (ad 29, .inl (cy 0, 18, .inl dt))] sz) U U.heap ∧ va_Nw (.methodLinkNest RX5 76 yX10_isDigit "HereLived") U)) (va_Qi (S := Nat × Int32 × Nat × Int32 × Nat × Nat × (Nat → Int32) × Nat × (Nat → Int32)) (fun r => fun u => match u with | (rl2, lw2, pa2, rt2, tw2, tm2, dt2, th2, d2) => tkP tb tn ts lw.toInt pa th tw tm rl d r.toInt te lw2.toInt pa2 th2 tw2 tm2 rl2 d2 ∧ rI lw2.toInt pa2 tw2 tm2 ∧ (lw2.toInt = 7 → 1 ≤ pa2 → rt2 = nI th2 ∧ th2 < 8) ∧ agr dt2 d2 ∧ rgs dt2) (fun u => match u with | (rl2, lw2, pa2, rt2, tw2, tm2, dt2, th2, d2) => fun t => va_P (dC, dI) vwCl [(ad 27, .inr (5, [.ref (ad 28), .int (nI rl2), .int fk, .int fp, .ref (ad 1), .int (nI ts), .int (nI te), .int lw2, .int (nI pa2), .int rt2, .int (nI tw2), .int (nI tm2)])), (ad 1, .inr (8, [.ref (ad 2), .int (nI tn)])), (ad 2, .inl (cy 0, 600, .inl tb)), (ad 28, .inr (4, [.ref (ad 29)])), (ad 29, .inl (cy 0, 18, .inl dt2))] t.heap ∧ va_K (dC, dI) vwCl (tyL cy) t ∧ va_D (va_A [(ad 27, .inr (5, [.ref (ad 28), .int (nI rl), .int fk, .int fp, .ref (ad 1), .int (nI ts), .int (nI te), .int lw, .int (nI pa), .int rt, .int (nI tw), .int (nI tm)])), (ad 1, .inr (8, [.ref (ad 2), .int (nI tn)])), (ad 2, .inl (cy 0, 600, .inl tb)), (ad 28, .inr (4, [.ref (ad 29)])), (ad 29, .inl (cy 0, 18, .inl dt))] sz) [(ad 27, .inr (5, [.ref (ad 28), .int (nI rl2), .int fk, .int fp, .ref (ad 1), .int (nI ts), .int (nI te), .int lw2, .int (nI pa2), .int rt2, .int (nI tw2), .int (nI tm2)])), (ad 1, .inr (8, [.ref (ad 2), .int (nI tn)])), (ad 2, .inl (cy 0, 600, .inl tb)), (ad 28, .inr (4, [.ref (ad 29)])), (ad 29, .inl (cy 0, 18, .inl dt2))]) (va_A [(ad 27, .inr (5, [.ref (ad 28), .int (nI rl), .int fk, .int fp, .ref (ad 1), .int (nI ts), .int (nI te), .int lw, .int (nI pa), .int rt, .int (nI tw), .int (nI tm)])), (ad 1, .inr (8, [.ref (ad 2), .int (nI tn)])), (ad 2, .inl (cy 0, 600, .inl tb)), (ad 28, .inr (4, [.ref (ad 29)])), (ad 29, .inl (cy 0, 18, .inl dt))] sz)) 0 0 (va_A [(ad 27, .inr (5, [.ref (ad 28), .int (nI rl), .int fk, .int fp, .ref (ad 1), .int (nI ts), .int (nI te), .int lw, .int (nI pa), .int rt, .int (nI tw), .int (nI tm)])), (ad 1, .inr (8, [.ref (ad 2), .int (nI tn)])), (ad 2, .inl (cy 0, 600, .inl tb)), (ad 28, .inr (4, [.ref (ad 29)])), (ad 29, .inl (cy 0, 18, .inl dt))] sz) := by
  refine Met.ofW (cc := cX5_takeNumber) (maxL := 2) (ret := (some .int)) (by decide) rfl ?_
  intro pp ee ss mm args below meth cc0 s₁ B hml hv
  obtain ⟨rfl, hsz, hP, hK, hD0, hE, hn0⟩ := hv
  have hx := B.exec
  have hb := B.bytes
  have hr := B.returns
  have hts := atoms_spec (ws := wsX5_takeNumber) B.pre
  have hown : ss.vm.findClass RX5 = some mm.cls := findClass_of_methodNamed B.named
  have hlocks := B.notSynchronized
  have hL0 := hts (.fieldLink RX5 35 "HereLived$RuleReader" "lineWord" "I") (by decide +kernel)
  have hL1 := hts (.fieldLink RX5 38 "HereLived$RuleReader" "parts" "I") (by decide +kernel)
  have hL2 := hts (.fieldLink RX5 18 "HereLived$RuleReader" "draft" "LHereLived$RuleBook;") (by decide +kernel)
  have hL3 := hts (.fieldLink RX5 109 "HereLived$RuleBook" "told" "[I") (by decide +kernel)
  have hL4 := hts (.fieldLink RX5 41 "HereLived$RuleReader" "toldThemes" "I") (by decide +kernel)
  have hL5 := hts (.fieldLink RX5 119 "HereLived$RuleReader" "theme" "I") (by decide +kernel)
  have hiX4 : ∀ w ∈ wsX40, w ∈ wsX5_takeNumber := by decide +kernel
  have hiX5 : ∀ w ∈ wsX50, w ∈ wsX5_takeNumber := by decide +kernel
  subst hsz
  have hD := hD0.self (sz := ss.heap.size)
  generalize hAe : va_A [(ad 27, .inr (5, [.ref (ad 28), .int (nI rl), .int fk, .int fp, .ref (ad 1), .int (nI ts), .int (nI te), .int lw, .int (nI pa), .int rt, .int (nI tw), .int (nI tm)])), (ad 1, .inr (8, [.ref (ad 2), .int (nI tn)])), (ad 2, .inl (cy 0, 600, .inl tb)), (ad 28, .inr (4, [.ref (ad 29)])), (ad 29, .inl (cy 0, 18, .inl dt))] ss.heap.size = A at hD hE ⊢
  have hA : ∀ q : Nat, ss.heap.size ≤ q → A q := fun q h => by rw [← hAe]; exact Or.inr h
  have hS : va_S A ss.heap ss.heap [] := va_S.rf
  have hP : va_P (dC, dI) vwCl [(ad 27, .inr (5, [.ref (ad 28), .int (nI rl), .int fk, .int fp, .ref (ad 1), .int (nI ts), .int (nI te), .int lw, .int (nI pa), .int rt, .int (nI tw), .int (nI tm)])), (ad 1, .inr (8, [.ref (ad 2), .int (nI tn)])), (ad 2, .inl (cy 0, 600, .inl tb)), (ad 28, .inr (4, [.ref (ad 29)])), (ad 29, .inl (cy 0, 18, .inl dt))] ss.heap := hP
  have hl := lv_entry ([.ref (ad 27)]) (n := 2) (Nat.le_of_ble_eq_true rfl)
  rw [lg_entry_eq]
  generalize (lg_sl ([.ref (ad 27)]) ++ List.replicate (2 - (lg_sl ([.ref (ad 27)])).length) Slot.unset).toArray = ls at hl ⊢
  have hl : lv_has ls 2 [(0, .ref (ad 27))] := hl
  refine bw_Q (fun Q hQ => ?_)
  refine bw_H0 (fun H locs eH eL => ?_)
  have hS : va_S A ss.heap H locs := by rw [eH, eL]; exact hS
  have hP : va_P (dC, dI) vwCl [(ad 27, .inr (5, [.ref (ad 28), .int (nI rl), .int fk, .int fp, .ref (ad 1), .int (nI ts), .int (nI te), .int lw, .int (nI pa), .int rt, .int (nI tw), .int (nI tm)])), (ad 1, .inr (8, [.ref (ad 2), .int (nI tn)])), (ad 2, .inl (cy 0, 600, .inl tb)), (ad 28, .inr (4, [.ref (ad 29)])), (ad 29, .inl (cy 0, 18, .inl dt))] H := by rw [eH]; exact hP
  change W pp l ee { frames := 2, cells := 0, slots := 0, locals := 42 } ss mm _ below meth cc0 H locs 0 0 Q (F0 mm 0 ls [])
  have hte := tE_eq htE
  obtain ⟨hI1, hI2, hI3, hI4, hI5⟩ := id hI
  have hprt := prt_le lw.toInt
  refine lv_aload_n hx hb dX5_takeNumber_0 rfl (lv_at hl 0 rfl) ?_
  have hPc : va_P (dC, dI) vwCl [(ad 27, .inr (5, [.ref (ad 28), .int (nI rl), .int fk, .int fp, .ref (ad 1), .int (nI ts), .int (nI te), .int lw, .int (nI pa), .int rt, .int (nI tw), .int (nI tm)])), (ad 1, .inr (8, [.ref (ad 2), .int (nI tn)])), (ad 2, .inl (cy 0, 600, .inl tb))] H := hP.sub [0, 1, 2] rfl
  refine vp_callSi (va_Run.run (va_runV (As := []) (rest := []) ⟨hx, hb, hml, hown, hts⟩ (c_X5_tokenNumber l dC dI cy ad rl fk fp ts te lw pa rt tw tm tn tb (by first | assumption | omega) (by first | assumption | omega) (by first | assumption | omega) (fun q k h1 h2 => (htE.2.1 q).2.1 k h1 h2)) (cwV 0 hts gX5_takeNumber_X5_tokenNumber rfl rfl rfl (by decide +kernel) ⟨Nat.le_of_ble_eq_true rfl, Nat.le_of_ble_eq_true rfl⟩) ⟨fun a U g mk q => by obtain ⟨q0, qP, qK, qn0⟩ := q; exact ⟨q0, qP, va_K.moved (u := U) (U := U.calling g mk a) (Vm.Alike.refl U.vm) qK, va_Nw.same (u := U) (U := U.calling g mk a) rfl rfl qn0⟩, va_recv hK hPc (ci := 5) (q0 := 0) rfl rfl, fun U hU hW => ⟨rfl, by rw [hU]; exact hPc, va_K.moved hW.alike hK, va_Nw.warmM hW hn0⟩⟩ rfl rfl hl.1 rfl (lv_room (Nat.le_of_ble_eq_true rfl)) dX5_takeNumber_1 ⟨Nat.le_of_ble_eq_true rfl, Nat.le_of_ble_eq_true rfl⟩)) (fun rv_ hrv_ => ?_)
  have hrg9 := tokN_rng htE (by omega)
  rw [← hrv_] at hrg9
  refine lv_istore_n (lv' := [(1, .int rv_), (0, .ref (ad 27))]) hx hb dX5_takeNumber_4 rfl hl (by decide) rfl (fun ls hl => ?_)
  refine lv_iload_n hx hb dX5_takeNumber_5 rfl (lv_at hl 0 rfl) ?_
  refine lv_iconst (v := (-1)) hx hb dX5_takeNumber_6 (by decide) ?_
  refine bw_icmp_ne (tgt := 12) (a := rv_.toInt) (b := (-1)) hx hb dX5_takeNumber_7 (by decide) rfl rfl (fun c_1 => ?_) (fun c_1 => ?_)
  · skip
    refine lv_iload_n hx hb dX5_takeNumber_12 rfl (lv_at hl 0 rfl) ?_
    refine lv_aload_n hx hb dX5_takeNumber_13 rfl (lv_at hl 1 rfl) ?_
    refine va_get (D := (dC, dI)) (ci := 5) (v := .int lw) (C := RX5) (T := TX5) (N := 12) hx hb hts hiX5 hown hK hP 0 rfl rfl 7 (by decide) hL0 (fun _ h9 => h9) rfl dX5_takeNumber_14 ?_
    refine lv_aload_n hx hb dX5_takeNumber_17 rfl (lv_at hl 1 rfl) ?_
    refine va_get (D := (dC, dI)) (ci := 5) (v := .int (nI pa)) (C := RX5) (T := TX5) (N := 12) hx hb hts hiX5 hown hK hP 0 rfl rfl 8 (by decide) hL1 (fun _ h9 => h9) rfl dX5_takeNumber_18 ?_
    refine vp_callSi (va_Run.run (va_runS (As := [.int lw, .int (nI pa)]) (rest := [.int rv_]) ⟨hx, hb, hml, hown, hts⟩ (c_X5_mostOf l dC dI cy lw pa (by first | assumption | omega)) (va_cwS 2 hts gX5_takeNumber_X5_mostOf rfl rfl rfl (by decide +kernel) ⟨Nat.le_of_ble_eq_true rfl, Nat.le_of_ble_eq_true rfl⟩) ⟨fun a U g mk q => q, fun U hU hW => ⟨rfl, trivial⟩⟩ rfl rfl hl.1 rfl (lv_room (Nat.le_of_ble_eq_true rfl)) dX5_takeNumber_21 ⟨Nat.le_of_ble_eq_true rfl, Nat.le_of_ble_eq_true rfl⟩)) (fun rm_ hrm_ => ?_)
    refine bw_icmp_le (tgt := 29) (a := rv_.toInt) (b := rm_.toInt) hx hb dX5_takeNumber_24 (by decide) rfl rfl (fun c_2 => ?_) (fun c_2 => ?_)
    · skip
      refine lv_aload_n hx hb dX5_takeNumber_29 rfl (lv_at hl 1 rfl) ?_
      refine va_get (D := (dC, dI)) (ci := 5) (v := .int lw) (C := RX5) (T := TX5) (N := 12) hx hb hts hiX5 hown hK hP 0 rfl rfl 7 (by decide) hL0 (fun _ h9 => h9) rfl dX5_takeNumber_30 ?_
      refine lv_bipush (v := 7) hx hb dX5_takeNumber_33 (by decide) ?_
      refine bw_icmp_ne (tgt := 78) (a := lw.toInt) (b := 7) hx hb dX5_takeNumber_35 (by decide) rfl rfl (fun c_3 => ?_) (fun c_3 => ?_)
      · skip
        refine lv_aload_n hx hb dX5_takeNumber_78 rfl (lv_at hl 1 rfl) ?_
        refine va_get (D := (dC, dI)) (ci := 5) (v := .ref (ad 28)) (C := RX5) (T := TX5) (N := 12) hx hb hts hiX5 hown hK hP 0 rfl rfl 0 (by decide) hL2 (fun _ h9 => h9) rfl dX5_takeNumber_79 ?_
        refine va_get (D := (dC, dI)) (ci := 4) (v := .ref (ad 29)) (C := RX4) (T := TX4) (N := 1) hx hb hts hiX4 hown hK hP 3 rfl rfl 0 (by decide) hL3 (fun _ h9 => h9) rfl dX5_takeNumber_82 ?_
        refine lv_aload_n hx hb dX5_takeNumber_85 rfl (lv_at hl 1 rfl) ?_
        refine lv_aload_n hx hb dX5_takeNumber_86 rfl (lv_at hl 1 rfl) ?_
        refine va_get (D := (dC, dI)) (ci := 5) (v := .int lw) (C := RX5) (T := TX5) (N := 12) hx hb hts hiX5 hown hK hP 0 rfl rfl 7 (by decide) hL0 (fun _ h9 => h9) rfl dX5_takeNumber_87 ?_
        refine lv_aload_n hx hb dX5_takeNumber_90 rfl (lv_at hl 1 rfl) ?_
        refine va_get (D := (dC, dI)) (ci := 5) (v := .int (nI pa)) (C := RX5) (T := TX5) (N := 12) hx hb hts hiX5 hown hK hP 0 rfl rfl 8 (by decide) hL1 (fun _ h9 => h9) rfl dX5_takeNumber_91 ?_
        have h70 : lw.toInt = 7 → 1 ≤ pa := fun q => by omega
        have hplc := plc_b (lw := lw.toInt) (pa := pa) (th := th) (by omega) (by omega) (fun q => (hth q (h70 q)).2)
        have hPc : va_P (dC, dI) vwCl [(ad 27, .inr (5, [.ref (ad 28), .int (nI rl), .int fk, .int fp, .ref (ad 1), .int (nI ts), .int (nI te), .int lw, .int (nI pa), .int rt, .int (nI tw), .int (nI tm)]))] H := hP.sub [0] rfl
        refine vp_callSi (va_Run.run (va_runV (As := [.int lw, .int (nI pa)]) (rest := [.ref (ad 29)]) ⟨hx, hb, hml, hown, hts⟩ (c_X5_placeOf l dC dI cy ad rl fk fp ts te lw pa rt tw tm th (by first | assumption | omega) (by first | assumption | omega) (by first | assumption | omega) (by first | assumption | omega)) (cwV 2 hts gX5_takeNumber_X5_placeOf rfl rfl rfl (by decide +kernel) ⟨Nat.le_of_ble_eq_true rfl, Nat.le_of_ble_eq_true rfl⟩) ⟨fun a U g mk q => by obtain ⟨q0, qP, qK⟩ := q; exact ⟨q0, qP, va_K.moved (u := U) (U := U.calling g mk a) (Vm.Alike.refl U.vm) qK⟩, va_recv hK hPc (ci := 5) (q0 := 0) rfl rfl, fun U hU hW => ⟨rfl, by rw [hU]; exact hPc, va_K.moved hW.alike hK⟩⟩ rfl rfl hl.1 rfl (lv_room (Nat.le_of_ble_eq_true rfl)) dX5_takeNumber_94 ⟨Nat.le_of_ble_eq_true rfl, Nat.le_of_ble_eq_true rfl⟩)) (fun r_4 hr_4 => ?_)
        rw [hr_4]
        refine lv_iload_n hx hb dX5_takeNumber_97 rfl (lv_at hl 0 rfl) ?_
        refine bw_iast hx hb hK hP hD hS 4 0 rfl rfl (j := (plc lw.toInt pa th)) (nI_toInt (by omega)) (by omega) dX5_takeNumber_98 (fun H locs hP hD hS => ?_)
        have hP : va_P (dC, dI) vwCl [(ad 27, .inr (5, [.ref (ad 28), .int (nI rl), .int fk, .int fp, .ref (ad 1), .int (nI ts), .int (nI te), .int lw, .int (nI pa), .int rt, .int (nI tw), .int (nI tm)])), (ad 1, .inr (8, [.ref (ad 2), .int (nI tn)])), (ad 2, .inl (cy 0, 600, .inl tb)), (ad 28, .inr (4, [.ref (ad 29)])), (ad 29, .inl (cy 0, 18, .inl (upd dt (plc lw.toInt pa th) rv_)))] H := hP
        have hD : va_D A [(ad 27, .inr (5, [.ref (ad 28), .int (nI rl), .int fk, .int fp, .ref (ad 1), .int (nI ts), .int (nI te), .int lw, .int (nI pa), .int rt, .int (nI tw), .int (nI tm)])), (ad 1, .inr (8, [.ref (ad 2), .int (nI tn)])), (ad 2, .inl (cy 0, 600, .inl tb)), (ad 28, .inr (4, [.ref (ad 29)])), (ad 29, .inl (cy 0, 18, .inl (upd dt (plc lw.toInt pa th) rv_)))] := hD
        refine lv_aload_n hx hb dX5_takeNumber_99 rfl (lv_at hl 1 rfl) ?_
        refine lv_dup hx hb dX5_takeNumber_100 rfl ?_
        refine va_get (D := (dC, dI)) (ci := 5) (v := .int (nI pa)) (C := RX5) (T := TX5) (N := 12) hx hb hts hiX5 hown hK hP 0 rfl rfl 8 (by decide) hL1 (fun _ h9 => h9) rfl dX5_takeNumber_101 ?_
        refine lv_iconst (v := 1) hx hb dX5_takeNumber_104 (by decide) ?_
        refine lv_iadd hx hb dX5_takeNumber_105 ?_
        refine bw_re (show (nI pa) + 1 = nI (pa + 1) from nI_add (pa) (1)) ?_
        refine va_put (D := (dC, dI)) (ci := 5) (v := .int (nI (pa + 1))) (ty := (tyX5 8)) (C := RX5) (T := TX5) (N := 12) hx hb hts hiX5 tyX5 tyX5_ok nmX5 hown hK hP hD hS 0 rfl rfl 8 (by decide) hL1 (fun _ h9 => h9) rfl (by decide +kernel) rfl rfl (Nat.le_of_ble_eq_true rfl) dX5_takeNumber_106 (fun H locs hP hD hS => ?_)
        have hP : va_P (dC, dI) vwCl [(ad 27, .inr (5, [.ref (ad 28), .int (nI rl), .int fk, .int fp, .ref (ad 1), .int (nI ts), .int (nI te), .int lw, .int (nI (pa + 1)), .int rt, .int (nI tw), .int (nI tm)])), (ad 1, .inr (8, [.ref (ad 2), .int (nI tn)])), (ad 2, .inl (cy 0, 600, .inl tb)), (ad 28, .inr (4, [.ref (ad 29)])), (ad 29, .inl (cy 0, 18, .inl (upd dt (plc lw.toInt pa th) rv_)))] H := hP
        have hD : va_D A [(ad 27, .inr (5, [.ref (ad 28), .int (nI rl), .int fk, .int fp, .ref (ad 1), .int (nI ts), .int (nI te), .int lw, .int (nI (pa + 1)), .int rt, .int (nI tw), .int (nI tm)])), (ad 1, .inr (8, [.ref (ad 2), .int (nI tn)])), (ad 2, .inl (cy 0, 600, .inl tb)), (ad 28, .inr (4, [.ref (ad 29)])), (ad 29, .inl (cy 0, 18, .inl (upd dt (plc lw.toInt pa th) rv_)))] := hD
        refine lv_iconst (v := 0) hx hb dX5_takeNumber_109 (by decide) ?_
        refine bw_Qe hQ ?_
        have hP9 : va_P (dC, dI) vwCl [(ad 27, .inr (5, [.ref (ad 28), .int (nI rl), .int fk, .int fp, .ref (ad 1), .int (nI ts), .int (nI te), .int lw, .int (nI (pa + 1)), .int rt, .int (nI tw), .int (nI tm)])), (ad 1, .inr (8, [.ref (ad 2), .int (nI tn)])), (ad 2, .inl (cy 0, 600, .inl tb)), (ad 28, .inr (4, [.ref (ad 29)])), (ad 29, .inl (cy 0, 18, .inl (upd dt (plc lw.toInt pa th) rv_)))] H := hP.sub [0, 1, 2, 3, 4] rfl
        have hD9 : va_D A [(ad 27, .inr (5, [.ref (ad 28), .int (nI rl), .int fk, .int fp, .ref (ad 1), .int (nI ts), .int (nI te), .int lw, .int (nI (pa + 1)), .int rt, .int (nI tw), .int (nI tm)])), (ad 1, .inr (8, [.ref (ad 2), .int (nI tn)])), (ad 2, .inl (cy 0, 600, .inl tb)), (ad 28, .inr (4, [.ref (ad 29)])), (ad 29, .inl (cy 0, 18, .inl (upd dt (plc lw.toInt pa th) rv_)))] := hD.sub [0, 1, 2, 3, 4] (by decide) rfl
        have hpost : tkP tb tn ts lw.toInt pa th tw tm rl d (0 : Int32).toInt te lw.toInt (pa + 1) th tw tm rl (upd d (plc lw.toInt pa th) (nI rv_.toInt.toNat)) ∧ rI lw.toInt (pa + 1) tw tm ∧ (lw.toInt = 7 → 1 ≤ (pa + 1) → rt = nI th ∧ th < 8) ∧ agr (upd dt (plc lw.toInt pa th) rv_) (upd d (plc lw.toInt pa th) (nI rv_.toInt.toNat)) ∧ rgs (upd dt (plc lw.toInt pa th) rv_) := by
          have eV : rv_ = nI rv_.toInt.toNat := nI_back (by omega)
          have hp5 := plc_5 (lw := lw.toInt) (pa := pa) (th := th) (by omega) (by omega) h4
          refine ⟨Or.inl ⟨rfl, ?_⟩, ⟨by omega, by omega, by omega, hI4, hI5⟩, fun q _ => hth q (h70 q), by rw [← eV]; exact agr_upd hag _ _, rgs_upd hrg (by omega) (fun q => by have := hp5.1 q; omega) (fun q => by have := hp5.2.1 q; omega) (fun q => by have := hp5.2.2 q; omega)⟩
          rw [stp_N (by omega) hlw hpp h4]
          unfold stN
          rw [hte, ← hrv_]
          rw [cif_f (by omega), cif_f (by omega), cif_f (fun q => by omega)]
        exact W.iret (v := 0) hx hb hr (fun t9 ht hW => ⟨⟨0, (rl, lw, pa + 1, rt, tw, tm, upd dt (plc lw.toInt pa th) rv_, th, upd d (plc lw.toInt pa th) (nI rv_.toInt.toNat)), rfl, hpost, by rw [ht]; exact hP9, va_K.moved hW.alike hK, hD9⟩, hS.F ht⟩) hS.2.2 dX5_takeNumber_110
      · skip
        refine lv_aload_n hx hb dX5_takeNumber_38 rfl (lv_at hl 1 rfl) ?_
        refine va_get (D := (dC, dI)) (ci := 5) (v := .int (nI pa)) (C := RX5) (T := TX5) (N := 12) hx hb hts hiX5 hown hK hP 0 rfl rfl 8 (by decide) hL1 (fun _ h9 => h9) rfl dX5_takeNumber_39 ?_
        refine bw_if_ne (tgt := 78) (a := ((pa : Nat) : Int)) hx hb dX5_takeNumber_42 (by decide) (nI_toInt (by omega)) (fun c_5 => ?_) (fun c_5 => ?_)
        · skip
          refine lv_aload_n hx hb dX5_takeNumber_78 rfl (lv_at hl 1 rfl) ?_
          refine va_get (D := (dC, dI)) (ci := 5) (v := .ref (ad 28)) (C := RX5) (T := TX5) (N := 12) hx hb hts hiX5 hown hK hP 0 rfl rfl 0 (by decide) hL2 (fun _ h9 => h9) rfl dX5_takeNumber_79 ?_
          refine va_get (D := (dC, dI)) (ci := 4) (v := .ref (ad 29)) (C := RX4) (T := TX4) (N := 1) hx hb hts hiX4 hown hK hP 3 rfl rfl 0 (by decide) hL3 (fun _ h9 => h9) rfl dX5_takeNumber_82 ?_
          refine lv_aload_n hx hb dX5_takeNumber_85 rfl (lv_at hl 1 rfl) ?_
          refine lv_aload_n hx hb dX5_takeNumber_86 rfl (lv_at hl 1 rfl) ?_
          refine va_get (D := (dC, dI)) (ci := 5) (v := .int lw) (C := RX5) (T := TX5) (N := 12) hx hb hts hiX5 hown hK hP 0 rfl rfl 7 (by decide) hL0 (fun _ h9 => h9) rfl dX5_takeNumber_87 ?_
          refine lv_aload_n hx hb dX5_takeNumber_90 rfl (lv_at hl 1 rfl) ?_
          refine va_get (D := (dC, dI)) (ci := 5) (v := .int (nI pa)) (C := RX5) (T := TX5) (N := 12) hx hb hts hiX5 hown hK hP 0 rfl rfl 8 (by decide) hL1 (fun _ h9 => h9) rfl dX5_takeNumber_91 ?_
          have h70 : lw.toInt = 7 → 1 ≤ pa := fun q => by omega
          have hplc := plc_b (lw := lw.toInt) (pa := pa) (th := th) (by omega) (by omega) (fun q => (hth q (h70 q)).2)
          have hPc : va_P (dC, dI) vwCl [(ad 27, .inr (5, [.ref (ad 28), .int (nI rl), .int fk, .int fp, .ref (ad 1), .int (nI ts), .int (nI te), .int lw, .int (nI pa), .int rt, .int (nI tw), .int (nI tm)]))] H := hP.sub [0] rfl
          refine vp_callSi (va_Run.run (va_runV (As := [.int lw, .int (nI pa)]) (rest := [.ref (ad 29)]) ⟨hx, hb, hml, hown, hts⟩ (c_X5_placeOf l dC dI cy ad rl fk fp ts te lw pa rt tw tm th (by first | assumption | omega) (by first | assumption | omega) (by first | assumption | omega) (by first | assumption | omega)) (cwV 2 hts gX5_takeNumber_X5_placeOf rfl rfl rfl (by decide +kernel) ⟨Nat.le_of_ble_eq_true rfl, Nat.le_of_ble_eq_true rfl⟩) ⟨fun a U g mk q => by obtain ⟨q0, qP, qK⟩ := q; exact ⟨q0, qP, va_K.moved (u := U) (U := U.calling g mk a) (Vm.Alike.refl U.vm) qK⟩, va_recv hK hPc (ci := 5) (q0 := 0) rfl rfl, fun U hU hW => ⟨rfl, by rw [hU]; exact hPc, va_K.moved hW.alike hK⟩⟩ rfl rfl hl.1 rfl (lv_room (Nat.le_of_ble_eq_true rfl)) dX5_takeNumber_94 ⟨Nat.le_of_ble_eq_true rfl, Nat.le_of_ble_eq_true rfl⟩)) (fun r_6 hr_6 => ?_)
          rw [hr_6]
          refine lv_iload_n hx hb dX5_takeNumber_97 rfl (lv_at hl 0 rfl) ?_
          refine bw_iast hx hb hK hP hD hS 4 0 rfl rfl (j := (plc lw.toInt pa th)) (nI_toInt (by omega)) (by omega) dX5_takeNumber_98 (fun H locs hP hD hS => ?_)
          have hP : va_P (dC, dI) vwCl [(ad 27, .inr (5, [.ref (ad 28), .int (nI rl), .int fk, .int fp, .ref (ad 1), .int (nI ts), .int (nI te), .int lw, .int (nI pa), .int rt, .int (nI tw), .int (nI tm)])), (ad 1, .inr (8, [.ref (ad 2), .int (nI tn)])), (ad 2, .inl (cy 0, 600, .inl tb)), (ad 28, .inr (4, [.ref (ad 29)])), (ad 29, .inl (cy 0, 18, .inl (upd dt (plc lw.toInt pa th) rv_)))] H := hP
          have hD : va_D A [(ad 27, .inr (5, [.ref (ad 28), .int (nI rl), .int fk, .int fp, .ref (ad 1), .int (nI ts), .int (nI te), .int lw, .int (nI pa), .int rt, .int (nI tw), .int (nI tm)])), (ad 1, .inr (8, [.ref (ad 2), .int (nI tn)])), (ad 2, .inl (cy 0, 600, .inl tb)), (ad 28, .inr (4, [.ref (ad 29)])), (ad 29, .inl (cy 0, 18, .inl (upd dt (plc lw.toInt pa th) rv_)))] := hD
          refine lv_aload_n hx hb dX5_takeNumber_99 rfl (lv_at hl 1 rfl) ?_
          refine lv_dup hx hb dX5_takeNumber_100 rfl ?_
          refine va_get (D := (dC, dI)) (ci := 5) (v := .int (nI pa)) (C := RX5) (T := TX5) (N := 12) hx hb hts hiX5 hown hK hP 0 rfl rfl 8 (by decide) hL1 (fun _ h9 => h9) rfl dX5_takeNumber_101 ?_
          refine lv_iconst (v := 1) hx hb dX5_takeNumber_104 (by decide) ?_
          refine lv_iadd hx hb dX5_takeNumber_105 ?_
          refine bw_re (show (nI pa) + 1 = nI (pa + 1) from nI_add (pa) (1)) ?_
          refine va_put (D := (dC, dI)) (ci := 5) (v := .int (nI (pa + 1))) (ty := (tyX5 8)) (C := RX5) (T := TX5) (N := 12) hx hb hts hiX5 tyX5 tyX5_ok nmX5 hown hK hP hD hS 0 rfl rfl 8 (by decide) hL1 (fun _ h9 => h9) rfl (by decide +kernel) rfl rfl (Nat.le_of_ble_eq_true rfl) dX5_takeNumber_106 (fun H locs hP hD hS => ?_)
          have hP : va_P (dC, dI) vwCl [(ad 27, .inr (5, [.ref (ad 28), .int (nI rl), .int fk, .int fp, .ref (ad 1), .int (nI ts), .int (nI te), .int lw, .int (nI (pa + 1)), .int rt, .int (nI tw), .int (nI tm)])), (ad 1, .inr (8, [.ref (ad 2), .int (nI tn)])), (ad 2, .inl (cy 0, 600, .inl tb)), (ad 28, .inr (4, [.ref (ad 29)])), (ad 29, .inl (cy 0, 18, .inl (upd dt (plc lw.toInt pa th) rv_)))] H := hP
          have hD : va_D A [(ad 27, .inr (5, [.ref (ad 28), .int (nI rl), .int fk, .int fp, .ref (ad 1), .int (nI ts), .int (nI te), .int lw, .int (nI (pa + 1)), .int rt, .int (nI tw), .int (nI tm)])), (ad 1, .inr (8, [.ref (ad 2), .int (nI tn)])), (ad 2, .inl (cy 0, 600, .inl tb)), (ad 28, .inr (4, [.ref (ad 29)])), (ad 29, .inl (cy 0, 18, .inl (upd dt (plc lw.toInt pa th) rv_)))] := hD
          refine lv_iconst (v := 0) hx hb dX5_takeNumber_109 (by decide) ?_
          refine bw_Qe hQ ?_
          have hP9 : va_P (dC, dI) vwCl [(ad 27, .inr (5, [.ref (ad 28), .int (nI rl), .int fk, .int fp, .ref (ad 1), .int (nI ts), .int (nI te), .int lw, .int (nI (pa + 1)), .int rt, .int (nI tw), .int (nI tm)])), (ad 1, .inr (8, [.ref (ad 2), .int (nI tn)])), (ad 2, .inl (cy 0, 600, .inl tb)), (ad 28, .inr (4, [.ref (ad 29)])), (ad 29, .inl (cy 0, 18, .inl (upd dt (plc lw.toInt pa th) rv_)))] H := hP.sub [0, 1, 2, 3, 4] rfl
          have hD9 : va_D A [(ad 27, .inr (5, [.ref (ad 28), .int (nI rl), .int fk, .int fp, .ref (ad 1), .int (nI ts), .int (nI te), .int lw, .int (nI (pa + 1)), .int rt, .int (nI tw), .int (nI tm)])), (ad 1, .inr (8, [.ref (ad 2), .int (nI tn)])), (ad 2, .inl (cy 0, 600, .inl tb)), (ad 28, .inr (4, [.ref (ad 29)])), (ad 29, .inl (cy 0, 18, .inl (upd dt (plc lw.toInt pa th) rv_)))] := hD.sub [0, 1, 2, 3, 4] (by decide) rfl
          have hpost : tkP tb tn ts lw.toInt pa th tw tm rl d (0 : Int32).toInt te lw.toInt (pa + 1) th tw tm rl (upd d (plc lw.toInt pa th) (nI rv_.toInt.toNat)) ∧ rI lw.toInt (pa + 1) tw tm ∧ (lw.toInt = 7 → 1 ≤ (pa + 1) → rt = nI th ∧ th < 8) ∧ agr (upd dt (plc lw.toInt pa th) rv_) (upd d (plc lw.toInt pa th) (nI rv_.toInt.toNat)) ∧ rgs (upd dt (plc lw.toInt pa th) rv_) := by
            have eV : rv_ = nI rv_.toInt.toNat := nI_back (by omega)
            have hp5 := plc_5 (lw := lw.toInt) (pa := pa) (th := th) (by omega) (by omega) h4
            refine ⟨Or.inl ⟨rfl, ?_⟩, ⟨by omega, by omega, by omega, hI4, hI5⟩, fun q _ => hth q (h70 q), by rw [← eV]; exact agr_upd hag _ _, rgs_upd hrg (by omega) (fun q => by have := hp5.1 q; omega) (fun q => by have := hp5.2.1 q; omega) (fun q => by have := hp5.2.2 q; omega)⟩
            rw [stp_N (by omega) hlw hpp h4]
            unfold stN
            rw [hte, ← hrv_]
            rw [cif_f (by omega), cif_f (by omega), cif_f (fun q => by omega)]
          exact W.iret (v := 0) hx hb hr (fun t9 ht hW => ⟨⟨0, (rl, lw, pa + 1, rt, tw, tm, upd dt (plc lw.toInt pa th) rv_, th, upd d (plc lw.toInt pa th) (nI rv_.toInt.toNat)), rfl, hpost, by rw [ht]; exact hP9, va_K.moved hW.alike hK, hD9⟩, hS.F ht⟩) hS.2.2 dX5_takeNumber_110
        · skip
          refine lv_aload_n hx hb dX5_takeNumber_45 rfl (lv_at hl 1 rfl) ?_
          refine va_get (D := (dC, dI)) (ci := 5) (v := .int (nI tm)) (C := RX5) (T := TX5) (N := 12) hx hb hts hiX5 hown hK hP 0 rfl rfl 11 (by decide) hL4 (fun _ h9 => h9) rfl dX5_takeNumber_46 ?_
          have hm7 : rm_.toInt = 7 := by rw [hrm_]; unfold mst; rw [if_neg (by omega), if_neg (by omega), if_neg (by omega), if_pos (by omega), if_pos (by omega)]
          refine lv_iload_n hx hb dX5_takeNumber_49 rfl (lv_at hl 0 rfl) ?_
          refine bw_re (show rv_ = nI rv_.toInt.toNat from nI_back (by omega)) ?_
          refine lv_ishr hx hb dX5_takeNumber_50 ?_
          refine lv_topi (fun z1 ez1 => ?_)
          refine lv_iconst (v := 1) hx hb dX5_takeNumber_51 (by decide) ?_
          refine lv_iand hx hb dX5_takeNumber_52 ?_
          refine lv_topi (fun z2 ez2 => ?_)
          refine bw_if_eq (tgt := 58) (a := z2.toInt) hx hb dX5_takeNumber_53 (by decide) rfl (fun c_b => ?_) (fun c_b => ?_)
          · skip
            refine lv_aload_n hx hb dX5_takeNumber_58 rfl (lv_at hl 1 rfl) ?_
            refine lv_dup hx hb dX5_takeNumber_59 rfl ?_
            refine va_get (D := (dC, dI)) (ci := 5) (v := .int (nI tm)) (C := RX5) (T := TX5) (N := 12) hx hb hts hiX5 hown hK hP 0 rfl rfl 11 (by decide) hL4 (fun _ h9 => h9) rfl dX5_takeNumber_60 ?_
            refine lv_iconst (v := 1) hx hb dX5_takeNumber_63 (by decide) ?_
            refine lv_iload_n hx hb dX5_takeNumber_64 rfl (lv_at hl 0 rfl) ?_
            refine bw_re (show rv_ = nI rv_.toInt.toNat from nI_back (by omega)) ?_
            refine lv_ishl hx hb dX5_takeNumber_65 ?_
            refine bw_re (show (1 : Int32) <<< ((nI rv_.toInt.toNat) &&& 31) = nI (2 ^ rv_.toInt.toNat) from (one_shl8 _ (by omega))) ?_
            refine lv_ior hx hb dX5_takeNumber_66 ?_
            refine bw_re (show (nI tm) ||| (nI (2 ^ rv_.toInt.toNat)) = nI (tm ||| 2 ^ rv_.toInt.toNat) from (fa_or _ _)) ?_
            refine va_put (D := (dC, dI)) (ci := 5) (v := .int (nI (tm ||| 2 ^ rv_.toInt.toNat))) (ty := (tyX5 11)) (C := RX5) (T := TX5) (N := 12) hx hb hts hiX5 tyX5 tyX5_ok nmX5 hown hK hP hD hS 0 rfl rfl 11 (by decide) hL4 (fun _ h9 => h9) rfl (by decide +kernel) rfl rfl (Nat.le_of_ble_eq_true rfl) dX5_takeNumber_67 (fun H locs hP hD hS => ?_)
            have hP : va_P (dC, dI) vwCl [(ad 27, .inr (5, [.ref (ad 28), .int (nI rl), .int fk, .int fp, .ref (ad 1), .int (nI ts), .int (nI te), .int lw, .int (nI pa), .int rt, .int (nI tw), .int (nI (tm ||| 2 ^ rv_.toInt.toNat))])), (ad 1, .inr (8, [.ref (ad 2), .int (nI tn)])), (ad 2, .inl (cy 0, 600, .inl tb)), (ad 28, .inr (4, [.ref (ad 29)])), (ad 29, .inl (cy 0, 18, .inl dt))] H := hP
            have hD : va_D A [(ad 27, .inr (5, [.ref (ad 28), .int (nI rl), .int fk, .int fp, .ref (ad 1), .int (nI ts), .int (nI te), .int lw, .int (nI pa), .int rt, .int (nI tw), .int (nI (tm ||| 2 ^ rv_.toInt.toNat))])), (ad 1, .inr (8, [.ref (ad 2), .int (nI tn)])), (ad 2, .inl (cy 0, 600, .inl tb)), (ad 28, .inr (4, [.ref (ad 29)])), (ad 29, .inl (cy 0, 18, .inl dt))] := hD
            refine lv_aload_n hx hb dX5_takeNumber_70 rfl (lv_at hl 1 rfl) ?_
            refine lv_iload_n hx hb dX5_takeNumber_71 rfl (lv_at hl 0 rfl) ?_
            refine va_put (D := (dC, dI)) (ci := 5) (v := .int rv_) (ty := (tyX5 9)) (C := RX5) (T := TX5) (N := 12) hx hb hts hiX5 tyX5 tyX5_ok nmX5 hown hK hP hD hS 0 rfl rfl 9 (by decide) hL5 (fun _ h9 => h9) rfl (by decide +kernel) rfl rfl (Nat.le_of_ble_eq_true rfl) dX5_takeNumber_72 (fun H locs hP hD hS => ?_)
            have hP : va_P (dC, dI) vwCl [(ad 27, .inr (5, [.ref (ad 28), .int (nI rl), .int fk, .int fp, .ref (ad 1), .int (nI ts), .int (nI te), .int lw, .int (nI pa), .int rv_, .int (nI tw), .int (nI (tm ||| 2 ^ rv_.toInt.toNat))])), (ad 1, .inr (8, [.ref (ad 2), .int (nI tn)])), (ad 2, .inl (cy 0, 600, .inl tb)), (ad 28, .inr (4, [.ref (ad 29)])), (ad 29, .inl (cy 0, 18, .inl dt))] H := hP
            have hD : va_D A [(ad 27, .inr (5, [.ref (ad 28), .int (nI rl), .int fk, .int fp, .ref (ad 1), .int (nI ts), .int (nI te), .int lw, .int (nI pa), .int rv_, .int (nI tw), .int (nI (tm ||| 2 ^ rv_.toInt.toNat))])), (ad 1, .inr (8, [.ref (ad 2), .int (nI tn)])), (ad 2, .inl (cy 0, 600, .inl tb)), (ad 28, .inr (4, [.ref (ad 29)])), (ad 29, .inl (cy 0, 18, .inl dt))] := hD
            refine lv_goto (tgt := 99) hx hb dX5_takeNumber_75 (by decide) ?_
            refine lv_aload_n hx hb dX5_takeNumber_99 rfl (lv_at hl 1 rfl) ?_
            refine lv_dup hx hb dX5_takeNumber_100 rfl ?_
            refine va_get (D := (dC, dI)) (ci := 5) (v := .int (nI pa)) (C := RX5) (T := TX5) (N := 12) hx hb hts hiX5 hown hK hP 0 rfl rfl 8 (by decide) hL1 (fun _ h9 => h9) rfl dX5_takeNumber_101 ?_
            refine lv_iconst (v := 1) hx hb dX5_takeNumber_104 (by decide) ?_
            refine lv_iadd hx hb dX5_takeNumber_105 ?_
            refine bw_re (show (nI pa) + 1 = nI (pa + 1) from nI_add (pa) (1)) ?_
            refine va_put (D := (dC, dI)) (ci := 5) (v := .int (nI (pa + 1))) (ty := (tyX5 8)) (C := RX5) (T := TX5) (N := 12) hx hb hts hiX5 tyX5 tyX5_ok nmX5 hown hK hP hD hS 0 rfl rfl 8 (by decide) hL1 (fun _ h9 => h9) rfl (by decide +kernel) rfl rfl (Nat.le_of_ble_eq_true rfl) dX5_takeNumber_106 (fun H locs hP hD hS => ?_)
            have hP : va_P (dC, dI) vwCl [(ad 27, .inr (5, [.ref (ad 28), .int (nI rl), .int fk, .int fp, .ref (ad 1), .int (nI ts), .int (nI te), .int lw, .int (nI (pa + 1)), .int rv_, .int (nI tw), .int (nI (tm ||| 2 ^ rv_.toInt.toNat))])), (ad 1, .inr (8, [.ref (ad 2), .int (nI tn)])), (ad 2, .inl (cy 0, 600, .inl tb)), (ad 28, .inr (4, [.ref (ad 29)])), (ad 29, .inl (cy 0, 18, .inl dt))] H := hP
            have hD : va_D A [(ad 27, .inr (5, [.ref (ad 28), .int (nI rl), .int fk, .int fp, .ref (ad 1), .int (nI ts), .int (nI te), .int lw, .int (nI (pa + 1)), .int rv_, .int (nI tw), .int (nI (tm ||| 2 ^ rv_.toInt.toNat))])), (ad 1, .inr (8, [.ref (ad 2), .int (nI tn)])), (ad 2, .inl (cy 0, 600, .inl tb)), (ad 28, .inr (4, [.ref (ad 29)])), (ad 29, .inl (cy 0, 18, .inl dt))] := hD
            refine lv_iconst (v := 0) hx hb dX5_takeNumber_109 (by decide) ?_
            refine bw_Qe hQ ?_
            have hP9 : va_P (dC, dI) vwCl [(ad 27, .inr (5, [.ref (ad 28), .int (nI rl), .int fk, .int fp, .ref (ad 1), .int (nI ts), .int (nI te), .int lw, .int (nI (pa + 1)), .int rv_, .int (nI tw), .int (nI (tm ||| 2 ^ rv_.toInt.toNat))])), (ad 1, .inr (8, [.ref (ad 2), .int (nI tn)])), (ad 2, .inl (cy 0, 600, .inl tb)), (ad 28, .inr (4, [.ref (ad 29)])), (ad 29, .inl (cy 0, 18, .inl dt))] H := hP.sub [0, 1, 2, 3, 4] rfl
            have hD9 : va_D A [(ad 27, .inr (5, [.ref (ad 28), .int (nI rl), .int fk, .int fp, .ref (ad 1), .int (nI ts), .int (nI te), .int lw, .int (nI (pa + 1)), .int rv_, .int (nI tw), .int (nI (tm ||| 2 ^ rv_.toInt.toNat))])), (ad 1, .inr (8, [.ref (ad 2), .int (nI tn)])), (ad 2, .inl (cy 0, 600, .inl tb)), (ad 28, .inr (4, [.ref (ad 29)])), (ad 29, .inl (cy 0, 18, .inl dt))] := hD.sub [0, 1, 2, 3, 4] (by decide) rfl
            have hpost : tkP tb tn ts lw.toInt pa th tw tm rl d (0 : Int32).toInt te lw.toInt (pa + 1) rv_.toInt.toNat tw (tm ||| 2 ^ rv_.toInt.toNat) rl d ∧ rI lw.toInt (pa + 1) tw (tm ||| 2 ^ rv_.toInt.toNat) ∧ (lw.toInt = 7 → 1 ≤ (pa + 1) → rv_ = nI rv_.toInt.toNat ∧ rv_.toInt.toNat < 8) ∧ agr dt d ∧ rgs dt := by
              have eV : rv_ = nI rv_.toInt.toNat := nI_back (by omega)
              refine ⟨Or.inl ⟨rfl, ?_⟩, ⟨by omega, by omega, by omega, hI4, or256 _ hI5 _ (by omega)⟩, fun _ _ => ⟨eV, by omega⟩, hag, hrg⟩
              rw [stp_N (by omega) hlw hpp h4]
              unfold stN
              rw [hte, ← hrv_]
              rw [cif_f (by omega), cif_f (by omega), cif_t ⟨by omega, by omega⟩, cif_f (bit_f hI5 (by omega) (by rw [ez2, ez1]) c_b)]
            exact W.iret (v := 0) hx hb hr (fun t9 ht hW => ⟨⟨0, (rl, lw, pa + 1, rv_, tw, tm ||| 2 ^ rv_.toInt.toNat, dt, rv_.toInt.toNat, d), rfl, hpost, by rw [ht]; exact hP9, va_K.moved hW.alike hK, hD9⟩, hS.F ht⟩) hS.2.2 dX5_takeNumber_110
          · skip
            refine lv_iconst (v := 3) hx hb dX5_takeNumber_56 (by decide) ?_
            refine bw_Qe hQ ?_
            have hP9 : va_P (dC, dI) vwCl [(ad 27, .inr (5, [.ref (ad 28), .int (nI rl), .int fk, .int fp, .ref (ad 1), .int (nI ts), .int (nI te), .int lw, .int (nI pa), .int rt, .int (nI tw), .int (nI tm)])), (ad 1, .inr (8, [.ref (ad 2), .int (nI tn)])), (ad 2, .inl (cy 0, 600, .inl tb)), (ad 28, .inr (4, [.ref (ad 29)])), (ad 29, .inl (cy 0, 18, .inl dt))] H := hP.sub [0, 1, 2, 3, 4] rfl
            have hD9 : va_D A [(ad 27, .inr (5, [.ref (ad 28), .int (nI rl), .int fk, .int fp, .ref (ad 1), .int (nI ts), .int (nI te), .int lw, .int (nI pa), .int rt, .int (nI tw), .int (nI tm)])), (ad 1, .inr (8, [.ref (ad 2), .int (nI tn)])), (ad 2, .inl (cy 0, 600, .inl tb)), (ad 28, .inr (4, [.ref (ad 29)])), (ad 29, .inl (cy 0, 18, .inl dt))] := hD.sub [0, 1, 2, 3, 4] (by decide) rfl
            have hpost : tkP tb tn ts lw.toInt pa th tw tm rl d (3 : Int32).toInt te lw.toInt pa th tw tm rl d ∧ rI lw.toInt pa tw tm ∧ (lw.toInt = 7 → 1 ≤ pa → rt = nI th ∧ th < 8) ∧ agr dt d ∧ rgs dt := by
              refine ⟨Or.inr ⟨by decide, ?_⟩, hI, hth, hag, hrg⟩
              rw [stp_N (by omega) hlw hpp h4]
              unfold stN
              rw [hte, ← hrv_]
              rw [cif_f (by omega), cif_f (by omega), cif_t ⟨by omega, by omega⟩]
              exact cif_t (bit_t hI5 (by omega) (by rw [ez2, ez1]) c_b)
            exact W.iret (v := 3) hx hb hr (fun t9 ht hW => ⟨⟨3, (rl, lw, pa, rt, tw, tm, dt, th, d), rfl, hpost, by rw [ht]; exact hP9, va_K.moved hW.alike hK, hD9⟩, hS.F ht⟩) hS.2.2 dX5_takeNumber_57
    · skip
      refine lv_iconst (v := 2) hx hb dX5_takeNumber_27 (by decide) ?_
      refine bw_Qe hQ ?_
      have hP9 : va_P (dC, dI) vwCl [(ad 27, .inr (5, [.ref (ad 28), .int (nI rl), .int fk, .int fp, .ref (ad 1), .int (nI ts), .int (nI te), .int lw, .int (nI pa), .int rt, .int (nI tw), .int (nI tm)])), (ad 1, .inr (8, [.ref (ad 2), .int (nI tn)])), (ad 2, .inl (cy 0, 600, .inl tb)), (ad 28, .inr (4, [.ref (ad 29)])), (ad 29, .inl (cy 0, 18, .inl dt))] H := hP.sub [0, 1, 2, 3, 4] rfl
      have hD9 : va_D A [(ad 27, .inr (5, [.ref (ad 28), .int (nI rl), .int fk, .int fp, .ref (ad 1), .int (nI ts), .int (nI te), .int lw, .int (nI pa), .int rt, .int (nI tw), .int (nI tm)])), (ad 1, .inr (8, [.ref (ad 2), .int (nI tn)])), (ad 2, .inl (cy 0, 600, .inl tb)), (ad 28, .inr (4, [.ref (ad 29)])), (ad 29, .inl (cy 0, 18, .inl dt))] := hD.sub [0, 1, 2, 3, 4] (by decide) rfl
      have hpost : tkP tb tn ts lw.toInt pa th tw tm rl d (2 : Int32).toInt te lw.toInt pa th tw tm rl d ∧ rI lw.toInt pa tw tm ∧ (lw.toInt = 7 → 1 ≤ pa → rt = nI th ∧ th < 8) ∧ agr dt d ∧ rgs dt := by
        refine ⟨Or.inr ⟨by decide, ?_⟩, hI, hth, hag, hrg⟩
        rw [stp_N (by omega) hlw hpp h4]
        unfold stN
        rw [hte, ← hrv_]
        rw [cif_f (by omega)]
        exact cif_t (by omega)
      exact W.iret (v := 2) hx hb hr (fun t9 ht hW => ⟨⟨2, (rl, lw, pa, rt, tw, tm, dt, th, d), rfl, hpost, by rw [ht]; exact hP9, va_K.moved hW.alike hK, hD9⟩, hS.F ht⟩) hS.2.2 dX5_takeNumber_28
  · skip
    refine lv_iconst (v := 1) hx hb dX5_takeNumber_10 (by decide) ?_
    refine bw_Qe hQ ?_
    have hP9 : va_P (dC, dI) vwCl [(ad 27, .inr (5, [.ref (ad 28), .int (nI rl), .int fk, .int fp, .ref (ad 1), .int (nI ts), .int (nI te), .int lw, .int (nI pa), .int rt, .int (nI tw), .int (nI tm)])), (ad 1, .inr (8, [.ref (ad 2), .int (nI tn)])), (ad 2, .inl (cy 0, 600, .inl tb)), (ad 28, .inr (4, [.ref (ad 29)])), (ad 29, .inl (cy 0, 18, .inl dt))] H := hP.sub [0, 1, 2, 3, 4] rfl
    have hD9 : va_D A [(ad 27, .inr (5, [.ref (ad 28), .int (nI rl), .int fk, .int fp, .ref (ad 1), .int (nI ts), .int (nI te), .int lw, .int (nI pa), .int rt, .int (nI tw), .int (nI tm)])), (ad 1, .inr (8, [.ref (ad 2), .int (nI tn)])), (ad 2, .inl (cy 0, 600, .inl tb)), (ad 28, .inr (4, [.ref (ad 29)])), (ad 29, .inl (cy 0, 18, .inl dt))] := hD.sub [0, 1, 2, 3, 4] (by decide) rfl
    have hpost : tkP tb tn ts lw.toInt pa th tw tm rl d (1 : Int32).toInt te lw.toInt pa th tw tm rl d ∧ rI lw.toInt pa tw tm ∧ (lw.toInt = 7 → 1 ≤ pa → rt = nI th ∧ th < 8) ∧ agr dt d ∧ rgs dt := by
      refine ⟨Or.inr ⟨by decide, ?_⟩, hI, hth, hag, hrg⟩
      rw [stp_N (by omega) hlw hpp h4]
      unfold stN
      rw [hte, ← hrv_]
      exact cif_t (by omega)
    exact W.iret (v := 1) hx hb hr (fun t9 ht hW => ⟨⟨1, (rl, lw, pa, rt, tw, tm, dt, th, d), rfl, hpost, by rw [ht]; exact hP9, va_K.moved hW.alike hK, hD9⟩, hS.F ht⟩) hS.2.2 dX5_takeNumber_11

set_option maxHeartbeats 4000000 in
set_option maxRecDepth 100000 in
theorem c_X5_takeToken (l : Launch) (dC : Nat → ClassId) (dI : Nat → Nat → Nat) (cy : Nat → ClassId) (sa sv : Nat → Nat) (fv : Value) (ad : Nat → Nat) (rl : Nat) (fk : Int32) (fp : Int32) (ts : Nat) (te : Nat) (lw : Int32) (pa : Nat) (rt : Int32) (tw : Nat) (tm : Nat) (tn : Nat) (tb : Nat → Int32) (dt : Nat → Int32) (th : Nat) (d : Nat → Int32) (sz : Nat) (hts1 : ts < te) (hte1 : te ≤ tn) (htn : tn ≤ 600) (htE : tEnd tb tn ts te) (hI : rI lw.toInt pa tw tm) (hth : lw.toInt = 7 → 1 ≤ pa → rt = nI th ∧ th < 8) (hag : agr dt d) (hrg : rgs dt) : Met l yX5_takeToken wsX5_takeToken ({ frames := 6, cells := 0, slots := 0, locals := 129 }) (va_Pc [.ref (ad 27)] (fun U => U.heap.size = sz ∧ va_P (dC, dI) vwCl [(ad 27, .inr (5, [.ref (ad 28), .int (nI rl), .int fk, .int fp, .ref (ad 1), .int (nI ts), .int (nI te), .int lw, .int (nI pa), .int rt, .int (nI tw), .int (nI tm)])), (ad 1, .inr (8, [.ref (ad 2), .int (nI tn)])), (ad 2, .inl (cy 0, 600, .inl tb)), (ad 28, .inr (4, [.ref (ad 29)])), (ad 29, .inl (cy 0, 18, .inl dt))] U.heap ∧ va_K (dC, dI) vwCl (tyL cy) U ∧ va_D (fun _ => True) [(ad 27, .inr (5, [.ref (ad 28), .int (nI rl), .int fk, .int fp, .ref (ad 1), .int (nI ts), .int (nI te), .int lw, .int (nI pa), .int rt, .int (nI tw), .int (nI tm)])), (ad 1, .inr (8, [.ref (ad 2), .int (nI tn)])), (ad 2, .inl (cy 0, 600, .inl tb)), (ad 28, .inr (4, [.ref (ad 29)])), (ad 29, .inl (cy 0, 18, .inl dt))] ∧ sW sa sv fv (va_A [(ad 27, .inr (5, [.ref (ad 28), .int (nI rl), .int fk, .int fp, .ref (ad 1), .int (nI ts), .int (nI te), .int lw, .int (nI pa), .int rt, .int (nI tw), .int (nI tm)])), (ad 1, .inr (8, [.ref (ad 2), .int (nI tn)])), (ad 2, .inl (cy 0, 600, .inl tb)), (ad 28, .inr (4, [.ref (ad 29)])), (ad 29, .inl (cy 0, 18, .inl dt))] sz) U U.heap ∧ va_Nw (.methodLinkNest RX5 76 yX10_isDigit "HereLived") U)) (va_Qi (S := Nat × Int32 × Nat × Int32 × Nat × Nat × (Nat → Int32) × Nat × (Nat → Int32)) (fun r => fun u => match u with | (rl2, lw2, pa2, rt2, tw2, tm2, dt2, th2, d2) => tkP tb tn ts lw.toInt pa th tw tm rl d r.toInt te lw2.toInt pa2 th2 tw2 tm2 rl2 d2 ∧ rI lw2.toInt pa2 tw2 tm2 ∧ (lw2.toInt = 7 → 1 ≤ pa2 → rt2 = nI th2 ∧ th2 < 8) ∧ agr dt2 d2 ∧ rgs dt2) (fun u => match u with | (rl2, lw2, pa2, rt2, tw2, tm2, dt2, th2, d2) => fun t => va_P (dC, dI) vwCl [(ad 27, .inr (5, [.ref (ad 28), .int (nI rl2), .int fk, .int fp, .ref (ad 1), .int (nI ts), .int (nI te), .int lw2, .int (nI pa2), .int rt2, .int (nI tw2), .int (nI tm2)])), (ad 1, .inr (8, [.ref (ad 2), .int (nI tn)])), (ad 2, .inl (cy 0, 600, .inl tb)), (ad 28, .inr (4, [.ref (ad 29)])), (ad 29, .inl (cy 0, 18, .inl dt2))] t.heap ∧ va_K (dC, dI) vwCl (tyL cy) t ∧ va_D (va_A [(ad 27, .inr (5, [.ref (ad 28), .int (nI rl), .int fk, .int fp, .ref (ad 1), .int (nI ts), .int (nI te), .int lw, .int (nI pa), .int rt, .int (nI tw), .int (nI tm)])), (ad 1, .inr (8, [.ref (ad 2), .int (nI tn)])), (ad 2, .inl (cy 0, 600, .inl tb)), (ad 28, .inr (4, [.ref (ad 29)])), (ad 29, .inl (cy 0, 18, .inl dt))] sz) [(ad 27, .inr (5, [.ref (ad 28), .int (nI rl2), .int fk, .int fp, .ref (ad 1), .int (nI ts), .int (nI te), .int lw2, .int (nI pa2), .int rt2, .int (nI tw2), .int (nI tm2)])), (ad 1, .inr (8, [.ref (ad 2), .int (nI tn)])), (ad 2, .inl (cy 0, 600, .inl tb)), (ad 28, .inr (4, [.ref (ad 29)])), (ad 29, .inl (cy 0, 18, .inl dt2))]) (va_A [(ad 27, .inr (5, [.ref (ad 28), .int (nI rl), .int fk, .int fp, .ref (ad 1), .int (nI ts), .int (nI te), .int lw, .int (nI pa), .int rt, .int (nI tw), .int (nI tm)])), (ad 1, .inr (8, [.ref (ad 2), .int (nI tn)])), (ad 2, .inl (cy 0, 600, .inl tb)), (ad 28, .inr (4, [.ref (ad 29)])), (ad 29, .inl (cy 0, 18, .inl dt))] sz)) 0 0 (va_A [(ad 27, .inr (5, [.ref (ad 28), .int (nI rl), .int fk, .int fp, .ref (ad 1), .int (nI ts), .int (nI te), .int lw, .int (nI pa), .int rt, .int (nI tw), .int (nI tm)])), (ad 1, .inr (8, [.ref (ad 2), .int (nI tn)])), (ad 2, .inl (cy 0, 600, .inl tb)), (ad 28, .inr (4, [.ref (ad 29)])), (ad 29, .inl (cy 0, 18, .inl dt))] sz) := by
  refine Met.ofW (cc := cX5_takeToken) (maxL := 1) (ret := (some .int)) (by decide) rfl ?_
  intro pp ee ss mm args below meth cc0 s₁ B hml hv
  obtain ⟨rfl, hsz, hP, hK, hD0, hE, hn0⟩ := hv
  have hx := B.exec
  have hb := B.bytes
  have hr := B.returns
  have hts := atoms_spec (ws := wsX5_takeToken) B.pre
  have hown : ss.vm.findClass RX5 = some mm.cls := findClass_of_methodNamed B.named
  have hlocks := B.notSynchronized
  have hL0 := hts (.fieldLink RX5 35 "HereLived$RuleReader" "lineWord" "I") (by decide +kernel)
  have hL1 := hts (.fieldLink RX5 38 "HereLived$RuleReader" "parts" "I") (by decide +kernel)
  have hiX5 : ∀ w ∈ wsX50, w ∈ wsX5_takeToken := by decide +kernel
  subst hsz
  have hD := hD0.self (sz := ss.heap.size)
  generalize hAe : va_A [(ad 27, .inr (5, [.ref (ad 28), .int (nI rl), .int fk, .int fp, .ref (ad 1), .int (nI ts), .int (nI te), .int lw, .int (nI pa), .int rt, .int (nI tw), .int (nI tm)])), (ad 1, .inr (8, [.ref (ad 2), .int (nI tn)])), (ad 2, .inl (cy 0, 600, .inl tb)), (ad 28, .inr (4, [.ref (ad 29)])), (ad 29, .inl (cy 0, 18, .inl dt))] ss.heap.size = A at hD hE ⊢
  have hA : ∀ q : Nat, ss.heap.size ≤ q → A q := fun q h => by rw [← hAe]; exact Or.inr h
  have hS : va_S A ss.heap ss.heap [] := va_S.rf
  have hP : va_P (dC, dI) vwCl [(ad 27, .inr (5, [.ref (ad 28), .int (nI rl), .int fk, .int fp, .ref (ad 1), .int (nI ts), .int (nI te), .int lw, .int (nI pa), .int rt, .int (nI tw), .int (nI tm)])), (ad 1, .inr (8, [.ref (ad 2), .int (nI tn)])), (ad 2, .inl (cy 0, 600, .inl tb)), (ad 28, .inr (4, [.ref (ad 29)])), (ad 29, .inl (cy 0, 18, .inl dt))] ss.heap := hP
  have hl := lv_entry ([.ref (ad 27)]) (n := 1) (Nat.le_of_ble_eq_true rfl)
  rw [lg_entry_eq]
  generalize (lg_sl ([.ref (ad 27)]) ++ List.replicate (1 - (lg_sl ([.ref (ad 27)])).length) Slot.unset).toArray = ls at hl ⊢
  have hl : lv_has ls 1 [(0, .ref (ad 27))] := hl
  refine bw_Q (fun Q hQ => ?_)
  refine bw_H0 (fun H locs eH eL => ?_)
  have hS : va_S A ss.heap H locs := by rw [eH, eL]; exact hS
  have hP : va_P (dC, dI) vwCl [(ad 27, .inr (5, [.ref (ad 28), .int (nI rl), .int fk, .int fp, .ref (ad 1), .int (nI ts), .int (nI te), .int lw, .int (nI pa), .int rt, .int (nI tw), .int (nI tm)])), (ad 1, .inr (8, [.ref (ad 2), .int (nI tn)])), (ad 2, .inl (cy 0, 600, .inl tb)), (ad 28, .inr (4, [.ref (ad 29)])), (ad 29, .inl (cy 0, 18, .inl dt))] H := by rw [eH]; exact hP
  change W pp l ee { frames := 6, cells := 0, slots := 0, locals := 129 } ss mm _ below meth cc0 H locs 0 0 Q (F0 mm 0 ls [])
  have hte := tE_eq htE
  obtain ⟨hI1, hI2, hI3, hI4, hI5⟩ := id hI
  have hprt := prt_le lw.toInt
  refine lv_aload_n hx hb dX5_takeToken_0 rfl (lv_at hl 0 rfl) ?_
  refine va_get (D := (dC, dI)) (ci := 5) (v := .int lw) (C := RX5) (T := TX5) (N := 12) hx hb hts hiX5 hown hK hP 0 rfl rfl 7 (by decide) hL0 (fun _ h9 => h9) rfl dX5_takeToken_1 ?_
  refine lv_iconst (v := (-1)) hx hb dX5_takeToken_4 (by decide) ?_
  refine bw_icmp_ne (tgt := 13) (a := lw.toInt) (b := (-1)) hx hb dX5_takeToken_5 (by decide) rfl rfl (fun c_1 => ?_) (fun c_1 => ?_)
  · skip
    refine lv_aload_n hx hb dX5_takeToken_13 rfl (lv_at hl 0 rfl) ?_
    refine va_get (D := (dC, dI)) (ci := 5) (v := .int (nI pa)) (C := RX5) (T := TX5) (N := 12) hx hb hts hiX5 hown hK hP 0 rfl rfl 8 (by decide) hL1 (fun _ h9 => h9) rfl dX5_takeToken_14 ?_
    refine lv_aload_n hx hb dX5_takeToken_17 rfl (lv_at hl 0 rfl) ?_
    refine va_get (D := (dC, dI)) (ci := 5) (v := .int lw) (C := RX5) (T := TX5) (N := 12) hx hb hts hiX5 hown hK hP 0 rfl rfl 7 (by decide) hL0 (fun _ h9 => h9) rfl dX5_takeToken_18 ?_
    refine vp_callSi (va_Run.run (va_runS (As := [.int lw]) (rest := [.int (nI pa)]) ⟨hx, hb, hml, hown, hts⟩ (c_X5_partsOf l dC dI cy lw) (va_cwS 1 hts gX5_takeToken_X5_partsOf rfl rfl rfl (by decide +kernel) ⟨Nat.le_of_ble_eq_true rfl, Nat.le_of_ble_eq_true rfl⟩) ⟨fun a U g mk q => q, fun U hU hW => ⟨rfl, trivial⟩⟩ rfl rfl hl.1 rfl (lv_room (Nat.le_of_ble_eq_true rfl)) dX5_takeToken_21 ⟨Nat.le_of_ble_eq_true rfl, Nat.le_of_ble_eq_true rfl⟩)) (fun r_2 hr_2 => ?_)
    rw [hr_2]
    refine bw_icmp_lt (tgt := 32) (a := ((pa : Nat) : Int)) (b := ((prt lw.toInt : Nat) : Int)) hx hb dX5_takeToken_24 (by decide) (nI_toInt (by omega)) (nI_toInt (by omega)) (fun c_3 => ?_) (fun c_3 => ?_)
    · skip
      refine lv_aload_n hx hb dX5_takeToken_32 rfl (lv_at hl 0 rfl) ?_
      refine va_get (D := (dC, dI)) (ci := 5) (v := .int lw) (C := RX5) (T := TX5) (N := 12) hx hb hts hiX5 hown hK hP 0 rfl rfl 7 (by decide) hL0 (fun _ h9 => h9) rfl dX5_takeToken_33 ?_
      refine lv_iconst (v := 4) hx hb dX5_takeToken_36 (by decide) ?_
      refine bw_icmp_ne (tgt := 47) (a := lw.toInt) (b := 4) hx hb dX5_takeToken_37 (by decide) rfl rfl (fun c_4 => ?_) (fun c_4 => ?_)
      · skip
        refine lv_aload_n hx hb dX5_takeToken_47 rfl (lv_at hl 0 rfl) ?_
        have hPc : va_P (dC, dI) vwCl [(ad 27, .inr (5, [.ref (ad 28), .int (nI rl), .int fk, .int fp, .ref (ad 1), .int (nI ts), .int (nI te), .int lw, .int (nI pa), .int rt, .int (nI tw), .int (nI tm)])), (ad 1, .inr (8, [.ref (ad 2), .int (nI tn)])), (ad 2, .inl (cy 0, 600, .inl tb)), (ad 28, .inr (4, [.ref (ad 29)])), (ad 29, .inl (cy 0, 18, .inl dt))] H := hP.sub [0, 1, 2, 3, 4] rfl
        have hDc : va_D A [(ad 27, .inr (5, [.ref (ad 28), .int (nI rl), .int fk, .int fp, .ref (ad 1), .int (nI ts), .int (nI te), .int lw, .int (nI pa), .int rt, .int (nI tw), .int (nI tm)])), (ad 1, .inr (8, [.ref (ad 2), .int (nI tn)])), (ad 2, .inl (cy 0, 600, .inl tb)), (ad 28, .inr (4, [.ref (ad 29)])), (ad 29, .inl (cy 0, 18, .inl dt))] := hD.sub [0, 1, 2, 3, 4] (by decide) rfl
        have hFc := va_free (wc := [(ad 27, .inr (5, [.ref (ad 28), .int (nI rl), .int fk, .int fp, .ref (ad 1), .int (nI ts), .int (nI te), .int lw, .int (nI pa), .int rt, .int (nI tw), .int (nI tm)])), (ad 1, .inr (8, [.ref (ad 2), .int (nI tn)])), (ad 2, .inl (cy 0, 600, .inl tb)), (ad 28, .inr (4, [.ref (ad 29)])), (ad 29, .inl (cy 0, 18, .inl dt))]) hD hS hA [0, 1, 2, 3, 4] rfl
        refine va_calli (va_runV (As := []) (rest := []) ⟨hx, hb, hml, hown, hts⟩ (c_X5_takeNumber l dC dI cy sa sv fv ad rl fk fp ts te lw pa rt tw tm tn tb dt th d H.size (by first | assumption | omega) (by first | assumption | omega) (by first | assumption | omega) (by first | assumption | omega) (by first | assumption | omega) (by first | assumption | omega) (by first | assumption | omega) (by first | assumption | omega) (by first | assumption | omega) (by first | assumption | omega) (by first | assumption | omega)) (cwV 0 hts gX5_takeToken_X5_takeNumber rfl rfl rfl (by decide +kernel) ⟨Nat.le_of_ble_eq_true rfl, Nat.le_of_ble_eq_true rfl⟩) ⟨fun a U g mk q => by obtain ⟨q0, q1, qP, qK, qD, qE, qn0⟩ := q; exact ⟨q0, q1, qP, va_K.moved (u := U) (U := U.calling g mk a) (Vm.Alike.refl U.vm) qK, qD, sW.call qE g mk a, va_Nw.same (u := U) (U := U.calling g mk a) rfl rfl qn0⟩, va_recv hK hPc (ci := 5) (q0 := 0) rfl rfl, fun U hU hW => ⟨rfl, by rw [hU], by rw [hU]; exact hPc, va_K.moved hW.alike hK, hDc.weaken (fun _ _ _ _ => trivial), ((hE.kept hS.2.1).go hW hU).narrow hFc, va_Nw.warmM hW hn0⟩⟩ rfl rfl hl.1 rfl (lv_room (Nat.le_of_ble_eq_true rfl)) dX5_takeToken_48 ⟨Nat.le_of_ble_eq_true rfl, Nat.le_of_ble_eq_true rfl⟩) hS (fun q _ h => hFc q h) hFc (fun r4 u t9 H1 locs ht hvm hw hB hz1 hk1 hS => ?_)
        obtain ⟨rl2_5, lw2_6, pa2_7, rt2_8, tw2_9, tm2_10, dt2_11, th2_12, d2_13⟩ := u
        have hr4 := hw
        try dsimp only at hr4
        obtain ⟨hP1, hK1, hD1⟩ := hB
        rw [ht] at hP1
        obtain ⟨hP, hD⟩ := va_join (wr := []) (w1 := [(ad 27, .inr (5, [.ref (ad 28), .int (nI rl2_5), .int fk, .int fp, .ref (ad 1), .int (nI ts), .int (nI te), .int lw2_6, .int (nI pa2_7), .int rt2_8, .int (nI tw2_9), .int (nI tm2_10)])), (ad 1, .inr (8, [.ref (ad 2), .int (nI tn)])), (ad 2, .inl (cy 0, 600, .inl tb)), (ad 28, .inr (4, [.ref (ad 29)])), (ad 29, .inl (cy 0, 18, .inl dt2_11))]) hP hD [0, 1, 2, 3, 4] [] rfl rfl (by decide) (by decide) hk1 hFc hP1 hD1
        generalize H1 = H at hP hS ⊢
        have hP : va_P (dC, dI) vwCl [(ad 27, .inr (5, [.ref (ad 28), .int (nI rl2_5), .int fk, .int fp, .ref (ad 1), .int (nI ts), .int (nI te), .int lw2_6, .int (nI pa2_7), .int rt2_8, .int (nI tw2_9), .int (nI tm2_10)])), (ad 1, .inr (8, [.ref (ad 2), .int (nI tn)])), (ad 2, .inl (cy 0, 600, .inl tb)), (ad 28, .inr (4, [.ref (ad 29)])), (ad 29, .inl (cy 0, 18, .inl dt2_11))] H := hP.sub [0, 1, 2, 3, 4] rfl
        have hD : va_D A [(ad 27, .inr (5, [.ref (ad 28), .int (nI rl2_5), .int fk, .int fp, .ref (ad 1), .int (nI ts), .int (nI te), .int lw2_6, .int (nI pa2_7), .int rt2_8, .int (nI tw2_9), .int (nI tm2_10)])), (ad 1, .inr (8, [.ref (ad 2), .int (nI tn)])), (ad 2, .inl (cy 0, 600, .inl tb)), (ad 28, .inr (4, [.ref (ad 29)])), (ad 29, .inl (cy 0, 18, .inl dt2_11))] := hD.sub [0, 1, 2, 3, 4] (by decide) rfl
        refine bw_Qe hQ ?_
        have hP9 : va_P (dC, dI) vwCl [(ad 27, .inr (5, [.ref (ad 28), .int (nI rl2_5), .int fk, .int fp, .ref (ad 1), .int (nI ts), .int (nI te), .int lw2_6, .int (nI pa2_7), .int rt2_8, .int (nI tw2_9), .int (nI tm2_10)])), (ad 1, .inr (8, [.ref (ad 2), .int (nI tn)])), (ad 2, .inl (cy 0, 600, .inl tb)), (ad 28, .inr (4, [.ref (ad 29)])), (ad 29, .inl (cy 0, 18, .inl dt2_11))] H := hP.sub [0, 1, 2, 3, 4] rfl
        have hD9 : va_D A [(ad 27, .inr (5, [.ref (ad 28), .int (nI rl2_5), .int fk, .int fp, .ref (ad 1), .int (nI ts), .int (nI te), .int lw2_6, .int (nI pa2_7), .int rt2_8, .int (nI tw2_9), .int (nI tm2_10)])), (ad 1, .inr (8, [.ref (ad 2), .int (nI tn)])), (ad 2, .inl (cy 0, 600, .inl tb)), (ad 28, .inr (4, [.ref (ad 29)])), (ad 29, .inl (cy 0, 18, .inl dt2_11))] := hD.sub [0, 1, 2, 3, 4] (by decide) rfl
        have hpost : tkP tb tn ts lw.toInt pa th tw tm rl d (r4 : Int32).toInt te lw2_6.toInt pa2_7 th2_12 tw2_9 tm2_10 rl2_5 d2_13 ∧ rI lw2_6.toInt pa2_7 tw2_9 tm2_10 ∧ (lw2_6.toInt = 7 → 1 ≤ pa2_7 → rt2_8 = nI th2_12 ∧ th2_12 < 8) ∧ agr dt2_11 d2_13 ∧ rgs dt2_11 := by
          first
            | exact hr3
            | exact hr4
        exact W.iret (v := r4) hx hb hr (fun t9 ht hW => ⟨⟨r4, (rl2_5, lw2_6, pa2_7, rt2_8, tw2_9, tm2_10, dt2_11, th2_12, d2_13), rfl, hpost, by rw [ht]; exact hP9, va_K.moved hW.alike hK, hD9⟩, hS.F ht⟩) hS.2.2 dX5_takeToken_51
      · skip
        refine lv_aload_n hx hb dX5_takeToken_40 rfl (lv_at hl 0 rfl) ?_
        have hPc : va_P (dC, dI) vwCl [(ad 27, .inr (5, [.ref (ad 28), .int (nI rl), .int fk, .int fp, .ref (ad 1), .int (nI ts), .int (nI te), .int lw, .int (nI pa), .int rt, .int (nI tw), .int (nI tm)])), (ad 1, .inr (8, [.ref (ad 2), .int (nI tn)])), (ad 2, .inl (cy 0, 600, .inl tb)), (ad 28, .inr (4, [.ref (ad 29)])), (ad 29, .inl (cy 0, 18, .inl dt))] H := hP.sub [0, 1, 2, 3, 4] rfl
        have hDc : va_D A [(ad 27, .inr (5, [.ref (ad 28), .int (nI rl), .int fk, .int fp, .ref (ad 1), .int (nI ts), .int (nI te), .int lw, .int (nI pa), .int rt, .int (nI tw), .int (nI tm)])), (ad 1, .inr (8, [.ref (ad 2), .int (nI tn)])), (ad 2, .inl (cy 0, 600, .inl tb)), (ad 28, .inr (4, [.ref (ad 29)])), (ad 29, .inl (cy 0, 18, .inl dt))] := hD.sub [0, 1, 2, 3, 4] (by decide) rfl
        have hFc := va_free (wc := [(ad 27, .inr (5, [.ref (ad 28), .int (nI rl), .int fk, .int fp, .ref (ad 1), .int (nI ts), .int (nI te), .int lw, .int (nI pa), .int rt, .int (nI tw), .int (nI tm)])), (ad 1, .inr (8, [.ref (ad 2), .int (nI tn)])), (ad 2, .inl (cy 0, 600, .inl tb)), (ad 28, .inr (4, [.ref (ad 29)])), (ad 29, .inl (cy 0, 18, .inl dt))]) hD hS hA [0, 1, 2, 3, 4] rfl
        refine va_calli (va_runV (As := []) (rest := []) ⟨hx, hb, hml, hown, hts⟩ (c_X5_takeYesOrNo l dC dI cy sa sv fv ad rl fk fp ts te lw pa rt tw tm tn tb dt th d H.size (by first | assumption | omega) (by first | assumption | omega) (by first | assumption | omega) (by first | assumption | omega) (by first | assumption | omega) (by first | assumption | omega) (by first | assumption | omega) (by first | assumption | omega) (by first | assumption | omega) (by first | assumption | omega) (by first | assumption | omega)) (cwV 0 hts gX5_takeToken_X5_takeYesOrNo rfl rfl rfl (by decide +kernel) ⟨Nat.le_of_ble_eq_true rfl, Nat.le_of_ble_eq_true rfl⟩) ⟨fun a U g mk q => by obtain ⟨q0, q1, qP, qK, qD, qE⟩ := q; exact ⟨q0, q1, qP, va_K.moved (u := U) (U := U.calling g mk a) (Vm.Alike.refl U.vm) qK, qD, sW.call qE g mk a⟩, va_recv hK hPc (ci := 5) (q0 := 0) rfl rfl, fun U hU hW => ⟨rfl, by rw [hU], by rw [hU]; exact hPc, va_K.moved hW.alike hK, hDc.weaken (fun _ _ _ _ => trivial), ((hE.kept hS.2.1).go hW hU).narrow hFc⟩⟩ rfl rfl hl.1 rfl (lv_room (Nat.le_of_ble_eq_true rfl)) dX5_takeToken_41 ⟨Nat.le_of_ble_eq_true rfl, Nat.le_of_ble_eq_true rfl⟩) hS (fun q _ h => hFc q h) hFc (fun r3 u t9 H1 locs ht hvm hw hB hz1 hk1 hS => ?_)
        obtain ⟨rl2_14, lw2_15, pa2_16, rt2_17, tw2_18, tm2_19, dt2_20, th2_21, d2_22⟩ := u
        have hr3 := hw
        try dsimp only at hr3
        obtain ⟨hP1, hK1, hD1⟩ := hB
        rw [ht] at hP1
        obtain ⟨hP, hD⟩ := va_join (wr := []) (w1 := [(ad 27, .inr (5, [.ref (ad 28), .int (nI rl2_14), .int fk, .int fp, .ref (ad 1), .int (nI ts), .int (nI te), .int lw2_15, .int (nI pa2_16), .int rt2_17, .int (nI tw2_18), .int (nI tm2_19)])), (ad 1, .inr (8, [.ref (ad 2), .int (nI tn)])), (ad 2, .inl (cy 0, 600, .inl tb)), (ad 28, .inr (4, [.ref (ad 29)])), (ad 29, .inl (cy 0, 18, .inl dt2_20))]) hP hD [0, 1, 2, 3, 4] [] rfl rfl (by decide) (by decide) hk1 hFc hP1 hD1
        generalize H1 = H at hP hS ⊢
        have hP : va_P (dC, dI) vwCl [(ad 27, .inr (5, [.ref (ad 28), .int (nI rl2_14), .int fk, .int fp, .ref (ad 1), .int (nI ts), .int (nI te), .int lw2_15, .int (nI pa2_16), .int rt2_17, .int (nI tw2_18), .int (nI tm2_19)])), (ad 1, .inr (8, [.ref (ad 2), .int (nI tn)])), (ad 2, .inl (cy 0, 600, .inl tb)), (ad 28, .inr (4, [.ref (ad 29)])), (ad 29, .inl (cy 0, 18, .inl dt2_20))] H := hP.sub [0, 1, 2, 3, 4] rfl
        have hD : va_D A [(ad 27, .inr (5, [.ref (ad 28), .int (nI rl2_14), .int fk, .int fp, .ref (ad 1), .int (nI ts), .int (nI te), .int lw2_15, .int (nI pa2_16), .int rt2_17, .int (nI tw2_18), .int (nI tm2_19)])), (ad 1, .inr (8, [.ref (ad 2), .int (nI tn)])), (ad 2, .inl (cy 0, 600, .inl tb)), (ad 28, .inr (4, [.ref (ad 29)])), (ad 29, .inl (cy 0, 18, .inl dt2_20))] := hD.sub [0, 1, 2, 3, 4] (by decide) rfl
        refine lv_goto (tgt := 51) hx hb dX5_takeToken_44 (by decide) ?_
        refine bw_Qe hQ ?_
        have hP9 : va_P (dC, dI) vwCl [(ad 27, .inr (5, [.ref (ad 28), .int (nI rl2_14), .int fk, .int fp, .ref (ad 1), .int (nI ts), .int (nI te), .int lw2_15, .int (nI pa2_16), .int rt2_17, .int (nI tw2_18), .int (nI tm2_19)])), (ad 1, .inr (8, [.ref (ad 2), .int (nI tn)])), (ad 2, .inl (cy 0, 600, .inl tb)), (ad 28, .inr (4, [.ref (ad 29)])), (ad 29, .inl (cy 0, 18, .inl dt2_20))] H := hP.sub [0, 1, 2, 3, 4] rfl
        have hD9 : va_D A [(ad 27, .inr (5, [.ref (ad 28), .int (nI rl2_14), .int fk, .int fp, .ref (ad 1), .int (nI ts), .int (nI te), .int lw2_15, .int (nI pa2_16), .int rt2_17, .int (nI tw2_18), .int (nI tm2_19)])), (ad 1, .inr (8, [.ref (ad 2), .int (nI tn)])), (ad 2, .inl (cy 0, 600, .inl tb)), (ad 28, .inr (4, [.ref (ad 29)])), (ad 29, .inl (cy 0, 18, .inl dt2_20))] := hD.sub [0, 1, 2, 3, 4] (by decide) rfl
        have hpost : tkP tb tn ts lw.toInt pa th tw tm rl d (r3 : Int32).toInt te lw2_15.toInt pa2_16 th2_21 tw2_18 tm2_19 rl2_14 d2_22 ∧ rI lw2_15.toInt pa2_16 tw2_18 tm2_19 ∧ (lw2_15.toInt = 7 → 1 ≤ pa2_16 → rt2_17 = nI th2_21 ∧ th2_21 < 8) ∧ agr dt2_20 d2_22 ∧ rgs dt2_20 := by
          first
            | exact hr3
            | exact hr4
        exact W.iret (v := r3) hx hb hr (fun t9 ht hW => ⟨⟨r3, (rl2_14, lw2_15, pa2_16, rt2_17, tw2_18, tm2_19, dt2_20, th2_21, d2_22), rfl, hpost, by rw [ht]; exact hP9, va_K.moved hW.alike hK, hD9⟩, hS.F ht⟩) hS.2.2 dX5_takeToken_51
    · skip
      refine lv_aload_n hx hb dX5_takeToken_27 rfl (lv_at hl 0 rfl) ?_
      have hPc : va_P (dC, dI) vwCl [(ad 27, .inr (5, [.ref (ad 28), .int (nI rl), .int fk, .int fp, .ref (ad 1), .int (nI ts), .int (nI te), .int lw, .int (nI pa), .int rt, .int (nI tw), .int (nI tm)])), (ad 1, .inr (8, [.ref (ad 2), .int (nI tn)])), (ad 2, .inl (cy 0, 600, .inl tb)), (ad 28, .inr (4, [.ref (ad 29)])), (ad 29, .inl (cy 0, 18, .inl dt))] H := hP.sub [0, 1, 2, 3, 4] rfl
      have hDc : va_D A [(ad 27, .inr (5, [.ref (ad 28), .int (nI rl), .int fk, .int fp, .ref (ad 1), .int (nI ts), .int (nI te), .int lw, .int (nI pa), .int rt, .int (nI tw), .int (nI tm)])), (ad 1, .inr (8, [.ref (ad 2), .int (nI tn)])), (ad 2, .inl (cy 0, 600, .inl tb)), (ad 28, .inr (4, [.ref (ad 29)])), (ad 29, .inl (cy 0, 18, .inl dt))] := hD.sub [0, 1, 2, 3, 4] (by decide) rfl
      have hFc := va_free (wc := [(ad 27, .inr (5, [.ref (ad 28), .int (nI rl), .int fk, .int fp, .ref (ad 1), .int (nI ts), .int (nI te), .int lw, .int (nI pa), .int rt, .int (nI tw), .int (nI tm)])), (ad 1, .inr (8, [.ref (ad 2), .int (nI tn)])), (ad 2, .inl (cy 0, 600, .inl tb)), (ad 28, .inr (4, [.ref (ad 29)])), (ad 29, .inl (cy 0, 18, .inl dt))]) hD hS hA [0, 1, 2, 3, 4] rfl
      refine va_calli (va_runV (As := []) (rest := []) ⟨hx, hb, hml, hown, hts⟩ (c_X5_takeLineEnd l dC dI cy sa sv fv ad rl fk fp ts te lw pa rt tw tm tn tb dt th d H.size (by first | assumption | omega) (by first | assumption | omega) (by first | assumption | omega) (by first | assumption | omega) (by first | assumption | omega) (by first | assumption | omega) (by first | assumption | omega) (by first | assumption | omega) (by first | assumption | omega) (by first | assumption | omega)) (cwV 0 hts gX5_takeToken_X5_takeLineEnd rfl rfl rfl (by decide +kernel) ⟨Nat.le_of_ble_eq_true rfl, Nat.le_of_ble_eq_true rfl⟩) ⟨fun a U g mk q => by obtain ⟨q0, q1, qP, qK, qD, qE⟩ := q; exact ⟨q0, q1, qP, va_K.moved (u := U) (U := U.calling g mk a) (Vm.Alike.refl U.vm) qK, qD, sW.call qE g mk a⟩, va_recv hK hPc (ci := 5) (q0 := 0) rfl rfl, fun U hU hW => ⟨rfl, by rw [hU], by rw [hU]; exact hPc, va_K.moved hW.alike hK, hDc.weaken (fun _ _ _ _ => trivial), ((hE.kept hS.2.1).go hW hU).narrow hFc⟩⟩ rfl rfl hl.1 rfl (lv_room (Nat.le_of_ble_eq_true rfl)) dX5_takeToken_28 ⟨Nat.le_of_ble_eq_true rfl, Nat.le_of_ble_eq_true rfl⟩) hS (fun q _ h => hFc q h) hFc (fun r2 u t9 H1 locs ht hvm hw hB hz1 hk1 hS => ?_)
      obtain ⟨rl2_23, lw2_24, pa2_25, rt2_26, tw2_27, tm2_28, dt2_29, th2_30, d2_31⟩ := u
      have hr2 := hw
      try dsimp only at hr2
      obtain ⟨hP1, hK1, hD1⟩ := hB
      rw [ht] at hP1
      obtain ⟨hP, hD⟩ := va_join (wr := []) (w1 := [(ad 27, .inr (5, [.ref (ad 28), .int (nI rl2_23), .int fk, .int fp, .ref (ad 1), .int (nI ts), .int (nI te), .int lw2_24, .int (nI pa2_25), .int rt2_26, .int (nI tw2_27), .int (nI tm2_28)])), (ad 1, .inr (8, [.ref (ad 2), .int (nI tn)])), (ad 2, .inl (cy 0, 600, .inl tb)), (ad 28, .inr (4, [.ref (ad 29)])), (ad 29, .inl (cy 0, 18, .inl dt2_29))]) hP hD [0, 1, 2, 3, 4] [] rfl rfl (by decide) (by decide) hk1 hFc hP1 hD1
      generalize H1 = H at hP hS ⊢
      have hP : va_P (dC, dI) vwCl [(ad 27, .inr (5, [.ref (ad 28), .int (nI rl2_23), .int fk, .int fp, .ref (ad 1), .int (nI ts), .int (nI te), .int lw2_24, .int (nI pa2_25), .int rt2_26, .int (nI tw2_27), .int (nI tm2_28)])), (ad 1, .inr (8, [.ref (ad 2), .int (nI tn)])), (ad 2, .inl (cy 0, 600, .inl tb)), (ad 28, .inr (4, [.ref (ad 29)])), (ad 29, .inl (cy 0, 18, .inl dt2_29))] H := hP.sub [0, 1, 2, 3, 4] rfl
      have hD : va_D A [(ad 27, .inr (5, [.ref (ad 28), .int (nI rl2_23), .int fk, .int fp, .ref (ad 1), .int (nI ts), .int (nI te), .int lw2_24, .int (nI pa2_25), .int rt2_26, .int (nI tw2_27), .int (nI tm2_28)])), (ad 1, .inr (8, [.ref (ad 2), .int (nI tn)])), (ad 2, .inl (cy 0, 600, .inl tb)), (ad 28, .inr (4, [.ref (ad 29)])), (ad 29, .inl (cy 0, 18, .inl dt2_29))] := hD.sub [0, 1, 2, 3, 4] (by decide) rfl
      refine bw_Qe hQ ?_
      have hP9 : va_P (dC, dI) vwCl [(ad 27, .inr (5, [.ref (ad 28), .int (nI rl2_23), .int fk, .int fp, .ref (ad 1), .int (nI ts), .int (nI te), .int lw2_24, .int (nI pa2_25), .int rt2_26, .int (nI tw2_27), .int (nI tm2_28)])), (ad 1, .inr (8, [.ref (ad 2), .int (nI tn)])), (ad 2, .inl (cy 0, 600, .inl tb)), (ad 28, .inr (4, [.ref (ad 29)])), (ad 29, .inl (cy 0, 18, .inl dt2_29))] H := hP.sub [0, 1, 2, 3, 4] rfl
      have hD9 : va_D A [(ad 27, .inr (5, [.ref (ad 28), .int (nI rl2_23), .int fk, .int fp, .ref (ad 1), .int (nI ts), .int (nI te), .int lw2_24, .int (nI pa2_25), .int rt2_26, .int (nI tw2_27), .int (nI tm2_28)])), (ad 1, .inr (8, [.ref (ad 2), .int (nI tn)])), (ad 2, .inl (cy 0, 600, .inl tb)), (ad 28, .inr (4, [.ref (ad 29)])), (ad 29, .inl (cy 0, 18, .inl dt2_29))] := hD.sub [0, 1, 2, 3, 4] (by decide) rfl
      have hpost : tkP tb tn ts lw.toInt pa th tw tm rl d (r2 : Int32).toInt te lw2_24.toInt pa2_25 th2_30 tw2_27 tm2_28 rl2_23 d2_31 ∧ rI lw2_24.toInt pa2_25 tw2_27 tm2_28 ∧ (lw2_24.toInt = 7 → 1 ≤ pa2_25 → rt2_26 = nI th2_30 ∧ th2_30 < 8) ∧ agr dt2_29 d2_31 ∧ rgs dt2_29 := by
        exact hr2
      exact W.iret (v := r2) hx hb hr (fun t9 ht hW => ⟨⟨r2, (rl2_23, lw2_24, pa2_25, rt2_26, tw2_27, tm2_28, dt2_29, th2_30, d2_31), rfl, hpost, by rw [ht]; exact hP9, va_K.moved hW.alike hK, hD9⟩, hS.F ht⟩) hS.2.2 dX5_takeToken_31
  · skip
    refine lv_aload_n hx hb dX5_takeToken_8 rfl (lv_at hl 0 rfl) ?_
    have hPc : va_P (dC, dI) vwCl [(ad 27, .inr (5, [.ref (ad 28), .int (nI rl), .int fk, .int fp, .ref (ad 1), .int (nI ts), .int (nI te), .int lw, .int (nI pa), .int rt, .int (nI tw), .int (nI tm)])), (ad 1, .inr (8, [.ref (ad 2), .int (nI tn)])), (ad 2, .inl (cy 0, 600, .inl tb)), (ad 28, .inr (4, [.ref (ad 29)])), (ad 29, .inl (cy 0, 18, .inl dt))] H := hP.sub [0, 1, 2, 3, 4] rfl
    have hDc : va_D A [(ad 27, .inr (5, [.ref (ad 28), .int (nI rl), .int fk, .int fp, .ref (ad 1), .int (nI ts), .int (nI te), .int lw, .int (nI pa), .int rt, .int (nI tw), .int (nI tm)])), (ad 1, .inr (8, [.ref (ad 2), .int (nI tn)])), (ad 2, .inl (cy 0, 600, .inl tb)), (ad 28, .inr (4, [.ref (ad 29)])), (ad 29, .inl (cy 0, 18, .inl dt))] := hD.sub [0, 1, 2, 3, 4] (by decide) rfl
    have hFc := va_free (wc := [(ad 27, .inr (5, [.ref (ad 28), .int (nI rl), .int fk, .int fp, .ref (ad 1), .int (nI ts), .int (nI te), .int lw, .int (nI pa), .int rt, .int (nI tw), .int (nI tm)])), (ad 1, .inr (8, [.ref (ad 2), .int (nI tn)])), (ad 2, .inl (cy 0, 600, .inl tb)), (ad 28, .inr (4, [.ref (ad 29)])), (ad 29, .inl (cy 0, 18, .inl dt))]) hD hS hA [0, 1, 2, 3, 4] rfl
    refine va_calli (va_runV (As := []) (rest := []) ⟨hx, hb, hml, hown, hts⟩ (c_X5_takeLineWord l dC dI cy sa sv fv ad rl fk fp ts te lw pa rt tw tm tn tb dt th d H.size (by first | assumption | omega) (by first | assumption | omega) (by first | assumption | omega) (by first | assumption | omega) (by first | assumption | omega) (by first | assumption | omega) (by first | assumption | omega) (by first | assumption | omega) (by first | assumption | omega)) (cwV 0 hts gX5_takeToken_X5_takeLineWord rfl rfl rfl (by decide +kernel) ⟨Nat.le_of_ble_eq_true rfl, Nat.le_of_ble_eq_true rfl⟩) ⟨fun a U g mk q => by obtain ⟨q0, q1, qP, qK, qD, qE⟩ := q; exact ⟨q0, q1, qP, va_K.moved (u := U) (U := U.calling g mk a) (Vm.Alike.refl U.vm) qK, qD, sW.call qE g mk a⟩, va_recv hK hPc (ci := 5) (q0 := 0) rfl rfl, fun U hU hW => ⟨rfl, by rw [hU], by rw [hU]; exact hPc, va_K.moved hW.alike hK, hDc.weaken (fun _ _ _ _ => trivial), ((hE.kept hS.2.1).go hW hU).narrow hFc⟩⟩ rfl rfl hl.1 rfl (lv_room (Nat.le_of_ble_eq_true rfl)) dX5_takeToken_9 ⟨Nat.le_of_ble_eq_true rfl, Nat.le_of_ble_eq_true rfl⟩) hS (fun q _ h => hFc q h) hFc (fun r1 u t9 H1 locs ht hvm hw hB hz1 hk1 hS => ?_)
    obtain ⟨rl2_32, lw2_33, pa2_34, rt2_35, tw2_36, tm2_37, dt2_38, th2_39, d2_40⟩ := u
    have hr1 := hw
    try dsimp only at hr1
    obtain ⟨hP1, hK1, hD1⟩ := hB
    rw [ht] at hP1
    obtain ⟨hP, hD⟩ := va_join (wr := []) (w1 := [(ad 27, .inr (5, [.ref (ad 28), .int (nI rl2_32), .int fk, .int fp, .ref (ad 1), .int (nI ts), .int (nI te), .int lw2_33, .int (nI pa2_34), .int rt2_35, .int (nI tw2_36), .int (nI tm2_37)])), (ad 1, .inr (8, [.ref (ad 2), .int (nI tn)])), (ad 2, .inl (cy 0, 600, .inl tb)), (ad 28, .inr (4, [.ref (ad 29)])), (ad 29, .inl (cy 0, 18, .inl dt2_38))]) hP hD [0, 1, 2, 3, 4] [] rfl rfl (by decide) (by decide) hk1 hFc hP1 hD1
    generalize H1 = H at hP hS ⊢
    have hP : va_P (dC, dI) vwCl [(ad 27, .inr (5, [.ref (ad 28), .int (nI rl2_32), .int fk, .int fp, .ref (ad 1), .int (nI ts), .int (nI te), .int lw2_33, .int (nI pa2_34), .int rt2_35, .int (nI tw2_36), .int (nI tm2_37)])), (ad 1, .inr (8, [.ref (ad 2), .int (nI tn)])), (ad 2, .inl (cy 0, 600, .inl tb)), (ad 28, .inr (4, [.ref (ad 29)])), (ad 29, .inl (cy 0, 18, .inl dt2_38))] H := hP.sub [0, 1, 2, 3, 4] rfl
    have hD : va_D A [(ad 27, .inr (5, [.ref (ad 28), .int (nI rl2_32), .int fk, .int fp, .ref (ad 1), .int (nI ts), .int (nI te), .int lw2_33, .int (nI pa2_34), .int rt2_35, .int (nI tw2_36), .int (nI tm2_37)])), (ad 1, .inr (8, [.ref (ad 2), .int (nI tn)])), (ad 2, .inl (cy 0, 600, .inl tb)), (ad 28, .inr (4, [.ref (ad 29)])), (ad 29, .inl (cy 0, 18, .inl dt2_38))] := hD.sub [0, 1, 2, 3, 4] (by decide) rfl
    refine bw_Qe hQ ?_
    have hP9 : va_P (dC, dI) vwCl [(ad 27, .inr (5, [.ref (ad 28), .int (nI rl2_32), .int fk, .int fp, .ref (ad 1), .int (nI ts), .int (nI te), .int lw2_33, .int (nI pa2_34), .int rt2_35, .int (nI tw2_36), .int (nI tm2_37)])), (ad 1, .inr (8, [.ref (ad 2), .int (nI tn)])), (ad 2, .inl (cy 0, 600, .inl tb)), (ad 28, .inr (4, [.ref (ad 29)])), (ad 29, .inl (cy 0, 18, .inl dt2_38))] H := hP.sub [0, 1, 2, 3, 4] rfl
    have hD9 : va_D A [(ad 27, .inr (5, [.ref (ad 28), .int (nI rl2_32), .int fk, .int fp, .ref (ad 1), .int (nI ts), .int (nI te), .int lw2_33, .int (nI pa2_34), .int rt2_35, .int (nI tw2_36), .int (nI tm2_37)])), (ad 1, .inr (8, [.ref (ad 2), .int (nI tn)])), (ad 2, .inl (cy 0, 600, .inl tb)), (ad 28, .inr (4, [.ref (ad 29)])), (ad 29, .inl (cy 0, 18, .inl dt2_38))] := hD.sub [0, 1, 2, 3, 4] (by decide) rfl
    have hpost : tkP tb tn ts lw.toInt pa th tw tm rl d (r1 : Int32).toInt te lw2_33.toInt pa2_34 th2_39 tw2_36 tm2_37 rl2_32 d2_40 ∧ rI lw2_33.toInt pa2_34 tw2_36 tm2_37 ∧ (lw2_33.toInt = 7 → 1 ≤ pa2_34 → rt2_35 = nI th2_39 ∧ th2_39 < 8) ∧ agr dt2_38 d2_40 ∧ rgs dt2_38 := by
      exact hr1
    exact W.iret (v := r1) hx hb hr (fun t9 ht hW => ⟨⟨r1, (rl2_32, lw2_33, pa2_34, rt2_35, tw2_36, tm2_37, dt2_38, th2_39, d2_40), rfl, hpost, by rw [ht]; exact hP9, va_K.moved hW.alike hK, hD9⟩, hS.F ht⟩) hS.2.2 dX5_takeToken_12

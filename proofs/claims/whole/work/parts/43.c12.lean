theorem rgs_agr {f g : Nat → Int32} (h : agr f g) (hg : rgs g) : rgs f := by
  unfold rgs at hg ⊢
  rw [h 5 (by omega) (by omega) (by omega), h 6 (by omega) (by omega) (by omega), h 7 (by omega) (by omega) (by omega)]
  exact hg
set_option maxHeartbeats 4000000 in
set_option maxRecDepth 100000 in
theorem c_X4_tellNothing (l : Launch) (dC : Nat → ClassId) (dI : Nat → Nat → Nat) (cy : Nat → ClassId) (qa : Nat) (qb : Nat) (f : Nat → Int32) (sz : Nat)  : Met l yX4_tellNothing wsX4_tellNothing ({ frames := 0, cells := 0, slots := 0, locals := 0 }) (va_Pc [.ref qa] (fun U => U.heap.size = sz ∧ va_P (dC, dI) vwCl [(qa, .inr (4, [.ref qb])), (qb, .inl (cy 0, 18, .inl f))] U.heap ∧ va_K (dC, dI) vwCl (tyL cy) U ∧ va_D (fun _ => True) [(qa, .inr (4, [.ref qb])), (qb, .inl (cy 0, 18, .inl f))])) (va_Qv (S := (Nat → Int32)) (fun f2 => agr f2 dPl) (fun f2 => fun t => va_P (dC, dI) vwCl [(qa, .inr (4, [.ref qb])), (qb, .inl (cy 0, 18, .inl f2))] t.heap ∧ va_K (dC, dI) vwCl (tyL cy) t ∧ va_D (va_A [(qa, .inr (4, [.ref qb])), (qb, .inl (cy 0, 18, .inl f))] sz) [(qa, .inr (4, [.ref qb])), (qb, .inl (cy 0, 18, .inl f2))]) (va_A [(qa, .inr (4, [.ref qb])), (qb, .inl (cy 0, 18, .inl f))] sz)) 0 0 (va_A [(qa, .inr (4, [.ref qb])), (qb, .inl (cy 0, 18, .inl f))] sz) := by
  refine Met.ofW (cc := cX4_tellNothing) (maxL := 2) (ret := none) (by decide) rfl ?_
  intro pp ee ss mm args below meth cc0 s₁ B hml hv
  obtain ⟨rfl, hsz, hP, hK, hD0⟩ := hv
  have hx := B.exec
  have hb := B.bytes
  have hr := B.returns
  have hts := atoms_spec (ws := wsX4_tellNothing) B.pre
  have hown : ss.vm.findClass RX4 = some mm.cls := findClass_of_methodNamed B.named
  have hlocks := B.notSynchronized
  have hL0 := hts (.fieldLink RX4 9 "HereLived$RuleBook" "told" "[I") (by decide +kernel)
  have hiX4 : ∀ w ∈ wsX40, w ∈ wsX4_tellNothing := by decide +kernel
  subst hsz
  have hD := hD0.self (sz := ss.heap.size)
  generalize hAe : va_A [(qa, .inr (4, [.ref qb])), (qb, .inl (cy 0, 18, .inl f))] ss.heap.size = A at hD ⊢
  have hA : ∀ q : Nat, ss.heap.size ≤ q → A q := fun q h => by rw [← hAe]; exact Or.inr h
  have hS : va_S A ss.heap ss.heap [] := va_S.rf
  have hP : va_P (dC, dI) vwCl [(qa, .inr (4, [.ref qb])), (qb, .inl (cy 0, 18, .inl f))] ss.heap := hP
  have hl := lv_entry ([.ref qa]) (n := 2) (Nat.le_of_ble_eq_true rfl)
  rw [lg_entry_eq]
  generalize (lg_sl ([.ref qa]) ++ List.replicate (2 - (lg_sl ([.ref qa])).length) Slot.unset).toArray = ls at hl ⊢
  have hl : lv_has ls 2 [(0, .ref qa)] := hl
  refine bw_Q (fun Q hQ => ?_)
  refine bw_H0 (fun H locs eH eL => ?_)
  have hS : va_S A ss.heap H locs := by rw [eH, eL]; exact hS
  have hP : va_P (dC, dI) vwCl [(qa, .inr (4, [.ref qb])), (qb, .inl (cy 0, 18, .inl f))] H := by rw [eH]; exact hP
  change W pp l ee { frames := 0, cells := 0, slots := 0, locals := 0 } ss mm _ below meth cc0 H locs 0 0 Q (F0 mm 0 ls [])
  refine lv_aload_n hx hb dX4_tellNothing_0 rfl (lv_at hl 0 rfl) ?_
  refine va_get (D := (dC, dI)) (ci := 4) (v := .ref qb) (C := RX4) (T := TX4) (N := 1) hx hb hts hiX4 hown hK hP 0 rfl rfl 0 (by decide) hL0 (fun _ h9 => h9) rfl dX4_tellNothing_1 ?_
  refine lv_iconst (v := 0) hx hb dX4_tellNothing_4 (by decide) ?_
  refine lv_bipush (v := 20) hx hb dX4_tellNothing_5 (by decide) ?_
  refine bw_iast hx hb hK hP hD hS 1 0 rfl rfl (j := 0) rfl (by omega) dX4_tellNothing_7 (fun H locs hP hD hS => ?_)
  have hP : va_P (dC, dI) vwCl [(qa, .inr (4, [.ref qb])), (qb, .inl (cy 0, 18, .inl (upd f 0 20)))] H := hP
  have hD : va_D A [(qa, .inr (4, [.ref qb])), (qb, .inl (cy 0, 18, .inl (upd f 0 20)))] := hD
  refine lv_aload_n hx hb dX4_tellNothing_8 rfl (lv_at hl 0 rfl) ?_
  refine va_get (D := (dC, dI)) (ci := 4) (v := .ref qb) (C := RX4) (T := TX4) (N := 1) hx hb hts hiX4 hown hK hP 0 rfl rfl 0 (by decide) hL0 (fun _ h9 => h9) rfl dX4_tellNothing_9 ?_
  refine lv_iconst (v := 1) hx hb dX4_tellNothing_12 (by decide) ?_
  refine lv_iconst (v := 1) hx hb dX4_tellNothing_13 (by decide) ?_
  refine bw_iast hx hb hK hP hD hS 1 0 rfl rfl (j := 1) rfl (by omega) dX4_tellNothing_14 (fun H locs hP hD hS => ?_)
  have hP : va_P (dC, dI) vwCl [(qa, .inr (4, [.ref qb])), (qb, .inl (cy 0, 18, .inl (upd (upd f 0 20) 1 1)))] H := hP
  have hD : va_D A [(qa, .inr (4, [.ref qb])), (qb, .inl (cy 0, 18, .inl (upd (upd f 0 20) 1 1)))] := hD
  refine lv_aload_n hx hb dX4_tellNothing_15 rfl (lv_at hl 0 rfl) ?_
  refine va_get (D := (dC, dI)) (ci := 4) (v := .ref qb) (C := RX4) (T := TX4) (N := 1) hx hb hts hiX4 hown hK hP 0 rfl rfl 0 (by decide) hL0 (fun _ h9 => h9) rfl dX4_tellNothing_16 ?_
  refine lv_iconst (v := 2) hx hb dX4_tellNothing_19 (by decide) ?_
  refine lv_iconst (v := 1) hx hb dX4_tellNothing_20 (by decide) ?_
  refine bw_iast hx hb hK hP hD hS 1 0 rfl rfl (j := 2) rfl (by omega) dX4_tellNothing_21 (fun H locs hP hD hS => ?_)
  have hP : va_P (dC, dI) vwCl [(qa, .inr (4, [.ref qb])), (qb, .inl (cy 0, 18, .inl (upd (upd (upd f 0 20) 1 1) 2 1)))] H := hP
  have hD : va_D A [(qa, .inr (4, [.ref qb])), (qb, .inl (cy 0, 18, .inl (upd (upd (upd f 0 20) 1 1) 2 1)))] := hD
  refine lv_aload_n hx hb dX4_tellNothing_22 rfl (lv_at hl 0 rfl) ?_
  refine va_get (D := (dC, dI)) (ci := 4) (v := .ref qb) (C := RX4) (T := TX4) (N := 1) hx hb hts hiX4 hown hK hP 0 rfl rfl 0 (by decide) hL0 (fun _ h9 => h9) rfl dX4_tellNothing_23 ?_
  refine lv_iconst (v := 3) hx hb dX4_tellNothing_26 (by decide) ?_
  refine lv_sipush (v := 999) hx hb dX4_tellNothing_27 (by decide) ?_
  refine bw_iast hx hb hK hP hD hS 1 0 rfl rfl (j := 3) rfl (by omega) dX4_tellNothing_30 (fun H locs hP hD hS => ?_)
  have hP : va_P (dC, dI) vwCl [(qa, .inr (4, [.ref qb])), (qb, .inl (cy 0, 18, .inl (upd (upd (upd (upd f 0 20) 1 1) 2 1) 3 999)))] H := hP
  have hD : va_D A [(qa, .inr (4, [.ref qb])), (qb, .inl (cy 0, 18, .inl (upd (upd (upd (upd f 0 20) 1 1) 2 1) 3 999)))] := hD
  refine lv_aload_n hx hb dX4_tellNothing_31 rfl (lv_at hl 0 rfl) ?_
  refine va_get (D := (dC, dI)) (ci := 4) (v := .ref qb) (C := RX4) (T := TX4) (N := 1) hx hb hts hiX4 hown hK hP 0 rfl rfl 0 (by decide) hL0 (fun _ h9 => h9) rfl dX4_tellNothing_32 ?_
  refine lv_iconst (v := 4) hx hb dX4_tellNothing_35 (by decide) ?_
  refine lv_iconst (v := 1) hx hb dX4_tellNothing_36 (by decide) ?_
  refine bw_iast hx hb hK hP hD hS 1 0 rfl rfl (j := 4) rfl (by omega) dX4_tellNothing_37 (fun H locs hP hD hS => ?_)
  have hP : va_P (dC, dI) vwCl [(qa, .inr (4, [.ref qb])), (qb, .inl (cy 0, 18, .inl (upd (upd (upd (upd (upd f 0 20) 1 1) 2 1) 3 999) 4 1)))] H := hP
  have hD : va_D A [(qa, .inr (4, [.ref qb])), (qb, .inl (cy 0, 18, .inl (upd (upd (upd (upd (upd f 0 20) 1 1) 2 1) 3 999) 4 1)))] := hD
  refine lv_aload_n hx hb dX4_tellNothing_38 rfl (lv_at hl 0 rfl) ?_
  refine va_get (D := (dC, dI)) (ci := 4) (v := .ref qb) (C := RX4) (T := TX4) (N := 1) hx hb hts hiX4 hown hK hP 0 rfl rfl 0 (by decide) hL0 (fun _ h9 => h9) rfl dX4_tellNothing_39 ?_
  refine lv_iconst (v := 5) hx hb dX4_tellNothing_42 (by decide) ?_
  refine lv_iconst (v := 3) hx hb dX4_tellNothing_43 (by decide) ?_
  refine bw_iast hx hb hK hP hD hS 1 0 rfl rfl (j := 5) rfl (by omega) dX4_tellNothing_44 (fun H locs hP hD hS => ?_)
  have hP : va_P (dC, dI) vwCl [(qa, .inr (4, [.ref qb])), (qb, .inl (cy 0, 18, .inl (upd (upd (upd (upd (upd (upd f 0 20) 1 1) 2 1) 3 999) 4 1) 5 3)))] H := hP
  have hD : va_D A [(qa, .inr (4, [.ref qb])), (qb, .inl (cy 0, 18, .inl (upd (upd (upd (upd (upd (upd f 0 20) 1 1) 2 1) 3 999) 4 1) 5 3)))] := hD
  refine lv_aload_n hx hb dX4_tellNothing_45 rfl (lv_at hl 0 rfl) ?_
  refine va_get (D := (dC, dI)) (ci := 4) (v := .ref qb) (C := RX4) (T := TX4) (N := 1) hx hb hts hiX4 hown hK hP 0 rfl rfl 0 (by decide) hL0 (fun _ h9 => h9) rfl dX4_tellNothing_46 ?_
  refine lv_bipush (v := 6) hx hb dX4_tellNothing_49 (by decide) ?_
  refine lv_bipush (v := 50) hx hb dX4_tellNothing_51 (by decide) ?_
  refine bw_iast hx hb hK hP hD hS 1 0 rfl rfl (j := 6) rfl (by omega) dX4_tellNothing_53 (fun H locs hP hD hS => ?_)
  have hP : va_P (dC, dI) vwCl [(qa, .inr (4, [.ref qb])), (qb, .inl (cy 0, 18, .inl (upd (upd (upd (upd (upd (upd (upd f 0 20) 1 1) 2 1) 3 999) 4 1) 5 3) 6 50)))] H := hP
  have hD : va_D A [(qa, .inr (4, [.ref qb])), (qb, .inl (cy 0, 18, .inl (upd (upd (upd (upd (upd (upd (upd f 0 20) 1 1) 2 1) 3 999) 4 1) 5 3) 6 50)))] := hD
  refine lv_aload_n hx hb dX4_tellNothing_54 rfl (lv_at hl 0 rfl) ?_
  refine va_get (D := (dC, dI)) (ci := 4) (v := .ref qb) (C := RX4) (T := TX4) (N := 1) hx hb hts hiX4 hown hK hP 0 rfl rfl 0 (by decide) hL0 (fun _ h9 => h9) rfl dX4_tellNothing_55 ?_
  refine lv_bipush (v := 7) hx hb dX4_tellNothing_58 (by decide) ?_
  refine lv_bipush (v := 66) hx hb dX4_tellNothing_60 (by decide) ?_
  refine bw_iast hx hb hK hP hD hS 1 0 rfl rfl (j := 7) rfl (by omega) dX4_tellNothing_62 (fun H locs hP hD hS => ?_)
  have hP : va_P (dC, dI) vwCl [(qa, .inr (4, [.ref qb])), (qb, .inl (cy 0, 18, .inl (upd (upd (upd (upd (upd (upd (upd (upd f 0 20) 1 1) 2 1) 3 999) 4 1) 5 3) 6 50) 7 66)))] H := hP
  have hD : va_D A [(qa, .inr (4, [.ref qb])), (qb, .inl (cy 0, 18, .inl (upd (upd (upd (upd (upd (upd (upd (upd f 0 20) 1 1) 2 1) 3 999) 4 1) 5 3) 6 50) 7 66)))] := hD
  refine lv_iconst (v := 0) hx hb dX4_tellNothing_63 (by decide) ?_
  refine lv_istore_n (lv' := [(1, .int 0), (0, .ref qa)]) hx hb dX4_tellNothing_64 rfl hl (by decide) rfl (fun ls hl => ?_)
  have L_65 : ∀ (n9 : Nat), ∀ (t : Nat) (g : Nat → Int32), (8 - t) < n9 → (t ≤ 8) → (g 0 = 20 ∧ g 1 = 1 ∧ g 2 = 1 ∧ g 3 = 999 ∧ g 4 = 1 ∧ g 5 = 3 ∧ g 6 = 50 ∧ g 7 = 66) → (plP g t) → ∀ (H : Heap) (locs : List Loc), va_P (dC, dI) vwCl [(qa, .inr (4, [.ref qb])), (qb, .inl (cy 0, 18, .inl g))] H → va_D A [(qa, .inr (4, [.ref qb])), (qb, .inl (cy 0, 18, .inl g))] → va_S A ss.heap H locs → ∀ (ls : Array Slot), lv_has ls 2 [(0, .ref qa), (1, .int (nI t))] → W pp l ee { frames := 0, cells := 0, slots := 0, locals := 0 } ss mm (List.toArray [Value.ref qa]) below meth cc0 H locs 0 0 Q (F0 mm 65 ls []) := by
    intro n9
    induction n9 with
    | zero => intro t g hm9; exact absurd hm9 (Nat.not_lt_zero _)
    | succ n9 ih65 =>
      intro t g hm65 ht8 hg hp
      intro H locs hP hD hS
      intro ls hl
      refine lv_iload_n hx hb dX4_tellNothing_65 rfl (lv_at hl 1 rfl) ?_
      refine lv_bipush (v := 7) hx hb dX4_tellNothing_66 (by decide) ?_
      refine bw_icmp_gt (tgt := 87) (a := ((t : Nat) : Int)) (b := 7) hx hb dX4_tellNothing_68 (by decide) (nI_toInt (by omega)) rfl (fun c_1 => ?_) (fun c_1 => ?_)
      · skip
        refine bw_Qe hQ ?_
        have hP9 : va_P (dC, dI) vwCl [(qa, .inr (4, [.ref qb])), (qb, .inl (cy 0, 18, .inl g))] H := hP.sub [0, 1] rfl
        have hD9 : va_D A [(qa, .inr (4, [.ref qb])), (qb, .inl (cy 0, 18, .inl g))] := hD.sub [0, 1] (by decide) rfl
        have hpost : agr g dPl := by
          have e9 : t = 8 := by omega
          rw [e9] at hp
          obtain ⟨g0, g1, g2, g3, g4, g5, g6, g7⟩ := hg
          exact agr_pl g0 g1 g2 g3 g4 g5 g6 g7 hp
        exact W.vret hx hb hr (fun t9 ht hW => ⟨⟨g, rfl, hpost, by rw [ht]; exact hP9, va_K.moved hW.alike hK, hD9⟩, hS.F ht⟩) hS.2.2 dX4_tellNothing_87
      · skip
        refine lv_aload_n hx hb dX4_tellNothing_71 rfl (lv_at hl 0 rfl) ?_
        refine va_get (D := (dC, dI)) (ci := 4) (v := .ref qb) (C := RX4) (T := TX4) (N := 1) hx hb hts hiX4 hown hK hP 0 rfl rfl 0 (by decide) hL0 (fun _ h9 => h9) rfl dX4_tellNothing_72 ?_
        refine lv_bipush (v := 10) hx hb dX4_tellNothing_75 (by decide) ?_
        refine lv_iload_n hx hb dX4_tellNothing_77 rfl (lv_at hl 1 rfl) ?_
        refine lv_iadd hx hb dX4_tellNothing_78 ?_
        refine bw_re (show 10 + (nI t) = nI (10 + t) from nI_add (10) (t)) ?_
        refine lv_iconst (v := (-1)) hx hb dX4_tellNothing_79 (by decide) ?_
        refine bw_iast hx hb hK hP hD hS 1 0 rfl rfl (j := (10 + t)) (nI_toInt (by omega)) (by omega) dX4_tellNothing_80 (fun H locs hP hD hS => ?_)
        have hP : va_P (dC, dI) vwCl [(qa, .inr (4, [.ref qb])), (qb, .inl (cy 0, 18, .inl (upd g (10 + t) (-1))))] H := hP
        have hD : va_D A [(qa, .inr (4, [.ref qb])), (qb, .inl (cy 0, 18, .inl (upd g (10 + t) (-1))))] := hD
        refine lv_iinc (v := nI (t + 1)) (lv' := [(1, .int (nI (t + 1))), (0, .ref qa)]) hx hb dX4_tellNothing_81 hl (k := 1) rfl (show nI t + Int32.ofInt 1 = nI (t + 1) from nI_add t 1) (by decide) rfl (fun ls hl => ?_)
        refine lv_goto (tgt := 65) hx hb dX4_tellNothing_84 (by decide) ?_
        have hI_hg : (upd g (10 + t) (-1)) 0 = 20 ∧ (upd g (10 + t) (-1)) 1 = 1 ∧ (upd g (10 + t) (-1)) 2 = 1 ∧ (upd g (10 + t) (-1)) 3 = 999 ∧ (upd g (10 + t) (-1)) 4 = 1 ∧ (upd g (10 + t) (-1)) 5 = 3 ∧ (upd g (10 + t) (-1)) 6 = 50 ∧ (upd g (10 + t) (-1)) 7 = 66 := by
          rw [pk_un (by omega), pk_un (by omega), pk_un (by omega), pk_un (by omega), pk_un (by omega), pk_un (by omega), pk_un (by omega), pk_un (by omega)]
          exact hg
        have hI_hp : plP (upd g (10 + t) (-1)) (t + 1) := by
          intro j hj
          by_cases q : j = t
          · subst q; exact pk_us
          · rw [pk_un (by omega)]; exact hp j (by omega)
        exact ih65 (t + 1) (upd g (10 + t) (-1)) (by omega) (by first | assumption | omega) hI_hg hI_hp H locs hP hD hS ls (lv_sub hl [1, 0] rfl)
  have hI_hg : (upd (upd (upd (upd (upd (upd (upd (upd f 0 20) 1 1) 2 1) 3 999) 4 1) 5 3) 6 50) 7 66) 0 = 20 ∧ (upd (upd (upd (upd (upd (upd (upd (upd f 0 20) 1 1) 2 1) 3 999) 4 1) 5 3) 6 50) 7 66) 1 = 1 ∧ (upd (upd (upd (upd (upd (upd (upd (upd f 0 20) 1 1) 2 1) 3 999) 4 1) 5 3) 6 50) 7 66) 2 = 1 ∧ (upd (upd (upd (upd (upd (upd (upd (upd f 0 20) 1 1) 2 1) 3 999) 4 1) 5 3) 6 50) 7 66) 3 = 999 ∧ (upd (upd (upd (upd (upd (upd (upd (upd f 0 20) 1 1) 2 1) 3 999) 4 1) 5 3) 6 50) 7 66) 4 = 1 ∧ (upd (upd (upd (upd (upd (upd (upd (upd f 0 20) 1 1) 2 1) 3 999) 4 1) 5 3) 6 50) 7 66) 5 = 3 ∧ (upd (upd (upd (upd (upd (upd (upd (upd f 0 20) 1 1) 2 1) 3 999) 4 1) 5 3) 6 50) 7 66) 6 = 50 ∧ (upd (upd (upd (upd (upd (upd (upd (upd f 0 20) 1 1) 2 1) 3 999) 4 1) 5 3) 6 50) 7 66) 7 = 66 := by
    exact ⟨rfl, rfl, rfl, rfl, rfl, rfl, rfl, rfl⟩
  have hI_hp : plP (upd (upd (upd (upd (upd (upd (upd (upd f 0 20) 1 1) 2 1) 3 999) 4 1) 5 3) 6 50) 7 66) 0 := by
    exact fun j hj => absurd hj (Nat.not_lt_zero _)
  exact L_65 ((8 - 0) + 1) 0 (upd (upd (upd (upd (upd (upd (upd (upd f 0 20) 1 1) 2 1) 3 999) 4 1) 5 3) 6 50) 7 66) (by omega) (by first | assumption | omega) hI_hg hI_hp H locs hP hD hS ls (lv_sub hl [1, 0] rfl)

set_option maxHeartbeats 4000000 in
set_option maxRecDepth 100000 in
theorem c_X4_copy (l : Launch) (dC : Nat → ClassId) (dI : Nat → Nat → Nat) (cy : Nat → ClassId) (ad : Nat → Nat) (tl : Nat → Int32) (dt : Nat → Int32) (sz : Nat)  : Met l yX4_copy wsX4_copy ({ frames := 1, cells := 0, slots := 0, locals := 18 }) (va_Pc [.ref (ad 25), .ref (ad 28)] (fun U => U.heap.size = sz ∧ va_P (dC, dI) vwCl [(ad 25, .inr (4, [.ref (ad 26)])), (ad 26, .inl (cy 0, 18, .inl tl)), (ad 28, .inr (4, [.ref (ad 29)])), (ad 29, .inl (cy 0, 18, .inl dt))] U.heap ∧ va_K (dC, dI) vwCl (tyL cy) U ∧ va_D (fun _ => True) [(ad 25, .inr (4, [.ref (ad 26)])), (ad 26, .inl (cy 0, 18, .inl tl)), (ad 28, .inr (4, [.ref (ad 29)])), (ad 29, .inl (cy 0, 18, .inl dt))])) (va_Qv (S := (Nat → Int32)) (fun tl2 => agr tl2 dt) (fun tl2 => fun t => va_P (dC, dI) vwCl [(ad 25, .inr (4, [.ref (ad 26)])), (ad 26, .inl (cy 0, 18, .inl tl2)), (ad 28, .inr (4, [.ref (ad 29)])), (ad 29, .inl (cy 0, 18, .inl dt))] t.heap ∧ va_K (dC, dI) vwCl (tyL cy) t ∧ va_D (va_A [(ad 25, .inr (4, [.ref (ad 26)])), (ad 26, .inl (cy 0, 18, .inl tl)), (ad 28, .inr (4, [.ref (ad 29)])), (ad 29, .inl (cy 0, 18, .inl dt))] sz) [(ad 25, .inr (4, [.ref (ad 26)])), (ad 26, .inl (cy 0, 18, .inl tl2)), (ad 28, .inr (4, [.ref (ad 29)])), (ad 29, .inl (cy 0, 18, .inl dt))]) (va_A [(ad 25, .inr (4, [.ref (ad 26)])), (ad 26, .inl (cy 0, 18, .inl tl)), (ad 28, .inr (4, [.ref (ad 29)])), (ad 29, .inl (cy 0, 18, .inl dt))] sz)) 0 0 (va_A [(ad 25, .inr (4, [.ref (ad 26)])), (ad 26, .inl (cy 0, 18, .inl tl)), (ad 28, .inr (4, [.ref (ad 29)])), (ad 29, .inl (cy 0, 18, .inl dt))] sz) := by
  refine Met.ofW (cc := cX4_copy) (maxL := 2) (ret := none) (by decide) rfl ?_
  intro pp ee ss mm args below meth cc0 s₁ B hml hv
  obtain ⟨rfl, hsz, hP, hK, hD0⟩ := hv
  have hx := B.exec
  have hb := B.bytes
  have hr := B.returns
  have hts := atoms_spec (ws := wsX4_copy) B.pre
  have hown : ss.vm.findClass RX4 = some mm.cls := findClass_of_methodNamed B.named
  have hlocks := B.notSynchronized
  have hL0 := hts (.fieldLink RX4 9 "HereLived$RuleBook" "told" "[I") (by decide +kernel)
  have hL1 := hts (.methodLink RX4 18 arraycopyName) (by decide +kernel)
  have hL2 := hts (.native arraycopyName) (by decide +kernel)
  have hL3 := hts (.static arraycopyName) (by decide +kernel)
  have hL4 := hts (.initialized "java/lang/System") (by decide +kernel)
  have hiX4 : ∀ w ∈ wsX40, w ∈ wsX4_copy := by decide +kernel
  subst hsz
  have hD := hD0.self (sz := ss.heap.size)
  generalize hAe : va_A [(ad 25, .inr (4, [.ref (ad 26)])), (ad 26, .inl (cy 0, 18, .inl tl)), (ad 28, .inr (4, [.ref (ad 29)])), (ad 29, .inl (cy 0, 18, .inl dt))] ss.heap.size = A at hD ⊢
  have hA : ∀ q : Nat, ss.heap.size ≤ q → A q := fun q h => by rw [← hAe]; exact Or.inr h
  have hS : va_S A ss.heap ss.heap [] := va_S.rf
  have hP : va_P (dC, dI) vwCl [(ad 25, .inr (4, [.ref (ad 26)])), (ad 26, .inl (cy 0, 18, .inl tl)), (ad 28, .inr (4, [.ref (ad 29)])), (ad 29, .inl (cy 0, 18, .inl dt))] ss.heap := hP
  have hl := lv_entry ([.ref (ad 25), .ref (ad 28)]) (n := 2) (Nat.le_of_ble_eq_true rfl)
  rw [lg_entry_eq]
  generalize (lg_sl ([.ref (ad 25), .ref (ad 28)]) ++ List.replicate (2 - (lg_sl ([.ref (ad 25), .ref (ad 28)])).length) Slot.unset).toArray = ls at hl ⊢
  have hl : lv_has ls 2 [(0, .ref (ad 25)), (1, .ref (ad 28))] := hl
  refine bw_Q (fun Q hQ => ?_)
  refine bw_H0 (fun H locs eH eL => ?_)
  have hS : va_S A ss.heap H locs := by rw [eH, eL]; exact hS
  have hP : va_P (dC, dI) vwCl [(ad 25, .inr (4, [.ref (ad 26)])), (ad 26, .inl (cy 0, 18, .inl tl)), (ad 28, .inr (4, [.ref (ad 29)])), (ad 29, .inl (cy 0, 18, .inl dt))] H := by rw [eH]; exact hP
  change W pp l ee { frames := 1, cells := 0, slots := 0, locals := 18 } ss mm _ below meth cc0 H locs 0 0 Q (F0 mm 0 ls [])
  refine lv_aload_n hx hb dX4_copy_0 rfl (lv_at hl 1 rfl) ?_
  refine va_get (D := (dC, dI)) (ci := 4) (v := .ref (ad 29)) (C := RX4) (T := TX4) (N := 1) hx hb hts hiX4 hown hK hP 2 rfl rfl 0 (by decide) hL0 (fun _ h9 => h9) rfl dX4_copy_1 ?_
  refine lv_iconst (v := 0) hx hb dX4_copy_4 (by decide) ?_
  refine lv_aload_n hx hb dX4_copy_5 rfl (lv_at hl 0 rfl) ?_
  refine va_get (D := (dC, dI)) (ci := 4) (v := .ref (ad 26)) (C := RX4) (T := TX4) (N := 1) hx hb hts hiX4 hown hK hP 0 rfl rfl 0 (by decide) hL0 (fun _ h9 => h9) rfl dX4_copy_6 ?_
  refine lv_iconst (v := 0) hx hb dX4_copy_9 (by decide) ?_
  refine lv_bipush (v := 18) hx hb dX4_copy_10 (by decide) ?_
  refine va_copyi (ty := .int) (sp := 0) (dp := 0) (n := 18) hx hb (hml.trans hl.1.symm) hown hL1 hL2 hL3 hL4 hK hP hD hS 3 1 0 0 rfl rfl rfl rfl rfl (by decide) (by decide) (by decide) (by decide) (by decide) (fun _ _ => rfl) (by decide) (by decide) dX4_copy_12 (fun H locs hP hD hS => ?_)
  have hP : va_P (dC, dI) vwCl [(ad 25, .inr (4, [.ref (ad 26)])), (ad 26, .inl (cy 0, 18, .inl (va_cpy dt tl 0 0 18))), (ad 28, .inr (4, [.ref (ad 29)])), (ad 29, .inl (cy 0, 18, .inl dt))] H := hP
  have hD : va_D A [(ad 25, .inr (4, [.ref (ad 26)])), (ad 26, .inl (cy 0, 18, .inl (va_cpy dt tl 0 0 18))), (ad 28, .inr (4, [.ref (ad 29)])), (ad 29, .inl (cy 0, 18, .inl dt))] := hD
  refine bw_Qe hQ ?_
  have hP9 : va_P (dC, dI) vwCl [(ad 25, .inr (4, [.ref (ad 26)])), (ad 26, .inl (cy 0, 18, .inl (va_cpy dt tl 0 0 18))), (ad 28, .inr (4, [.ref (ad 29)])), (ad 29, .inl (cy 0, 18, .inl dt))] H := hP.sub [0, 1, 2, 3] rfl
  have hD9 : va_D A [(ad 25, .inr (4, [.ref (ad 26)])), (ad 26, .inl (cy 0, 18, .inl (va_cpy dt tl 0 0 18))), (ad 28, .inr (4, [.ref (ad 29)])), (ad 29, .inl (cy 0, 18, .inl dt))] := hD.sub [0, 1, 2, 3] (by decide) rfl
  have hpost : agr (va_cpy dt tl 0 0 18) dt := by
    intro k hk _ _
    unfold va_cpy
    rw [if_pos ⟨Nat.zero_le _, by omega⟩]
    rw [show 0 + (k - 0) = k by omega]
  exact W.vret hx hb hr (fun t9 ht hW => ⟨⟨(va_cpy dt tl 0 0 18), rfl, hpost, by rw [ht]; exact hP9, va_K.moved hW.alike hK, hD9⟩, hS.F ht⟩) hS.2.2 dX4_copy_15

set_option maxHeartbeats 4000000 in
set_option maxRecDepth 100000 in
theorem c_X5_read (l : Launch) (dC : Nat → ClassId) (dI : Nat → Nat → Nat) (cy : Nat → ClassId) (sa sv : Nat → Nat) (fv : Value) (ad : Nat → Nat) (rl : Nat) (fk : Int32) (fp : Int32) (ts : Nat) (te : Nat) (lw : Int32) (pa : Nat) (rt : Int32) (tw : Nat) (tm : Nat) (tn : Nat) (tb : Nat → Int32) (dt : Nat → Int32) (sz : Nat) (htn : tn ≤ 600) : Met l yX5_read wsX5_read ({ frames := 7, cells := 0, slots := 0, locals := 149 }) (va_Pc [.ref (ad 27)] (fun U => U.heap.size = sz ∧ va_P (dC, dI) vwCl [(ad 27, .inr (5, [.ref (ad 28), .int (nI rl), .int fk, .int fp, .ref (ad 1), .int (nI ts), .int (nI te), .int lw, .int (nI pa), .int rt, .int (nI tw), .int (nI tm)])), (ad 1, .inr (8, [.ref (ad 2), .int (nI tn)])), (ad 2, .inl (cy 0, 600, .inl tb)), (ad 28, .inr (4, [.ref (ad 29)])), (ad 29, .inl (cy 0, 18, .inl dt))] U.heap ∧ va_K (dC, dI) vwCl (tyL cy) U ∧ va_D (fun _ => True) [(ad 27, .inr (5, [.ref (ad 28), .int (nI rl), .int fk, .int fp, .ref (ad 1), .int (nI ts), .int (nI te), .int lw, .int (nI pa), .int rt, .int (nI tw), .int (nI tm)])), (ad 1, .inr (8, [.ref (ad 2), .int (nI tn)])), (ad 2, .inl (cy 0, 600, .inl tb)), (ad 28, .inr (4, [.ref (ad 29)])), (ad 29, .inl (cy 0, 18, .inl dt))] ∧ sW sa sv fv (va_A [(ad 27, .inr (5, [.ref (ad 28), .int (nI rl), .int fk, .int fp, .ref (ad 1), .int (nI ts), .int (nI te), .int lw, .int (nI pa), .int rt, .int (nI tw), .int (nI tm)])), (ad 1, .inr (8, [.ref (ad 2), .int (nI tn)])), (ad 2, .inl (cy 0, 600, .inl tb)), (ad 28, .inr (4, [.ref (ad 29)])), (ad 29, .inl (cy 0, 18, .inl dt))] sz) U U.heap ∧ va_Nw (.methodLinkNest RX5 76 yX10_isDigit "HereLived") U ∧ va_Nw (.methodLinkNest RX5 73 yX10_isSmallLetter "HereLived") U ∧ va_Nw (.methodLinkNest RX5 69 yX10_isBlank "HereLived") U)) (va_Qv (S := Nat × Int32 × Int32 × Nat × Nat × Int32 × Nat × Int32 × Nat × Nat × (Nat → Int32)) (fun u => match u with | (rl2, fk2, fp2, ts2, te2, lw2, pa2, rt2, tw2, tm2, dt2) => rdP tb tn fk2.toInt fp2.toInt rl2 dt2) (fun u => match u with | (rl2, fk2, fp2, ts2, te2, lw2, pa2, rt2, tw2, tm2, dt2) => fun t => va_P (dC, dI) vwCl [(ad 27, .inr (5, [.ref (ad 28), .int (nI rl2), .int fk2, .int fp2, .ref (ad 1), .int (nI ts2), .int (nI te2), .int lw2, .int (nI pa2), .int rt2, .int (nI tw2), .int (nI tm2)])), (ad 1, .inr (8, [.ref (ad 2), .int (nI tn)])), (ad 2, .inl (cy 0, 600, .inl tb)), (ad 28, .inr (4, [.ref (ad 29)])), (ad 29, .inl (cy 0, 18, .inl dt2))] t.heap ∧ va_K (dC, dI) vwCl (tyL cy) t ∧ va_D (va_A [(ad 27, .inr (5, [.ref (ad 28), .int (nI rl), .int fk, .int fp, .ref (ad 1), .int (nI ts), .int (nI te), .int lw, .int (nI pa), .int rt, .int (nI tw), .int (nI tm)])), (ad 1, .inr (8, [.ref (ad 2), .int (nI tn)])), (ad 2, .inl (cy 0, 600, .inl tb)), (ad 28, .inr (4, [.ref (ad 29)])), (ad 29, .inl (cy 0, 18, .inl dt))] sz) [(ad 27, .inr (5, [.ref (ad 28), .int (nI rl2), .int fk2, .int fp2, .ref (ad 1), .int (nI ts2), .int (nI te2), .int lw2, .int (nI pa2), .int rt2, .int (nI tw2), .int (nI tm2)])), (ad 1, .inr (8, [.ref (ad 2), .int (nI tn)])), (ad 2, .inl (cy 0, 600, .inl tb)), (ad 28, .inr (4, [.ref (ad 29)])), (ad 29, .inl (cy 0, 18, .inl dt2))]) (va_A [(ad 27, .inr (5, [.ref (ad 28), .int (nI rl), .int fk, .int fp, .ref (ad 1), .int (nI ts), .int (nI te), .int lw, .int (nI pa), .int rt, .int (nI tw), .int (nI tm)])), (ad 1, .inr (8, [.ref (ad 2), .int (nI tn)])), (ad 2, .inl (cy 0, 600, .inl tb)), (ad 28, .inr (4, [.ref (ad 29)])), (ad 29, .inl (cy 0, 18, .inl dt))] sz)) 0 0 (va_A [(ad 27, .inr (5, [.ref (ad 28), .int (nI rl), .int fk, .int fp, .ref (ad 1), .int (nI ts), .int (nI te), .int lw, .int (nI pa), .int rt, .int (nI tw), .int (nI tm)])), (ad 1, .inr (8, [.ref (ad 2), .int (nI tn)])), (ad 2, .inl (cy 0, 600, .inl tb)), (ad 28, .inr (4, [.ref (ad 29)])), (ad 29, .inl (cy 0, 18, .inl dt))] sz) := by
  refine Met.ofW (cc := cX5_read) (maxL := 2) (ret := none) (by decide) rfl ?_
  intro pp ee ss mm args below meth cc0 s₁ B hml hv
  obtain ⟨rfl, hsz, hP, hK, hD0, hE, hn0, hn1, hn2⟩ := hv
  have hx := B.exec
  have hb := B.bytes
  have hr := B.returns
  have hts := atoms_spec (ws := wsX5_read) B.pre
  have hown : ss.vm.findClass RX5 = some mm.cls := findClass_of_methodNamed B.named
  have hlocks := B.notSynchronized
  have hL0 := hts (.fieldLink RX5 18 "HereLived$RuleReader" "draft" "LHereLived$RuleBook;") (by decide +kernel)
  have hL1 := hts (.fieldLink RX5 32 "HereLived$RuleReader" "lines" "I") (by decide +kernel)
  have hL2 := hts (.fieldLink RX5 22 "HereLived$RuleReader" "faultKind" "I") (by decide +kernel)
  have hL3 := hts (.fieldLink RX5 26 "HereLived$RuleReader" "faultPlace" "I") (by decide +kernel)
  have hL4 := hts (.fieldLink RX5 35 "HereLived$RuleReader" "lineWord" "I") (by decide +kernel)
  have hL5 := hts (.fieldLink RX5 38 "HereLived$RuleReader" "parts" "I") (by decide +kernel)
  have hL6 := hts (.fieldLink RX5 41 "HereLived$RuleReader" "toldThemes" "I") (by decide +kernel)
  have hL7 := hts (.fieldLink RX5 44 "HereLived$RuleReader" "toldWords" "I") (by decide +kernel)
  have hL8 := hts (.fieldLink RX5 47 "HereLived$RuleReader" "tokenEnd" "I") (by decide +kernel)
  have hL9 := hts (.fieldLink RX5 9 "HereLived$RuleReader" "tape" "LHereLived$Tape;") (by decide +kernel)
  have hL10 := hts (.fieldLink RX5 50 "HereLived$Tape" "length" "I") (by decide +kernel)
  have hL11 := hts (.fieldLink RX5 58 "HereLived$RuleReader" "tokenStart" "I") (by decide +kernel)
  have hiX5 : ∀ w ∈ wsX50, w ∈ wsX5_read := by decide +kernel
  have hiX8 : ∀ w ∈ wsX80, w ∈ wsX5_read := by decide +kernel
  subst hsz
  have hD := hD0.self (sz := ss.heap.size)
  generalize hAe : va_A [(ad 27, .inr (5, [.ref (ad 28), .int (nI rl), .int fk, .int fp, .ref (ad 1), .int (nI ts), .int (nI te), .int lw, .int (nI pa), .int rt, .int (nI tw), .int (nI tm)])), (ad 1, .inr (8, [.ref (ad 2), .int (nI tn)])), (ad 2, .inl (cy 0, 600, .inl tb)), (ad 28, .inr (4, [.ref (ad 29)])), (ad 29, .inl (cy 0, 18, .inl dt))] ss.heap.size = A at hD hE ⊢
  have hA : ∀ q : Nat, ss.heap.size ≤ q → A q := fun q h => by rw [← hAe]; exact Or.inr h
  have hS : va_S A ss.heap ss.heap [] := va_S.rf
  have hP : va_P (dC, dI) vwCl [(ad 27, .inr (5, [.ref (ad 28), .int (nI rl), .int fk, .int fp, .ref (ad 1), .int (nI ts), .int (nI te), .int lw, .int (nI pa), .int rt, .int (nI tw), .int (nI tm)])), (ad 1, .inr (8, [.ref (ad 2), .int (nI tn)])), (ad 2, .inl (cy 0, 600, .inl tb)), (ad 28, .inr (4, [.ref (ad 29)])), (ad 29, .inl (cy 0, 18, .inl dt))] ss.heap := hP
  have hl := lv_entry ([.ref (ad 27)]) (n := 2) (Nat.le_of_ble_eq_true rfl)
  rw [lg_entry_eq]
  generalize (lg_sl ([.ref (ad 27)]) ++ List.replicate (2 - (lg_sl ([.ref (ad 27)])).length) Slot.unset).toArray = ls at hl ⊢
  have hl : lv_has ls 2 [(0, .ref (ad 27))] := hl
  refine bw_Q (fun Q hQ => ?_)
  refine bw_H0 (fun H locs eH eL => ?_)
  have hS : va_S A ss.heap H locs := by rw [eH, eL]; exact hS
  have hP : va_P (dC, dI) vwCl [(ad 27, .inr (5, [.ref (ad 28), .int (nI rl), .int fk, .int fp, .ref (ad 1), .int (nI ts), .int (nI te), .int lw, .int (nI pa), .int rt, .int (nI tw), .int (nI tm)])), (ad 1, .inr (8, [.ref (ad 2), .int (nI tn)])), (ad 2, .inl (cy 0, 600, .inl tb)), (ad 28, .inr (4, [.ref (ad 29)])), (ad 29, .inl (cy 0, 18, .inl dt))] H := by rw [eH]; exact hP
  change W pp l ee { frames := 7, cells := 0, slots := 0, locals := 149 } ss mm _ below meth cc0 H locs 0 0 Q (F0 mm 0 ls [])
  refine lv_aload_n hx hb dX5_read_0 rfl (lv_at hl 0 rfl) ?_
  refine va_get (D := (dC, dI)) (ci := 5) (v := .ref (ad 28)) (C := RX5) (T := TX5) (N := 12) hx hb hts hiX5 hown hK hP 0 rfl rfl 0 (by decide) hL0 (fun _ h9 => h9) rfl dX5_read_1 ?_
  have hPc : va_P (dC, dI) vwCl [(ad 28, .inr (4, [.ref (ad 29)])), (ad 29, .inl (cy 0, 18, .inl dt))] H := hP.sub [3, 4] rfl
  have hDc : va_D A [(ad 28, .inr (4, [.ref (ad 29)])), (ad 29, .inl (cy 0, 18, .inl dt))] := hD.sub [3, 4] (by decide) rfl
  have hFc := va_free (wc := [(ad 28, .inr (4, [.ref (ad 29)])), (ad 29, .inl (cy 0, 18, .inl dt))]) hD hS hA [3, 4] rfl
  refine va_callv (va_runV (As := []) (rest := []) ⟨hx, hb, hml, hown, hts⟩ (c_X4_tellNothing l dC dI cy (ad 28) (ad 29) dt H.size) (cwV 0 hts gX5_read_X4_tellNothing rfl rfl rfl (by decide +kernel) ⟨Nat.le_of_ble_eq_true rfl, Nat.le_of_ble_eq_true rfl⟩) ⟨fun a U g mk q => by obtain ⟨q0, q1, qP, qK, qD⟩ := q; exact ⟨q0, q1, qP, va_K.moved (u := U) (U := U.calling g mk a) (Vm.Alike.refl U.vm) qK, qD⟩, va_recv hK hPc (ci := 4) (q0 := 0) rfl rfl, fun U hU hW => ⟨rfl, by rw [hU], by rw [hU]; exact hPc, va_K.moved hW.alike hK, hDc.weaken (fun _ _ _ _ => trivial)⟩⟩ rfl rfl hl.1 rfl (lv_room (Nat.le_of_ble_eq_true rfl)) dX5_read_4 ⟨Nat.le_of_ble_eq_true rfl, Nat.le_of_ble_eq_true rfl⟩) hS (fun q _ h => hFc q h) hFc (fun u t9 H1 locs ht hvm hw hB hz1 hk1 hS => ?_)
  obtain ⟨f2_1, rfl⟩ : ∃ z, z = u := ⟨_, rfl⟩
  have htn9 := hw
  try dsimp only at htn9
  obtain ⟨hP1, hK1, hD1⟩ := hB
  rw [ht] at hP1
  obtain ⟨hP, hD⟩ := va_join (wr := [(ad 27, .inr (5, [.ref (ad 28), .int (nI rl), .int fk, .int fp, .ref (ad 1), .int (nI ts), .int (nI te), .int lw, .int (nI pa), .int rt, .int (nI tw), .int (nI tm)])), (ad 1, .inr (8, [.ref (ad 2), .int (nI tn)])), (ad 2, .inl (cy 0, 600, .inl tb))]) (w1 := [(ad 28, .inr (4, [.ref (ad 29)])), (ad 29, .inl (cy 0, 18, .inl f2_1))]) hP hD [3, 4] [0, 1, 2] rfl rfl (by decide) (by decide) hk1 hFc hP1 hD1
  generalize H1 = H at hP hS ⊢
  have hP : va_P (dC, dI) vwCl [(ad 27, .inr (5, [.ref (ad 28), .int (nI rl), .int fk, .int fp, .ref (ad 1), .int (nI ts), .int (nI te), .int lw, .int (nI pa), .int rt, .int (nI tw), .int (nI tm)])), (ad 1, .inr (8, [.ref (ad 2), .int (nI tn)])), (ad 2, .inl (cy 0, 600, .inl tb)), (ad 28, .inr (4, [.ref (ad 29)])), (ad 29, .inl (cy 0, 18, .inl f2_1))] H := hP.sub [0, 1, 2, 3, 4] rfl
  have hD : va_D A [(ad 27, .inr (5, [.ref (ad 28), .int (nI rl), .int fk, .int fp, .ref (ad 1), .int (nI ts), .int (nI te), .int lw, .int (nI pa), .int rt, .int (nI tw), .int (nI tm)])), (ad 1, .inr (8, [.ref (ad 2), .int (nI tn)])), (ad 2, .inl (cy 0, 600, .inl tb)), (ad 28, .inr (4, [.ref (ad 29)])), (ad 29, .inl (cy 0, 18, .inl f2_1))] := hD.sub [0, 1, 2, 3, 4] (by decide) rfl
  refine lv_aload_n hx hb dX5_read_7 rfl (lv_at hl 0 rfl) ?_
  refine lv_iconst (v := 0) hx hb dX5_read_8 (by decide) ?_
  refine va_put (D := (dC, dI)) (ci := 5) (v := .int 0) (ty := (tyX5 1)) (C := RX5) (T := TX5) (N := 12) hx hb hts hiX5 tyX5 tyX5_ok nmX5 hown hK hP hD hS 0 rfl rfl 1 (by decide) hL1 (fun _ h9 => h9) rfl (by decide +kernel) rfl rfl (Nat.le_of_ble_eq_true rfl) dX5_read_9 (fun H locs hP hD hS => ?_)
  have hP : va_P (dC, dI) vwCl [(ad 27, .inr (5, [.ref (ad 28), .int 0, .int fk, .int fp, .ref (ad 1), .int (nI ts), .int (nI te), .int lw, .int (nI pa), .int rt, .int (nI tw), .int (nI tm)])), (ad 1, .inr (8, [.ref (ad 2), .int (nI tn)])), (ad 2, .inl (cy 0, 600, .inl tb)), (ad 28, .inr (4, [.ref (ad 29)])), (ad 29, .inl (cy 0, 18, .inl f2_1))] H := hP
  have hD : va_D A [(ad 27, .inr (5, [.ref (ad 28), .int 0, .int fk, .int fp, .ref (ad 1), .int (nI ts), .int (nI te), .int lw, .int (nI pa), .int rt, .int (nI tw), .int (nI tm)])), (ad 1, .inr (8, [.ref (ad 2), .int (nI tn)])), (ad 2, .inl (cy 0, 600, .inl tb)), (ad 28, .inr (4, [.ref (ad 29)])), (ad 29, .inl (cy 0, 18, .inl f2_1))] := hD
  refine lv_aload_n hx hb dX5_read_12 rfl (lv_at hl 0 rfl) ?_
  refine lv_iconst (v := 0) hx hb dX5_read_13 (by decide) ?_
  refine va_put (D := (dC, dI)) (ci := 5) (v := .int 0) (ty := (tyX5 2)) (C := RX5) (T := TX5) (N := 12) hx hb hts hiX5 tyX5 tyX5_ok nmX5 hown hK hP hD hS 0 rfl rfl 2 (by decide) hL2 (fun _ h9 => h9) rfl (by decide +kernel) rfl rfl (Nat.le_of_ble_eq_true rfl) dX5_read_14 (fun H locs hP hD hS => ?_)
  have hP : va_P (dC, dI) vwCl [(ad 27, .inr (5, [.ref (ad 28), .int 0, .int 0, .int fp, .ref (ad 1), .int (nI ts), .int (nI te), .int lw, .int (nI pa), .int rt, .int (nI tw), .int (nI tm)])), (ad 1, .inr (8, [.ref (ad 2), .int (nI tn)])), (ad 2, .inl (cy 0, 600, .inl tb)), (ad 28, .inr (4, [.ref (ad 29)])), (ad 29, .inl (cy 0, 18, .inl f2_1))] H := hP
  have hD : va_D A [(ad 27, .inr (5, [.ref (ad 28), .int 0, .int 0, .int fp, .ref (ad 1), .int (nI ts), .int (nI te), .int lw, .int (nI pa), .int rt, .int (nI tw), .int (nI tm)])), (ad 1, .inr (8, [.ref (ad 2), .int (nI tn)])), (ad 2, .inl (cy 0, 600, .inl tb)), (ad 28, .inr (4, [.ref (ad 29)])), (ad 29, .inl (cy 0, 18, .inl f2_1))] := hD
  refine lv_aload_n hx hb dX5_read_17 rfl (lv_at hl 0 rfl) ?_
  refine lv_iconst (v := (-1)) hx hb dX5_read_18 (by decide) ?_
  refine va_put (D := (dC, dI)) (ci := 5) (v := .int (-1)) (ty := (tyX5 3)) (C := RX5) (T := TX5) (N := 12) hx hb hts hiX5 tyX5 tyX5_ok nmX5 hown hK hP hD hS 0 rfl rfl 3 (by decide) hL3 (fun _ h9 => h9) rfl (by decide +kernel) rfl rfl (Nat.le_of_ble_eq_true rfl) dX5_read_19 (fun H locs hP hD hS => ?_)
  have hP : va_P (dC, dI) vwCl [(ad 27, .inr (5, [.ref (ad 28), .int 0, .int 0, .int (-1), .ref (ad 1), .int (nI ts), .int (nI te), .int lw, .int (nI pa), .int rt, .int (nI tw), .int (nI tm)])), (ad 1, .inr (8, [.ref (ad 2), .int (nI tn)])), (ad 2, .inl (cy 0, 600, .inl tb)), (ad 28, .inr (4, [.ref (ad 29)])), (ad 29, .inl (cy 0, 18, .inl f2_1))] H := hP
  have hD : va_D A [(ad 27, .inr (5, [.ref (ad 28), .int 0, .int 0, .int (-1), .ref (ad 1), .int (nI ts), .int (nI te), .int lw, .int (nI pa), .int rt, .int (nI tw), .int (nI tm)])), (ad 1, .inr (8, [.ref (ad 2), .int (nI tn)])), (ad 2, .inl (cy 0, 600, .inl tb)), (ad 28, .inr (4, [.ref (ad 29)])), (ad 29, .inl (cy 0, 18, .inl f2_1))] := hD
  refine lv_aload_n hx hb dX5_read_22 rfl (lv_at hl 0 rfl) ?_
  refine lv_iconst (v := (-1)) hx hb dX5_read_23 (by decide) ?_
  refine va_put (D := (dC, dI)) (ci := 5) (v := .int (-1)) (ty := (tyX5 7)) (C := RX5) (T := TX5) (N := 12) hx hb hts hiX5 tyX5 tyX5_ok nmX5 hown hK hP hD hS 0 rfl rfl 7 (by decide) hL4 (fun _ h9 => h9) rfl (by decide +kernel) rfl rfl (Nat.le_of_ble_eq_true rfl) dX5_read_24 (fun H locs hP hD hS => ?_)
  have hP : va_P (dC, dI) vwCl [(ad 27, .inr (5, [.ref (ad 28), .int 0, .int 0, .int (-1), .ref (ad 1), .int (nI ts), .int (nI te), .int (-1), .int (nI pa), .int rt, .int (nI tw), .int (nI tm)])), (ad 1, .inr (8, [.ref (ad 2), .int (nI tn)])), (ad 2, .inl (cy 0, 600, .inl tb)), (ad 28, .inr (4, [.ref (ad 29)])), (ad 29, .inl (cy 0, 18, .inl f2_1))] H := hP
  have hD : va_D A [(ad 27, .inr (5, [.ref (ad 28), .int 0, .int 0, .int (-1), .ref (ad 1), .int (nI ts), .int (nI te), .int (-1), .int (nI pa), .int rt, .int (nI tw), .int (nI tm)])), (ad 1, .inr (8, [.ref (ad 2), .int (nI tn)])), (ad 2, .inl (cy 0, 600, .inl tb)), (ad 28, .inr (4, [.ref (ad 29)])), (ad 29, .inl (cy 0, 18, .inl f2_1))] := hD
  refine lv_aload_n hx hb dX5_read_27 rfl (lv_at hl 0 rfl) ?_
  refine lv_iconst (v := 0) hx hb dX5_read_28 (by decide) ?_
  refine va_put (D := (dC, dI)) (ci := 5) (v := .int 0) (ty := (tyX5 8)) (C := RX5) (T := TX5) (N := 12) hx hb hts hiX5 tyX5 tyX5_ok nmX5 hown hK hP hD hS 0 rfl rfl 8 (by decide) hL5 (fun _ h9 => h9) rfl (by decide +kernel) rfl rfl (Nat.le_of_ble_eq_true rfl) dX5_read_29 (fun H locs hP hD hS => ?_)
  have hP : va_P (dC, dI) vwCl [(ad 27, .inr (5, [.ref (ad 28), .int 0, .int 0, .int (-1), .ref (ad 1), .int (nI ts), .int (nI te), .int (-1), .int 0, .int rt, .int (nI tw), .int (nI tm)])), (ad 1, .inr (8, [.ref (ad 2), .int (nI tn)])), (ad 2, .inl (cy 0, 600, .inl tb)), (ad 28, .inr (4, [.ref (ad 29)])), (ad 29, .inl (cy 0, 18, .inl f2_1))] H := hP
  have hD : va_D A [(ad 27, .inr (5, [.ref (ad 28), .int 0, .int 0, .int (-1), .ref (ad 1), .int (nI ts), .int (nI te), .int (-1), .int 0, .int rt, .int (nI tw), .int (nI tm)])), (ad 1, .inr (8, [.ref (ad 2), .int (nI tn)])), (ad 2, .inl (cy 0, 600, .inl tb)), (ad 28, .inr (4, [.ref (ad 29)])), (ad 29, .inl (cy 0, 18, .inl f2_1))] := hD
  refine lv_aload_n hx hb dX5_read_32 rfl (lv_at hl 0 rfl) ?_
  refine lv_iconst (v := 0) hx hb dX5_read_33 (by decide) ?_
  refine va_put (D := (dC, dI)) (ci := 5) (v := .int 0) (ty := (tyX5 11)) (C := RX5) (T := TX5) (N := 12) hx hb hts hiX5 tyX5 tyX5_ok nmX5 hown hK hP hD hS 0 rfl rfl 11 (by decide) hL6 (fun _ h9 => h9) rfl (by decide +kernel) rfl rfl (Nat.le_of_ble_eq_true rfl) dX5_read_34 (fun H locs hP hD hS => ?_)
  have hP : va_P (dC, dI) vwCl [(ad 27, .inr (5, [.ref (ad 28), .int 0, .int 0, .int (-1), .ref (ad 1), .int (nI ts), .int (nI te), .int (-1), .int 0, .int rt, .int (nI tw), .int 0])), (ad 1, .inr (8, [.ref (ad 2), .int (nI tn)])), (ad 2, .inl (cy 0, 600, .inl tb)), (ad 28, .inr (4, [.ref (ad 29)])), (ad 29, .inl (cy 0, 18, .inl f2_1))] H := hP
  have hD : va_D A [(ad 27, .inr (5, [.ref (ad 28), .int 0, .int 0, .int (-1), .ref (ad 1), .int (nI ts), .int (nI te), .int (-1), .int 0, .int rt, .int (nI tw), .int 0])), (ad 1, .inr (8, [.ref (ad 2), .int (nI tn)])), (ad 2, .inl (cy 0, 600, .inl tb)), (ad 28, .inr (4, [.ref (ad 29)])), (ad 29, .inl (cy 0, 18, .inl f2_1))] := hD
  refine lv_aload_n hx hb dX5_read_37 rfl (lv_at hl 0 rfl) ?_
  refine lv_iconst (v := 0) hx hb dX5_read_38 (by decide) ?_
  refine va_put (D := (dC, dI)) (ci := 5) (v := .int 0) (ty := (tyX5 10)) (C := RX5) (T := TX5) (N := 12) hx hb hts hiX5 tyX5 tyX5_ok nmX5 hown hK hP hD hS 0 rfl rfl 10 (by decide) hL7 (fun _ h9 => h9) rfl (by decide +kernel) rfl rfl (Nat.le_of_ble_eq_true rfl) dX5_read_39 (fun H locs hP hD hS => ?_)
  have hP : va_P (dC, dI) vwCl [(ad 27, .inr (5, [.ref (ad 28), .int 0, .int 0, .int (-1), .ref (ad 1), .int (nI ts), .int (nI te), .int (-1), .int 0, .int rt, .int 0, .int 0])), (ad 1, .inr (8, [.ref (ad 2), .int (nI tn)])), (ad 2, .inl (cy 0, 600, .inl tb)), (ad 28, .inr (4, [.ref (ad 29)])), (ad 29, .inl (cy 0, 18, .inl f2_1))] H := hP
  have hD : va_D A [(ad 27, .inr (5, [.ref (ad 28), .int 0, .int 0, .int (-1), .ref (ad 1), .int (nI ts), .int (nI te), .int (-1), .int 0, .int rt, .int 0, .int 0])), (ad 1, .inr (8, [.ref (ad 2), .int (nI tn)])), (ad 2, .inl (cy 0, 600, .inl tb)), (ad 28, .inr (4, [.ref (ad 29)])), (ad 29, .inl (cy 0, 18, .inl f2_1))] := hD
  refine lv_aload_n hx hb dX5_read_42 rfl (lv_at hl 0 rfl) ?_
  refine lv_iconst (v := 0) hx hb dX5_read_43 (by decide) ?_
  refine va_put (D := (dC, dI)) (ci := 5) (v := .int 0) (ty := (tyX5 6)) (C := RX5) (T := TX5) (N := 12) hx hb hts hiX5 tyX5 tyX5_ok nmX5 hown hK hP hD hS 0 rfl rfl 6 (by decide) hL8 (fun _ h9 => h9) rfl (by decide +kernel) rfl rfl (Nat.le_of_ble_eq_true rfl) dX5_read_44 (fun H locs hP hD hS => ?_)
  have hP : va_P (dC, dI) vwCl [(ad 27, .inr (5, [.ref (ad 28), .int 0, .int 0, .int (-1), .ref (ad 1), .int (nI ts), .int 0, .int (-1), .int 0, .int rt, .int 0, .int 0])), (ad 1, .inr (8, [.ref (ad 2), .int (nI tn)])), (ad 2, .inl (cy 0, 600, .inl tb)), (ad 28, .inr (4, [.ref (ad 29)])), (ad 29, .inl (cy 0, 18, .inl f2_1))] H := hP
  have hD : va_D A [(ad 27, .inr (5, [.ref (ad 28), .int 0, .int 0, .int (-1), .ref (ad 1), .int (nI ts), .int 0, .int (-1), .int 0, .int rt, .int 0, .int 0])), (ad 1, .inr (8, [.ref (ad 2), .int (nI tn)])), (ad 2, .inl (cy 0, 600, .inl tb)), (ad 28, .inr (4, [.ref (ad 29)])), (ad 29, .inl (cy 0, 18, .inl f2_1))] := hD
  refine lv_iconst (v := 0) hx hb dX5_read_47 (by decide) ?_
  refine lv_istore_n (lv' := [(1, .int 0), (0, .ref (ad 27))]) hx hb dX5_read_48 rfl hl (by decide) rfl (fun ls hl => ?_)
  have L_49 : ∀ (n9 : Nat), ∀ (k : Nat) (rl1 : Nat) (fk1 : Int32) (ts1 : Nat) (te1 : Nat) (lw1 : Int32) (pa1 : Nat) (rt1 : Int32) (tw1 : Nat) (tm1 : Nat) (dt1 : Nat → Int32) (th1 : Nat) (d1 : Nat → Int32), (tn + 1 - k) < n9 → (k ≤ te1) → (te1 ≤ tn) → (rI lw1.toInt pa1 tw1 tm1) → (lw1.toInt = 7 → 1 ≤ pa1 → rt1 = nI th1 ∧ th1 < 8) → (agr dt1 d1) → (rgs dt1) → (rch tb tn (tS tb tn te1, lw1.toInt, pa1, th1, tw1, tm1, rl1, d1)) → (fk1.toInt = 0) → ∀ (H : Heap) (locs : List Loc), va_P (dC, dI) vwCl [(ad 27, .inr (5, [.ref (ad 28), .int (nI rl1), .int fk1, .int (-1), .ref (ad 1), .int (nI ts1), .int (nI te1), .int lw1, .int (nI pa1), .int rt1, .int (nI tw1), .int (nI tm1)])), (ad 1, .inr (8, [.ref (ad 2), .int (nI tn)])), (ad 2, .inl (cy 0, 600, .inl tb)), (ad 28, .inr (4, [.ref (ad 29)])), (ad 29, .inl (cy 0, 18, .inl dt1))] H → va_D A [(ad 27, .inr (5, [.ref (ad 28), .int (nI rl1), .int fk1, .int (-1), .ref (ad 1), .int (nI ts1), .int (nI te1), .int lw1, .int (nI pa1), .int rt1, .int (nI tw1), .int (nI tm1)])), (ad 1, .inr (8, [.ref (ad 2), .int (nI tn)])), (ad 2, .inl (cy 0, 600, .inl tb)), (ad 28, .inr (4, [.ref (ad 29)])), (ad 29, .inl (cy 0, 18, .inl dt1))] → va_S A ss.heap H locs → ∀ (ls : Array Slot), lv_has ls 2 [(0, .ref (ad 27)), (1, .int (nI k))] → W pp l ee { frames := 7, cells := 0, slots := 0, locals := 149 } ss mm (List.toArray [Value.ref (ad 27)]) below meth cc0 H locs 0 0 Q (F0 mm 49 ls []) := by
    intro n9
    induction n9 with
    | zero => intro k rl1 fk1 ts1 te1 lw1 pa1 rt1 tw1 tm1 dt1 th1 d1 hm9; exact absurd hm9 (Nat.not_lt_zero _)
    | succ n9 ih49 =>
      intro k rl1 fk1 ts1 te1 lw1 pa1 rt1 tw1 tm1 dt1 th1 d1 hm49 hk1 hte9 hI1 hth1 hag1 hrg1 hR hfk
      intro H locs hP hD hS
      intro ls hl
      refine lv_iload_n hx hb dX5_read_49 rfl (lv_at hl 1 rfl) ?_
      refine lv_aload_n hx hb dX5_read_50 rfl (lv_at hl 0 rfl) ?_
      refine va_get (D := (dC, dI)) (ci := 5) (v := .ref (ad 1)) (C := RX5) (T := TX5) (N := 12) hx hb hts hiX5 hown hK hP 0 rfl rfl 4 (by decide) hL9 (fun _ h9 => h9) rfl dX5_read_51 ?_
      refine va_get (D := (dC, dI)) (ci := 8) (v := .int (nI tn)) (C := RX8) (T := TX8) (N := 2) hx hb hts hiX8 hown hK hP 1 rfl rfl 1 (by decide) hL10 (fun _ h9 => h9) rfl dX5_read_54 ?_
      refine bw_icmp_ge (tgt := 126) (a := ((k : Nat) : Int)) (b := ((tn : Nat) : Int)) hx hb dX5_read_57 (by decide) (nI_toInt (by omega)) (nI_toInt (by omega)) (fun c_2 => ?_) (fun c_2 => ?_)
      · skip
        refine lv_aload_n hx hb dX5_read_126 rfl (lv_at hl 0 rfl) ?_
        refine va_get (D := (dC, dI)) (ci := 5) (v := .int lw1) (C := RX5) (T := TX5) (N := 12) hx hb hts hiX5 hown hK hP 0 rfl rfl 7 (by decide) hL4 (fun _ h9 => h9) rfl dX5_read_127 ?_
        refine lv_iconst (v := (-1)) hx hb dX5_read_130 (by decide) ?_
        refine bw_icmp_eq (tgt := 150) (a := lw1.toInt) (b := (-1)) hx hb dX5_read_131 (by decide) rfl rfl (fun c_3 => ?_) (fun c_3 => ?_)
        · skip
          refine bw_Qe hQ ?_
          have hP9 : va_P (dC, dI) vwCl [(ad 27, .inr (5, [.ref (ad 28), .int (nI rl1), .int fk1, .int (-1), .ref (ad 1), .int (nI ts1), .int (nI te1), .int lw1, .int (nI pa1), .int rt1, .int (nI tw1), .int (nI tm1)])), (ad 1, .inr (8, [.ref (ad 2), .int (nI tn)])), (ad 2, .inl (cy 0, 600, .inl tb)), (ad 28, .inr (4, [.ref (ad 29)])), (ad 29, .inl (cy 0, 18, .inl dt1))] H := hP.sub [0, 1, 2, 3, 4] rfl
          have hD9 : va_D A [(ad 27, .inr (5, [.ref (ad 28), .int (nI rl1), .int fk1, .int (-1), .ref (ad 1), .int (nI ts1), .int (nI te1), .int lw1, .int (nI pa1), .int rt1, .int (nI tw1), .int (nI tm1)])), (ad 1, .inr (8, [.ref (ad 2), .int (nI tn)])), (ad 2, .inl (cy 0, 600, .inl tb)), (ad 28, .inr (4, [.ref (ad 29)])), (ad 29, .inl (cy 0, 18, .inl dt1))] := hD.sub [0, 1, 2, 3, 4] (by decide) rfl
          have hpost : rdP tb tn fk1.toInt ((-1) : Int32).toInt rl1 dt1 := by
            exact Or.inl ⟨hfk, rfl, hrg1, d1, rch_e hR (stp_end (by rw [tS_n (by omega)]; omega) (by omega)), hag1⟩
          exact W.vret hx hb hr (fun t9 ht hW => ⟨⟨(rl1, fk1, (-1), ts1, te1, lw1, pa1, rt1, tw1, tm1, dt1), rfl, hpost, by rw [ht]; exact hP9, va_K.moved hW.alike hK, hD9⟩, hS.F ht⟩) hS.2.2 dX5_read_150
        · skip
          refine lv_aload_n hx hb dX5_read_134 rfl (lv_at hl 0 rfl) ?_
          refine lv_iconst (v := 1) hx hb dX5_read_135 (by decide) ?_
          refine va_put (D := (dC, dI)) (ci := 5) (v := .int 1) (ty := (tyX5 2)) (C := RX5) (T := TX5) (N := 12) hx hb hts hiX5 tyX5 tyX5_ok nmX5 hown hK hP hD hS 0 rfl rfl 2 (by decide) hL2 (fun _ h9 => h9) rfl (by decide +kernel) rfl rfl (Nat.le_of_ble_eq_true rfl) dX5_read_136 (fun H locs hP hD hS => ?_)
          have hP : va_P (dC, dI) vwCl [(ad 27, .inr (5, [.ref (ad 28), .int (nI rl1), .int 1, .int (-1), .ref (ad 1), .int (nI ts1), .int (nI te1), .int lw1, .int (nI pa1), .int rt1, .int (nI tw1), .int (nI tm1)])), (ad 1, .inr (8, [.ref (ad 2), .int (nI tn)])), (ad 2, .inl (cy 0, 600, .inl tb)), (ad 28, .inr (4, [.ref (ad 29)])), (ad 29, .inl (cy 0, 18, .inl dt1))] H := hP
          have hD : va_D A [(ad 27, .inr (5, [.ref (ad 28), .int (nI rl1), .int 1, .int (-1), .ref (ad 1), .int (nI ts1), .int (nI te1), .int lw1, .int (nI pa1), .int rt1, .int (nI tw1), .int (nI tm1)])), (ad 1, .inr (8, [.ref (ad 2), .int (nI tn)])), (ad 2, .inl (cy 0, 600, .inl tb)), (ad 28, .inr (4, [.ref (ad 29)])), (ad 29, .inl (cy 0, 18, .inl dt1))] := hD
          refine lv_aload_n hx hb dX5_read_139 rfl (lv_at hl 0 rfl) ?_
          refine lv_aload_n hx hb dX5_read_140 rfl (lv_at hl 0 rfl) ?_
          refine va_get (D := (dC, dI)) (ci := 5) (v := .ref (ad 1)) (C := RX5) (T := TX5) (N := 12) hx hb hts hiX5 hown hK hP 0 rfl rfl 4 (by decide) hL9 (fun _ h9 => h9) rfl dX5_read_141 ?_
          refine va_get (D := (dC, dI)) (ci := 8) (v := .int (nI tn)) (C := RX8) (T := TX8) (N := 2) hx hb hts hiX8 hown hK hP 1 rfl rfl 1 (by decide) hL10 (fun _ h9 => h9) rfl dX5_read_144 ?_
          refine va_put (D := (dC, dI)) (ci := 5) (v := .int (nI tn)) (ty := (tyX5 3)) (C := RX5) (T := TX5) (N := 12) hx hb hts hiX5 tyX5 tyX5_ok nmX5 hown hK hP hD hS 0 rfl rfl 3 (by decide) hL3 (fun _ h9 => h9) rfl (by decide +kernel) rfl rfl (Nat.le_of_ble_eq_true rfl) dX5_read_147 (fun H locs hP hD hS => ?_)
          have hP : va_P (dC, dI) vwCl [(ad 27, .inr (5, [.ref (ad 28), .int (nI rl1), .int 1, .int (nI tn), .ref (ad 1), .int (nI ts1), .int (nI te1), .int lw1, .int (nI pa1), .int rt1, .int (nI tw1), .int (nI tm1)])), (ad 1, .inr (8, [.ref (ad 2), .int (nI tn)])), (ad 2, .inl (cy 0, 600, .inl tb)), (ad 28, .inr (4, [.ref (ad 29)])), (ad 29, .inl (cy 0, 18, .inl dt1))] H := hP
          have hD : va_D A [(ad 27, .inr (5, [.ref (ad 28), .int (nI rl1), .int 1, .int (nI tn), .ref (ad 1), .int (nI ts1), .int (nI te1), .int lw1, .int (nI pa1), .int rt1, .int (nI tw1), .int (nI tm1)])), (ad 1, .inr (8, [.ref (ad 2), .int (nI tn)])), (ad 2, .inl (cy 0, 600, .inl tb)), (ad 28, .inr (4, [.ref (ad 29)])), (ad 29, .inl (cy 0, 18, .inl dt1))] := hD
          refine bw_Qe hQ ?_
          have hP9 : va_P (dC, dI) vwCl [(ad 27, .inr (5, [.ref (ad 28), .int (nI rl1), .int 1, .int (nI tn), .ref (ad 1), .int (nI ts1), .int (nI te1), .int lw1, .int (nI pa1), .int rt1, .int (nI tw1), .int (nI tm1)])), (ad 1, .inr (8, [.ref (ad 2), .int (nI tn)])), (ad 2, .inl (cy 0, 600, .inl tb)), (ad 28, .inr (4, [.ref (ad 29)])), (ad 29, .inl (cy 0, 18, .inl dt1))] H := hP.sub [0, 1, 2, 3, 4] rfl
          have hD9 : va_D A [(ad 27, .inr (5, [.ref (ad 28), .int (nI rl1), .int 1, .int (nI tn), .ref (ad 1), .int (nI ts1), .int (nI te1), .int lw1, .int (nI pa1), .int rt1, .int (nI tw1), .int (nI tm1)])), (ad 1, .inr (8, [.ref (ad 2), .int (nI tn)])), (ad 2, .inl (cy 0, 600, .inl tb)), (ad 28, .inr (4, [.ref (ad 29)])), (ad 29, .inl (cy 0, 18, .inl dt1))] := hD.sub [0, 1, 2, 3, 4] (by decide) rfl
          have hpost : rdP tb tn (1 : Int32).toInt (nI tn).toInt rl1 dt1 := by
            refine Or.inr ⟨by decide, ?_⟩
            rw [nI_toInt (by omega)]
            exact rch_e hR (stp_cut (by rw [tS_n (by omega)]; omega) (by omega))
          exact W.vret hx hb hr (fun t9 ht hW => ⟨⟨(rl1, 1, nI tn, ts1, te1, lw1, pa1, rt1, tw1, tm1, dt1), rfl, hpost, by rw [ht]; exact hP9, va_K.moved hW.alike hK, hD9⟩, hS.F ht⟩) hS.2.2 dX5_read_150
      · skip
        refine lv_aload_n hx hb dX5_read_60 rfl (lv_at hl 0 rfl) ?_
        refine va_get (D := (dC, dI)) (ci := 5) (v := .int (nI te1)) (C := RX5) (T := TX5) (N := 12) hx hb hts hiX5 hown hK hP 0 rfl rfl 6 (by decide) hL8 (fun _ h9 => h9) rfl dX5_read_61 ?_
        refine lv_aload_n hx hb dX5_read_64 rfl (lv_at hl 0 rfl) ?_
        refine va_get (D := (dC, dI)) (ci := 5) (v := .ref (ad 1)) (C := RX5) (T := TX5) (N := 12) hx hb hts hiX5 hown hK hP 0 rfl rfl 4 (by decide) hL9 (fun _ h9 => h9) rfl dX5_read_65 ?_
        refine va_get (D := (dC, dI)) (ci := 8) (v := .int (nI tn)) (C := RX8) (T := TX8) (N := 2) hx hb hts hiX8 hown hK hP 1 rfl rfl 1 (by decide) hL10 (fun _ h9 => h9) rfl dX5_read_68 ?_
        refine bw_icmp_ge (tgt := 126) (a := ((te1 : Nat) : Int)) (b := ((tn : Nat) : Int)) hx hb dX5_read_71 (by decide) (nI_toInt (by omega)) (nI_toInt (by omega)) (fun c_4 => ?_) (fun c_4 => ?_)
        · skip
          refine lv_aload_n hx hb dX5_read_126 rfl (lv_at hl 0 rfl) ?_
          refine va_get (D := (dC, dI)) (ci := 5) (v := .int lw1) (C := RX5) (T := TX5) (N := 12) hx hb hts hiX5 hown hK hP 0 rfl rfl 7 (by decide) hL4 (fun _ h9 => h9) rfl dX5_read_127 ?_
          refine lv_iconst (v := (-1)) hx hb dX5_read_130 (by decide) ?_
          refine bw_icmp_eq (tgt := 150) (a := lw1.toInt) (b := (-1)) hx hb dX5_read_131 (by decide) rfl rfl (fun c_5 => ?_) (fun c_5 => ?_)
          · skip
            refine bw_Qe hQ ?_
            have hP9 : va_P (dC, dI) vwCl [(ad 27, .inr (5, [.ref (ad 28), .int (nI rl1), .int fk1, .int (-1), .ref (ad 1), .int (nI ts1), .int (nI te1), .int lw1, .int (nI pa1), .int rt1, .int (nI tw1), .int (nI tm1)])), (ad 1, .inr (8, [.ref (ad 2), .int (nI tn)])), (ad 2, .inl (cy 0, 600, .inl tb)), (ad 28, .inr (4, [.ref (ad 29)])), (ad 29, .inl (cy 0, 18, .inl dt1))] H := hP.sub [0, 1, 2, 3, 4] rfl
            have hD9 : va_D A [(ad 27, .inr (5, [.ref (ad 28), .int (nI rl1), .int fk1, .int (-1), .ref (ad 1), .int (nI ts1), .int (nI te1), .int lw1, .int (nI pa1), .int rt1, .int (nI tw1), .int (nI tm1)])), (ad 1, .inr (8, [.ref (ad 2), .int (nI tn)])), (ad 2, .inl (cy 0, 600, .inl tb)), (ad 28, .inr (4, [.ref (ad 29)])), (ad 29, .inl (cy 0, 18, .inl dt1))] := hD.sub [0, 1, 2, 3, 4] (by decide) rfl
            have hpost : rdP tb tn fk1.toInt ((-1) : Int32).toInt rl1 dt1 := by
              exact Or.inl ⟨hfk, rfl, hrg1, d1, rch_e hR (stp_end (by rw [tS_n (by omega)]; omega) (by omega)), hag1⟩
            exact W.vret hx hb hr (fun t9 ht hW => ⟨⟨(rl1, fk1, (-1), ts1, te1, lw1, pa1, rt1, tw1, tm1, dt1), rfl, hpost, by rw [ht]; exact hP9, va_K.moved hW.alike hK, hD9⟩, hS.F ht⟩) hS.2.2 dX5_read_150
          · skip
            refine lv_aload_n hx hb dX5_read_134 rfl (lv_at hl 0 rfl) ?_
            refine lv_iconst (v := 1) hx hb dX5_read_135 (by decide) ?_
            refine va_put (D := (dC, dI)) (ci := 5) (v := .int 1) (ty := (tyX5 2)) (C := RX5) (T := TX5) (N := 12) hx hb hts hiX5 tyX5 tyX5_ok nmX5 hown hK hP hD hS 0 rfl rfl 2 (by decide) hL2 (fun _ h9 => h9) rfl (by decide +kernel) rfl rfl (Nat.le_of_ble_eq_true rfl) dX5_read_136 (fun H locs hP hD hS => ?_)
            have hP : va_P (dC, dI) vwCl [(ad 27, .inr (5, [.ref (ad 28), .int (nI rl1), .int 1, .int (-1), .ref (ad 1), .int (nI ts1), .int (nI te1), .int lw1, .int (nI pa1), .int rt1, .int (nI tw1), .int (nI tm1)])), (ad 1, .inr (8, [.ref (ad 2), .int (nI tn)])), (ad 2, .inl (cy 0, 600, .inl tb)), (ad 28, .inr (4, [.ref (ad 29)])), (ad 29, .inl (cy 0, 18, .inl dt1))] H := hP
            have hD : va_D A [(ad 27, .inr (5, [.ref (ad 28), .int (nI rl1), .int 1, .int (-1), .ref (ad 1), .int (nI ts1), .int (nI te1), .int lw1, .int (nI pa1), .int rt1, .int (nI tw1), .int (nI tm1)])), (ad 1, .inr (8, [.ref (ad 2), .int (nI tn)])), (ad 2, .inl (cy 0, 600, .inl tb)), (ad 28, .inr (4, [.ref (ad 29)])), (ad 29, .inl (cy 0, 18, .inl dt1))] := hD
            refine lv_aload_n hx hb dX5_read_139 rfl (lv_at hl 0 rfl) ?_
            refine lv_aload_n hx hb dX5_read_140 rfl (lv_at hl 0 rfl) ?_
            refine va_get (D := (dC, dI)) (ci := 5) (v := .ref (ad 1)) (C := RX5) (T := TX5) (N := 12) hx hb hts hiX5 hown hK hP 0 rfl rfl 4 (by decide) hL9 (fun _ h9 => h9) rfl dX5_read_141 ?_
            refine va_get (D := (dC, dI)) (ci := 8) (v := .int (nI tn)) (C := RX8) (T := TX8) (N := 2) hx hb hts hiX8 hown hK hP 1 rfl rfl 1 (by decide) hL10 (fun _ h9 => h9) rfl dX5_read_144 ?_
            refine va_put (D := (dC, dI)) (ci := 5) (v := .int (nI tn)) (ty := (tyX5 3)) (C := RX5) (T := TX5) (N := 12) hx hb hts hiX5 tyX5 tyX5_ok nmX5 hown hK hP hD hS 0 rfl rfl 3 (by decide) hL3 (fun _ h9 => h9) rfl (by decide +kernel) rfl rfl (Nat.le_of_ble_eq_true rfl) dX5_read_147 (fun H locs hP hD hS => ?_)
            have hP : va_P (dC, dI) vwCl [(ad 27, .inr (5, [.ref (ad 28), .int (nI rl1), .int 1, .int (nI tn), .ref (ad 1), .int (nI ts1), .int (nI te1), .int lw1, .int (nI pa1), .int rt1, .int (nI tw1), .int (nI tm1)])), (ad 1, .inr (8, [.ref (ad 2), .int (nI tn)])), (ad 2, .inl (cy 0, 600, .inl tb)), (ad 28, .inr (4, [.ref (ad 29)])), (ad 29, .inl (cy 0, 18, .inl dt1))] H := hP
            have hD : va_D A [(ad 27, .inr (5, [.ref (ad 28), .int (nI rl1), .int 1, .int (nI tn), .ref (ad 1), .int (nI ts1), .int (nI te1), .int lw1, .int (nI pa1), .int rt1, .int (nI tw1), .int (nI tm1)])), (ad 1, .inr (8, [.ref (ad 2), .int (nI tn)])), (ad 2, .inl (cy 0, 600, .inl tb)), (ad 28, .inr (4, [.ref (ad 29)])), (ad 29, .inl (cy 0, 18, .inl dt1))] := hD
            refine bw_Qe hQ ?_
            have hP9 : va_P (dC, dI) vwCl [(ad 27, .inr (5, [.ref (ad 28), .int (nI rl1), .int 1, .int (nI tn), .ref (ad 1), .int (nI ts1), .int (nI te1), .int lw1, .int (nI pa1), .int rt1, .int (nI tw1), .int (nI tm1)])), (ad 1, .inr (8, [.ref (ad 2), .int (nI tn)])), (ad 2, .inl (cy 0, 600, .inl tb)), (ad 28, .inr (4, [.ref (ad 29)])), (ad 29, .inl (cy 0, 18, .inl dt1))] H := hP.sub [0, 1, 2, 3, 4] rfl
            have hD9 : va_D A [(ad 27, .inr (5, [.ref (ad 28), .int (nI rl1), .int 1, .int (nI tn), .ref (ad 1), .int (nI ts1), .int (nI te1), .int lw1, .int (nI pa1), .int rt1, .int (nI tw1), .int (nI tm1)])), (ad 1, .inr (8, [.ref (ad 2), .int (nI tn)])), (ad 2, .inl (cy 0, 600, .inl tb)), (ad 28, .inr (4, [.ref (ad 29)])), (ad 29, .inl (cy 0, 18, .inl dt1))] := hD.sub [0, 1, 2, 3, 4] (by decide) rfl
            have hpost : rdP tb tn (1 : Int32).toInt (nI tn).toInt rl1 dt1 := by
              refine Or.inr ⟨by decide, ?_⟩
              rw [nI_toInt (by omega)]
              exact rch_e hR (stp_cut (by rw [tS_n (by omega)]; omega) (by omega))
            exact W.vret hx hb hr (fun t9 ht hW => ⟨⟨(rl1, 1, nI tn, ts1, te1, lw1, pa1, rt1, tw1, tm1, dt1), rfl, hpost, by rw [ht]; exact hP9, va_K.moved hW.alike hK, hD9⟩, hS.F ht⟩) hS.2.2 dX5_read_150
        · skip
          refine lv_aload_n hx hb dX5_read_74 rfl (lv_at hl 0 rfl) ?_
          have hPc : va_P (dC, dI) vwCl [(ad 27, .inr (5, [.ref (ad 28), .int (nI rl1), .int fk1, .int (-1), .ref (ad 1), .int (nI ts1), .int (nI te1), .int lw1, .int (nI pa1), .int rt1, .int (nI tw1), .int (nI tm1)])), (ad 1, .inr (8, [.ref (ad 2), .int (nI tn)])), (ad 2, .inl (cy 0, 600, .inl tb))] H := hP.sub [0, 1, 2] rfl
          have hDc : va_D A [(ad 27, .inr (5, [.ref (ad 28), .int (nI rl1), .int fk1, .int (-1), .ref (ad 1), .int (nI ts1), .int (nI te1), .int lw1, .int (nI pa1), .int rt1, .int (nI tw1), .int (nI tm1)])), (ad 1, .inr (8, [.ref (ad 2), .int (nI tn)])), (ad 2, .inl (cy 0, 600, .inl tb))] := hD.sub [0, 1, 2] (by decide) rfl
          have hFc := va_free (wc := [(ad 27, .inr (5, [.ref (ad 28), .int (nI rl1), .int fk1, .int (-1), .ref (ad 1), .int (nI ts1), .int (nI te1), .int lw1, .int (nI pa1), .int rt1, .int (nI tw1), .int (nI tm1)])), (ad 1, .inr (8, [.ref (ad 2), .int (nI tn)])), (ad 2, .inl (cy 0, 600, .inl tb))]) hD hS hA [0, 1, 2] rfl
          refine va_callv (va_runV (As := []) (rest := []) ⟨hx, hb, hml, hown, hts⟩ (c_X5_findToken l dC dI cy ad rl1 fk1 (-1) ts1 te1 lw1 pa1 rt1 tw1 tm1 tn tb H.size (by first | assumption | omega) (by first | assumption | omega)) (cwV 0 hts gX5_read_X5_findToken rfl rfl rfl (by decide +kernel) ⟨Nat.le_of_ble_eq_true rfl, Nat.le_of_ble_eq_true rfl⟩) ⟨fun a U g mk q => by obtain ⟨q0, q1, qP, qK, qD, qn0, qn1, qn2⟩ := q; exact ⟨q0, q1, qP, va_K.moved (u := U) (U := U.calling g mk a) (Vm.Alike.refl U.vm) qK, qD, va_Nw.same (u := U) (U := U.calling g mk a) rfl rfl qn0, va_Nw.same (u := U) (U := U.calling g mk a) rfl rfl qn1, va_Nw.same (u := U) (U := U.calling g mk a) rfl rfl qn2⟩, va_recv hK hPc (ci := 5) (q0 := 0) rfl rfl, fun U hU hW => ⟨rfl, by rw [hU], by rw [hU]; exact hPc, va_K.moved hW.alike hK, hDc.weaken (fun _ _ _ _ => trivial), va_Nw.warmM hW hn0, va_Nw.warmM hW hn1, va_Nw.warmM hW hn2⟩⟩ rfl rfl hl.1 rfl (lv_room (Nat.le_of_ble_eq_true rfl)) dX5_read_75 ⟨Nat.le_of_ble_eq_true rfl, Nat.le_of_ble_eq_true rfl⟩) hS (fun q _ h => hFc q h) hFc (fun u t9 H1 locs ht hvm hw hB hz1 hk1 hS => ?_)
          obtain ⟨ts2_6, te2_7⟩ := u
          have hft := hw
          try dsimp only at hft
          obtain ⟨hP1, hK1, hD1⟩ := hB
          rw [ht] at hP1
          obtain ⟨hP, hD⟩ := va_join (wr := [(ad 28, .inr (4, [.ref (ad 29)])), (ad 29, .inl (cy 0, 18, .inl dt1))]) (w1 := [(ad 27, .inr (5, [.ref (ad 28), .int (nI rl1), .int fk1, .int (-1), .ref (ad 1), .int (nI ts2_6), .int (nI te2_7), .int lw1, .int (nI pa1), .int rt1, .int (nI tw1), .int (nI tm1)])), (ad 1, .inr (8, [.ref (ad 2), .int (nI tn)])), (ad 2, .inl (cy 0, 600, .inl tb))]) hP hD [0, 1, 2] [3, 4] rfl rfl (by decide) (by decide) hk1 hFc hP1 hD1
          generalize H1 = H at hP hS ⊢
          have hP : va_P (dC, dI) vwCl [(ad 27, .inr (5, [.ref (ad 28), .int (nI rl1), .int fk1, .int (-1), .ref (ad 1), .int (nI ts2_6), .int (nI te2_7), .int lw1, .int (nI pa1), .int rt1, .int (nI tw1), .int (nI tm1)])), (ad 1, .inr (8, [.ref (ad 2), .int (nI tn)])), (ad 2, .inl (cy 0, 600, .inl tb)), (ad 28, .inr (4, [.ref (ad 29)])), (ad 29, .inl (cy 0, 18, .inl dt1))] H := hP.sub [2, 3, 4, 0, 1] rfl
          have hD : va_D A [(ad 27, .inr (5, [.ref (ad 28), .int (nI rl1), .int fk1, .int (-1), .ref (ad 1), .int (nI ts2_6), .int (nI te2_7), .int lw1, .int (nI pa1), .int rt1, .int (nI tw1), .int (nI tm1)])), (ad 1, .inr (8, [.ref (ad 2), .int (nI tn)])), (ad 2, .inl (cy 0, 600, .inl tb)), (ad 28, .inr (4, [.ref (ad 29)])), (ad 29, .inl (cy 0, 18, .inl dt1))] := hD.sub [2, 3, 4, 0, 1] (by decide) rfl
          obtain ⟨f1, f2, f3, f4, f5, f6, f7⟩ := hft
          have hR2 := hR
          rw [← f1] at hR2
          refine lv_aload_n hx hb dX5_read_78 rfl (lv_at hl 0 rfl) ?_
          refine lv_aload_n hx hb dX5_read_79 rfl (lv_at hl 0 rfl) ?_
          refine va_get (D := (dC, dI)) (ci := 5) (v := .int (nI ts2_6)) (C := RX5) (T := TX5) (N := 12) hx hb hts hiX5 hown hK hP 0 rfl rfl 5 (by decide) hL11 (fun _ h9 => h9) rfl dX5_read_80 ?_
          refine lv_aload_n hx hb dX5_read_83 rfl (lv_at hl 0 rfl) ?_
          refine va_get (D := (dC, dI)) (ci := 5) (v := .ref (ad 1)) (C := RX5) (T := TX5) (N := 12) hx hb hts hiX5 hown hK hP 0 rfl rfl 4 (by decide) hL9 (fun _ h9 => h9) rfl dX5_read_84 ?_
          refine va_get (D := (dC, dI)) (ci := 8) (v := .int (nI tn)) (C := RX8) (T := TX8) (N := 2) hx hb hts hiX8 hown hK hP 1 rfl rfl 1 (by decide) hL10 (fun _ h9 => h9) rfl dX5_read_87 ?_
          refine bw_icmp_ge (tgt := 100) (a := ((ts2_6 : Nat) : Int)) (b := ((tn : Nat) : Int)) hx hb dX5_read_90 (by decide) (nI_toInt (by omega)) (nI_toInt (by omega)) (fun c_8 => ?_) (fun c_8 => ?_)
          · skip
            refine lv_iconst (v := 0) hx hb dX5_read_100 (by decide) ?_
            refine va_put (D := (dC, dI)) (ci := 5) (v := .int 0) (ty := (tyX5 2)) (C := RX5) (T := TX5) (N := 12) hx hb hts hiX5 tyX5 tyX5_ok nmX5 hown hK hP hD hS 0 rfl rfl 2 (by decide) hL2 (fun _ h9 => h9) rfl (by decide +kernel) rfl rfl (Nat.le_of_ble_eq_true rfl) dX5_read_101 (fun H locs hP hD hS => ?_)
            have hP : va_P (dC, dI) vwCl [(ad 27, .inr (5, [.ref (ad 28), .int (nI rl1), .int 0, .int (-1), .ref (ad 1), .int (nI ts2_6), .int (nI te2_7), .int lw1, .int (nI pa1), .int rt1, .int (nI tw1), .int (nI tm1)])), (ad 1, .inr (8, [.ref (ad 2), .int (nI tn)])), (ad 2, .inl (cy 0, 600, .inl tb)), (ad 28, .inr (4, [.ref (ad 29)])), (ad 29, .inl (cy 0, 18, .inl dt1))] H := hP
            have hD : va_D A [(ad 27, .inr (5, [.ref (ad 28), .int (nI rl1), .int 0, .int (-1), .ref (ad 1), .int (nI ts2_6), .int (nI te2_7), .int lw1, .int (nI pa1), .int rt1, .int (nI tw1), .int (nI tm1)])), (ad 1, .inr (8, [.ref (ad 2), .int (nI tn)])), (ad 2, .inl (cy 0, 600, .inl tb)), (ad 28, .inr (4, [.ref (ad 29)])), (ad 29, .inl (cy 0, 18, .inl dt1))] := hD
            refine lv_aload_n hx hb dX5_read_104 rfl (lv_at hl 0 rfl) ?_
            refine va_get (D := (dC, dI)) (ci := 5) (v := .int 0) (C := RX5) (T := TX5) (N := 12) hx hb hts hiX5 hown hK hP 0 rfl rfl 2 (by decide) hL2 (fun _ h9 => h9) rfl dX5_read_105 ?_
            refine bw_if_eq (tgt := 120) (a := 0) hx hb dX5_read_108 (by decide) rfl (fun c_k => ?_) (fun c_k => ?_)
            · skip
              refine lv_iinc (v := nI (k + 1)) (lv' := [(1, .int (nI (k + 1))), (0, .ref (ad 27))]) hx hb dX5_read_120 hl (k := 1) rfl (show nI k + Int32.ofInt 1 = nI (k + 1) from nI_add k 1) (by decide) rfl (fun ls hl => ?_)
              refine lv_goto (tgt := 49) hx hb dX5_read_123 (by decide) ?_
              have hI_hI1 : rI lw1.toInt pa1 tw1 tm1 := by
                first
                  | exact hI2
                  | exact hI1
              have hI_hth1 : lw1.toInt = 7 → 1 ≤ pa1 → rt1 = nI th1 ∧ th1 < 8 := by
                first
                  | exact hth2
                  | exact hth1
              have hI_hag1 : agr dt1 d1 := by
                first
                  | exact hag2
                  | exact hag1
              have hI_hrg1 : rgs dt1 := by
                first
                  | exact hrg2
                  | exact hrg1
              have hI_hR : rch tb tn (tS tb tn te2_7, lw1.toInt, pa1, th1, tw1, tm1, rl1, d1) := by
                first
                  | (rcases htk with ⟨_, hs⟩ | ⟨hne, _⟩
                     · exact rch_s hR2 hs
                     · exact absurd c_k hne)
                  | (have e9 : tS tb tn te2_7 = tS tb tn te1 := by rw [tS_n (by omega), f7 (by omega), f1]
                     rw [e9]; exact hR)
              have hI_hfk : (0 : Int32).toInt = 0 := by
                first
                  | exact c_k
                  | rfl
              exact ih49 (k + 1) rl1 0 ts2_6 te2_7 lw1 pa1 rt1 tw1 tm1 dt1 th1 d1 (by omega) (by first | assumption | omega) (by first | assumption | omega) hI_hI1 hI_hth1 hI_hag1 hI_hrg1 hI_hR hI_hfk H locs hP hD hS ls (lv_sub hl [1, 0] rfl)
            · exact absurd c_k (by decide)
          · skip
            obtain ⟨g1, g2, g3⟩ := f6 (by omega)
            refine lv_aload_n hx hb dX5_read_93 rfl (lv_at hl 0 rfl) ?_
            have hPc : va_P (dC, dI) vwCl [(ad 27, .inr (5, [.ref (ad 28), .int (nI rl1), .int fk1, .int (-1), .ref (ad 1), .int (nI ts2_6), .int (nI te2_7), .int lw1, .int (nI pa1), .int rt1, .int (nI tw1), .int (nI tm1)])), (ad 1, .inr (8, [.ref (ad 2), .int (nI tn)])), (ad 2, .inl (cy 0, 600, .inl tb)), (ad 28, .inr (4, [.ref (ad 29)])), (ad 29, .inl (cy 0, 18, .inl dt1))] H := hP.sub [0, 1, 2, 3, 4] rfl
            have hDc : va_D A [(ad 27, .inr (5, [.ref (ad 28), .int (nI rl1), .int fk1, .int (-1), .ref (ad 1), .int (nI ts2_6), .int (nI te2_7), .int lw1, .int (nI pa1), .int rt1, .int (nI tw1), .int (nI tm1)])), (ad 1, .inr (8, [.ref (ad 2), .int (nI tn)])), (ad 2, .inl (cy 0, 600, .inl tb)), (ad 28, .inr (4, [.ref (ad 29)])), (ad 29, .inl (cy 0, 18, .inl dt1))] := hD.sub [0, 1, 2, 3, 4] (by decide) rfl
            have hFc := va_free (wc := [(ad 27, .inr (5, [.ref (ad 28), .int (nI rl1), .int fk1, .int (-1), .ref (ad 1), .int (nI ts2_6), .int (nI te2_7), .int lw1, .int (nI pa1), .int rt1, .int (nI tw1), .int (nI tm1)])), (ad 1, .inr (8, [.ref (ad 2), .int (nI tn)])), (ad 2, .inl (cy 0, 600, .inl tb)), (ad 28, .inr (4, [.ref (ad 29)])), (ad 29, .inl (cy 0, 18, .inl dt1))]) hD hS hA [0, 1, 2, 3, 4] rfl
            refine va_calli (va_runV (As := []) (rest := [.ref (ad 27)]) ⟨hx, hb, hml, hown, hts⟩ (c_X5_takeToken l dC dI cy sa sv fv ad rl1 fk1 (-1) ts2_6 te2_7 lw1 pa1 rt1 tw1 tm1 tn tb dt1 th1 d1 H.size (by first | assumption | omega) (by first | assumption | omega) (by first | assumption | omega) (by first | assumption | omega) (by first | assumption | omega) (by first | assumption | omega) (by first | assumption | omega) (by first | assumption | omega)) (cwV 0 hts gX5_read_X5_takeToken rfl rfl rfl (by decide +kernel) ⟨Nat.le_of_ble_eq_true rfl, Nat.le_of_ble_eq_true rfl⟩) ⟨fun a U g mk q => by obtain ⟨q0, q1, qP, qK, qD, qE, qn0⟩ := q; exact ⟨q0, q1, qP, va_K.moved (u := U) (U := U.calling g mk a) (Vm.Alike.refl U.vm) qK, qD, sW.call qE g mk a, va_Nw.same (u := U) (U := U.calling g mk a) rfl rfl qn0⟩, va_recv hK hPc (ci := 5) (q0 := 0) rfl rfl, fun U hU hW => ⟨rfl, by rw [hU], by rw [hU]; exact hPc, va_K.moved hW.alike hK, hDc.weaken (fun _ _ _ _ => trivial), ((hE.kept hS.2.1).go hW hU).narrow hFc, va_Nw.warmM hW hn0⟩⟩ rfl rfl hl.1 rfl (lv_room (Nat.le_of_ble_eq_true rfl)) dX5_read_94 ⟨Nat.le_of_ble_eq_true rfl, Nat.le_of_ble_eq_true rfl⟩) hS (fun q _ h => hFc q h) hFc (fun r1 u t9 H1 locs ht hvm hw hB hz1 hk1 hS => ?_)
            obtain ⟨rl2_9, lw2_10, pa2_11, rt2_12, tw2_13, tm2_14, dt2_15, th2_16, d2_17⟩ := u
            have hr1 := hw
            try dsimp only at hr1
            obtain ⟨hP1, hK1, hD1⟩ := hB
            rw [ht] at hP1
            obtain ⟨hP, hD⟩ := va_join (wr := []) (w1 := [(ad 27, .inr (5, [.ref (ad 28), .int (nI rl2_9), .int fk1, .int (-1), .ref (ad 1), .int (nI ts2_6), .int (nI te2_7), .int lw2_10, .int (nI pa2_11), .int rt2_12, .int (nI tw2_13), .int (nI tm2_14)])), (ad 1, .inr (8, [.ref (ad 2), .int (nI tn)])), (ad 2, .inl (cy 0, 600, .inl tb)), (ad 28, .inr (4, [.ref (ad 29)])), (ad 29, .inl (cy 0, 18, .inl dt2_15))]) hP hD [0, 1, 2, 3, 4] [] rfl rfl (by decide) (by decide) hk1 hFc hP1 hD1
            generalize H1 = H at hP hS ⊢
            have hP : va_P (dC, dI) vwCl [(ad 27, .inr (5, [.ref (ad 28), .int (nI rl2_9), .int fk1, .int (-1), .ref (ad 1), .int (nI ts2_6), .int (nI te2_7), .int lw2_10, .int (nI pa2_11), .int rt2_12, .int (nI tw2_13), .int (nI tm2_14)])), (ad 1, .inr (8, [.ref (ad 2), .int (nI tn)])), (ad 2, .inl (cy 0, 600, .inl tb)), (ad 28, .inr (4, [.ref (ad 29)])), (ad 29, .inl (cy 0, 18, .inl dt2_15))] H := hP.sub [0, 1, 2, 3, 4] rfl
            have hD : va_D A [(ad 27, .inr (5, [.ref (ad 28), .int (nI rl2_9), .int fk1, .int (-1), .ref (ad 1), .int (nI ts2_6), .int (nI te2_7), .int lw2_10, .int (nI pa2_11), .int rt2_12, .int (nI tw2_13), .int (nI tm2_14)])), (ad 1, .inr (8, [.ref (ad 2), .int (nI tn)])), (ad 2, .inl (cy 0, 600, .inl tb)), (ad 28, .inr (4, [.ref (ad 29)])), (ad 29, .inl (cy 0, 18, .inl dt2_15))] := hD.sub [0, 1, 2, 3, 4] (by decide) rfl
            obtain ⟨htk, hI2, hth2, hag2, hrg2⟩ := hr1
            refine lv_goto (tgt := 101) hx hb dX5_read_97 (by decide) ?_
            refine va_put (D := (dC, dI)) (ci := 5) (v := .int r1) (ty := (tyX5 2)) (C := RX5) (T := TX5) (N := 12) hx hb hts hiX5 tyX5 tyX5_ok nmX5 hown hK hP hD hS 0 rfl rfl 2 (by decide) hL2 (fun _ h9 => h9) rfl (by decide +kernel) rfl rfl (Nat.le_of_ble_eq_true rfl) dX5_read_101 (fun H locs hP hD hS => ?_)
            have hP : va_P (dC, dI) vwCl [(ad 27, .inr (5, [.ref (ad 28), .int (nI rl2_9), .int r1, .int (-1), .ref (ad 1), .int (nI ts2_6), .int (nI te2_7), .int lw2_10, .int (nI pa2_11), .int rt2_12, .int (nI tw2_13), .int (nI tm2_14)])), (ad 1, .inr (8, [.ref (ad 2), .int (nI tn)])), (ad 2, .inl (cy 0, 600, .inl tb)), (ad 28, .inr (4, [.ref (ad 29)])), (ad 29, .inl (cy 0, 18, .inl dt2_15))] H := hP
            have hD : va_D A [(ad 27, .inr (5, [.ref (ad 28), .int (nI rl2_9), .int r1, .int (-1), .ref (ad 1), .int (nI ts2_6), .int (nI te2_7), .int lw2_10, .int (nI pa2_11), .int rt2_12, .int (nI tw2_13), .int (nI tm2_14)])), (ad 1, .inr (8, [.ref (ad 2), .int (nI tn)])), (ad 2, .inl (cy 0, 600, .inl tb)), (ad 28, .inr (4, [.ref (ad 29)])), (ad 29, .inl (cy 0, 18, .inl dt2_15))] := hD
            refine lv_aload_n hx hb dX5_read_104 rfl (lv_at hl 0 rfl) ?_
            refine va_get (D := (dC, dI)) (ci := 5) (v := .int r1) (C := RX5) (T := TX5) (N := 12) hx hb hts hiX5 hown hK hP 0 rfl rfl 2 (by decide) hL2 (fun _ h9 => h9) rfl dX5_read_105 ?_
            refine bw_if_eq (tgt := 120) (a := r1.toInt) hx hb dX5_read_108 (by decide) rfl (fun c_k => ?_) (fun c_k => ?_)
            · skip
              refine lv_iinc (v := nI (k + 1)) (lv' := [(1, .int (nI (k + 1))), (0, .ref (ad 27))]) hx hb dX5_read_120 hl (k := 1) rfl (show nI k + Int32.ofInt 1 = nI (k + 1) from nI_add k 1) (by decide) rfl (fun ls hl => ?_)
              refine lv_goto (tgt := 49) hx hb dX5_read_123 (by decide) ?_
              have hI_hI1 : rI lw2_10.toInt pa2_11 tw2_13 tm2_14 := by
                first
                  | exact hI2
                  | exact hI1
              have hI_hth1 : lw2_10.toInt = 7 → 1 ≤ pa2_11 → rt2_12 = nI th2_16 ∧ th2_16 < 8 := by
                first
                  | exact hth2
                  | exact hth1
              have hI_hag1 : agr dt2_15 d2_17 := by
                first
                  | exact hag2
                  | exact hag1
              have hI_hrg1 : rgs dt2_15 := by
                first
                  | exact hrg2
                  | exact hrg1
              have hI_hR : rch tb tn (tS tb tn te2_7, lw2_10.toInt, pa2_11, th2_16, tw2_13, tm2_14, rl2_9, d2_17) := by
                first
                  | (rcases htk with ⟨_, hs⟩ | ⟨hne, _⟩
                     · exact rch_s hR2 hs
                     · exact absurd c_k hne)
                  | (have e9 : tS tb tn te2_7 = tS tb tn te1 := by rw [tS_n (by omega), f7 (by omega), f1]
                     rw [e9]; exact hR)
              have hI_hfk : r1.toInt = 0 := by
                first
                  | exact c_k
                  | rfl
              exact ih49 (k + 1) rl2_9 r1 ts2_6 te2_7 lw2_10 pa2_11 rt2_12 tw2_13 tm2_14 dt2_15 th2_16 d2_17 (by omega) (by first | assumption | omega) (by first | assumption | omega) hI_hI1 hI_hth1 hI_hag1 hI_hrg1 hI_hR hI_hfk H locs hP hD hS ls (lv_sub hl [1, 0] rfl)
            · skip
              refine lv_aload_n hx hb dX5_read_111 rfl (lv_at hl 0 rfl) ?_
              refine lv_aload_n hx hb dX5_read_112 rfl (lv_at hl 0 rfl) ?_
              refine va_get (D := (dC, dI)) (ci := 5) (v := .int (nI ts2_6)) (C := RX5) (T := TX5) (N := 12) hx hb hts hiX5 hown hK hP 0 rfl rfl 5 (by decide) hL11 (fun _ h9 => h9) rfl dX5_read_113 ?_
              refine va_put (D := (dC, dI)) (ci := 5) (v := .int (nI ts2_6)) (ty := (tyX5 3)) (C := RX5) (T := TX5) (N := 12) hx hb hts hiX5 tyX5 tyX5_ok nmX5 hown hK hP hD hS 0 rfl rfl 3 (by decide) hL3 (fun _ h9 => h9) rfl (by decide +kernel) rfl rfl (Nat.le_of_ble_eq_true rfl) dX5_read_116 (fun H locs hP hD hS => ?_)
              have hP : va_P (dC, dI) vwCl [(ad 27, .inr (5, [.ref (ad 28), .int (nI rl2_9), .int r1, .int (nI ts2_6), .ref (ad 1), .int (nI ts2_6), .int (nI te2_7), .int lw2_10, .int (nI pa2_11), .int rt2_12, .int (nI tw2_13), .int (nI tm2_14)])), (ad 1, .inr (8, [.ref (ad 2), .int (nI tn)])), (ad 2, .inl (cy 0, 600, .inl tb)), (ad 28, .inr (4, [.ref (ad 29)])), (ad 29, .inl (cy 0, 18, .inl dt2_15))] H := hP
              have hD : va_D A [(ad 27, .inr (5, [.ref (ad 28), .int (nI rl2_9), .int r1, .int (nI ts2_6), .ref (ad 1), .int (nI ts2_6), .int (nI te2_7), .int lw2_10, .int (nI pa2_11), .int rt2_12, .int (nI tw2_13), .int (nI tm2_14)])), (ad 1, .inr (8, [.ref (ad 2), .int (nI tn)])), (ad 2, .inl (cy 0, 600, .inl tb)), (ad 28, .inr (4, [.ref (ad 29)])), (ad 29, .inl (cy 0, 18, .inl dt2_15))] := hD
              refine bw_Qe hQ ?_
              have hP9 : va_P (dC, dI) vwCl [(ad 27, .inr (5, [.ref (ad 28), .int (nI rl2_9), .int r1, .int (nI ts2_6), .ref (ad 1), .int (nI ts2_6), .int (nI te2_7), .int lw2_10, .int (nI pa2_11), .int rt2_12, .int (nI tw2_13), .int (nI tm2_14)])), (ad 1, .inr (8, [.ref (ad 2), .int (nI tn)])), (ad 2, .inl (cy 0, 600, .inl tb)), (ad 28, .inr (4, [.ref (ad 29)])), (ad 29, .inl (cy 0, 18, .inl dt2_15))] H := hP.sub [0, 1, 2, 3, 4] rfl
              have hD9 : va_D A [(ad 27, .inr (5, [.ref (ad 28), .int (nI rl2_9), .int r1, .int (nI ts2_6), .ref (ad 1), .int (nI ts2_6), .int (nI te2_7), .int lw2_10, .int (nI pa2_11), .int rt2_12, .int (nI tw2_13), .int (nI tm2_14)])), (ad 1, .inr (8, [.ref (ad 2), .int (nI tn)])), (ad 2, .inl (cy 0, 600, .inl tb)), (ad 28, .inr (4, [.ref (ad 29)])), (ad 29, .inl (cy 0, 18, .inl dt2_15))] := hD.sub [0, 1, 2, 3, 4] (by decide) rfl
              have hpost : rdP tb tn r1.toInt (nI ts2_6).toInt rl2_9 dt2_15 := by
                rcases htk with ⟨hz, _⟩ | ⟨hne, hs⟩
                · exact absurd hz c_k
                · refine Or.inr ⟨hne, ?_⟩
                  rw [nI_toInt (by omega)]
                  exact rch_e hR2 hs
              exact W.vret hx hb hr (fun t9 ht hW => ⟨⟨(rl2_9, r1, nI ts2_6, ts2_6, te2_7, lw2_10, pa2_11, rt2_12, tw2_13, tm2_14, dt2_15), rfl, hpost, by rw [ht]; exact hP9, va_K.moved hW.alike hK, hD9⟩, hS.F ht⟩) hS.2.2 dX5_read_119
  have hI_hI1 : rI ((-1) : Int32).toInt 0 0 0 := by
    exact ⟨by decide, by decide, by decide, by decide, by decide⟩
  have hI_hth1 : ((-1) : Int32).toInt = 7 → 1 ≤ 0 → rt = nI 0 ∧ 0 < 8 := by
    exact fun q => absurd q (by decide)
  have hI_hag1 : agr f2_1 dPl := by
    exact htn9
  have hI_hrg1 : rgs f2_1 := by
    exact rgs_pl htn9
  have hI_hR : rch tb tn (tS tb tn 0, ((-1) : Int32).toInt, 0, 0, 0, 0, 0, dPl) := by
    exact rch_0
  have hI_hfk : (0 : Int32).toInt = 0 := by
    rfl
  exact L_49 ((tn + 1 - 0) + 1) 0 0 0 ts 0 (-1) 0 rt 0 0 f2_1 0 dPl (by omega) (by first | assumption | omega) (by first | assumption | omega) hI_hI1 hI_hth1 hI_hag1 hI_hrg1 hI_hR hI_hfk H locs hP hD hS ls (lv_sub hl [1, 0] rfl)

set_option maxHeartbeats 4000000 in
set_option maxRecDepth 100000 in
theorem c_X10_rules (l : Launch) (dC : Nat → ClassId) (dI : Nat → Nat → Nat) (cy : Nat → ClassId) (sa sv : Nat → Nat) (fv : Value) (ad : Nat → Nat) (rl : Nat) (fk : Int32) (fp : Int32) (ts : Nat) (te : Nat) (lw : Int32) (pa : Nat) (rt : Int32) (tw : Nat) (tm : Nat) (tn : Nat) (tb : Nat → Int32) (dt : Nat → Int32) (tl : Nat → Int32) (sz : Nat) (htn : tn ≤ 600) : Met l yX10_rules wsX10_rules ({ frames := 8, cells := 0, slots := 0, locals := 170 }) (va_Pc [.ref (ad 0)] (fun U => U.heap.size = sz ∧ va_P (dC, dI) vwCl [(ad 0, .inr (10, [.ref (ad 1), .ref (ad 3), .ref (ad 9), .ref (ad 14), .ref (ad 22), .ref (ad 25), .ref (ad 27), .ref (ad 30), .ref (ad 41), .ref (ad 43)])), (ad 27, .inr (5, [.ref (ad 28), .int (nI rl), .int fk, .int fp, .ref (ad 1), .int (nI ts), .int (nI te), .int lw, .int (nI pa), .int rt, .int (nI tw), .int (nI tm)])), (ad 1, .inr (8, [.ref (ad 2), .int (nI tn)])), (ad 2, .inl (cy 0, 600, .inl tb)), (ad 28, .inr (4, [.ref (ad 29)])), (ad 29, .inl (cy 0, 18, .inl dt)), (ad 25, .inr (4, [.ref (ad 26)])), (ad 26, .inl (cy 0, 18, .inl tl))] U.heap ∧ va_K (dC, dI) vwCl (tyL cy) U ∧ va_D (fun _ => True) [(ad 0, .inr (10, [.ref (ad 1), .ref (ad 3), .ref (ad 9), .ref (ad 14), .ref (ad 22), .ref (ad 25), .ref (ad 27), .ref (ad 30), .ref (ad 41), .ref (ad 43)])), (ad 27, .inr (5, [.ref (ad 28), .int (nI rl), .int fk, .int fp, .ref (ad 1), .int (nI ts), .int (nI te), .int lw, .int (nI pa), .int rt, .int (nI tw), .int (nI tm)])), (ad 1, .inr (8, [.ref (ad 2), .int (nI tn)])), (ad 2, .inl (cy 0, 600, .inl tb)), (ad 28, .inr (4, [.ref (ad 29)])), (ad 29, .inl (cy 0, 18, .inl dt)), (ad 25, .inr (4, [.ref (ad 26)])), (ad 26, .inl (cy 0, 18, .inl tl))] ∧ sW sa sv fv (va_A [(ad 0, .inr (10, [.ref (ad 1), .ref (ad 3), .ref (ad 9), .ref (ad 14), .ref (ad 22), .ref (ad 25), .ref (ad 27), .ref (ad 30), .ref (ad 41), .ref (ad 43)])), (ad 27, .inr (5, [.ref (ad 28), .int (nI rl), .int fk, .int fp, .ref (ad 1), .int (nI ts), .int (nI te), .int lw, .int (nI pa), .int rt, .int (nI tw), .int (nI tm)])), (ad 1, .inr (8, [.ref (ad 2), .int (nI tn)])), (ad 2, .inl (cy 0, 600, .inl tb)), (ad 28, .inr (4, [.ref (ad 29)])), (ad 29, .inl (cy 0, 18, .inl dt)), (ad 25, .inr (4, [.ref (ad 26)])), (ad 26, .inl (cy 0, 18, .inl tl))] sz) U U.heap ∧ va_Nw (.methodLinkNest RX5 76 yX10_isDigit "HereLived") U ∧ va_Nw (.methodLinkNest RX5 73 yX10_isSmallLetter "HereLived") U ∧ va_Nw (.methodLinkNest RX5 69 yX10_isBlank "HereLived") U)) (va_Qi (S := Nat × Int32 × Int32 × Nat × Nat × Int32 × Nat × Int32 × Nat × Nat × (Nat → Int32) × (Nat → Int32)) (fun r => fun u => match u with | (rl2, fk2, fp2, ts2, te2, lw2, pa2, rt2, tw2, tm2, dt2, tl2) => rulP tb tn r fk2 fp2 tl tl2 ∧ (rgs tl → rgs tl2)) (fun u => match u with | (rl2, fk2, fp2, ts2, te2, lw2, pa2, rt2, tw2, tm2, dt2, tl2) => fun t => va_P (dC, dI) vwCl [(ad 0, .inr (10, [.ref (ad 1), .ref (ad 3), .ref (ad 9), .ref (ad 14), .ref (ad 22), .ref (ad 25), .ref (ad 27), .ref (ad 30), .ref (ad 41), .ref (ad 43)])), (ad 27, .inr (5, [.ref (ad 28), .int (nI rl2), .int fk2, .int fp2, .ref (ad 1), .int (nI ts2), .int (nI te2), .int lw2, .int (nI pa2), .int rt2, .int (nI tw2), .int (nI tm2)])), (ad 1, .inr (8, [.ref (ad 2), .int (nI 0)])), (ad 2, .inl (cy 0, 600, .inl tb)), (ad 28, .inr (4, [.ref (ad 29)])), (ad 29, .inl (cy 0, 18, .inl dt2)), (ad 25, .inr (4, [.ref (ad 26)])), (ad 26, .inl (cy 0, 18, .inl tl2))] t.heap ∧ va_K (dC, dI) vwCl (tyL cy) t ∧ va_D (va_A [(ad 0, .inr (10, [.ref (ad 1), .ref (ad 3), .ref (ad 9), .ref (ad 14), .ref (ad 22), .ref (ad 25), .ref (ad 27), .ref (ad 30), .ref (ad 41), .ref (ad 43)])), (ad 27, .inr (5, [.ref (ad 28), .int (nI rl), .int fk, .int fp, .ref (ad 1), .int (nI ts), .int (nI te), .int lw, .int (nI pa), .int rt, .int (nI tw), .int (nI tm)])), (ad 1, .inr (8, [.ref (ad 2), .int (nI tn)])), (ad 2, .inl (cy 0, 600, .inl tb)), (ad 28, .inr (4, [.ref (ad 29)])), (ad 29, .inl (cy 0, 18, .inl dt)), (ad 25, .inr (4, [.ref (ad 26)])), (ad 26, .inl (cy 0, 18, .inl tl))] sz) [(ad 0, .inr (10, [.ref (ad 1), .ref (ad 3), .ref (ad 9), .ref (ad 14), .ref (ad 22), .ref (ad 25), .ref (ad 27), .ref (ad 30), .ref (ad 41), .ref (ad 43)])), (ad 27, .inr (5, [.ref (ad 28), .int (nI rl2), .int fk2, .int fp2, .ref (ad 1), .int (nI ts2), .int (nI te2), .int lw2, .int (nI pa2), .int rt2, .int (nI tw2), .int (nI tm2)])), (ad 1, .inr (8, [.ref (ad 2), .int (nI 0)])), (ad 2, .inl (cy 0, 600, .inl tb)), (ad 28, .inr (4, [.ref (ad 29)])), (ad 29, .inl (cy 0, 18, .inl dt2)), (ad 25, .inr (4, [.ref (ad 26)])), (ad 26, .inl (cy 0, 18, .inl tl2))]) (va_A [(ad 0, .inr (10, [.ref (ad 1), .ref (ad 3), .ref (ad 9), .ref (ad 14), .ref (ad 22), .ref (ad 25), .ref (ad 27), .ref (ad 30), .ref (ad 41), .ref (ad 43)])), (ad 27, .inr (5, [.ref (ad 28), .int (nI rl), .int fk, .int fp, .ref (ad 1), .int (nI ts), .int (nI te), .int lw, .int (nI pa), .int rt, .int (nI tw), .int (nI tm)])), (ad 1, .inr (8, [.ref (ad 2), .int (nI tn)])), (ad 2, .inl (cy 0, 600, .inl tb)), (ad 28, .inr (4, [.ref (ad 29)])), (ad 29, .inl (cy 0, 18, .inl dt)), (ad 25, .inr (4, [.ref (ad 26)])), (ad 26, .inl (cy 0, 18, .inl tl))] sz)) 0 0 (va_A [(ad 0, .inr (10, [.ref (ad 1), .ref (ad 3), .ref (ad 9), .ref (ad 14), .ref (ad 22), .ref (ad 25), .ref (ad 27), .ref (ad 30), .ref (ad 41), .ref (ad 43)])), (ad 27, .inr (5, [.ref (ad 28), .int (nI rl), .int fk, .int fp, .ref (ad 1), .int (nI ts), .int (nI te), .int lw, .int (nI pa), .int rt, .int (nI tw), .int (nI tm)])), (ad 1, .inr (8, [.ref (ad 2), .int (nI tn)])), (ad 2, .inl (cy 0, 600, .inl tb)), (ad 28, .inr (4, [.ref (ad 29)])), (ad 29, .inl (cy 0, 18, .inl dt)), (ad 25, .inr (4, [.ref (ad 26)])), (ad 26, .inl (cy 0, 18, .inl tl))] sz) := by
  refine Met.ofW (cc := cX10_rules) (maxL := 1) (ret := (some .int)) (by decide) rfl ?_
  intro pp ee ss mm args below meth cc0 s₁ B hml hv
  obtain ⟨rfl, hsz, hP, hK, hD0, hE, hn0, hn1, hn2⟩ := hv
  have hx := B.exec
  have hb := B.bytes
  have hr := B.returns
  have hts := atoms_spec (ws := wsX10_rules) B.pre
  have hown : ss.vm.findClass RX10 = some mm.cls := findClass_of_methodNamed B.named
  have hlocks := B.notSynchronized
  have hL0 := hts (.fieldLink RX10 58 "HereLived" "reader" "LHereLived$RuleReader;") (by decide +kernel)
  have hL1 := hts (.fieldLink RX10 10 "HereLived" "tape" "LHereLived$Tape;") (by decide +kernel)
  have hL2 := hts (.fieldLink RX10 83 "HereLived$Tape" "length" "I") (by decide +kernel)
  have hL3 := hts (.fieldLink RX10 180 "HereLived$RuleReader" "faultKind" "I") (by decide +kernel)
  have hL4 := hts (.fieldLink RX10 49 "HereLived" "book" "LHereLived$RuleBook;") (by decide +kernel)
  have hL5 := hts (.fieldLink RX10 183 "HereLived$RuleReader" "draft" "LHereLived$RuleBook;") (by decide +kernel)
  have hL6 := hts (.fieldLink RX10 190 "HereLived$RuleReader" "lines" "I") (by decide +kernel)
  have hiX10 : ∀ w ∈ wsX100, w ∈ wsX10_rules := by decide +kernel
  have hiX5 : ∀ w ∈ wsX50, w ∈ wsX10_rules := by decide +kernel
  have hiX8 : ∀ w ∈ wsX80, w ∈ wsX10_rules := by decide +kernel
  subst hsz
  have hD := hD0.self (sz := ss.heap.size)
  generalize hAe : va_A [(ad 0, .inr (10, [.ref (ad 1), .ref (ad 3), .ref (ad 9), .ref (ad 14), .ref (ad 22), .ref (ad 25), .ref (ad 27), .ref (ad 30), .ref (ad 41), .ref (ad 43)])), (ad 27, .inr (5, [.ref (ad 28), .int (nI rl), .int fk, .int fp, .ref (ad 1), .int (nI ts), .int (nI te), .int lw, .int (nI pa), .int rt, .int (nI tw), .int (nI tm)])), (ad 1, .inr (8, [.ref (ad 2), .int (nI tn)])), (ad 2, .inl (cy 0, 600, .inl tb)), (ad 28, .inr (4, [.ref (ad 29)])), (ad 29, .inl (cy 0, 18, .inl dt)), (ad 25, .inr (4, [.ref (ad 26)])), (ad 26, .inl (cy 0, 18, .inl tl))] ss.heap.size = A at hD hE ⊢
  have hA : ∀ q : Nat, ss.heap.size ≤ q → A q := fun q h => by rw [← hAe]; exact Or.inr h
  have hS : va_S A ss.heap ss.heap [] := va_S.rf
  have hP : va_P (dC, dI) vwCl [(ad 0, .inr (10, [.ref (ad 1), .ref (ad 3), .ref (ad 9), .ref (ad 14), .ref (ad 22), .ref (ad 25), .ref (ad 27), .ref (ad 30), .ref (ad 41), .ref (ad 43)])), (ad 27, .inr (5, [.ref (ad 28), .int (nI rl), .int fk, .int fp, .ref (ad 1), .int (nI ts), .int (nI te), .int lw, .int (nI pa), .int rt, .int (nI tw), .int (nI tm)])), (ad 1, .inr (8, [.ref (ad 2), .int (nI tn)])), (ad 2, .inl (cy 0, 600, .inl tb)), (ad 28, .inr (4, [.ref (ad 29)])), (ad 29, .inl (cy 0, 18, .inl dt)), (ad 25, .inr (4, [.ref (ad 26)])), (ad 26, .inl (cy 0, 18, .inl tl))] ss.heap := hP
  have hl := lv_entry ([.ref (ad 0)]) (n := 1) (Nat.le_of_ble_eq_true rfl)
  rw [lg_entry_eq]
  generalize (lg_sl ([.ref (ad 0)]) ++ List.replicate (1 - (lg_sl ([.ref (ad 0)])).length) Slot.unset).toArray = ls at hl ⊢
  have hl : lv_has ls 1 [(0, .ref (ad 0))] := hl
  refine bw_Q (fun Q hQ => ?_)
  refine bw_H0 (fun H locs eH eL => ?_)
  have hS : va_S A ss.heap H locs := by rw [eH, eL]; exact hS
  have hP : va_P (dC, dI) vwCl [(ad 0, .inr (10, [.ref (ad 1), .ref (ad 3), .ref (ad 9), .ref (ad 14), .ref (ad 22), .ref (ad 25), .ref (ad 27), .ref (ad 30), .ref (ad 41), .ref (ad 43)])), (ad 27, .inr (5, [.ref (ad 28), .int (nI rl), .int fk, .int fp, .ref (ad 1), .int (nI ts), .int (nI te), .int lw, .int (nI pa), .int rt, .int (nI tw), .int (nI tm)])), (ad 1, .inr (8, [.ref (ad 2), .int (nI tn)])), (ad 2, .inl (cy 0, 600, .inl tb)), (ad 28, .inr (4, [.ref (ad 29)])), (ad 29, .inl (cy 0, 18, .inl dt)), (ad 25, .inr (4, [.ref (ad 26)])), (ad 26, .inl (cy 0, 18, .inl tl))] H := by rw [eH]; exact hP
  change W pp l ee { frames := 8, cells := 0, slots := 0, locals := 170 } ss mm _ below meth cc0 H locs 0 0 Q (F0 mm 0 ls [])
  refine lv_aload_n hx hb dX10_rules_0 rfl (lv_at hl 0 rfl) ?_
  refine va_get (D := (dC, dI)) (ci := 10) (v := .ref (ad 27)) (C := RX10) (T := TX10) (N := 10) hx hb hts hiX10 hown hK hP 0 rfl rfl 6 (by decide) hL0 (fun _ h9 => h9) rfl dX10_rules_1 ?_
  have hPc : va_P (dC, dI) vwCl [(ad 27, .inr (5, [.ref (ad 28), .int (nI rl), .int fk, .int fp, .ref (ad 1), .int (nI ts), .int (nI te), .int lw, .int (nI pa), .int rt, .int (nI tw), .int (nI tm)])), (ad 1, .inr (8, [.ref (ad 2), .int (nI tn)])), (ad 2, .inl (cy 0, 600, .inl tb)), (ad 28, .inr (4, [.ref (ad 29)])), (ad 29, .inl (cy 0, 18, .inl dt))] H := hP.sub [1, 2, 3, 4, 5] rfl
  have hDc : va_D A [(ad 27, .inr (5, [.ref (ad 28), .int (nI rl), .int fk, .int fp, .ref (ad 1), .int (nI ts), .int (nI te), .int lw, .int (nI pa), .int rt, .int (nI tw), .int (nI tm)])), (ad 1, .inr (8, [.ref (ad 2), .int (nI tn)])), (ad 2, .inl (cy 0, 600, .inl tb)), (ad 28, .inr (4, [.ref (ad 29)])), (ad 29, .inl (cy 0, 18, .inl dt))] := hD.sub [1, 2, 3, 4, 5] (by decide) rfl
  have hFc := va_free (wc := [(ad 27, .inr (5, [.ref (ad 28), .int (nI rl), .int fk, .int fp, .ref (ad 1), .int (nI ts), .int (nI te), .int lw, .int (nI pa), .int rt, .int (nI tw), .int (nI tm)])), (ad 1, .inr (8, [.ref (ad 2), .int (nI tn)])), (ad 2, .inl (cy 0, 600, .inl tb)), (ad 28, .inr (4, [.ref (ad 29)])), (ad 29, .inl (cy 0, 18, .inl dt))]) hD hS hA [1, 2, 3, 4, 5] rfl
  refine va_callv (va_runV (As := []) (rest := []) ⟨hx, hb, hml, hown, hts⟩ (c_X5_read l dC dI cy sa sv fv ad rl fk fp ts te lw pa rt tw tm tn tb dt H.size (by first | assumption | omega)) (cwV 0 hts gX10_rules_X5_read rfl rfl rfl (by decide +kernel) ⟨Nat.le_of_ble_eq_true rfl, Nat.le_of_ble_eq_true rfl⟩) ⟨fun a U g mk q => by obtain ⟨q0, q1, qP, qK, qD, qE, qn0, qn1, qn2⟩ := q; exact ⟨q0, q1, qP, va_K.moved (u := U) (U := U.calling g mk a) (Vm.Alike.refl U.vm) qK, qD, sW.call qE g mk a, va_Nw.same (u := U) (U := U.calling g mk a) rfl rfl qn0, va_Nw.same (u := U) (U := U.calling g mk a) rfl rfl qn1, va_Nw.same (u := U) (U := U.calling g mk a) rfl rfl qn2⟩, va_recv hK hPc (ci := 5) (q0 := 0) rfl rfl, fun U hU hW => ⟨rfl, by rw [hU], by rw [hU]; exact hPc, va_K.moved hW.alike hK, hDc.weaken (fun _ _ _ _ => trivial), ((hE.kept hS.2.1).go hW hU).narrow hFc, va_Nw.warmM hW hn0, va_Nw.warmM hW hn1, va_Nw.warmM hW hn2⟩⟩ rfl rfl hl.1 rfl (lv_room (Nat.le_of_ble_eq_true rfl)) dX10_rules_4 ⟨Nat.le_of_ble_eq_true rfl, Nat.le_of_ble_eq_true rfl⟩) hS (fun q _ h => hFc q h) hFc (fun u t9 H1 locs ht hvm hw hB hz1 hk1 hS => ?_)
  obtain ⟨rl2_1, fk2_2, fp2_3, ts2_4, te2_5, lw2_6, pa2_7, rt2_8, tw2_9, tm2_10, dt2_11⟩ := u
  have hrd_ := hw
  try dsimp only at hrd_
  obtain ⟨hP1, hK1, hD1⟩ := hB
  rw [ht] at hP1
  obtain ⟨hP, hD⟩ := va_join (wr := [(ad 0, .inr (10, [.ref (ad 1), .ref (ad 3), .ref (ad 9), .ref (ad 14), .ref (ad 22), .ref (ad 25), .ref (ad 27), .ref (ad 30), .ref (ad 41), .ref (ad 43)])), (ad 25, .inr (4, [.ref (ad 26)])), (ad 26, .inl (cy 0, 18, .inl tl))]) (w1 := [(ad 27, .inr (5, [.ref (ad 28), .int (nI rl2_1), .int fk2_2, .int fp2_3, .ref (ad 1), .int (nI ts2_4), .int (nI te2_5), .int lw2_6, .int (nI pa2_7), .int rt2_8, .int (nI tw2_9), .int (nI tm2_10)])), (ad 1, .inr (8, [.ref (ad 2), .int (nI tn)])), (ad 2, .inl (cy 0, 600, .inl tb)), (ad 28, .inr (4, [.ref (ad 29)])), (ad 29, .inl (cy 0, 18, .inl dt2_11))]) hP hD [1, 2, 3, 4, 5] [0, 6, 7] rfl rfl (by decide) (by decide) hk1 hFc hP1 hD1
  generalize H1 = H at hP hS ⊢
  have hP : va_P (dC, dI) vwCl [(ad 0, .inr (10, [.ref (ad 1), .ref (ad 3), .ref (ad 9), .ref (ad 14), .ref (ad 22), .ref (ad 25), .ref (ad 27), .ref (ad 30), .ref (ad 41), .ref (ad 43)])), (ad 27, .inr (5, [.ref (ad 28), .int (nI rl2_1), .int fk2_2, .int fp2_3, .ref (ad 1), .int (nI ts2_4), .int (nI te2_5), .int lw2_6, .int (nI pa2_7), .int rt2_8, .int (nI tw2_9), .int (nI tm2_10)])), (ad 1, .inr (8, [.ref (ad 2), .int (nI tn)])), (ad 2, .inl (cy 0, 600, .inl tb)), (ad 28, .inr (4, [.ref (ad 29)])), (ad 29, .inl (cy 0, 18, .inl dt2_11)), (ad 25, .inr (4, [.ref (ad 26)])), (ad 26, .inl (cy 0, 18, .inl tl))] H := hP.sub [0, 3, 4, 5, 6, 7, 1, 2] rfl
  have hD : va_D A [(ad 0, .inr (10, [.ref (ad 1), .ref (ad 3), .ref (ad 9), .ref (ad 14), .ref (ad 22), .ref (ad 25), .ref (ad 27), .ref (ad 30), .ref (ad 41), .ref (ad 43)])), (ad 27, .inr (5, [.ref (ad 28), .int (nI rl2_1), .int fk2_2, .int fp2_3, .ref (ad 1), .int (nI ts2_4), .int (nI te2_5), .int lw2_6, .int (nI pa2_7), .int rt2_8, .int (nI tw2_9), .int (nI tm2_10)])), (ad 1, .inr (8, [.ref (ad 2), .int (nI tn)])), (ad 2, .inl (cy 0, 600, .inl tb)), (ad 28, .inr (4, [.ref (ad 29)])), (ad 29, .inl (cy 0, 18, .inl dt2_11)), (ad 25, .inr (4, [.ref (ad 26)])), (ad 26, .inl (cy 0, 18, .inl tl))] := hD.sub [0, 3, 4, 5, 6, 7, 1, 2] (by decide) rfl
  refine lv_aload_n hx hb dX10_rules_7 rfl (lv_at hl 0 rfl) ?_
  refine va_get (D := (dC, dI)) (ci := 10) (v := .ref (ad 1)) (C := RX10) (T := TX10) (N := 10) hx hb hts hiX10 hown hK hP 0 rfl rfl 0 (by decide) hL1 (fun _ h9 => h9) rfl dX10_rules_8 ?_
  refine lv_iconst (v := 0) hx hb dX10_rules_11 (by decide) ?_
  refine va_put (D := (dC, dI)) (ci := 8) (v := .int 0) (ty := (tyX8 1)) (C := RX8) (T := TX8) (N := 2) hx hb hts hiX8 tyX8 tyX8_ok nmX8 hown hK hP hD hS 2 rfl rfl 1 (by decide) hL2 (fun _ h9 => h9) rfl (by decide +kernel) rfl rfl (Nat.le_of_ble_eq_true rfl) dX10_rules_12 (fun H locs hP hD hS => ?_)
  have hP : va_P (dC, dI) vwCl [(ad 0, .inr (10, [.ref (ad 1), .ref (ad 3), .ref (ad 9), .ref (ad 14), .ref (ad 22), .ref (ad 25), .ref (ad 27), .ref (ad 30), .ref (ad 41), .ref (ad 43)])), (ad 27, .inr (5, [.ref (ad 28), .int (nI rl2_1), .int fk2_2, .int fp2_3, .ref (ad 1), .int (nI ts2_4), .int (nI te2_5), .int lw2_6, .int (nI pa2_7), .int rt2_8, .int (nI tw2_9), .int (nI tm2_10)])), (ad 1, .inr (8, [.ref (ad 2), .int 0])), (ad 2, .inl (cy 0, 600, .inl tb)), (ad 28, .inr (4, [.ref (ad 29)])), (ad 29, .inl (cy 0, 18, .inl dt2_11)), (ad 25, .inr (4, [.ref (ad 26)])), (ad 26, .inl (cy 0, 18, .inl tl))] H := hP
  have hD : va_D A [(ad 0, .inr (10, [.ref (ad 1), .ref (ad 3), .ref (ad 9), .ref (ad 14), .ref (ad 22), .ref (ad 25), .ref (ad 27), .ref (ad 30), .ref (ad 41), .ref (ad 43)])), (ad 27, .inr (5, [.ref (ad 28), .int (nI rl2_1), .int fk2_2, .int fp2_3, .ref (ad 1), .int (nI ts2_4), .int (nI te2_5), .int lw2_6, .int (nI pa2_7), .int rt2_8, .int (nI tw2_9), .int (nI tm2_10)])), (ad 1, .inr (8, [.ref (ad 2), .int 0])), (ad 2, .inl (cy 0, 600, .inl tb)), (ad 28, .inr (4, [.ref (ad 29)])), (ad 29, .inl (cy 0, 18, .inl dt2_11)), (ad 25, .inr (4, [.ref (ad 26)])), (ad 26, .inl (cy 0, 18, .inl tl))] := hD
  refine lv_aload_n hx hb dX10_rules_15 rfl (lv_at hl 0 rfl) ?_
  refine va_get (D := (dC, dI)) (ci := 10) (v := .ref (ad 27)) (C := RX10) (T := TX10) (N := 10) hx hb hts hiX10 hown hK hP 0 rfl rfl 6 (by decide) hL0 (fun _ h9 => h9) rfl dX10_rules_16 ?_
  refine va_get (D := (dC, dI)) (ci := 5) (v := .int fk2_2) (C := RX5) (T := TX5) (N := 12) hx hb hts hiX5 hown hK hP 1 rfl rfl 2 (by decide) hL3 (fun _ h9 => h9) rfl dX10_rules_19 ?_
  refine bw_if_eq (tgt := 27) (a := fk2_2.toInt) hx hb dX10_rules_22 (by decide) rfl (fun c_k => ?_) (fun c_k => ?_)
  · skip
    refine lv_aload_n hx hb dX10_rules_27 rfl (lv_at hl 0 rfl) ?_
    refine va_get (D := (dC, dI)) (ci := 10) (v := .ref (ad 25)) (C := RX10) (T := TX10) (N := 10) hx hb hts hiX10 hown hK hP 0 rfl rfl 5 (by decide) hL4 (fun _ h9 => h9) rfl dX10_rules_28 ?_
    refine lv_aload_n hx hb dX10_rules_31 rfl (lv_at hl 0 rfl) ?_
    refine va_get (D := (dC, dI)) (ci := 10) (v := .ref (ad 27)) (C := RX10) (T := TX10) (N := 10) hx hb hts hiX10 hown hK hP 0 rfl rfl 6 (by decide) hL0 (fun _ h9 => h9) rfl dX10_rules_32 ?_
    refine va_get (D := (dC, dI)) (ci := 5) (v := .ref (ad 28)) (C := RX5) (T := TX5) (N := 12) hx hb hts hiX5 hown hK hP 1 rfl rfl 0 (by decide) hL5 (fun _ h9 => h9) rfl dX10_rules_35 ?_
    have hPc : va_P (dC, dI) vwCl [(ad 25, .inr (4, [.ref (ad 26)])), (ad 26, .inl (cy 0, 18, .inl tl)), (ad 28, .inr (4, [.ref (ad 29)])), (ad 29, .inl (cy 0, 18, .inl dt2_11))] H := hP.sub [6, 7, 4, 5] rfl
    have hDc : va_D A [(ad 25, .inr (4, [.ref (ad 26)])), (ad 26, .inl (cy 0, 18, .inl tl)), (ad 28, .inr (4, [.ref (ad 29)])), (ad 29, .inl (cy 0, 18, .inl dt2_11))] := hD.sub [6, 7, 4, 5] (by decide) rfl
    have hFc := va_free (wc := [(ad 25, .inr (4, [.ref (ad 26)])), (ad 26, .inl (cy 0, 18, .inl tl)), (ad 28, .inr (4, [.ref (ad 29)])), (ad 29, .inl (cy 0, 18, .inl dt2_11))]) hD hS hA [6, 7, 4, 5] rfl
    refine va_callv (va_runV (As := [.ref (ad 28)]) (rest := []) ⟨hx, hb, hml, hown, hts⟩ (c_X4_copy l dC dI cy ad tl dt2_11 H.size) (cwV 1 hts gX10_rules_X4_copy rfl rfl rfl (by decide +kernel) ⟨Nat.le_of_ble_eq_true rfl, Nat.le_of_ble_eq_true rfl⟩) ⟨fun a U g mk q => by obtain ⟨q0, q1, qP, qK, qD⟩ := q; exact ⟨q0, q1, qP, va_K.moved (u := U) (U := U.calling g mk a) (Vm.Alike.refl U.vm) qK, qD⟩, va_recv hK hPc (ci := 4) (q0 := 0) rfl rfl, fun U hU hW => ⟨rfl, by rw [hU], by rw [hU]; exact hPc, va_K.moved hW.alike hK, hDc.weaken (fun _ _ _ _ => trivial)⟩⟩ rfl rfl hl.1 rfl (lv_room (Nat.le_of_ble_eq_true rfl)) dX10_rules_38 ⟨Nat.le_of_ble_eq_true rfl, Nat.le_of_ble_eq_true rfl⟩) hS (fun q _ h => hFc q h) hFc (fun u t9 H1 locs ht hvm hw hB hz1 hk1 hS => ?_)
    obtain ⟨tl2_12, rfl⟩ : ∃ z, z = u := ⟨_, rfl⟩
    have hcp_ := hw
    try dsimp only at hcp_
    obtain ⟨hP1, hK1, hD1⟩ := hB
    rw [ht] at hP1
    obtain ⟨hP, hD⟩ := va_join (wr := [(ad 0, .inr (10, [.ref (ad 1), .ref (ad 3), .ref (ad 9), .ref (ad 14), .ref (ad 22), .ref (ad 25), .ref (ad 27), .ref (ad 30), .ref (ad 41), .ref (ad 43)])), (ad 27, .inr (5, [.ref (ad 28), .int (nI rl2_1), .int fk2_2, .int fp2_3, .ref (ad 1), .int (nI ts2_4), .int (nI te2_5), .int lw2_6, .int (nI pa2_7), .int rt2_8, .int (nI tw2_9), .int (nI tm2_10)])), (ad 1, .inr (8, [.ref (ad 2), .int 0])), (ad 2, .inl (cy 0, 600, .inl tb))]) (w1 := [(ad 25, .inr (4, [.ref (ad 26)])), (ad 26, .inl (cy 0, 18, .inl tl2_12)), (ad 28, .inr (4, [.ref (ad 29)])), (ad 29, .inl (cy 0, 18, .inl dt2_11))]) hP hD [6, 7, 4, 5] [0, 1, 2, 3] rfl rfl (by decide) (by decide) hk1 hFc hP1 hD1
    generalize H1 = H at hP hS ⊢
    have hP : va_P (dC, dI) vwCl [(ad 0, .inr (10, [.ref (ad 1), .ref (ad 3), .ref (ad 9), .ref (ad 14), .ref (ad 22), .ref (ad 25), .ref (ad 27), .ref (ad 30), .ref (ad 41), .ref (ad 43)])), (ad 27, .inr (5, [.ref (ad 28), .int (nI rl2_1), .int fk2_2, .int fp2_3, .ref (ad 1), .int (nI ts2_4), .int (nI te2_5), .int lw2_6, .int (nI pa2_7), .int rt2_8, .int (nI tw2_9), .int (nI tm2_10)])), (ad 1, .inr (8, [.ref (ad 2), .int 0])), (ad 2, .inl (cy 0, 600, .inl tb)), (ad 28, .inr (4, [.ref (ad 29)])), (ad 29, .inl (cy 0, 18, .inl dt2_11)), (ad 25, .inr (4, [.ref (ad 26)])), (ad 26, .inl (cy 0, 18, .inl tl2_12))] H := hP.sub [0, 1, 2, 3, 6, 7, 4, 5] rfl
    have hD : va_D A [(ad 0, .inr (10, [.ref (ad 1), .ref (ad 3), .ref (ad 9), .ref (ad 14), .ref (ad 22), .ref (ad 25), .ref (ad 27), .ref (ad 30), .ref (ad 41), .ref (ad 43)])), (ad 27, .inr (5, [.ref (ad 28), .int (nI rl2_1), .int fk2_2, .int fp2_3, .ref (ad 1), .int (nI ts2_4), .int (nI te2_5), .int lw2_6, .int (nI pa2_7), .int rt2_8, .int (nI tw2_9), .int (nI tm2_10)])), (ad 1, .inr (8, [.ref (ad 2), .int 0])), (ad 2, .inl (cy 0, 600, .inl tb)), (ad 28, .inr (4, [.ref (ad 29)])), (ad 29, .inl (cy 0, 18, .inl dt2_11)), (ad 25, .inr (4, [.ref (ad 26)])), (ad 26, .inl (cy 0, 18, .inl tl2_12))] := hD.sub [0, 1, 2, 3, 6, 7, 4, 5] (by decide) rfl
    refine lv_aload_n hx hb dX10_rules_41 rfl (lv_at hl 0 rfl) ?_
    refine va_get (D := (dC, dI)) (ci := 10) (v := .ref (ad 27)) (C := RX10) (T := TX10) (N := 10) hx hb hts hiX10 hown hK hP 0 rfl rfl 6 (by decide) hL0 (fun _ h9 => h9) rfl dX10_rules_42 ?_
    refine va_get (D := (dC, dI)) (ci := 5) (v := .int (nI rl2_1)) (C := RX5) (T := TX5) (N := 12) hx hb hts hiX5 hown hK hP 1 rfl rfl 1 (by decide) hL6 (fun _ h9 => h9) rfl dX10_rules_45 ?_
    refine bw_Qe hQ ?_
    have hP9 : va_P (dC, dI) vwCl [(ad 0, .inr (10, [.ref (ad 1), .ref (ad 3), .ref (ad 9), .ref (ad 14), .ref (ad 22), .ref (ad 25), .ref (ad 27), .ref (ad 30), .ref (ad 41), .ref (ad 43)])), (ad 27, .inr (5, [.ref (ad 28), .int (nI rl2_1), .int fk2_2, .int fp2_3, .ref (ad 1), .int (nI ts2_4), .int (nI te2_5), .int lw2_6, .int (nI pa2_7), .int rt2_8, .int (nI tw2_9), .int (nI tm2_10)])), (ad 1, .inr (8, [.ref (ad 2), .int (nI 0)])), (ad 2, .inl (cy 0, 600, .inl tb)), (ad 28, .inr (4, [.ref (ad 29)])), (ad 29, .inl (cy 0, 18, .inl dt2_11)), (ad 25, .inr (4, [.ref (ad 26)])), (ad 26, .inl (cy 0, 18, .inl tl2_12))] H := hP.sub [0, 1, 2, 3, 4, 5, 6, 7] rfl
    have hD9 : va_D A [(ad 0, .inr (10, [.ref (ad 1), .ref (ad 3), .ref (ad 9), .ref (ad 14), .ref (ad 22), .ref (ad 25), .ref (ad 27), .ref (ad 30), .ref (ad 41), .ref (ad 43)])), (ad 27, .inr (5, [.ref (ad 28), .int (nI rl2_1), .int fk2_2, .int fp2_3, .ref (ad 1), .int (nI ts2_4), .int (nI te2_5), .int lw2_6, .int (nI pa2_7), .int rt2_8, .int (nI tw2_9), .int (nI tm2_10)])), (ad 1, .inr (8, [.ref (ad 2), .int (nI 0)])), (ad 2, .inl (cy 0, 600, .inl tb)), (ad 28, .inr (4, [.ref (ad 29)])), (ad 29, .inl (cy 0, 18, .inl dt2_11)), (ad 25, .inr (4, [.ref (ad 26)])), (ad 26, .inl (cy 0, 18, .inl tl2_12))] := hD.sub [0, 1, 2, 3, 4, 5, 6, 7] (by decide) rfl
    have hpost : rulP tb tn (nI rl2_1 : Int32) fk2_2 fp2_3 tl tl2_12 ∧ (rgs tl → rgs tl2_12) := by
      rcases hrd_ with ⟨h0, h1, h2, d, h3, h4⟩ | ⟨h0, h1⟩
      · exact ⟨Or.inr ⟨h0, h1, _, d, rfl, h3, fun k a1 a2 a3 => (hcp_ k a1 a2 a3).trans (h4 k a1 a2 a3)⟩, fun _ => rgs_agr hcp_ h2⟩
      · exact absurd c_k h0
    exact W.iret (v := nI rl2_1) hx hb hr (fun t9 ht hW => ⟨⟨nI rl2_1, (rl2_1, fk2_2, fp2_3, ts2_4, te2_5, lw2_6, pa2_7, rt2_8, tw2_9, tm2_10, dt2_11, tl2_12), rfl, hpost, by rw [ht]; exact hP9, va_K.moved hW.alike hK, hD9⟩, hS.F ht⟩) hS.2.2 dX10_rules_48
  · skip
    refine lv_iconst (v := (-1)) hx hb dX10_rules_25 (by decide) ?_
    refine bw_Qe hQ ?_
    have hP9 : va_P (dC, dI) vwCl [(ad 0, .inr (10, [.ref (ad 1), .ref (ad 3), .ref (ad 9), .ref (ad 14), .ref (ad 22), .ref (ad 25), .ref (ad 27), .ref (ad 30), .ref (ad 41), .ref (ad 43)])), (ad 27, .inr (5, [.ref (ad 28), .int (nI rl2_1), .int fk2_2, .int fp2_3, .ref (ad 1), .int (nI ts2_4), .int (nI te2_5), .int lw2_6, .int (nI pa2_7), .int rt2_8, .int (nI tw2_9), .int (nI tm2_10)])), (ad 1, .inr (8, [.ref (ad 2), .int (nI 0)])), (ad 2, .inl (cy 0, 600, .inl tb)), (ad 28, .inr (4, [.ref (ad 29)])), (ad 29, .inl (cy 0, 18, .inl dt2_11)), (ad 25, .inr (4, [.ref (ad 26)])), (ad 26, .inl (cy 0, 18, .inl tl))] H := hP.sub [0, 1, 2, 3, 4, 5, 6, 7] rfl
    have hD9 : va_D A [(ad 0, .inr (10, [.ref (ad 1), .ref (ad 3), .ref (ad 9), .ref (ad 14), .ref (ad 22), .ref (ad 25), .ref (ad 27), .ref (ad 30), .ref (ad 41), .ref (ad 43)])), (ad 27, .inr (5, [.ref (ad 28), .int (nI rl2_1), .int fk2_2, .int fp2_3, .ref (ad 1), .int (nI ts2_4), .int (nI te2_5), .int lw2_6, .int (nI pa2_7), .int rt2_8, .int (nI tw2_9), .int (nI tm2_10)])), (ad 1, .inr (8, [.ref (ad 2), .int (nI 0)])), (ad 2, .inl (cy 0, 600, .inl tb)), (ad 28, .inr (4, [.ref (ad 29)])), (ad 29, .inl (cy 0, 18, .inl dt2_11)), (ad 25, .inr (4, [.ref (ad 26)])), (ad 26, .inl (cy 0, 18, .inl tl))] := hD.sub [0, 1, 2, 3, 4, 5, 6, 7] (by decide) rfl
    have hpost : rulP tb tn ((-1) : Int32) fk2_2 fp2_3 tl tl ∧ (rgs tl → rgs tl) := by
      rcases hrd_ with ⟨h0, _⟩ | ⟨h0, h1⟩
      · exact absurd h0 c_k
      · exact ⟨Or.inl ⟨rfl, h0, h1, rfl⟩, id⟩
    exact W.iret (v := (-1)) hx hb hr (fun t9 ht hW => ⟨⟨(-1), (rl2_1, fk2_2, fp2_3, ts2_4, te2_5, lw2_6, pa2_7, rt2_8, tw2_9, tm2_10, dt2_11, tl), rfl, hpost, by rw [ht]; exact hP9, va_K.moved hW.alike hK, hD9⟩, hS.F ht⟩) hS.2.2 dX10_rules_26

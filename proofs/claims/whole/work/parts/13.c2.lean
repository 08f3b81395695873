set_option maxHeartbeats 4000000 in
set_option maxRecDepth 100000 in
theorem c_X6_isGone (l : Launch) (dC : Nat → ClassId) (dI : Nat → Nat → Nat) (cy : Nat → ClassId) (ad : Nat → Nat) (sn : Nat) (nb : Nat → Int32) (nu : Nat → Int32) (s : Nat) (k : Nat) (hs : s < 40) (hk : nb s = nI k) (hk1 : 1 ≤ k) (hk8 : k ≤ 8) : Met l yX6_isGone wsX6_isGone ({ frames := 1, cells := 0, slots := 0, locals := 21 }) (va_Pc [.ref (ad 3), .int (nI s)] (fun U => va_P (dC, dI) vwCl [(ad 3, .inr (6, [.ref (ad 4), .ref (ad 5), .ref (ad 6), .ref (ad 7), .ref (ad 8), .int (nI sn)])), (ad 4, .inl (cy 0, 40, .inl nb)), (ad 8, .inl (cy 0, 320, .inl nu))] U.heap ∧ va_K (dC, dI) vwCl (tyL cy) U)) (vp_Si (fun r => r = if (nu (s * 8 + k - 1)).toInt = 0 then 1 else 0)) 0 0 (fun _ => False) := by
  refine Met.ofW (cc := cX6_isGone) (maxL := 2) (ret := (some .boolean)) (by decide) rfl ?_
  intro pp ee ss mm args below meth cc0 s₁ B hml hv
  obtain ⟨rfl, hP, hK⟩ := hv
  have hx := B.exec
  have hb := B.bytes
  have hr := B.returns
  have hts := atoms_spec (ws := wsX6_isGone) B.pre
  have hown : ss.vm.findClass RX6 = some mm.cls := findClass_of_methodNamed B.named
  have hlocks := B.notSynchronized
  have hL0 := hts (.fieldLink RX6 24 "HereLived$Sites" "number" "[I") (by decide +kernel)
  have hiX6 : ∀ w ∈ wsX60, w ∈ wsX6_isGone := by decide +kernel
  have hl := lv_entry ([.ref (ad 3), .int (nI s)]) (n := 2) (Nat.le_of_ble_eq_true rfl)
  rw [lg_entry_eq]
  generalize (lg_sl ([.ref (ad 3), .int (nI s)]) ++ List.replicate (2 - (lg_sl ([.ref (ad 3), .int (nI s)])).length) Slot.unset).toArray = ls at hl ⊢
  have hl : lv_has ls 2 [(0, .ref (ad 3)), (1, .int (nI s))] := hl
  refine bw_Q (fun Q hQ => ?_)
  change W pp l ee { frames := 1, cells := 0, slots := 0, locals := 21 } ss mm _ below meth cc0 ss.heap [] 0 0 Q (F0 mm 0 ls [])
  refine lv_aload_n hx hb dX6_isGone_0 rfl (lv_at hl 0 rfl) ?_
  refine va_get (D := (dC, dI)) (ci := 6) (v := .ref (ad 8)) (C := RX6) (T := TX6) (N := 6) hx hb hts hiX6 hown hK hP 0 rfl rfl 4 (by decide) hL0 (fun _ h9 => h9) rfl dX6_isGone_1 ?_
  refine lv_aload_n hx hb dX6_isGone_4 rfl (lv_at hl 0 rfl) ?_
  refine lv_iload_n hx hb dX6_isGone_5 rfl (lv_at hl 1 rfl) ?_
  have hPc : va_P (dC, dI) vwCl [(ad 3, .inr (6, [.ref (ad 4), .ref (ad 5), .ref (ad 6), .ref (ad 7), .ref (ad 8), .int (nI sn)])), (ad 4, .inl (cy 0, 40, .inl nb))] ss.heap := hP.sub [0, 1] rfl
  refine vp_callSi (va_Run.run (va_runV (As := [.int (nI s)]) (rest := [.ref (ad 8)]) ⟨hx, hb, hml, hown, hts⟩ (c_X6_latestOf l dC dI cy ad sn nb s k (by first | assumption | omega) (by first | assumption | omega) (by first | assumption | omega) (by first | assumption | omega)) (cwV 1 hts gX6_isGone_X6_latestOf rfl rfl rfl (by decide +kernel) ⟨Nat.le_of_ble_eq_true rfl, Nat.le_of_ble_eq_true rfl⟩) ⟨fun a U g mk q => by obtain ⟨q0, qP, qK⟩ := q; exact ⟨q0, qP, va_K.moved (u := U) (U := U.calling g mk a) (Vm.Alike.refl U.vm) qK⟩, va_recv hK hPc (ci := 6) (q0 := 0) rfl rfl, fun U hU hW => ⟨rfl, by rw [hU]; exact hPc, va_K.moved hW.alike hK⟩⟩ rfl rfl hl.1 rfl (lv_room (Nat.le_of_ble_eq_true rfl)) dX6_isGone_6 ⟨Nat.le_of_ble_eq_true rfl, Nat.le_of_ble_eq_true rfl⟩)) (fun r_1 hr_1 => ?_)
  rw [hr_1]
  refine bw_iald hx hb hK hP 2 0 rfl rfl (j := (s * 8 + k - 1)) (nI_toInt (by omega)) (by omega) dX6_isGone_9 ?_
  refine bw_if_ne (tgt := 17) (a := (nu (s * 8 + k - 1)).toInt) hx hb dX6_isGone_10 (by decide) rfl (fun c_2 => ?_) (fun c_2 => ?_)
  · skip
    refine lv_iconst (v := 0) hx hb dX6_isGone_17 (by decide) ?_
    subst hQ
    have hpost : (0 : Int32) = if (nu (s * 8 + k - 1)).toInt = 0 then 1 else 0 := by
      first | rw [if_pos (by omega)] | rw [if_neg (by omega)]
    exact W.zret (v := 0) hx hb hr (by rfl) (fun t9 ht hW => ⟨_, rfl, hpost, by rw [ht]⟩) (fun q h => by cases h) dX6_isGone_18
  · skip
    refine lv_iconst (v := 1) hx hb dX6_isGone_13 (by decide) ?_
    refine lv_goto (tgt := 18) hx hb dX6_isGone_14 (by decide) ?_
    subst hQ
    have hpost : (1 : Int32) = if (nu (s * 8 + k - 1)).toInt = 0 then 1 else 0 := by
      first | rw [if_pos (by omega)] | rw [if_neg (by omega)]
    exact W.zret (v := 1) hx hb hr (by rfl) (fun t9 ht hW => ⟨_, rfl, hpost, by rw [ht]⟩) (fun q h => by cases h) dX6_isGone_18

set_option maxHeartbeats 4000000 in
set_option maxRecDepth 100000 in
theorem c_X6_latestChange (l : Launch) (dC : Nat → ClassId) (dI : Nat → Nat → Nat) (cy : Nat → ClassId) (ad : Nat → Nat) (sn : Nat) (nb : Nat → Int32) (tt : Nat → Int32) (s : Nat) (k : Nat) (hs : s < 40) (hk : nb s = nI k) (hk1 : 1 ≤ k) (hk8 : k ≤ 8) : Met l yX6_latestChange wsX6_latestChange ({ frames := 1, cells := 0, slots := 0, locals := 21 }) (va_Pc [.ref (ad 3), .int (nI s)] (fun U => va_P (dC, dI) vwCl [(ad 3, .inr (6, [.ref (ad 4), .ref (ad 5), .ref (ad 6), .ref (ad 7), .ref (ad 8), .int (nI sn)])), (ad 4, .inl (cy 0, 40, .inl nb)), (ad 6, .inl (cy 0, 320, .inl tt))] U.heap ∧ va_K (dC, dI) vwCl (tyL cy) U)) (vp_Si (fun r => r = tt (s * 8 + k - 1))) 0 0 (fun _ => False) := by
  refine Met.ofW (cc := cX6_latestChange) (maxL := 2) (ret := (some .int)) (by decide) rfl ?_
  intro pp ee ss mm args below meth cc0 s₁ B hml hv
  obtain ⟨rfl, hP, hK⟩ := hv
  have hx := B.exec
  have hb := B.bytes
  have hr := B.returns
  have hts := atoms_spec (ws := wsX6_latestChange) B.pre
  have hown : ss.vm.findClass RX6 = some mm.cls := findClass_of_methodNamed B.named
  have hlocks := B.notSynchronized
  have hL0 := hts (.fieldLink RX6 18 "HereLived$Sites" "to" "[I") (by decide +kernel)
  have hiX6 : ∀ w ∈ wsX60, w ∈ wsX6_latestChange := by decide +kernel
  have hl := lv_entry ([.ref (ad 3), .int (nI s)]) (n := 2) (Nat.le_of_ble_eq_true rfl)
  rw [lg_entry_eq]
  generalize (lg_sl ([.ref (ad 3), .int (nI s)]) ++ List.replicate (2 - (lg_sl ([.ref (ad 3), .int (nI s)])).length) Slot.unset).toArray = ls at hl ⊢
  have hl : lv_has ls 2 [(0, .ref (ad 3)), (1, .int (nI s))] := hl
  refine bw_Q (fun Q hQ => ?_)
  change W pp l ee { frames := 1, cells := 0, slots := 0, locals := 21 } ss mm _ below meth cc0 ss.heap [] 0 0 Q (F0 mm 0 ls [])
  refine lv_aload_n hx hb dX6_latestChange_0 rfl (lv_at hl 0 rfl) ?_
  refine va_get (D := (dC, dI)) (ci := 6) (v := .ref (ad 6)) (C := RX6) (T := TX6) (N := 6) hx hb hts hiX6 hown hK hP 0 rfl rfl 2 (by decide) hL0 (fun _ h9 => h9) rfl dX6_latestChange_1 ?_
  refine lv_aload_n hx hb dX6_latestChange_4 rfl (lv_at hl 0 rfl) ?_
  refine lv_iload_n hx hb dX6_latestChange_5 rfl (lv_at hl 1 rfl) ?_
  have hPc : va_P (dC, dI) vwCl [(ad 3, .inr (6, [.ref (ad 4), .ref (ad 5), .ref (ad 6), .ref (ad 7), .ref (ad 8), .int (nI sn)])), (ad 4, .inl (cy 0, 40, .inl nb))] ss.heap := hP.sub [0, 1] rfl
  refine vp_callSi (va_Run.run (va_runV (As := [.int (nI s)]) (rest := [.ref (ad 6)]) ⟨hx, hb, hml, hown, hts⟩ (c_X6_latestOf l dC dI cy ad sn nb s k (by first | assumption | omega) (by first | assumption | omega) (by first | assumption | omega) (by first | assumption | omega)) (cwV 1 hts gX6_latestChange_X6_latestOf rfl rfl rfl (by decide +kernel) ⟨Nat.le_of_ble_eq_true rfl, Nat.le_of_ble_eq_true rfl⟩) ⟨fun a U g mk q => by obtain ⟨q0, qP, qK⟩ := q; exact ⟨q0, qP, va_K.moved (u := U) (U := U.calling g mk a) (Vm.Alike.refl U.vm) qK⟩, va_recv hK hPc (ci := 6) (q0 := 0) rfl rfl, fun U hU hW => ⟨rfl, by rw [hU]; exact hPc, va_K.moved hW.alike hK⟩⟩ rfl rfl hl.1 rfl (lv_room (Nat.le_of_ble_eq_true rfl)) dX6_latestChange_6 ⟨Nat.le_of_ble_eq_true rfl, Nat.le_of_ble_eq_true rfl⟩)) (fun r_1 hr_1 => ?_)
  rw [hr_1]
  refine bw_iald hx hb hK hP 2 0 rfl rfl (j := (s * 8 + k - 1)) (nI_toInt (by omega)) (by omega) dX6_latestChange_9 ?_
  subst hQ
  have hpost : (tt (s * 8 + k - 1)) = tt (s * 8 + k - 1) := by
    exact rfl
  exact W.iret (v := tt (s * 8 + k - 1)) hx hb hr (fun t9 ht hW => ⟨_, rfl, hpost, by rw [ht]⟩) (fun q h => by cases h) dX6_latestChange_10

set_option maxHeartbeats 4000000 in
set_option maxRecDepth 100000 in
theorem c_X6_yearBits (l : Launch) (dC : Nat → ClassId) (dI : Nat → Nat → Nat) (cy : Nat → ClassId) (bg : Int32) (un : Int32) (fi : Int32) (la : Int32) (h1 : 1500 ≤ bg.toInt ∧ bg.toInt ≤ 2100) (h2 : 1400 ≤ un.toInt ∧ un.toInt ≤ 2100) (h3 : 1500 ≤ fi.toInt ∧ fi.toInt ≤ la.toInt ∧ la.toInt ≤ 2100) (h4 : la.toInt - fi.toInt ≤ 59) : Met l yX6_yearBits wsX6_yearBits ({ frames := 0, cells := 0, slots := 0, locals := 0 }) (va_Pc [.int bg, .int un, .int fi, .int la] (fun _ => True)) (vp_Sl (fun r => ∀ b : Nat, lb r b = true ↔ bg.toInt ≤ fi.toInt + b ∧ fi.toInt + b ≤ un.toInt ∧ fi.toInt + b ≤ la.toInt)) 0 0 (fun _ => False) := by
  refine Met.ofW (cc := cX6_yearBits) (maxL := 6) (ret := (some .long)) (by decide) rfl ?_
  intro pp ee ss mm args below meth cc0 s₁ B hml hv
  obtain ⟨rfl, -⟩ := hv
  have hx := B.exec
  have hb := B.bytes
  have hr := B.returns
  have hts := atoms_spec (ws := wsX6_yearBits) B.pre
  have hown : ss.vm.findClass RX6 = some mm.cls := findClass_of_methodNamed B.named
  have hlocks := B.notSynchronized
  have hl := lv_entry ([.int bg, .int un, .int fi, .int la]) (n := 6) (Nat.le_of_ble_eq_true rfl)
  rw [lg_entry_eq]
  generalize (lg_sl ([.int bg, .int un, .int fi, .int la]) ++ List.replicate (6 - (lg_sl ([.int bg, .int un, .int fi, .int la])).length) Slot.unset).toArray = ls at hl ⊢
  have hl : lv_has ls 6 [(0, .int bg), (1, .int un), (2, .int fi), (3, .int la)] := hl
  refine bw_Q (fun Q hQ => ?_)
  change W pp l ee { frames := 0, cells := 0, slots := 0, locals := 0 } ss mm _ below meth cc0 ss.heap [] 0 0 Q (F0 mm 0 ls [])
  have L_24 : ∀ (lo : Int32) (hi : Int32), ((lo.toInt = bg.toInt ∧ fi.toInt ≤ bg.toInt) ∨ (lo.toInt = fi.toInt ∧ bg.toInt ≤ fi.toInt)) → ((hi.toInt = un.toInt ∧ un.toInt ≤ la.toInt) ∨ (hi.toInt = la.toInt ∧ la.toInt ≤ un.toInt)) → ∀ (ls : Array Slot), lv_has ls 6 [(0, .int bg), (1, .int un), (2, .int fi), (3, .int la), (4, .int lo), (5, .int hi)] → W pp l ee { frames := 0, cells := 0, slots := 0, locals := 0 } ss mm (List.toArray [Value.int bg, Value.int un, Value.int fi, Value.int la]) below meth cc0 ss.heap [] 0 0 Q (F0 mm 24 ls []) := by
    intro lo hi hlo hhi
    intro ls hl
    refine lv_iload hx hb dX6_yearBits_24 (lv_at hl 4 rfl) ?_
    refine lv_iload hx hb dX6_yearBits_26 (lv_at hl 5 rfl) ?_
    refine bw_icmp_le (tgt := 35) (a := lo.toInt) (b := hi.toInt) hx hb dX6_yearBits_28 (by decide) rfl rfl (fun c_1 => ?_) (fun c_1 => ?_)
    · skip
      refine lv_lconst (v := 1) hx hb dX6_yearBits_35 (by decide) ?_
      refine lv_iload hx hb dX6_yearBits_36 (lv_at hl 5 rfl) ?_
      refine lv_iload hx hb dX6_yearBits_38 (lv_at hl 4 rfl) ?_
      refine lv_isub hx hb dX6_yearBits_40 ?_
      refine bw_nm (a := (hi.toInt - lo.toInt)) (tI_sub rfl rfl (by omega) (by omega)) (fun za eza tza => ?_)
      refine lv_iconst (v := 1) hx hb dX6_yearBits_41 (by decide) ?_
      refine lv_iadd hx hb dX6_yearBits_42 ?_
      refine bw_nm (a := ((hi.toInt - lo.toInt) + 1)) (tI_add tza rfl (by omega) (by omega)) (fun zb ezb tzb => ?_)
      refine lv_lshl hx hb dX6_yearBits_43 rfl ?_
      refine lv_topl (fun wa ewa => ?_)
      refine lv_lconst (v := 1) hx hb dX6_yearBits_44 (by decide) ?_
      refine lv_lsub hx hb dX6_yearBits_45 ?_
      refine lv_topl (fun wb ewb => ?_)
      refine lv_iload hx hb dX6_yearBits_46 (lv_at hl 4 rfl) ?_
      refine lv_iload_n hx hb dX6_yearBits_48 rfl (lv_at hl 2 rfl) ?_
      refine lv_isub hx hb dX6_yearBits_49 ?_
      refine bw_nm (a := (lo.toInt - fi.toInt)) (tI_sub rfl rfl (by omega) (by omega)) (fun zc ezc tzc => ?_)
      refine lv_lshl hx hb dX6_yearBits_50 rfl ?_
      refine lv_topl (fun wc ewc => ?_)
      subst hQ
      have hpost : ∀ b : Nat, lb (wc : Int64) b = true ↔ bg.toInt ≤ fi.toInt + b ∧ fi.toInt + b ≤ un.toInt ∧ fi.toInt + b ≤ la.toInt := by
        intro b
        rw [yb_bits (f := fi.toInt) (lo := lo.toInt) (hi := hi.toInt) (by omega) (by omega) (by omega) tzb tzc (by rw [ewc, ewb, ewa])]
        omega
      exact W.lret (v := wc) hx hb hr (fun t9 ht hW => ⟨_, rfl, hpost, by rw [ht]⟩) (fun q h => by cases h) dX6_yearBits_51
    · skip
      refine lv_lconst (v := 0) hx hb dX6_yearBits_31 (by decide) ?_
      refine lv_goto (tgt := 51) hx hb dX6_yearBits_32 (by decide) ?_
      subst hQ
      have hpost : ∀ b : Nat, lb (0 : Int64) b = true ↔ bg.toInt ≤ fi.toInt + b ∧ fi.toInt + b ≤ un.toInt ∧ fi.toInt + b ≤ la.toInt := by
        intro b
        rw [lb_0]
        constructor
        · intro q; cases q
        · intro q; omega
      exact W.lret (v := 0) hx hb hr (fun t9 ht hW => ⟨_, rfl, hpost, by rw [ht]⟩) (fun q h => by cases h) dX6_yearBits_51
  have L_12 : ∀ (lo : Int32), ((lo.toInt = bg.toInt ∧ fi.toInt ≤ bg.toInt) ∨ (lo.toInt = fi.toInt ∧ bg.toInt ≤ fi.toInt)) → ∀ (ls : Array Slot), lv_has ls 6 [(0, .int bg), (1, .int un), (2, .int fi), (3, .int la), (4, .int lo)] → W pp l ee { frames := 0, cells := 0, slots := 0, locals := 0 } ss mm (List.toArray [Value.int bg, Value.int un, Value.int fi, Value.int la]) below meth cc0 ss.heap [] 0 0 Q (F0 mm 12 ls []) := by
    intro lo hlo
    intro ls hl
    refine lv_iload_n hx hb dX6_yearBits_12 rfl (lv_at hl 1 rfl) ?_
    refine lv_iload_n hx hb dX6_yearBits_13 rfl (lv_at hl 3 rfl) ?_
    refine bw_icmp_ge (tgt := 21) (a := un.toInt) (b := la.toInt) hx hb dX6_yearBits_14 (by decide) rfl rfl (fun c_2 => ?_) (fun c_2 => ?_)
    · skip
      refine lv_iload_n hx hb dX6_yearBits_21 rfl (lv_at hl 3 rfl) ?_
      refine lv_istore (lv' := [(5, .int la), (0, .int bg), (1, .int un), (2, .int fi), (3, .int la), (4, .int lo)]) hx hb dX6_yearBits_22 hl (by decide) rfl (fun ls hl => ?_)
      exact L_24 lo la (by first | assumption | omega) (by first | assumption | omega) ls (lv_sub hl [1, 2, 3, 4, 5, 0] rfl)
    · skip
      refine lv_iload_n hx hb dX6_yearBits_17 rfl (lv_at hl 1 rfl) ?_
      refine lv_goto (tgt := 22) hx hb dX6_yearBits_18 (by decide) ?_
      refine lv_istore (lv' := [(5, .int un), (0, .int bg), (1, .int un), (2, .int fi), (3, .int la), (4, .int lo)]) hx hb dX6_yearBits_22 hl (by decide) rfl (fun ls hl => ?_)
      exact L_24 lo un (by first | assumption | omega) (by first | assumption | omega) ls (lv_sub hl [1, 2, 3, 4, 5, 0] rfl)
  refine lv_iload_n hx hb dX6_yearBits_0 rfl (lv_at hl 0 rfl) ?_
  refine lv_iload_n hx hb dX6_yearBits_1 rfl (lv_at hl 2 rfl) ?_
  refine bw_icmp_le (tgt := 9) (a := bg.toInt) (b := fi.toInt) hx hb dX6_yearBits_2 (by decide) rfl rfl (fun c_3 => ?_) (fun c_3 => ?_)
  · skip
    refine lv_iload_n hx hb dX6_yearBits_9 rfl (lv_at hl 2 rfl) ?_
    refine lv_istore (lv' := [(4, .int fi), (0, .int bg), (1, .int un), (2, .int fi), (3, .int la)]) hx hb dX6_yearBits_10 hl (by decide) rfl (fun ls hl => ?_)
    exact L_12 fi (by first | assumption | omega) ls (lv_sub hl [1, 2, 3, 4, 0] rfl)
  · skip
    refine lv_iload_n hx hb dX6_yearBits_5 rfl (lv_at hl 0 rfl) ?_
    refine lv_goto (tgt := 10) hx hb dX6_yearBits_6 (by decide) ?_
    refine lv_istore (lv' := [(4, .int bg), (0, .int bg), (1, .int un), (2, .int fi), (3, .int la)]) hx hb dX6_yearBits_10 hl (by decide) rfl (fun ls hl => ?_)
    exact L_12 bg (by first | assumption | omega) ls (lv_sub hl [1, 2, 3, 4, 0] rfl)

set_option maxHeartbeats 4000000 in
set_option maxRecDepth 100000 in
theorem c_X6_yearsMaybe (l : Launch) (dC : Nat → ClassId) (dI : Nat → Nat → Nat) (cy : Nat → ClassId) (ad : Nat → Nat) (sn : Nat) (nb : Nat → Int32) (fr : Nat → Int32) (tt : Nat → Int32) (st : Nat → Int32) (nu : Nat → Int32) (s : Nat) (k : Nat) (t : Int32) (m : Int32) (fi : Int32) (la : Int32) (hs : s < 40) (hk : nb s = nI k) (hk1 : 1 ≤ k) (hk8 : k ≤ 8) (hok : sOK1 fr tt s k) (h3 : 1500 ≤ fi.toInt ∧ fi.toInt ≤ la.toInt ∧ la.toInt ≤ 2100) (h4 : la.toInt - fi.toInt ≤ 59) : Met l yX6_yearsMaybe wsX6_yearsMaybe ({ frames := 1, cells := 0, slots := 0, locals := 25 }) (va_Pc [.ref (ad 3), .int (nI s), .int t, .int m, .int fi, .int la] (fun U => va_P (dC, dI) vwCl [(ad 3, .inr (6, [.ref (ad 4), .ref (ad 5), .ref (ad 6), .ref (ad 7), .ref (ad 8), .int (nI sn)])), (ad 4, .inl (cy 0, 40, .inl nb)), (ad 5, .inl (cy 0, 320, .inl fr)), (ad 6, .inl (cy 0, 320, .inl tt)), (ad 7, .inl (cy 0, 320, .inl st)), (ad 8, .inl (cy 0, 320, .inl nu))] U.heap ∧ va_K (dC, dI) vwCl (tyL cy) U)) (vp_Sl (fun r => ∀ b : Nat, lb r b = true ↔ fi.toInt + b ≤ la.toInt ∧ sPos nb fr tt st nu s t m (fi.toInt + b))) 0 0 (fun _ => False) := by
  refine Met.ofW (cc := cX6_yearsMaybe) (maxL := 11) (ret := (some .long)) (by decide) rfl ?_
  intro pp ee ss mm args below meth cc0 s₁ B hml hv
  obtain ⟨rfl, hP, hK⟩ := hv
  have hx := B.exec
  have hb := B.bytes
  have hr := B.returns
  have hts := atoms_spec (ws := wsX6_yearsMaybe) B.pre
  have hown : ss.vm.findClass RX6 = some mm.cls := findClass_of_methodNamed B.named
  have hlocks := B.notSynchronized
  have hL0 := hts (.fieldLink RX6 21 "HereLived$Sites" "street" "[I") (by decide +kernel)
  have hL1 := hts (.fieldLink RX6 24 "HereLived$Sites" "number" "[I") (by decide +kernel)
  have hL2 := hts (.fieldLink RX6 15 "HereLived$Sites" "from" "[I") (by decide +kernel)
  have hL3 := hts (.fieldLink RX6 18 "HereLived$Sites" "to" "[I") (by decide +kernel)
  have hiX6 : ∀ w ∈ wsX60, w ∈ wsX6_yearsMaybe := by decide +kernel
  have hl := lv_entry ([.ref (ad 3), .int (nI s), .int t, .int m, .int fi, .int la]) (n := 11) (Nat.le_of_ble_eq_true rfl)
  rw [lg_entry_eq]
  generalize (lg_sl ([.ref (ad 3), .int (nI s), .int t, .int m, .int fi, .int la]) ++ List.replicate (11 - (lg_sl ([.ref (ad 3), .int (nI s), .int t, .int m, .int fi, .int la])).length) Slot.unset).toArray = ls at hl ⊢
  have hl : lv_has ls 11 [(0, .ref (ad 3)), (1, .int (nI s)), (2, .int t), (3, .int m), (4, .int fi), (5, .int la)] := hl
  refine bw_Q (fun Q hQ => ?_)
  change W pp l ee { frames := 1, cells := 0, slots := 0, locals := 25 } ss mm _ below meth cc0 ss.heap [] 0 0 Q (F0 mm 0 ls [])
  refine lv_lconst (v := 0) hx hb dX6_yearsMaybe_0 (by decide) ?_
  refine lv_lstore (lv' := [(6, .long 0), (0, .ref (ad 3)), (1, .int (nI s)), (2, .int t), (3, .int m), (4, .int fi), (5, .int la)]) hx hb dX6_yearsMaybe_1 hl (by decide) rfl (fun ls hl => ?_)
  refine lv_aload_n hx hb dX6_yearsMaybe_3 rfl (lv_at hl 1 rfl) ?_
  refine lv_iload_n hx hb dX6_yearsMaybe_4 rfl (lv_at hl 2 rfl) ?_
  have hPc : va_P (dC, dI) vwCl [(ad 3, .inr (6, [.ref (ad 4), .ref (ad 5), .ref (ad 6), .ref (ad 7), .ref (ad 8), .int (nI sn)])), (ad 4, .inl (cy 0, 40, .inl nb))] ss.heap := hP.sub [0, 1] rfl
  refine vp_callSi (va_Run.run (va_runV (As := [.int (nI s)]) (rest := []) ⟨hx, hb, hml, hown, hts⟩ (c_X6_latestOf l dC dI cy ad sn nb s k (by first | assumption | omega) (by first | assumption | omega) (by first | assumption | omega) (by first | assumption | omega)) (cwV 1 hts gX6_yearsMaybe_X6_latestOf rfl rfl rfl (by decide +kernel) ⟨Nat.le_of_ble_eq_true rfl, Nat.le_of_ble_eq_true rfl⟩) ⟨fun a U g mk q => by obtain ⟨q0, qP, qK⟩ := q; exact ⟨q0, qP, va_K.moved (u := U) (U := U.calling g mk a) (Vm.Alike.refl U.vm) qK⟩, va_recv hK hPc (ci := 6) (q0 := 0) rfl rfl, fun U hU hW => ⟨rfl, by rw [hU]; exact hPc, va_K.moved hW.alike hK⟩⟩ rfl rfl hl.1 rfl (lv_room (Nat.le_of_ble_eq_true rfl)) dX6_yearsMaybe_5 ⟨Nat.le_of_ble_eq_true rfl, Nat.le_of_ble_eq_true rfl⟩)) (fun r_1 hr_1 => ?_)
  rw [hr_1]
  refine lv_istore (lv' := [(8, .int (nI (s * 8 + k - 1))), (6, .long 0), (0, .ref (ad 3)), (1, .int (nI s)), (2, .int t), (3, .int m), (4, .int fi), (5, .int la)]) hx hb dX6_yearsMaybe_8 hl (by decide) rfl (fun ls hl => ?_)
  refine lv_iload_n hx hb dX6_yearsMaybe_10 rfl (lv_at hl 3 rfl) ?_
  refine lv_bipush (v := 8) hx hb dX6_yearsMaybe_11 (by decide) ?_
  refine lv_imul hx hb dX6_yearsMaybe_13 ?_
  refine bw_re (show (nI s) * 8 = nI (s * 8) from pk_mul (s) (8)) ?_
  refine lv_istore (lv' := [(9, .int (nI (s * 8))), (8, .int (nI (s * 8 + k - 1))), (6, .long 0), (0, .ref (ad 3)), (1, .int (nI s)), (2, .int t), (3, .int m), (4, .int fi), (5, .int la)]) hx hb dX6_yearsMaybe_14 hl (by decide) rfl (fun ls hl => ?_)
  have L_16 : ∀ (n9 : Nat), ∀ (i : Nat) (ys : Int64), (s * 8 + k - i) < n9 → (s * 8 ≤ i) → (i ≤ s * 8 + k) → (∀ b : Nat, lb ys b = true ↔ fi.toInt + b ≤ la.toInt ∧ sPosTo fr tt st nu (s * 8) i (s * 8 + k) t m (fi.toInt + b)) → ∀ (ls : Array Slot), lv_has ls 11 [(0, .ref (ad 3)), (1, .int (nI s)), (2, .int t), (3, .int m), (4, .int fi), (5, .int la), (6, .long ys), (8, .int (nI (s * 8 + k - 1))), (9, .int (nI i))] → W pp l ee { frames := 1, cells := 0, slots := 0, locals := 25 } ss mm (List.toArray [Value.ref (ad 3), Value.int (nI s), Value.int t, Value.int m, Value.int fi, Value.int la]) below meth cc0 ss.heap [] 0 0 Q (F0 mm 16 ls []) := by
    intro n9
    induction n9 with
    | zero => intro i ys hm9; exact absurd hm9 (Nat.not_lt_zero _)
    | succ n9 ih16 =>
      intro i ys hm16 hi1 hi2 hys
      intro ls hl
      refine lv_iload hx hb dX6_yearsMaybe_16 (lv_at hl 8 rfl) ?_
      refine lv_iload hx hb dX6_yearsMaybe_18 (lv_at hl 7 rfl) ?_
      refine bw_icmp_gt (tgt := 98) (a := ((i : Nat) : Int)) (b := ((s * 8 + k - 1 : Nat) : Int)) hx hb dX6_yearsMaybe_20 (by decide) (nI_toInt (by omega)) (nI_toInt (by omega)) (fun c_2 => ?_) (fun c_2 => ?_)
      · skip
        refine lv_lload hx hb dX6_yearsMaybe_98 (lv_at hl 6 rfl) ?_
        subst hQ
        have hpost : ∀ b : Nat, lb (ys : Int64) b = true ↔ fi.toInt + b ≤ la.toInt ∧ sPos nb fr tt st nu s t m (fi.toInt + b) := by
          have e9 : i = s * 8 + k := by omega
          subst e9
          unfold sPos
          rw [kn_nI hk hk8]
          exact hys
        exact W.lret (v := ys) hx hb hr (fun t9 ht hW => ⟨_, rfl, hpost, by rw [ht]⟩) (fun q h => by cases h) dX6_yearsMaybe_100
      · skip
        refine lv_aload_n hx hb dX6_yearsMaybe_23 rfl (lv_at hl 0 rfl) ?_
        refine va_get (D := (dC, dI)) (ci := 6) (v := .ref (ad 7)) (C := RX6) (T := TX6) (N := 6) hx hb hts hiX6 hown hK hP 0 rfl rfl 3 (by decide) hL0 (fun _ h9 => h9) rfl dX6_yearsMaybe_24 ?_
        refine lv_iload hx hb dX6_yearsMaybe_27 (lv_at hl 8 rfl) ?_
        refine bw_iald hx hb hK hP 4 0 rfl rfl (j := i) (nI_toInt (by omega)) (by omega) dX6_yearsMaybe_29 ?_
        refine lv_iload_n hx hb dX6_yearsMaybe_30 rfl (lv_at hl 2 rfl) ?_
        refine bw_icmp_ne (tgt := 92) (a := (st i).toInt) (b := t.toInt) hx hb dX6_yearsMaybe_31 (by decide) rfl rfl (fun c_3 => ?_) (fun c_3 => ?_)
        · skip
          refine lv_iinc (v := nI (i + 1)) (lv' := [(9, .int (nI (i + 1))), (0, .ref (ad 3)), (1, .int (nI s)), (2, .int t), (3, .int m), (4, .int fi), (5, .int la), (6, .long ys), (8, .int (nI (s * 8 + k - 1)))]) hx hb dX6_yearsMaybe_92 hl (k := 8) rfl (show nI i + Int32.ofInt 1 = nI (i + 1) from nI_add i 1) (by decide) rfl (fun ls hl => ?_)
          refine lv_goto (tgt := 16) hx hb dX6_yearsMaybe_95 (by decide) ?_
          have hI_hys : ∀ b : Nat, lb ys b = true ↔ fi.toInt + b ≤ la.toInt ∧ sPosTo fr tt st nu (s * 8) (i + 1) (s * 8 + k) t m (fi.toInt + b) := by
            intro b
            rw [sPosTo_s hi1]
            have q7 : (2100 : Int32).toInt = 2100 := rfl
            have q6 := hok i hi1 (by omega)
            first
              | (have q9 : ¬ sHit st nu t m i := by unfold sHit; omega
                 rw [hys b]; simp [q9]; done)
              | (have q9 : sHit st nu t m i := by unfold sHit; omega
                 rw [ewo, lb_or, Bool.or_eq_true, hys b, hra b]
                 constructor
                 · rintro (⟨q1, q2⟩ | q1)
                   · exact ⟨q1, Or.inl q2⟩
                   · exact ⟨by omega, Or.inr ⟨q9, by unfold sMay; omega⟩⟩
                 · rintro ⟨q1, q2 | ⟨q3, q4⟩⟩
                   · exact Or.inl ⟨q1, q2⟩
                   · refine Or.inr ?_
                     unfold sMay at q4
                     omega)
          exact ih16 (i + 1) ys (by omega) (by first | assumption | omega) (by first | assumption | omega) hI_hys ls (lv_sub hl [1, 2, 3, 4, 5, 6, 7, 8, 0] rfl)
        · skip
          refine lv_aload_n hx hb dX6_yearsMaybe_34 rfl (lv_at hl 0 rfl) ?_
          refine va_get (D := (dC, dI)) (ci := 6) (v := .ref (ad 8)) (C := RX6) (T := TX6) (N := 6) hx hb hts hiX6 hown hK hP 0 rfl rfl 4 (by decide) hL1 (fun _ h9 => h9) rfl dX6_yearsMaybe_35 ?_
          refine lv_iload hx hb dX6_yearsMaybe_38 (lv_at hl 8 rfl) ?_
          refine bw_iald hx hb hK hP 5 0 rfl rfl (j := i) (nI_toInt (by omega)) (by omega) dX6_yearsMaybe_40 ?_
          refine lv_iload_n hx hb dX6_yearsMaybe_41 rfl (lv_at hl 3 rfl) ?_
          refine bw_icmp_ne (tgt := 92) (a := (nu i).toInt) (b := m.toInt) hx hb dX6_yearsMaybe_42 (by decide) rfl rfl (fun c_4 => ?_) (fun c_4 => ?_)
          · skip
            refine lv_iinc (v := nI (i + 1)) (lv' := [(9, .int (nI (i + 1))), (0, .ref (ad 3)), (1, .int (nI s)), (2, .int t), (3, .int m), (4, .int fi), (5, .int la), (6, .long ys), (8, .int (nI (s * 8 + k - 1)))]) hx hb dX6_yearsMaybe_92 hl (k := 8) rfl (show nI i + Int32.ofInt 1 = nI (i + 1) from nI_add i 1) (by decide) rfl (fun ls hl => ?_)
            refine lv_goto (tgt := 16) hx hb dX6_yearsMaybe_95 (by decide) ?_
            have hI_hys : ∀ b : Nat, lb ys b = true ↔ fi.toInt + b ≤ la.toInt ∧ sPosTo fr tt st nu (s * 8) (i + 1) (s * 8 + k) t m (fi.toInt + b) := by
              intro b
              rw [sPosTo_s hi1]
              have q7 : (2100 : Int32).toInt = 2100 := rfl
              have q6 := hok i hi1 (by omega)
              first
                | (have q9 : ¬ sHit st nu t m i := by unfold sHit; omega
                   rw [hys b]; simp [q9]; done)
                | (have q9 : sHit st nu t m i := by unfold sHit; omega
                   rw [ewo, lb_or, Bool.or_eq_true, hys b, hra b]
                   constructor
                   · rintro (⟨q1, q2⟩ | q1)
                     · exact ⟨q1, Or.inl q2⟩
                     · exact ⟨by omega, Or.inr ⟨q9, by unfold sMay; omega⟩⟩
                   · rintro ⟨q1, q2 | ⟨q3, q4⟩⟩
                     · exact Or.inl ⟨q1, q2⟩
                     · refine Or.inr ?_
                       unfold sMay at q4
                       omega)
            exact ih16 (i + 1) ys (by omega) (by first | assumption | omega) (by first | assumption | omega) hI_hys ls (lv_sub hl [1, 2, 3, 4, 5, 6, 7, 8, 0] rfl)
          · skip
            refine lv_iload hx hb dX6_yearsMaybe_45 (lv_at hl 8 rfl) ?_
            refine lv_iload hx hb dX6_yearsMaybe_47 (lv_at hl 7 rfl) ?_
            refine bw_icmp_ge (tgt := 66) (a := ((i : Nat) : Int)) (b := ((s * 8 + k - 1 : Nat) : Int)) hx hb dX6_yearsMaybe_49 (by decide) (nI_toInt (by omega)) (nI_toInt (by omega)) (fun c_5 => ?_) (fun c_5 => ?_)
            · skip
              refine lv_sipush (v := 2100) hx hb dX6_yearsMaybe_66 (by decide) ?_
              refine lv_istore (lv' := [(10, .int 2100), (0, .ref (ad 3)), (1, .int (nI s)), (2, .int t), (3, .int m), (4, .int fi), (5, .int la), (6, .long ys), (8, .int (nI (s * 8 + k - 1))), (9, .int (nI i))]) hx hb dX6_yearsMaybe_69 hl (by decide) rfl (fun ls hl => ?_)
              have q6 := hok i hi1 (by omega)
              have q7 : (2100 : Int32).toInt = 2100 := rfl
              refine lv_lload hx hb dX6_yearsMaybe_71 (lv_at hl 7 rfl) ?_
              refine lv_aload_n hx hb dX6_yearsMaybe_73 rfl (lv_at hl 1 rfl) ?_
              refine va_get (D := (dC, dI)) (ci := 6) (v := .ref (ad 5)) (C := RX6) (T := TX6) (N := 6) hx hb hts hiX6 hown hK hP 0 rfl rfl 1 (by decide) hL2 (fun _ h9 => h9) rfl dX6_yearsMaybe_74 ?_
              refine lv_iload hx hb dX6_yearsMaybe_77 (lv_at hl 9 rfl) ?_
              refine bw_iald hx hb hK hP 2 0 rfl rfl (j := i) (nI_toInt (by omega)) (by omega) dX6_yearsMaybe_79 ?_
              refine lv_iload hx hb dX6_yearsMaybe_80 (lv_at hl 0 rfl) ?_
              refine lv_iload hx hb dX6_yearsMaybe_82 (lv_at hl 5 rfl) ?_
              refine lv_iload hx hb dX6_yearsMaybe_84 (lv_at hl 6 rfl) ?_
              refine vp_callSl (va_Run.run (va_runS (As := [.int (fr i), .int 2100, .int fi, .int la]) (rest := [.long ys]) ⟨hx, hb, hml, hown, hts⟩ (c_X6_yearBits l dC dI cy (fr i) 2100 fi la (by first | assumption | omega) (by first | assumption | omega) (by first | assumption | omega) (by first | assumption | omega)) (va_cwS 4 hts gX6_yearsMaybe_X6_yearBits rfl rfl rfl (by decide +kernel) ⟨Nat.le_of_ble_eq_true rfl, Nat.le_of_ble_eq_true rfl⟩) ⟨fun a U g mk q => q, fun U hU hW => ⟨rfl, trivial⟩⟩ rfl rfl hl.1 rfl (lv_room (Nat.le_of_ble_eq_true rfl)) dX6_yearsMaybe_86 ⟨Nat.le_of_ble_eq_true rfl, Nat.le_of_ble_eq_true rfl⟩)) (fun ra hra => ?_)
              refine lv_lor hx hb dX6_yearsMaybe_89 ?_
              refine lv_topl (fun wo ewo => ?_)
              refine lv_lstore (lv' := [(6, .long wo), (10, .int 2100), (0, .ref (ad 3)), (1, .int (nI s)), (2, .int t), (3, .int m), (4, .int fi), (5, .int la), (8, .int (nI (s * 8 + k - 1))), (9, .int (nI i))]) hx hb dX6_yearsMaybe_90 hl (by decide) rfl (fun ls hl => ?_)
              refine lv_iinc (v := nI (i + 1)) (lv' := [(9, .int (nI (i + 1))), (6, .long wo), (10, .int 2100), (0, .ref (ad 3)), (1, .int (nI s)), (2, .int t), (3, .int m), (4, .int fi), (5, .int la), (8, .int (nI (s * 8 + k - 1)))]) hx hb dX6_yearsMaybe_92 hl (k := 9) rfl (show nI i + Int32.ofInt 1 = nI (i + 1) from nI_add i 1) (by decide) rfl (fun ls hl => ?_)
              refine lv_goto (tgt := 16) hx hb dX6_yearsMaybe_95 (by decide) ?_
              have hI_hys : ∀ b : Nat, lb wo b = true ↔ fi.toInt + b ≤ la.toInt ∧ sPosTo fr tt st nu (s * 8) (i + 1) (s * 8 + k) t m (fi.toInt + b) := by
                intro b
                rw [sPosTo_s hi1]
                have q7 : (2100 : Int32).toInt = 2100 := rfl
                have q6 := hok i hi1 (by omega)
                first
                  | (have q9 : ¬ sHit st nu t m i := by unfold sHit; omega
                     rw [hys b]; simp [q9]; done)
                  | (have q9 : sHit st nu t m i := by unfold sHit; omega
                     rw [ewo, lb_or, Bool.or_eq_true, hys b, hra b]
                     constructor
                     · rintro (⟨q1, q2⟩ | q1)
                       · exact ⟨q1, Or.inl q2⟩
                       · exact ⟨by omega, Or.inr ⟨q9, by unfold sMay; omega⟩⟩
                     · rintro ⟨q1, q2 | ⟨q3, q4⟩⟩
                       · exact Or.inl ⟨q1, q2⟩
                       · refine Or.inr ?_
                         unfold sMay at q4
                         omega)
              exact ih16 (i + 1) wo (by omega) (by first | assumption | omega) (by first | assumption | omega) hI_hys ls (lv_sub hl [3, 4, 5, 6, 7, 8, 1, 9, 0] rfl)
            · skip
              have q5 := hok (i + 1) (by omega) (by omega)
              refine lv_aload_n hx hb dX6_yearsMaybe_52 rfl (lv_at hl 0 rfl) ?_
              refine va_get (D := (dC, dI)) (ci := 6) (v := .ref (ad 6)) (C := RX6) (T := TX6) (N := 6) hx hb hts hiX6 hown hK hP 0 rfl rfl 2 (by decide) hL3 (fun _ h9 => h9) rfl dX6_yearsMaybe_53 ?_
              refine lv_iload hx hb dX6_yearsMaybe_56 (lv_at hl 8 rfl) ?_
              refine lv_iconst (v := 1) hx hb dX6_yearsMaybe_58 (by decide) ?_
              refine lv_iadd hx hb dX6_yearsMaybe_59 ?_
              refine bw_re (show (nI i) + 1 = nI (i + 1) from nI_add (i) (1)) ?_
              refine bw_iald hx hb hK hP 3 0 rfl rfl (j := (i + 1)) ((nI_toInt (by omega)).trans (by omega)) (by omega) dX6_yearsMaybe_60 ?_
              refine lv_iconst (v := 1) hx hb dX6_yearsMaybe_61 (by decide) ?_
              refine lv_isub hx hb dX6_yearsMaybe_62 ?_
              refine bw_nm (a := ((tt (i + 1)).toInt - 1)) (tI_sub rfl rfl (by omega) (by omega)) (fun z_6 ez_6 tz_6 => ?_)
              refine lv_goto (tgt := 69) hx hb dX6_yearsMaybe_63 (by decide) ?_
              refine lv_istore (lv' := [(10, .int z_6), (0, .ref (ad 3)), (1, .int (nI s)), (2, .int t), (3, .int m), (4, .int fi), (5, .int la), (6, .long ys), (8, .int (nI (s * 8 + k - 1))), (9, .int (nI i))]) hx hb dX6_yearsMaybe_69 hl (by decide) rfl (fun ls hl => ?_)
              have q6 := hok i hi1 (by omega)
              have q7 : (2100 : Int32).toInt = 2100 := rfl
              refine lv_lload hx hb dX6_yearsMaybe_71 (lv_at hl 7 rfl) ?_
              refine lv_aload_n hx hb dX6_yearsMaybe_73 rfl (lv_at hl 1 rfl) ?_
              refine va_get (D := (dC, dI)) (ci := 6) (v := .ref (ad 5)) (C := RX6) (T := TX6) (N := 6) hx hb hts hiX6 hown hK hP 0 rfl rfl 1 (by decide) hL2 (fun _ h9 => h9) rfl dX6_yearsMaybe_74 ?_
              refine lv_iload hx hb dX6_yearsMaybe_77 (lv_at hl 9 rfl) ?_
              refine bw_iald hx hb hK hP 2 0 rfl rfl (j := i) (nI_toInt (by omega)) (by omega) dX6_yearsMaybe_79 ?_
              refine lv_iload hx hb dX6_yearsMaybe_80 (lv_at hl 0 rfl) ?_
              refine lv_iload hx hb dX6_yearsMaybe_82 (lv_at hl 5 rfl) ?_
              refine lv_iload hx hb dX6_yearsMaybe_84 (lv_at hl 6 rfl) ?_
              refine vp_callSl (va_Run.run (va_runS (As := [.int (fr i), .int z_6, .int fi, .int la]) (rest := [.long ys]) ⟨hx, hb, hml, hown, hts⟩ (c_X6_yearBits l dC dI cy (fr i) z_6 fi la (by first | assumption | omega) (by first | assumption | omega) (by first | assumption | omega) (by first | assumption | omega)) (va_cwS 4 hts gX6_yearsMaybe_X6_yearBits rfl rfl rfl (by decide +kernel) ⟨Nat.le_of_ble_eq_true rfl, Nat.le_of_ble_eq_true rfl⟩) ⟨fun a U g mk q => q, fun U hU hW => ⟨rfl, trivial⟩⟩ rfl rfl hl.1 rfl (lv_room (Nat.le_of_ble_eq_true rfl)) dX6_yearsMaybe_86 ⟨Nat.le_of_ble_eq_true rfl, Nat.le_of_ble_eq_true rfl⟩)) (fun ra hra => ?_)
              refine lv_lor hx hb dX6_yearsMaybe_89 ?_
              refine lv_topl (fun wo ewo => ?_)
              refine lv_lstore (lv' := [(6, .long wo), (10, .int z_6), (0, .ref (ad 3)), (1, .int (nI s)), (2, .int t), (3, .int m), (4, .int fi), (5, .int la), (8, .int (nI (s * 8 + k - 1))), (9, .int (nI i))]) hx hb dX6_yearsMaybe_90 hl (by decide) rfl (fun ls hl => ?_)
              refine lv_iinc (v := nI (i + 1)) (lv' := [(9, .int (nI (i + 1))), (6, .long wo), (10, .int z_6), (0, .ref (ad 3)), (1, .int (nI s)), (2, .int t), (3, .int m), (4, .int fi), (5, .int la), (8, .int (nI (s * 8 + k - 1)))]) hx hb dX6_yearsMaybe_92 hl (k := 9) rfl (show nI i + Int32.ofInt 1 = nI (i + 1) from nI_add i 1) (by decide) rfl (fun ls hl => ?_)
              refine lv_goto (tgt := 16) hx hb dX6_yearsMaybe_95 (by decide) ?_
              have hI_hys : ∀ b : Nat, lb wo b = true ↔ fi.toInt + b ≤ la.toInt ∧ sPosTo fr tt st nu (s * 8) (i + 1) (s * 8 + k) t m (fi.toInt + b) := by
                intro b
                rw [sPosTo_s hi1]
                have q7 : (2100 : Int32).toInt = 2100 := rfl
                have q6 := hok i hi1 (by omega)
                first
                  | (have q9 : ¬ sHit st nu t m i := by unfold sHit; omega
                     rw [hys b]; simp [q9]; done)
                  | (have q9 : sHit st nu t m i := by unfold sHit; omega
                     rw [ewo, lb_or, Bool.or_eq_true, hys b, hra b]
                     constructor
                     · rintro (⟨q1, q2⟩ | q1)
                       · exact ⟨q1, Or.inl q2⟩
                       · exact ⟨by omega, Or.inr ⟨q9, by unfold sMay; omega⟩⟩
                     · rintro ⟨q1, q2 | ⟨q3, q4⟩⟩
                       · exact Or.inl ⟨q1, q2⟩
                       · refine Or.inr ?_
                         unfold sMay at q4
                         omega)
              exact ih16 (i + 1) wo (by omega) (by first | assumption | omega) (by first | assumption | omega) hI_hys ls (lv_sub hl [3, 4, 5, 6, 7, 8, 1, 9, 0] rfl)
  have hI_hys : ∀ b : Nat, lb 0 b = true ↔ fi.toInt + b ≤ la.toInt ∧ sPosTo fr tt st nu (s * 8) (s * 8) (s * 8 + k) t m (fi.toInt + b) := by
    intro b
    rw [lb_0]
    exact ⟨(fun q => by cases q), (fun q => absurd q.2 sPosTo_0)⟩
  exact L_16 ((s * 8 + k - (s * 8)) + 1) (s * 8) 0 (by omega) (by first | assumption | omega) (by first | assumption | omega) hI_hys ls (lv_sub hl [3, 4, 5, 6, 7, 8, 2, 1, 0] rfl)

set_option maxHeartbeats 4000000 in
set_option maxRecDepth 100000 in
theorem c_X6_yearsSurely (l : Launch) (dC : Nat → ClassId) (dI : Nat → Nat → Nat) (cy : Nat → ClassId) (ad : Nat → Nat) (sn : Nat) (nb : Nat → Int32) (fr : Nat → Int32) (tt : Nat → Int32) (st : Nat → Int32) (nu : Nat → Int32) (s : Nat) (k : Nat) (t : Int32) (m : Int32) (fi : Int32) (la : Int32) (hs : s < 40) (hk : nb s = nI k) (hk1 : 1 ≤ k) (hk8 : k ≤ 8) (hsn : s < sn) (hall : sOK nb fr tt sn) (hok : sOK1 fr tt s k) (h3 : 1500 ≤ fi.toInt ∧ fi.toInt ≤ la.toInt ∧ la.toInt ≤ 2100) (h4 : la.toInt - fi.toInt ≤ 59) : Met l yX6_yearsSurely wsX6_yearsSurely ({ frames := 2, cells := 0, slots := 0, locals := 55 }) (va_Pc [.ref (ad 3), .int (nI s), .int t, .int m, .int fi, .int la] (fun U => va_P (dC, dI) vwCl [(ad 3, .inr (6, [.ref (ad 4), .ref (ad 5), .ref (ad 6), .ref (ad 7), .ref (ad 8), .int (nI sn)])), (ad 4, .inl (cy 0, 40, .inl nb)), (ad 5, .inl (cy 0, 320, .inl fr)), (ad 6, .inl (cy 0, 320, .inl tt)), (ad 7, .inl (cy 0, 320, .inl st)), (ad 8, .inl (cy 0, 320, .inl nu))] U.heap ∧ va_K (dC, dI) vwCl (tyL cy) U)) (vp_Sl (fun r => ∀ b : Nat, lb r b = true ↔ fi.toInt + b ≤ la.toInt ∧ sSu1 nb fr tt st nu s t m (fi.toInt + b) ∧ ∀ o, o < sn → o ≠ s → ¬ sPos nb fr tt st nu o t m (fi.toInt + b))) 0 0 (fun _ => False) := by
  refine Met.ofW (cc := cX6_yearsSurely) (maxL := 11) (ret := (some .long)) (by decide) rfl ?_
  intro pp ee ss mm args below meth cc0 s₁ B hml hv
  obtain ⟨rfl, hP, hK⟩ := hv
  have hx := B.exec
  have hb := B.bytes
  have hr := B.returns
  have hts := atoms_spec (ws := wsX6_yearsSurely) B.pre
  have hown : ss.vm.findClass RX6 = some mm.cls := findClass_of_methodNamed B.named
  have hlocks := B.notSynchronized
  have hL0 := hts (.fieldLink RX6 35 "HereLived$Sites" "size" "I") (by decide +kernel)
  have hL1 := hts (.constantLong RX6 43 (-1)) (by decide +kernel)
  have hL2 := hts (.fieldLink RX6 21 "HereLived$Sites" "street" "[I") (by decide +kernel)
  have hL3 := hts (.fieldLink RX6 24 "HereLived$Sites" "number" "[I") (by decide +kernel)
  have hL4 := hts (.fieldLink RX6 18 "HereLived$Sites" "to" "[I") (by decide +kernel)
  have hL5 := hts (.fieldLink RX6 15 "HereLived$Sites" "from" "[I") (by decide +kernel)
  have hiX6 : ∀ w ∈ wsX60, w ∈ wsX6_yearsSurely := by decide +kernel
  have hl := lv_entry ([.ref (ad 3), .int (nI s), .int t, .int m, .int fi, .int la]) (n := 11) (Nat.le_of_ble_eq_true rfl)
  rw [lg_entry_eq]
  generalize (lg_sl ([.ref (ad 3), .int (nI s), .int t, .int m, .int fi, .int la]) ++ List.replicate (11 - (lg_sl ([.ref (ad 3), .int (nI s), .int t, .int m, .int fi, .int la])).length) Slot.unset).toArray = ls at hl ⊢
  have hl : lv_has ls 11 [(0, .ref (ad 3)), (1, .int (nI s)), (2, .int t), (3, .int m), (4, .int fi), (5, .int la)] := hl
  refine bw_Q (fun Q hQ => ?_)
  change W pp l ee { frames := 2, cells := 0, slots := 0, locals := 55 } ss mm _ below meth cc0 ss.heap [] 0 0 Q (F0 mm 0 ls [])
  refine lv_lconst (v := 0) hx hb dX6_yearsSurely_0 (by decide) ?_
  refine lv_lstore (lv' := [(6, .long 0), (0, .ref (ad 3)), (1, .int (nI s)), (2, .int t), (3, .int m), (4, .int fi), (5, .int la)]) hx hb dX6_yearsSurely_1 hl (by decide) rfl (fun ls hl => ?_)
  refine lv_aload_n hx hb dX6_yearsSurely_3 rfl (lv_at hl 1 rfl) ?_
  refine lv_iload_n hx hb dX6_yearsSurely_4 rfl (lv_at hl 2 rfl) ?_
  have hPc : va_P (dC, dI) vwCl [(ad 3, .inr (6, [.ref (ad 4), .ref (ad 5), .ref (ad 6), .ref (ad 7), .ref (ad 8), .int (nI sn)])), (ad 4, .inl (cy 0, 40, .inl nb))] ss.heap := hP.sub [0, 1] rfl
  refine vp_callSi (va_Run.run (va_runV (As := [.int (nI s)]) (rest := []) ⟨hx, hb, hml, hown, hts⟩ (c_X6_latestOf l dC dI cy ad sn nb s k (by first | assumption | omega) (by first | assumption | omega) (by first | assumption | omega) (by first | assumption | omega)) (cwV 1 hts gX6_yearsSurely_X6_latestOf rfl rfl rfl (by decide +kernel) ⟨Nat.le_of_ble_eq_true rfl, Nat.le_of_ble_eq_true rfl⟩) ⟨fun a U g mk q => by obtain ⟨q0, qP, qK⟩ := q; exact ⟨q0, qP, va_K.moved (u := U) (U := U.calling g mk a) (Vm.Alike.refl U.vm) qK⟩, va_recv hK hPc (ci := 6) (q0 := 0) rfl rfl, fun U hU hW => ⟨rfl, by rw [hU]; exact hPc, va_K.moved hW.alike hK⟩⟩ rfl rfl hl.1 rfl (lv_room (Nat.le_of_ble_eq_true rfl)) dX6_yearsSurely_5 ⟨Nat.le_of_ble_eq_true rfl, Nat.le_of_ble_eq_true rfl⟩)) (fun r_1 hr_1 => ?_)
  rw [hr_1]
  refine lv_istore (lv' := [(8, .int (nI (s * 8 + k - 1))), (6, .long 0), (0, .ref (ad 3)), (1, .int (nI s)), (2, .int t), (3, .int m), (4, .int fi), (5, .int la)]) hx hb dX6_yearsSurely_8 hl (by decide) rfl (fun ls hl => ?_)
  refine lv_iload_n hx hb dX6_yearsSurely_10 rfl (lv_at hl 3 rfl) ?_
  refine lv_bipush (v := 8) hx hb dX6_yearsSurely_11 (by decide) ?_
  refine lv_imul hx hb dX6_yearsSurely_13 ?_
  refine bw_re (show (nI s) * 8 = nI (s * 8) from pk_mul (s) (8)) ?_
  refine lv_istore (lv' := [(9, .int (nI (s * 8))), (8, .int (nI (s * 8 + k - 1))), (6, .long 0), (0, .ref (ad 3)), (1, .int (nI s)), (2, .int t), (3, .int m), (4, .int fi), (5, .int la)]) hx hb dX6_yearsSurely_14 hl (by decide) rfl (fun ls hl => ?_)
  have L_16 : ∀ (n9 : Nat), ∀ (i : Nat) (ys : Int64), (s * 8 + k - i) < n9 → (s * 8 ≤ i) → (i ≤ s * 8 + k) → (∀ b : Nat, lb ys b = true ↔ fi.toInt + b ≤ la.toInt ∧ sSurTo fr tt st nu (s * 8) i (s * 8 + k) t m (fi.toInt + b)) → ∀ (ls : Array Slot), lv_has ls 11 [(0, .ref (ad 3)), (1, .int (nI s)), (2, .int t), (3, .int m), (4, .int fi), (5, .int la), (6, .long ys), (8, .int (nI (s * 8 + k - 1))), (9, .int (nI i))] → W pp l ee { frames := 2, cells := 0, slots := 0, locals := 55 } ss mm (List.toArray [Value.ref (ad 3), Value.int (nI s), Value.int t, Value.int m, Value.int fi, Value.int la]) below meth cc0 ss.heap [] 0 0 Q (F0 mm 16 ls []) := by
    intro n9
    induction n9 with
    | zero => intro i ys hm9; exact absurd hm9 (Nat.not_lt_zero _)
    | succ n9 ih16 =>
      intro i ys hm16 hi1 hi2 hys
      intro ls hl
      refine lv_iload hx hb dX6_yearsSurely_16 (lv_at hl 8 rfl) ?_
      refine lv_iload hx hb dX6_yearsSurely_18 (lv_at hl 7 rfl) ?_
      refine bw_icmp_gt (tgt := 98) (a := ((i : Nat) : Int)) (b := ((s * 8 + k - 1 : Nat) : Int)) hx hb dX6_yearsSurely_20 (by decide) (nI_toInt (by omega)) (nI_toInt (by omega)) (fun c_2 => ?_) (fun c_2 => ?_)
      · skip
        refine lv_iconst (v := 0) hx hb dX6_yearsSurely_98 (by decide) ?_
        refine lv_istore (lv' := [(9, .int 0), (0, .ref (ad 3)), (1, .int (nI s)), (2, .int t), (3, .int m), (4, .int fi), (5, .int la), (6, .long ys), (8, .int (nI (s * 8 + k - 1)))]) hx hb dX6_yearsSurely_99 hl (by decide) rfl (fun ls hl => ?_)
        have L_101 : ∀ (n9 : Nat), ∀ (o : Nat) (ys : Int64), (sn - o) < n9 → (o ≤ sn) → (∀ b : Nat, lb ys b = true ↔ fi.toInt + b ≤ la.toInt ∧ sSu1 nb fr tt st nu s t m (fi.toInt + b) ∧ ∀ o1, o1 < o → o1 ≠ s → ¬ sPos nb fr tt st nu o1 t m (fi.toInt + b)) → ∀ (ls : Array Slot), lv_has ls 11 [(0, .ref (ad 3)), (1, .int (nI s)), (2, .int t), (3, .int m), (4, .int fi), (5, .int la), (6, .long ys), (9, .int (nI o))] → W pp l ee { frames := 2, cells := 0, slots := 0, locals := 55 } ss mm (List.toArray [Value.ref (ad 3), Value.int (nI s), Value.int t, Value.int m, Value.int fi, Value.int la]) below meth cc0 ss.heap [] 0 0 Q (F0 mm 101 ls []) := by
          intro n9
          induction n9 with
          | zero => intro o ys hm9; exact absurd hm9 (Nat.not_lt_zero _)
          | succ n9 ih101 =>
            intro o ys hm101 ho hys
            intro ls hl
            have hs40 := hall.1
            refine lv_iload hx hb dX6_yearsSurely_101 (lv_at hl 7 rfl) ?_
            refine lv_aload_n hx hb dX6_yearsSurely_103 rfl (lv_at hl 0 rfl) ?_
            refine va_get (D := (dC, dI)) (ci := 6) (v := .int (nI sn)) (C := RX6) (T := TX6) (N := 6) hx hb hts hiX6 hown hK hP 0 rfl rfl 5 (by decide) hL0 (fun _ h9 => h9) rfl dX6_yearsSurely_104 ?_
            refine bw_icmp_ge (tgt := 150) (a := ((o : Nat) : Int)) (b := ((sn : Nat) : Int)) hx hb dX6_yearsSurely_107 (by decide) (nI_toInt (by omega)) (nI_toInt (by omega)) (fun c_3 => ?_) (fun c_3 => ?_)
            · skip
              refine lv_lload hx hb dX6_yearsSurely_150 (lv_at hl 6 rfl) ?_
              subst hQ
              have hpost : ∀ b : Nat, lb (ys : Int64) b = true ↔ fi.toInt + b ≤ la.toInt ∧ sSu1 nb fr tt st nu s t m (fi.toInt + b) ∧ ∀ o, o < sn → o ≠ s → ¬ sPos nb fr tt st nu o t m (fi.toInt + b) := by
                intro b
                have q8 : o = sn := by omega
                subst q8
                exact hys b
              exact W.lret (v := ys) hx hb hr (fun t9 ht hW => ⟨_, rfl, hpost, by rw [ht]⟩) (fun q h => by cases h) dX6_yearsSurely_152
            · skip
              refine lv_lload hx hb dX6_yearsSurely_110 (lv_at hl 6 rfl) ?_
              refine lv_lconst (v := 0) hx hb dX6_yearsSurely_112 (by decide) ?_
              refine bw_lcmpE hx hb dX6_yearsSurely_113 (fun zq tzq => ?_)
              refine bw_if_eq (tgt := 150) (a := zq.toInt) hx hb dX6_yearsSurely_114 (by decide) rfl (fun c_4 => ?_) (fun c_4 => ?_)
              · skip
                refine lv_lload hx hb dX6_yearsSurely_150 (lv_at hl 6 rfl) ?_
                subst hQ
                have hpost : ∀ b : Nat, lb (ys : Int64) b = true ↔ fi.toInt + b ≤ la.toInt ∧ sSu1 nb fr tt st nu s t m (fi.toInt + b) ∧ ∀ o, o < sn → o ≠ s → ¬ sPos nb fr tt st nu o t m (fi.toInt + b) := by
                  intro b
                  have q8 : ys = 0 := tzq.mp (by omega)
                  constructor
                  · intro q; rw [q8, lb_0] at q; cases q
                  · rintro ⟨q1, q2, q3⟩
                    exact (hys b).mpr ⟨q1, q2, fun o1 h1 h2 => q3 o1 (by omega) h2⟩
                exact W.lret (v := ys) hx hb hr (fun t9 ht hW => ⟨_, rfl, hpost, by rw [ht]⟩) (fun q h => by cases h) dX6_yearsSurely_152
              · skip
                refine lv_iload hx hb dX6_yearsSurely_117 (lv_at hl 7 rfl) ?_
                refine lv_iload_n hx hb dX6_yearsSurely_119 rfl (lv_at hl 1 rfl) ?_
                refine bw_icmp_eq (tgt := 144) (a := ((o : Nat) : Int)) (b := ((s : Nat) : Int)) hx hb dX6_yearsSurely_120 (by decide) (nI_toInt (by omega)) (nI_toInt (by omega)) (fun c_5 => ?_) (fun c_5 => ?_)
                · skip
                  refine lv_iinc (v := nI (o + 1)) (lv' := [(9, .int (nI (o + 1))), (0, .ref (ad 3)), (1, .int (nI s)), (2, .int t), (3, .int m), (4, .int fi), (5, .int la), (6, .long ys)]) hx hb dX6_yearsSurely_144 hl (k := 7) rfl (show nI o + Int32.ofInt 1 = nI (o + 1) from nI_add o 1) (by decide) rfl (fun ls hl => ?_)
                  refine lv_goto (tgt := 101) hx hb dX6_yearsSurely_147 (by decide) ?_
                  have hI_hys : ∀ b : Nat, lb ys b = true ↔ fi.toInt + b ≤ la.toInt ∧ sSu1 nb fr tt st nu s t m (fi.toInt + b) ∧ ∀ o1, o1 < (o + 1) → o1 ≠ s → ¬ sPos nb fr tt st nu o1 t m (fi.toInt + b) := by
                    intro b
                    first
                      | (have q9 : s = o := by omega
                         rw [hys b]
                         constructor
                         · rintro ⟨q1, q2, q3⟩
                           refine ⟨q1, q2, fun o1 h1 h2 => q3 o1 ?_ h2⟩
                           omega
                         · rintro ⟨q1, q2, q3⟩
                           exact ⟨q1, q2, fun o1 h1 h2 => q3 o1 (by omega) h2⟩)
                      | (have q9 : ¬ o = s := by omega
                         by_cases hb64 : b < 64
                         · rw [ewl, ewx, lb_and, lb_not _ hb64, Bool.and_eq_true, hys b, Bool.not_eq_true', ← Bool.not_eq_true, hrm_ b]
                           constructor
                           · rintro ⟨⟨q1, q2, q3⟩, q4⟩
                             refine ⟨q1, q2, fun o1 h1 h2 => ?_⟩
                             rcases Nat.lt_or_ge o1 o with q5 | q5
                             · exact q3 o1 q5 h2
                             · have q6 : o1 = o := by omega
                               subst q6
                               exact fun q7 => q4 ⟨q1, q7⟩
                           · rintro ⟨q1, q2, q3⟩
                             exact ⟨⟨q1, q2, fun o1 h1 h2 => q3 o1 (by omega) h2⟩, fun q7 => q3 o (by omega) q9 q7.2⟩
                         · rw [lb_big (by omega)]
                           constructor
                           · intro q; cases q
                           · rintro ⟨q1, -, -⟩; omega)
                  exact ih101 (o + 1) ys (by omega) (by first | assumption | omega) hI_hys ls (lv_sub hl [1, 2, 3, 4, 5, 6, 7, 0] rfl)
                · skip
                  obtain ⟨k2, hk2, hk21, hk28, hok2⟩ := hall.2.2 o (by omega)
                  have hs40 := hall.1
                  refine lv_lload hx hb dX6_yearsSurely_123 (lv_at hl 6 rfl) ?_
                  refine lv_aload_n hx hb dX6_yearsSurely_125 rfl (lv_at hl 0 rfl) ?_
                  refine lv_iload hx hb dX6_yearsSurely_126 (lv_at hl 7 rfl) ?_
                  refine lv_iload_n hx hb dX6_yearsSurely_128 rfl (lv_at hl 2 rfl) ?_
                  refine lv_iload_n hx hb dX6_yearsSurely_129 rfl (lv_at hl 3 rfl) ?_
                  refine lv_iload hx hb dX6_yearsSurely_130 (lv_at hl 4 rfl) ?_
                  refine lv_iload hx hb dX6_yearsSurely_132 (lv_at hl 5 rfl) ?_
                  have hPc : va_P (dC, dI) vwCl [(ad 3, .inr (6, [.ref (ad 4), .ref (ad 5), .ref (ad 6), .ref (ad 7), .ref (ad 8), .int (nI sn)])), (ad 4, .inl (cy 0, 40, .inl nb)), (ad 5, .inl (cy 0, 320, .inl fr)), (ad 6, .inl (cy 0, 320, .inl tt)), (ad 7, .inl (cy 0, 320, .inl st)), (ad 8, .inl (cy 0, 320, .inl nu))] ss.heap := hP.sub [0, 1, 2, 3, 4, 5] rfl
                  refine vp_callSl (va_Run.run (va_runV (As := [.int (nI o), .int t, .int m, .int fi, .int la]) (rest := [.long ys]) ⟨hx, hb, hml, hown, hts⟩ (c_X6_yearsMaybe l dC dI cy ad sn nb fr tt st nu o k2 t m fi la (by first | assumption | omega) (by first | assumption | omega) (by first | assumption | omega) (by first | assumption | omega) (hok2) (by first | assumption | omega) (by first | assumption | omega)) (cwV 5 hts gX6_yearsSurely_X6_yearsMaybe rfl rfl rfl (by decide +kernel) ⟨Nat.le_of_ble_eq_true rfl, Nat.le_of_ble_eq_true rfl⟩) ⟨fun a U g mk q => by obtain ⟨q0, qP, qK⟩ := q; exact ⟨q0, qP, va_K.moved (u := U) (U := U.calling g mk a) (Vm.Alike.refl U.vm) qK⟩, va_recv hK hPc (ci := 6) (q0 := 0) rfl rfl, fun U hU hW => ⟨rfl, by rw [hU]; exact hPc, va_K.moved hW.alike hK⟩⟩ rfl rfl hl.1 rfl (lv_room (Nat.le_of_ble_eq_true rfl)) dX6_yearsSurely_134 ⟨Nat.le_of_ble_eq_true rfl, Nat.le_of_ble_eq_true rfl⟩)) (fun rm_ hrm_ => ?_)
                  refine lv_ldc2 hx hb hown hL1 dX6_yearsSurely_137 ?_
                  refine lv_lxor hx hb dX6_yearsSurely_140 ?_
                  refine lv_topl (fun wx ewx => ?_)
                  refine lv_land hx hb dX6_yearsSurely_141 ?_
                  refine lv_topl (fun wl ewl => ?_)
                  refine lv_lstore (lv' := [(6, .long wl), (0, .ref (ad 3)), (1, .int (nI s)), (2, .int t), (3, .int m), (4, .int fi), (5, .int la), (9, .int (nI o))]) hx hb dX6_yearsSurely_142 hl (by decide) rfl (fun ls hl => ?_)
                  refine lv_iinc (v := nI (o + 1)) (lv' := [(9, .int (nI (o + 1))), (6, .long wl), (0, .ref (ad 3)), (1, .int (nI s)), (2, .int t), (3, .int m), (4, .int fi), (5, .int la)]) hx hb dX6_yearsSurely_144 hl (k := 7) rfl (show nI o + Int32.ofInt 1 = nI (o + 1) from nI_add o 1) (by decide) rfl (fun ls hl => ?_)
                  refine lv_goto (tgt := 101) hx hb dX6_yearsSurely_147 (by decide) ?_
                  have hI_hys : ∀ b : Nat, lb wl b = true ↔ fi.toInt + b ≤ la.toInt ∧ sSu1 nb fr tt st nu s t m (fi.toInt + b) ∧ ∀ o1, o1 < (o + 1) → o1 ≠ s → ¬ sPos nb fr tt st nu o1 t m (fi.toInt + b) := by
                    intro b
                    first
                      | (have q9 : s = o := by omega
                         rw [hys b]
                         constructor
                         · rintro ⟨q1, q2, q3⟩
                           refine ⟨q1, q2, fun o1 h1 h2 => q3 o1 ?_ h2⟩
                           omega
                         · rintro ⟨q1, q2, q3⟩
                           exact ⟨q1, q2, fun o1 h1 h2 => q3 o1 (by omega) h2⟩)
                      | (have q9 : ¬ o = s := by omega
                         by_cases hb64 : b < 64
                         · rw [ewl, ewx, lb_and, lb_not _ hb64, Bool.and_eq_true, hys b, Bool.not_eq_true', ← Bool.not_eq_true, hrm_ b]
                           constructor
                           · rintro ⟨⟨q1, q2, q3⟩, q4⟩
                             refine ⟨q1, q2, fun o1 h1 h2 => ?_⟩
                             rcases Nat.lt_or_ge o1 o with q5 | q5
                             · exact q3 o1 q5 h2
                             · have q6 : o1 = o := by omega
                               subst q6
                               exact fun q7 => q4 ⟨q1, q7⟩
                           · rintro ⟨q1, q2, q3⟩
                             exact ⟨⟨q1, q2, fun o1 h1 h2 => q3 o1 (by omega) h2⟩, fun q7 => q3 o (by omega) q9 q7.2⟩
                         · rw [lb_big (by omega)]
                           constructor
                           · intro q; cases q
                           · rintro ⟨q1, -, -⟩; omega)
                  exact ih101 (o + 1) wl (by omega) (by first | assumption | omega) hI_hys ls (lv_sub hl [2, 3, 4, 5, 6, 7, 1, 0] rfl)
        have hI_hys : ∀ b : Nat, lb ys b = true ↔ fi.toInt + b ≤ la.toInt ∧ sSu1 nb fr tt st nu s t m (fi.toInt + b) ∧ ∀ o1, o1 < 0 → o1 ≠ s → ¬ sPos nb fr tt st nu o1 t m (fi.toInt + b) := by
          have e9 : i = s * 8 + k := by omega
          subst e9
          intro b
          rw [hys b]
          unfold sSu1
          rw [kn_nI hk hk8]
          exact ⟨fun q => ⟨q.1, q.2, fun o1 h1 => absurd h1 (Nat.not_lt_zero _)⟩, fun q => ⟨q.1, q.2.1⟩⟩
        exact L_101 ((sn - 0) + 1) 0 ys (by omega) (by first | assumption | omega) hI_hys ls (lv_sub hl [1, 2, 3, 4, 5, 6, 7, 0] rfl)
      · skip
        refine lv_aload_n hx hb dX6_yearsSurely_23 rfl (lv_at hl 0 rfl) ?_
        refine va_get (D := (dC, dI)) (ci := 6) (v := .ref (ad 7)) (C := RX6) (T := TX6) (N := 6) hx hb hts hiX6 hown hK hP 0 rfl rfl 3 (by decide) hL2 (fun _ h9 => h9) rfl dX6_yearsSurely_24 ?_
        refine lv_iload hx hb dX6_yearsSurely_27 (lv_at hl 8 rfl) ?_
        refine bw_iald hx hb hK hP 4 0 rfl rfl (j := i) (nI_toInt (by omega)) (by omega) dX6_yearsSurely_29 ?_
        refine lv_iload_n hx hb dX6_yearsSurely_30 rfl (lv_at hl 2 rfl) ?_
        refine bw_icmp_ne (tgt := 92) (a := (st i).toInt) (b := t.toInt) hx hb dX6_yearsSurely_31 (by decide) rfl rfl (fun c_6 => ?_) (fun c_6 => ?_)
        · skip
          refine lv_iinc (v := nI (i + 1)) (lv' := [(9, .int (nI (i + 1))), (0, .ref (ad 3)), (1, .int (nI s)), (2, .int t), (3, .int m), (4, .int fi), (5, .int la), (6, .long ys), (8, .int (nI (s * 8 + k - 1)))]) hx hb dX6_yearsSurely_92 hl (k := 8) rfl (show nI i + Int32.ofInt 1 = nI (i + 1) from nI_add i 1) (by decide) rfl (fun ls hl => ?_)
          refine lv_goto (tgt := 16) hx hb dX6_yearsSurely_95 (by decide) ?_
          have hI_hys : ∀ b : Nat, lb ys b = true ↔ fi.toInt + b ≤ la.toInt ∧ sSurTo fr tt st nu (s * 8) (i + 1) (s * 8 + k) t m (fi.toInt + b) := by
            intro b
            rw [sSurTo_s hi1]
            have q7 : (2100 : Int32).toInt = 2100 := rfl
            have q6 := hok i hi1 (by omega)
            first
              | (have q9 : ¬ sHit st nu t m i := by unfold sHit; omega
                 rw [hys b]; simp [q9]; done)
              | (have q9 : sHit st nu t m i := by unfold sHit; omega
                 rw [ewo, lb_or, Bool.or_eq_true, hys b, hra b]
                 constructor
                 · rintro (⟨q1, q2⟩ | q1)
                   · exact ⟨q1, Or.inl q2⟩
                   · exact ⟨by omega, Or.inr ⟨q9, by unfold sSur; omega⟩⟩
                 · rintro ⟨q1, q2 | ⟨q3, q4⟩⟩
                   · exact Or.inl ⟨q1, q2⟩
                   · refine Or.inr ?_
                     unfold sSur at q4
                     omega)
          exact ih16 (i + 1) ys (by omega) (by first | assumption | omega) (by first | assumption | omega) hI_hys ls (lv_sub hl [1, 2, 3, 4, 5, 6, 7, 8, 0] rfl)
        · skip
          refine lv_aload_n hx hb dX6_yearsSurely_34 rfl (lv_at hl 0 rfl) ?_
          refine va_get (D := (dC, dI)) (ci := 6) (v := .ref (ad 8)) (C := RX6) (T := TX6) (N := 6) hx hb hts hiX6 hown hK hP 0 rfl rfl 4 (by decide) hL3 (fun _ h9 => h9) rfl dX6_yearsSurely_35 ?_
          refine lv_iload hx hb dX6_yearsSurely_38 (lv_at hl 8 rfl) ?_
          refine bw_iald hx hb hK hP 5 0 rfl rfl (j := i) (nI_toInt (by omega)) (by omega) dX6_yearsSurely_40 ?_
          refine lv_iload_n hx hb dX6_yearsSurely_41 rfl (lv_at hl 3 rfl) ?_
          refine bw_icmp_ne (tgt := 92) (a := (nu i).toInt) (b := m.toInt) hx hb dX6_yearsSurely_42 (by decide) rfl rfl (fun c_7 => ?_) (fun c_7 => ?_)
          · skip
            refine lv_iinc (v := nI (i + 1)) (lv' := [(9, .int (nI (i + 1))), (0, .ref (ad 3)), (1, .int (nI s)), (2, .int t), (3, .int m), (4, .int fi), (5, .int la), (6, .long ys), (8, .int (nI (s * 8 + k - 1)))]) hx hb dX6_yearsSurely_92 hl (k := 8) rfl (show nI i + Int32.ofInt 1 = nI (i + 1) from nI_add i 1) (by decide) rfl (fun ls hl => ?_)
            refine lv_goto (tgt := 16) hx hb dX6_yearsSurely_95 (by decide) ?_
            have hI_hys : ∀ b : Nat, lb ys b = true ↔ fi.toInt + b ≤ la.toInt ∧ sSurTo fr tt st nu (s * 8) (i + 1) (s * 8 + k) t m (fi.toInt + b) := by
              intro b
              rw [sSurTo_s hi1]
              have q7 : (2100 : Int32).toInt = 2100 := rfl
              have q6 := hok i hi1 (by omega)
              first
                | (have q9 : ¬ sHit st nu t m i := by unfold sHit; omega
                   rw [hys b]; simp [q9]; done)
                | (have q9 : sHit st nu t m i := by unfold sHit; omega
                   rw [ewo, lb_or, Bool.or_eq_true, hys b, hra b]
                   constructor
                   · rintro (⟨q1, q2⟩ | q1)
                     · exact ⟨q1, Or.inl q2⟩
                     · exact ⟨by omega, Or.inr ⟨q9, by unfold sSur; omega⟩⟩
                   · rintro ⟨q1, q2 | ⟨q3, q4⟩⟩
                     · exact Or.inl ⟨q1, q2⟩
                     · refine Or.inr ?_
                       unfold sSur at q4
                       omega)
            exact ih16 (i + 1) ys (by omega) (by first | assumption | omega) (by first | assumption | omega) hI_hys ls (lv_sub hl [1, 2, 3, 4, 5, 6, 7, 8, 0] rfl)
          · skip
            refine lv_iload hx hb dX6_yearsSurely_45 (lv_at hl 8 rfl) ?_
            refine lv_iload hx hb dX6_yearsSurely_47 (lv_at hl 7 rfl) ?_
            refine bw_icmp_ge (tgt := 66) (a := ((i : Nat) : Int)) (b := ((s * 8 + k - 1 : Nat) : Int)) hx hb dX6_yearsSurely_49 (by decide) (nI_toInt (by omega)) (nI_toInt (by omega)) (fun c_8 => ?_) (fun c_8 => ?_)
            · skip
              refine lv_sipush (v := 2100) hx hb dX6_yearsSurely_66 (by decide) ?_
              refine lv_istore (lv' := [(10, .int 2100), (0, .ref (ad 3)), (1, .int (nI s)), (2, .int t), (3, .int m), (4, .int fi), (5, .int la), (6, .long ys), (8, .int (nI (s * 8 + k - 1))), (9, .int (nI i))]) hx hb dX6_yearsSurely_69 hl (by decide) rfl (fun ls hl => ?_)
              have q6 := hok i hi1 (by omega)
              have q7 : (2100 : Int32).toInt = 2100 := rfl
              refine lv_lload hx hb dX6_yearsSurely_71 (lv_at hl 7 rfl) ?_
              refine lv_aload_n hx hb dX6_yearsSurely_73 rfl (lv_at hl 1 rfl) ?_
              refine va_get (D := (dC, dI)) (ci := 6) (v := .ref (ad 6)) (C := RX6) (T := TX6) (N := 6) hx hb hts hiX6 hown hK hP 0 rfl rfl 2 (by decide) hL4 (fun _ h9 => h9) rfl dX6_yearsSurely_74 ?_
              refine lv_iload hx hb dX6_yearsSurely_77 (lv_at hl 9 rfl) ?_
              refine bw_iald hx hb hK hP 3 0 rfl rfl (j := i) (nI_toInt (by omega)) (by omega) dX6_yearsSurely_79 ?_
              refine lv_iload hx hb dX6_yearsSurely_80 (lv_at hl 0 rfl) ?_
              refine lv_iload hx hb dX6_yearsSurely_82 (lv_at hl 5 rfl) ?_
              refine lv_iload hx hb dX6_yearsSurely_84 (lv_at hl 6 rfl) ?_
              refine vp_callSl (va_Run.run (va_runS (As := [.int (tt i), .int 2100, .int fi, .int la]) (rest := [.long ys]) ⟨hx, hb, hml, hown, hts⟩ (c_X6_yearBits l dC dI cy (tt i) 2100 fi la (by first | assumption | omega) (by first | assumption | omega) (by first | assumption | omega) (by first | assumption | omega)) (va_cwS 4 hts gX6_yearsSurely_X6_yearBits rfl rfl rfl (by decide +kernel) ⟨Nat.le_of_ble_eq_true rfl, Nat.le_of_ble_eq_true rfl⟩) ⟨fun a U g mk q => q, fun U hU hW => ⟨rfl, trivial⟩⟩ rfl rfl hl.1 rfl (lv_room (Nat.le_of_ble_eq_true rfl)) dX6_yearsSurely_86 ⟨Nat.le_of_ble_eq_true rfl, Nat.le_of_ble_eq_true rfl⟩)) (fun ra hra => ?_)
              refine lv_lor hx hb dX6_yearsSurely_89 ?_
              refine lv_topl (fun wo ewo => ?_)
              refine lv_lstore (lv' := [(6, .long wo), (10, .int 2100), (0, .ref (ad 3)), (1, .int (nI s)), (2, .int t), (3, .int m), (4, .int fi), (5, .int la), (8, .int (nI (s * 8 + k - 1))), (9, .int (nI i))]) hx hb dX6_yearsSurely_90 hl (by decide) rfl (fun ls hl => ?_)
              refine lv_iinc (v := nI (i + 1)) (lv' := [(9, .int (nI (i + 1))), (6, .long wo), (10, .int 2100), (0, .ref (ad 3)), (1, .int (nI s)), (2, .int t), (3, .int m), (4, .int fi), (5, .int la), (8, .int (nI (s * 8 + k - 1)))]) hx hb dX6_yearsSurely_92 hl (k := 9) rfl (show nI i + Int32.ofInt 1 = nI (i + 1) from nI_add i 1) (by decide) rfl (fun ls hl => ?_)
              refine lv_goto (tgt := 16) hx hb dX6_yearsSurely_95 (by decide) ?_
              have hI_hys : ∀ b : Nat, lb wo b = true ↔ fi.toInt + b ≤ la.toInt ∧ sSurTo fr tt st nu (s * 8) (i + 1) (s * 8 + k) t m (fi.toInt + b) := by
                intro b
                rw [sSurTo_s hi1]
                have q7 : (2100 : Int32).toInt = 2100 := rfl
                have q6 := hok i hi1 (by omega)
                first
                  | (have q9 : ¬ sHit st nu t m i := by unfold sHit; omega
                     rw [hys b]; simp [q9]; done)
                  | (have q9 : sHit st nu t m i := by unfold sHit; omega
                     rw [ewo, lb_or, Bool.or_eq_true, hys b, hra b]
                     constructor
                     · rintro (⟨q1, q2⟩ | q1)
                       · exact ⟨q1, Or.inl q2⟩
                       · exact ⟨by omega, Or.inr ⟨q9, by unfold sSur; omega⟩⟩
                     · rintro ⟨q1, q2 | ⟨q3, q4⟩⟩
                       · exact Or.inl ⟨q1, q2⟩
                       · refine Or.inr ?_
                         unfold sSur at q4
                         omega)
              exact ih16 (i + 1) wo (by omega) (by first | assumption | omega) (by first | assumption | omega) hI_hys ls (lv_sub hl [3, 4, 5, 6, 7, 8, 1, 9, 0] rfl)
            · skip
              have q5 := hok (i + 1) (by omega) (by omega)
              refine lv_aload_n hx hb dX6_yearsSurely_52 rfl (lv_at hl 0 rfl) ?_
              refine va_get (D := (dC, dI)) (ci := 6) (v := .ref (ad 5)) (C := RX6) (T := TX6) (N := 6) hx hb hts hiX6 hown hK hP 0 rfl rfl 1 (by decide) hL5 (fun _ h9 => h9) rfl dX6_yearsSurely_53 ?_
              refine lv_iload hx hb dX6_yearsSurely_56 (lv_at hl 8 rfl) ?_
              refine lv_iconst (v := 1) hx hb dX6_yearsSurely_58 (by decide) ?_
              refine lv_iadd hx hb dX6_yearsSurely_59 ?_
              refine bw_re (show (nI i) + 1 = nI (i + 1) from nI_add (i) (1)) ?_
              refine bw_iald hx hb hK hP 2 0 rfl rfl (j := (i + 1)) ((nI_toInt (by omega)).trans (by omega)) (by omega) dX6_yearsSurely_60 ?_
              refine lv_iconst (v := 1) hx hb dX6_yearsSurely_61 (by decide) ?_
              refine lv_isub hx hb dX6_yearsSurely_62 ?_
              refine bw_nm (a := ((fr (i + 1)).toInt - 1)) (tI_sub rfl rfl (by omega) (by omega)) (fun z_9 ez_9 tz_9 => ?_)
              refine lv_goto (tgt := 69) hx hb dX6_yearsSurely_63 (by decide) ?_
              refine lv_istore (lv' := [(10, .int z_9), (0, .ref (ad 3)), (1, .int (nI s)), (2, .int t), (3, .int m), (4, .int fi), (5, .int la), (6, .long ys), (8, .int (nI (s * 8 + k - 1))), (9, .int (nI i))]) hx hb dX6_yearsSurely_69 hl (by decide) rfl (fun ls hl => ?_)
              have q6 := hok i hi1 (by omega)
              have q7 : (2100 : Int32).toInt = 2100 := rfl
              refine lv_lload hx hb dX6_yearsSurely_71 (lv_at hl 7 rfl) ?_
              refine lv_aload_n hx hb dX6_yearsSurely_73 rfl (lv_at hl 1 rfl) ?_
              refine va_get (D := (dC, dI)) (ci := 6) (v := .ref (ad 6)) (C := RX6) (T := TX6) (N := 6) hx hb hts hiX6 hown hK hP 0 rfl rfl 2 (by decide) hL4 (fun _ h9 => h9) rfl dX6_yearsSurely_74 ?_
              refine lv_iload hx hb dX6_yearsSurely_77 (lv_at hl 9 rfl) ?_
              refine bw_iald hx hb hK hP 3 0 rfl rfl (j := i) (nI_toInt (by omega)) (by omega) dX6_yearsSurely_79 ?_
              refine lv_iload hx hb dX6_yearsSurely_80 (lv_at hl 0 rfl) ?_
              refine lv_iload hx hb dX6_yearsSurely_82 (lv_at hl 5 rfl) ?_
              refine lv_iload hx hb dX6_yearsSurely_84 (lv_at hl 6 rfl) ?_
              refine vp_callSl (va_Run.run (va_runS (As := [.int (tt i), .int z_9, .int fi, .int la]) (rest := [.long ys]) ⟨hx, hb, hml, hown, hts⟩ (c_X6_yearBits l dC dI cy (tt i) z_9 fi la (by first | assumption | omega) (by first | assumption | omega) (by first | assumption | omega) (by first | assumption | omega)) (va_cwS 4 hts gX6_yearsSurely_X6_yearBits rfl rfl rfl (by decide +kernel) ⟨Nat.le_of_ble_eq_true rfl, Nat.le_of_ble_eq_true rfl⟩) ⟨fun a U g mk q => q, fun U hU hW => ⟨rfl, trivial⟩⟩ rfl rfl hl.1 rfl (lv_room (Nat.le_of_ble_eq_true rfl)) dX6_yearsSurely_86 ⟨Nat.le_of_ble_eq_true rfl, Nat.le_of_ble_eq_true rfl⟩)) (fun ra hra => ?_)
              refine lv_lor hx hb dX6_yearsSurely_89 ?_
              refine lv_topl (fun wo ewo => ?_)
              refine lv_lstore (lv' := [(6, .long wo), (10, .int z_9), (0, .ref (ad 3)), (1, .int (nI s)), (2, .int t), (3, .int m), (4, .int fi), (5, .int la), (8, .int (nI (s * 8 + k - 1))), (9, .int (nI i))]) hx hb dX6_yearsSurely_90 hl (by decide) rfl (fun ls hl => ?_)
              refine lv_iinc (v := nI (i + 1)) (lv' := [(9, .int (nI (i + 1))), (6, .long wo), (10, .int z_9), (0, .ref (ad 3)), (1, .int (nI s)), (2, .int t), (3, .int m), (4, .int fi), (5, .int la), (8, .int (nI (s * 8 + k - 1)))]) hx hb dX6_yearsSurely_92 hl (k := 9) rfl (show nI i + Int32.ofInt 1 = nI (i + 1) from nI_add i 1) (by decide) rfl (fun ls hl => ?_)
              refine lv_goto (tgt := 16) hx hb dX6_yearsSurely_95 (by decide) ?_
              have hI_hys : ∀ b : Nat, lb wo b = true ↔ fi.toInt + b ≤ la.toInt ∧ sSurTo fr tt st nu (s * 8) (i + 1) (s * 8 + k) t m (fi.toInt + b) := by
                intro b
                rw [sSurTo_s hi1]
                have q7 : (2100 : Int32).toInt = 2100 := rfl
                have q6 := hok i hi1 (by omega)
                first
                  | (have q9 : ¬ sHit st nu t m i := by unfold sHit; omega
                     rw [hys b]; simp [q9]; done)
                  | (have q9 : sHit st nu t m i := by unfold sHit; omega
                     rw [ewo, lb_or, Bool.or_eq_true, hys b, hra b]
                     constructor
                     · rintro (⟨q1, q2⟩ | q1)
                       · exact ⟨q1, Or.inl q2⟩
                       · exact ⟨by omega, Or.inr ⟨q9, by unfold sSur; omega⟩⟩
                     · rintro ⟨q1, q2 | ⟨q3, q4⟩⟩
                       · exact Or.inl ⟨q1, q2⟩
                       · refine Or.inr ?_
                         unfold sSur at q4
                         omega)
              exact ih16 (i + 1) wo (by omega) (by first | assumption | omega) (by first | assumption | omega) hI_hys ls (lv_sub hl [3, 4, 5, 6, 7, 8, 1, 9, 0] rfl)
  have hI_hys : ∀ b : Nat, lb 0 b = true ↔ fi.toInt + b ≤ la.toInt ∧ sSurTo fr tt st nu (s * 8) (s * 8) (s * 8 + k) t m (fi.toInt + b) := by
    intro b
    rw [lb_0]
    exact ⟨(fun q => by cases q), (fun q => absurd q.2 sSurTo_0)⟩
  exact L_16 ((s * 8 + k - (s * 8)) + 1) (s * 8) 0 (by omega) (by first | assumption | omega) (by first | assumption | omega) hI_hys ls (lv_sub hl [3, 4, 5, 6, 7, 8, 2, 1, 0] rfl)

set_option maxHeartbeats 4000000 in
set_option maxRecDepth 100000 in
theorem c_X6_surelyNumbered (l : Launch) (dC : Nat → ClassId) (dI : Nat → Nat → Nat) (cy : Nat → ClassId) (ad : Nat → Nat) (sn : Nat) (nb : Nat → Int32) (fr : Nat → Int32) (tt : Nat → Int32) (nu : Nat → Int32) (s : Nat) (k : Nat) (y : Int32) (hs : s < 40) (hk : nb s = nI k) (hk1 : 1 ≤ k) (hk8 : k ≤ 8) : Met l yX6_surelyNumbered wsX6_surelyNumbered ({ frames := 1, cells := 0, slots := 0, locals := 21 }) (va_Pc [.ref (ad 3), .int (nI s), .int y] (fun U => va_P (dC, dI) vwCl [(ad 3, .inr (6, [.ref (ad 4), .ref (ad 5), .ref (ad 6), .ref (ad 7), .ref (ad 8), .int (nI sn)])), (ad 4, .inl (cy 0, 40, .inl nb)), (ad 5, .inl (cy 0, 320, .inl fr)), (ad 6, .inl (cy 0, 320, .inl tt)), (ad 8, .inl (cy 0, 320, .inl nu))] U.heap ∧ va_K (dC, dI) vwCl (tyL cy) U)) (vp_Si (fun r => r = pI (sNumTo fr tt nu (s * 8) (s * 8 + k) (s * 8 + k) y.toInt))) 0 0 (fun _ => False) := by
  refine Met.ofW (cc := cX6_surelyNumbered) (maxL := 7) (ret := (some .boolean)) (by decide) rfl ?_
  intro pp ee ss mm args below meth cc0 s₁ B hml hv
  obtain ⟨rfl, hP, hK⟩ := hv
  have hx := B.exec
  have hb := B.bytes
  have hr := B.returns
  have hts := atoms_spec (ws := wsX6_surelyNumbered) B.pre
  have hown : ss.vm.findClass RX6 = some mm.cls := findClass_of_methodNamed B.named
  have hlocks := B.notSynchronized
  have hL0 := hts (.fieldLink RX6 18 "HereLived$Sites" "to" "[I") (by decide +kernel)
  have hL1 := hts (.fieldLink RX6 24 "HereLived$Sites" "number" "[I") (by decide +kernel)
  have hL2 := hts (.fieldLink RX6 15 "HereLived$Sites" "from" "[I") (by decide +kernel)
  have hiX6 : ∀ w ∈ wsX60, w ∈ wsX6_surelyNumbered := by decide +kernel
  have hl := lv_entry ([.ref (ad 3), .int (nI s), .int y]) (n := 7) (Nat.le_of_ble_eq_true rfl)
  rw [lg_entry_eq]
  generalize (lg_sl ([.ref (ad 3), .int (nI s), .int y]) ++ List.replicate (7 - (lg_sl ([.ref (ad 3), .int (nI s), .int y])).length) Slot.unset).toArray = ls at hl ⊢
  have hl : lv_has ls 7 [(0, .ref (ad 3)), (1, .int (nI s)), (2, .int y)] := hl
  refine bw_Q (fun Q hQ => ?_)
  change W pp l ee { frames := 1, cells := 0, slots := 0, locals := 21 } ss mm _ below meth cc0 ss.heap [] 0 0 Q (F0 mm 0 ls [])
  refine lv_aload_n hx hb dX6_surelyNumbered_0 rfl (lv_at hl 0 rfl) ?_
  refine lv_iload_n hx hb dX6_surelyNumbered_1 rfl (lv_at hl 1 rfl) ?_
  have hPc : va_P (dC, dI) vwCl [(ad 3, .inr (6, [.ref (ad 4), .ref (ad 5), .ref (ad 6), .ref (ad 7), .ref (ad 8), .int (nI sn)])), (ad 4, .inl (cy 0, 40, .inl nb))] ss.heap := hP.sub [0, 1] rfl
  refine vp_callSi (va_Run.run (va_runV (As := [.int (nI s)]) (rest := []) ⟨hx, hb, hml, hown, hts⟩ (c_X6_latestOf l dC dI cy ad sn nb s k (by first | assumption | omega) (by first | assumption | omega) (by first | assumption | omega) (by first | assumption | omega)) (cwV 1 hts gX6_surelyNumbered_X6_latestOf rfl rfl rfl (by decide +kernel) ⟨Nat.le_of_ble_eq_true rfl, Nat.le_of_ble_eq_true rfl⟩) ⟨fun a U g mk q => by obtain ⟨q0, qP, qK⟩ := q; exact ⟨q0, qP, va_K.moved (u := U) (U := U.calling g mk a) (Vm.Alike.refl U.vm) qK⟩, va_recv hK hPc (ci := 6) (q0 := 0) rfl rfl, fun U hU hW => ⟨rfl, by rw [hU]; exact hPc, va_K.moved hW.alike hK⟩⟩ rfl rfl hl.1 rfl (lv_room (Nat.le_of_ble_eq_true rfl)) dX6_surelyNumbered_2 ⟨Nat.le_of_ble_eq_true rfl, Nat.le_of_ble_eq_true rfl⟩)) (fun r_1 hr_1 => ?_)
  rw [hr_1]
  refine lv_istore_n (lv' := [(3, .int (nI (s * 8 + k - 1))), (0, .ref (ad 3)), (1, .int (nI s)), (2, .int y)]) hx hb dX6_surelyNumbered_5 rfl hl (by decide) rfl (fun ls hl => ?_)
  refine lv_iload_n hx hb dX6_surelyNumbered_6 rfl (lv_at hl 2 rfl) ?_
  refine lv_bipush (v := 8) hx hb dX6_surelyNumbered_7 (by decide) ?_
  refine lv_imul hx hb dX6_surelyNumbered_9 ?_
  refine bw_re (show (nI s) * 8 = nI (s * 8) from pk_mul (s) (8)) ?_
  refine lv_istore (lv' := [(4, .int (nI (s * 8))), (3, .int (nI (s * 8 + k - 1))), (0, .ref (ad 3)), (1, .int (nI s)), (2, .int y)]) hx hb dX6_surelyNumbered_10 hl (by decide) rfl (fun ls hl => ?_)
  have L_12 : ∀ (n9 : Nat), ∀ (i : Nat), (s * 8 + k - i) < n9 → (s * 8 ≤ i) → (i ≤ s * 8 + k) → (¬ sNumTo fr tt nu (s * 8) i (s * 8 + k) y.toInt) → ∀ (ls : Array Slot), lv_has ls 7 [(0, .ref (ad 3)), (1, .int (nI s)), (2, .int y), (3, .int (nI (s * 8 + k - 1))), (4, .int (nI i))] → W pp l ee { frames := 1, cells := 0, slots := 0, locals := 21 } ss mm (List.toArray [Value.ref (ad 3), Value.int (nI s), Value.int y]) below meth cc0 ss.heap [] 0 0 Q (F0 mm 12 ls []) := by
    intro n9
    induction n9 with
    | zero => intro i hm9; exact absurd hm9 (Nat.not_lt_zero _)
    | succ n9 ih12 =>
      intro i hm12 hi1 hi2 hno
      intro ls hl
      refine lv_iload hx hb dX6_surelyNumbered_12 (lv_at hl 4 rfl) ?_
      refine lv_iload_n hx hb dX6_surelyNumbered_14 rfl (lv_at hl 3 rfl) ?_
      refine bw_icmp_gt (tgt := 90) (a := ((i : Nat) : Int)) (b := ((s * 8 + k - 1 : Nat) : Int)) hx hb dX6_surelyNumbered_15 (by decide) (nI_toInt (by omega)) (nI_toInt (by omega)) (fun c_2 => ?_) (fun c_2 => ?_)
      · skip
        refine lv_iconst (v := 0) hx hb dX6_surelyNumbered_90 (by decide) ?_
        subst hQ
        have hpost : (0 : Int32) = pI (sNumTo fr tt nu (s * 8) (s * 8 + k) (s * 8 + k) y.toInt) := by
          have e9 : i = s * 8 + k := by omega
          subst e9
          exact (pI_f hno).symm
        exact W.zret (v := 0) hx hb hr (by rfl) (fun t9 ht hW => ⟨_, rfl, hpost, by rw [ht]⟩) (fun q h => by cases h) dX6_surelyNumbered_91
      · skip
        refine lv_aload_n hx hb dX6_surelyNumbered_18 rfl (lv_at hl 0 rfl) ?_
        refine va_get (D := (dC, dI)) (ci := 6) (v := .ref (ad 6)) (C := RX6) (T := TX6) (N := 6) hx hb hts hiX6 hown hK hP 0 rfl rfl 2 (by decide) hL0 (fun _ h9 => h9) rfl dX6_surelyNumbered_19 ?_
        refine lv_iload hx hb dX6_surelyNumbered_22 (lv_at hl 4 rfl) ?_
        refine bw_iald hx hb hK hP 3 0 rfl rfl (j := i) (nI_toInt (by omega)) (by omega) dX6_surelyNumbered_24 ?_
        refine lv_iload_n hx hb dX6_surelyNumbered_25 rfl (lv_at hl 2 rfl) ?_
        refine bw_icmp_gt (tgt := 33) (a := (tt i).toInt) (b := y.toInt) hx hb dX6_surelyNumbered_26 (by decide) rfl rfl (fun c_3 => ?_) (fun c_3 => ?_)
        · skip
          refine lv_iconst (v := 0) hx hb dX6_surelyNumbered_33 (by decide) ?_
          refine lv_istore (lv' := [(5, .int 0), (0, .ref (ad 3)), (1, .int (nI s)), (2, .int y), (3, .int (nI (s * 8 + k - 1))), (4, .int (nI i))]) hx hb dX6_surelyNumbered_34 hl (by decide) rfl (fun ls hl => ?_)
          refine lv_iload hx hb dX6_surelyNumbered_36 (lv_at hl 5 rfl) ?_
          refine lv_iload_n hx hb dX6_surelyNumbered_38 rfl (lv_at hl 4 rfl) ?_
          refine bw_icmp_eq (tgt := 55) (a := ((i : Nat) : Int)) (b := ((s * 8 + k - 1 : Nat) : Int)) hx hb dX6_surelyNumbered_39 (by decide) (nI_toInt (by omega)) (nI_toInt (by omega)) (fun c_4 => ?_) (fun c_4 => ?_)
          · skip
            refine lv_iconst (v := 1) hx hb dX6_surelyNumbered_55 (by decide) ?_
            refine lv_goto (tgt := 60) hx hb dX6_surelyNumbered_56 (by decide) ?_
            refine lv_istore (lv' := [(6, .int 1), (5, .int 0), (0, .ref (ad 3)), (1, .int (nI s)), (2, .int y), (3, .int (nI (s * 8 + k - 1))), (4, .int (nI i))]) hx hb dX6_surelyNumbered_60 hl (by decide) rfl (fun ls hl => ?_)
            refine lv_aload_n hx hb dX6_surelyNumbered_62 rfl (lv_at hl 2 rfl) ?_
            refine va_get (D := (dC, dI)) (ci := 6) (v := .ref (ad 8)) (C := RX6) (T := TX6) (N := 6) hx hb hts hiX6 hown hK hP 0 rfl rfl 4 (by decide) hL1 (fun _ h9 => h9) rfl dX6_surelyNumbered_63 ?_
            refine lv_iload hx hb dX6_surelyNumbered_66 (lv_at hl 6 rfl) ?_
            refine bw_iald hx hb hK hP 4 0 rfl rfl (j := i) (nI_toInt (by omega)) (by omega) dX6_surelyNumbered_68 ?_
            refine bw_if_eq (tgt := 84) (a := (nu i).toInt) hx hb dX6_surelyNumbered_69 (by decide) rfl (fun c_5 => ?_) (fun c_5 => ?_)
            · skip
              refine lv_iinc (v := nI (i + 1)) (lv' := [(4, .int (nI (i + 1))), (6, .int 1), (5, .int 0), (0, .ref (ad 3)), (1, .int (nI s)), (2, .int y), (3, .int (nI (s * 8 + k - 1)))]) hx hb dX6_surelyNumbered_84 hl (k := 6) rfl (show nI i + Int32.ofInt 1 = nI (i + 1) from nI_add i 1) (by decide) rfl (fun ls hl => ?_)
              refine lv_goto (tgt := 12) hx hb dX6_surelyNumbered_87 (by decide) ?_
              have hI_hno : ¬ sNumTo fr tt nu (s * 8) (i + 1) (s * 8 + k) y.toInt := by
                first
                  | (exfalso; omega)
                  | (rw [sNumTo_s hi1]
                     rintro (q | ⟨q1, q2⟩)
                     · exact hno q
                     · unfold sSur at q2; omega)
              exact ih12 (i + 1) (by omega) (by first | assumption | omega) (by first | assumption | omega) hI_hno ls (lv_sub hl [3, 4, 5, 6, 0] rfl)
            · skip
              refine lv_iload hx hb dX6_surelyNumbered_72 (lv_at hl 1 rfl) ?_
              refine bw_if_eq (tgt := 84) (a := 0) hx hb dX6_surelyNumbered_74 (by decide) rfl (fun c_6 => ?_) (fun c_6 => ?_)
              · skip
                refine lv_iinc (v := nI (i + 1)) (lv' := [(4, .int (nI (i + 1))), (6, .int 1), (5, .int 0), (0, .ref (ad 3)), (1, .int (nI s)), (2, .int y), (3, .int (nI (s * 8 + k - 1)))]) hx hb dX6_surelyNumbered_84 hl (k := 6) rfl (show nI i + Int32.ofInt 1 = nI (i + 1) from nI_add i 1) (by decide) rfl (fun ls hl => ?_)
                refine lv_goto (tgt := 12) hx hb dX6_surelyNumbered_87 (by decide) ?_
                have hI_hno : ¬ sNumTo fr tt nu (s * 8) (i + 1) (s * 8 + k) y.toInt := by
                  first
                    | (exfalso; omega)
                    | (rw [sNumTo_s hi1]
                       rintro (q | ⟨q1, q2⟩)
                       · exact hno q
                       · unfold sSur at q2; omega)
                exact ih12 (i + 1) (by omega) (by first | assumption | omega) (by first | assumption | omega) hI_hno ls (lv_sub hl [3, 4, 5, 6, 0] rfl)
              · exact absurd c_6 (by decide)
          · skip
            refine lv_aload_n hx hb dX6_surelyNumbered_42 rfl (lv_at hl 1 rfl) ?_
            refine va_get (D := (dC, dI)) (ci := 6) (v := .ref (ad 5)) (C := RX6) (T := TX6) (N := 6) hx hb hts hiX6 hown hK hP 0 rfl rfl 1 (by decide) hL2 (fun _ h9 => h9) rfl dX6_surelyNumbered_43 ?_
            refine lv_iload hx hb dX6_surelyNumbered_46 (lv_at hl 5 rfl) ?_
            refine lv_iconst (v := 1) hx hb dX6_surelyNumbered_48 (by decide) ?_
            refine lv_iadd hx hb dX6_surelyNumbered_49 ?_
            refine bw_re (show (nI i) + 1 = nI (i + 1) from nI_add (i) (1)) ?_
            refine bw_iald hx hb hK hP 2 0 rfl rfl (j := (i + 1)) ((nI_toInt (by omega)).trans (by omega)) (by omega) dX6_surelyNumbered_50 ?_
            refine lv_iload_n hx hb dX6_surelyNumbered_51 rfl (lv_at hl 3 rfl) ?_
            refine bw_icmp_le (tgt := 59) (a := (fr (i + 1)).toInt) (b := y.toInt) hx hb dX6_surelyNumbered_52 (by decide) rfl rfl (fun c_7 => ?_) (fun c_7 => ?_)
            · skip
              refine lv_iconst (v := 0) hx hb dX6_surelyNumbered_59 (by decide) ?_
              refine lv_istore (lv' := [(6, .int 0), (5, .int 0), (0, .ref (ad 3)), (1, .int (nI s)), (2, .int y), (3, .int (nI (s * 8 + k - 1))), (4, .int (nI i))]) hx hb dX6_surelyNumbered_60 hl (by decide) rfl (fun ls hl => ?_)
              refine lv_aload_n hx hb dX6_surelyNumbered_62 rfl (lv_at hl 2 rfl) ?_
              refine va_get (D := (dC, dI)) (ci := 6) (v := .ref (ad 8)) (C := RX6) (T := TX6) (N := 6) hx hb hts hiX6 hown hK hP 0 rfl rfl 4 (by decide) hL1 (fun _ h9 => h9) rfl dX6_surelyNumbered_63 ?_
              refine lv_iload hx hb dX6_surelyNumbered_66 (lv_at hl 6 rfl) ?_
              refine bw_iald hx hb hK hP 4 0 rfl rfl (j := i) (nI_toInt (by omega)) (by omega) dX6_surelyNumbered_68 ?_
              refine bw_if_eq (tgt := 84) (a := (nu i).toInt) hx hb dX6_surelyNumbered_69 (by decide) rfl (fun c_8 => ?_) (fun c_8 => ?_)
              · skip
                refine lv_iinc (v := nI (i + 1)) (lv' := [(4, .int (nI (i + 1))), (6, .int 0), (5, .int 0), (0, .ref (ad 3)), (1, .int (nI s)), (2, .int y), (3, .int (nI (s * 8 + k - 1)))]) hx hb dX6_surelyNumbered_84 hl (k := 6) rfl (show nI i + Int32.ofInt 1 = nI (i + 1) from nI_add i 1) (by decide) rfl (fun ls hl => ?_)
                refine lv_goto (tgt := 12) hx hb dX6_surelyNumbered_87 (by decide) ?_
                have hI_hno : ¬ sNumTo fr tt nu (s * 8) (i + 1) (s * 8 + k) y.toInt := by
                  first
                    | (exfalso; omega)
                    | (rw [sNumTo_s hi1]
                       rintro (q | ⟨q1, q2⟩)
                       · exact hno q
                       · unfold sSur at q2; omega)
                exact ih12 (i + 1) (by omega) (by first | assumption | omega) (by first | assumption | omega) hI_hno ls (lv_sub hl [3, 4, 5, 6, 0] rfl)
              · skip
                refine lv_iload hx hb dX6_surelyNumbered_72 (lv_at hl 1 rfl) ?_
                refine bw_if_eq (tgt := 84) (a := 0) hx hb dX6_surelyNumbered_74 (by decide) rfl (fun c_9 => ?_) (fun c_9 => ?_)
                · skip
                  refine lv_iinc (v := nI (i + 1)) (lv' := [(4, .int (nI (i + 1))), (6, .int 0), (5, .int 0), (0, .ref (ad 3)), (1, .int (nI s)), (2, .int y), (3, .int (nI (s * 8 + k - 1)))]) hx hb dX6_surelyNumbered_84 hl (k := 6) rfl (show nI i + Int32.ofInt 1 = nI (i + 1) from nI_add i 1) (by decide) rfl (fun ls hl => ?_)
                  refine lv_goto (tgt := 12) hx hb dX6_surelyNumbered_87 (by decide) ?_
                  have hI_hno : ¬ sNumTo fr tt nu (s * 8) (i + 1) (s * 8 + k) y.toInt := by
                    first
                      | (exfalso; omega)
                      | (rw [sNumTo_s hi1]
                         rintro (q | ⟨q1, q2⟩)
                         · exact hno q
                         · unfold sSur at q2; omega)
                  exact ih12 (i + 1) (by omega) (by first | assumption | omega) (by first | assumption | omega) hI_hno ls (lv_sub hl [3, 4, 5, 6, 0] rfl)
                · exact absurd c_9 (by decide)
            · skip
              refine lv_iconst (v := 1) hx hb dX6_surelyNumbered_55 (by decide) ?_
              refine lv_goto (tgt := 60) hx hb dX6_surelyNumbered_56 (by decide) ?_
              refine lv_istore (lv' := [(6, .int 1), (5, .int 0), (0, .ref (ad 3)), (1, .int (nI s)), (2, .int y), (3, .int (nI (s * 8 + k - 1))), (4, .int (nI i))]) hx hb dX6_surelyNumbered_60 hl (by decide) rfl (fun ls hl => ?_)
              refine lv_aload_n hx hb dX6_surelyNumbered_62 rfl (lv_at hl 2 rfl) ?_
              refine va_get (D := (dC, dI)) (ci := 6) (v := .ref (ad 8)) (C := RX6) (T := TX6) (N := 6) hx hb hts hiX6 hown hK hP 0 rfl rfl 4 (by decide) hL1 (fun _ h9 => h9) rfl dX6_surelyNumbered_63 ?_
              refine lv_iload hx hb dX6_surelyNumbered_66 (lv_at hl 6 rfl) ?_
              refine bw_iald hx hb hK hP 4 0 rfl rfl (j := i) (nI_toInt (by omega)) (by omega) dX6_surelyNumbered_68 ?_
              refine bw_if_eq (tgt := 84) (a := (nu i).toInt) hx hb dX6_surelyNumbered_69 (by decide) rfl (fun c_10 => ?_) (fun c_10 => ?_)
              · skip
                refine lv_iinc (v := nI (i + 1)) (lv' := [(4, .int (nI (i + 1))), (6, .int 1), (5, .int 0), (0, .ref (ad 3)), (1, .int (nI s)), (2, .int y), (3, .int (nI (s * 8 + k - 1)))]) hx hb dX6_surelyNumbered_84 hl (k := 6) rfl (show nI i + Int32.ofInt 1 = nI (i + 1) from nI_add i 1) (by decide) rfl (fun ls hl => ?_)
                refine lv_goto (tgt := 12) hx hb dX6_surelyNumbered_87 (by decide) ?_
                have hI_hno : ¬ sNumTo fr tt nu (s * 8) (i + 1) (s * 8 + k) y.toInt := by
                  first
                    | (exfalso; omega)
                    | (rw [sNumTo_s hi1]
                       rintro (q | ⟨q1, q2⟩)
                       · exact hno q
                       · unfold sSur at q2; omega)
                exact ih12 (i + 1) (by omega) (by first | assumption | omega) (by first | assumption | omega) hI_hno ls (lv_sub hl [3, 4, 5, 6, 0] rfl)
              · skip
                refine lv_iload hx hb dX6_surelyNumbered_72 (lv_at hl 1 rfl) ?_
                refine bw_if_eq (tgt := 84) (a := 0) hx hb dX6_surelyNumbered_74 (by decide) rfl (fun c_11 => ?_) (fun c_11 => ?_)
                · skip
                  refine lv_iinc (v := nI (i + 1)) (lv' := [(4, .int (nI (i + 1))), (6, .int 1), (5, .int 0), (0, .ref (ad 3)), (1, .int (nI s)), (2, .int y), (3, .int (nI (s * 8 + k - 1)))]) hx hb dX6_surelyNumbered_84 hl (k := 6) rfl (show nI i + Int32.ofInt 1 = nI (i + 1) from nI_add i 1) (by decide) rfl (fun ls hl => ?_)
                  refine lv_goto (tgt := 12) hx hb dX6_surelyNumbered_87 (by decide) ?_
                  have hI_hno : ¬ sNumTo fr tt nu (s * 8) (i + 1) (s * 8 + k) y.toInt := by
                    first
                      | (exfalso; omega)
                      | (rw [sNumTo_s hi1]
                         rintro (q | ⟨q1, q2⟩)
                         · exact hno q
                         · unfold sSur at q2; omega)
                  exact ih12 (i + 1) (by omega) (by first | assumption | omega) (by first | assumption | omega) hI_hno ls (lv_sub hl [3, 4, 5, 6, 0] rfl)
                · exact absurd c_11 (by decide)
        · skip
          refine lv_iconst (v := 1) hx hb dX6_surelyNumbered_29 (by decide) ?_
          refine lv_goto (tgt := 34) hx hb dX6_surelyNumbered_30 (by decide) ?_
          refine lv_istore (lv' := [(5, .int 1), (0, .ref (ad 3)), (1, .int (nI s)), (2, .int y), (3, .int (nI (s * 8 + k - 1))), (4, .int (nI i))]) hx hb dX6_surelyNumbered_34 hl (by decide) rfl (fun ls hl => ?_)
          refine lv_iload hx hb dX6_surelyNumbered_36 (lv_at hl 5 rfl) ?_
          refine lv_iload_n hx hb dX6_surelyNumbered_38 rfl (lv_at hl 4 rfl) ?_
          refine bw_icmp_eq (tgt := 55) (a := ((i : Nat) : Int)) (b := ((s * 8 + k - 1 : Nat) : Int)) hx hb dX6_surelyNumbered_39 (by decide) (nI_toInt (by omega)) (nI_toInt (by omega)) (fun c_12 => ?_) (fun c_12 => ?_)
          · skip
            refine lv_iconst (v := 1) hx hb dX6_surelyNumbered_55 (by decide) ?_
            refine lv_goto (tgt := 60) hx hb dX6_surelyNumbered_56 (by decide) ?_
            refine lv_istore (lv' := [(6, .int 1), (5, .int 1), (0, .ref (ad 3)), (1, .int (nI s)), (2, .int y), (3, .int (nI (s * 8 + k - 1))), (4, .int (nI i))]) hx hb dX6_surelyNumbered_60 hl (by decide) rfl (fun ls hl => ?_)
            refine lv_aload_n hx hb dX6_surelyNumbered_62 rfl (lv_at hl 2 rfl) ?_
            refine va_get (D := (dC, dI)) (ci := 6) (v := .ref (ad 8)) (C := RX6) (T := TX6) (N := 6) hx hb hts hiX6 hown hK hP 0 rfl rfl 4 (by decide) hL1 (fun _ h9 => h9) rfl dX6_surelyNumbered_63 ?_
            refine lv_iload hx hb dX6_surelyNumbered_66 (lv_at hl 6 rfl) ?_
            refine bw_iald hx hb hK hP 4 0 rfl rfl (j := i) (nI_toInt (by omega)) (by omega) dX6_surelyNumbered_68 ?_
            refine bw_if_eq (tgt := 84) (a := (nu i).toInt) hx hb dX6_surelyNumbered_69 (by decide) rfl (fun c_13 => ?_) (fun c_13 => ?_)
            · skip
              refine lv_iinc (v := nI (i + 1)) (lv' := [(4, .int (nI (i + 1))), (6, .int 1), (5, .int 1), (0, .ref (ad 3)), (1, .int (nI s)), (2, .int y), (3, .int (nI (s * 8 + k - 1)))]) hx hb dX6_surelyNumbered_84 hl (k := 6) rfl (show nI i + Int32.ofInt 1 = nI (i + 1) from nI_add i 1) (by decide) rfl (fun ls hl => ?_)
              refine lv_goto (tgt := 12) hx hb dX6_surelyNumbered_87 (by decide) ?_
              have hI_hno : ¬ sNumTo fr tt nu (s * 8) (i + 1) (s * 8 + k) y.toInt := by
                first
                  | (exfalso; omega)
                  | (rw [sNumTo_s hi1]
                     rintro (q | ⟨q1, q2⟩)
                     · exact hno q
                     · unfold sSur at q2; omega)
              exact ih12 (i + 1) (by omega) (by first | assumption | omega) (by first | assumption | omega) hI_hno ls (lv_sub hl [3, 4, 5, 6, 0] rfl)
            · skip
              refine lv_iload hx hb dX6_surelyNumbered_72 (lv_at hl 1 rfl) ?_
              refine bw_if_eq (tgt := 84) (a := 1) hx hb dX6_surelyNumbered_74 (by decide) rfl (fun c_14 => ?_) (fun c_14 => ?_)
              · exact absurd c_14 (by decide)
              · skip
                refine lv_iload hx hb dX6_surelyNumbered_77 (lv_at hl 0 rfl) ?_
                refine bw_if_eq (tgt := 84) (a := 1) hx hb dX6_surelyNumbered_79 (by decide) rfl (fun c_15 => ?_) (fun c_15 => ?_)
                · exact absurd c_15 (by decide)
                · skip
                  refine lv_iconst (v := 1) hx hb dX6_surelyNumbered_82 (by decide) ?_
                  subst hQ
                  have hpost : (1 : Int32) = pI (sNumTo fr tt nu (s * 8) (s * 8 + k) (s * 8 + k) y.toInt) := by
                    first
                      | (exfalso; omega)
                      | exact (pI_t ⟨i, hi1, by omega, by omega, by unfold sSur; omega⟩).symm
                  exact W.zret (v := 1) hx hb hr (by rfl) (fun t9 ht hW => ⟨_, rfl, hpost, by rw [ht]⟩) (fun q h => by cases h) dX6_surelyNumbered_83
          · skip
            refine lv_aload_n hx hb dX6_surelyNumbered_42 rfl (lv_at hl 1 rfl) ?_
            refine va_get (D := (dC, dI)) (ci := 6) (v := .ref (ad 5)) (C := RX6) (T := TX6) (N := 6) hx hb hts hiX6 hown hK hP 0 rfl rfl 1 (by decide) hL2 (fun _ h9 => h9) rfl dX6_surelyNumbered_43 ?_
            refine lv_iload hx hb dX6_surelyNumbered_46 (lv_at hl 5 rfl) ?_
            refine lv_iconst (v := 1) hx hb dX6_surelyNumbered_48 (by decide) ?_
            refine lv_iadd hx hb dX6_surelyNumbered_49 ?_
            refine bw_re (show (nI i) + 1 = nI (i + 1) from nI_add (i) (1)) ?_
            refine bw_iald hx hb hK hP 2 0 rfl rfl (j := (i + 1)) ((nI_toInt (by omega)).trans (by omega)) (by omega) dX6_surelyNumbered_50 ?_
            refine lv_iload_n hx hb dX6_surelyNumbered_51 rfl (lv_at hl 3 rfl) ?_
            refine bw_icmp_le (tgt := 59) (a := (fr (i + 1)).toInt) (b := y.toInt) hx hb dX6_surelyNumbered_52 (by decide) rfl rfl (fun c_16 => ?_) (fun c_16 => ?_)
            · skip
              refine lv_iconst (v := 0) hx hb dX6_surelyNumbered_59 (by decide) ?_
              refine lv_istore (lv' := [(6, .int 0), (5, .int 1), (0, .ref (ad 3)), (1, .int (nI s)), (2, .int y), (3, .int (nI (s * 8 + k - 1))), (4, .int (nI i))]) hx hb dX6_surelyNumbered_60 hl (by decide) rfl (fun ls hl => ?_)
              refine lv_aload_n hx hb dX6_surelyNumbered_62 rfl (lv_at hl 2 rfl) ?_
              refine va_get (D := (dC, dI)) (ci := 6) (v := .ref (ad 8)) (C := RX6) (T := TX6) (N := 6) hx hb hts hiX6 hown hK hP 0 rfl rfl 4 (by decide) hL1 (fun _ h9 => h9) rfl dX6_surelyNumbered_63 ?_
              refine lv_iload hx hb dX6_surelyNumbered_66 (lv_at hl 6 rfl) ?_
              refine bw_iald hx hb hK hP 4 0 rfl rfl (j := i) (nI_toInt (by omega)) (by omega) dX6_surelyNumbered_68 ?_
              refine bw_if_eq (tgt := 84) (a := (nu i).toInt) hx hb dX6_surelyNumbered_69 (by decide) rfl (fun c_17 => ?_) (fun c_17 => ?_)
              · skip
                refine lv_iinc (v := nI (i + 1)) (lv' := [(4, .int (nI (i + 1))), (6, .int 0), (5, .int 1), (0, .ref (ad 3)), (1, .int (nI s)), (2, .int y), (3, .int (nI (s * 8 + k - 1)))]) hx hb dX6_surelyNumbered_84 hl (k := 6) rfl (show nI i + Int32.ofInt 1 = nI (i + 1) from nI_add i 1) (by decide) rfl (fun ls hl => ?_)
                refine lv_goto (tgt := 12) hx hb dX6_surelyNumbered_87 (by decide) ?_
                have hI_hno : ¬ sNumTo fr tt nu (s * 8) (i + 1) (s * 8 + k) y.toInt := by
                  first
                    | (exfalso; omega)
                    | (rw [sNumTo_s hi1]
                       rintro (q | ⟨q1, q2⟩)
                       · exact hno q
                       · unfold sSur at q2; omega)
                exact ih12 (i + 1) (by omega) (by first | assumption | omega) (by first | assumption | omega) hI_hno ls (lv_sub hl [3, 4, 5, 6, 0] rfl)
              · skip
                refine lv_iload hx hb dX6_surelyNumbered_72 (lv_at hl 1 rfl) ?_
                refine bw_if_eq (tgt := 84) (a := 1) hx hb dX6_surelyNumbered_74 (by decide) rfl (fun c_18 => ?_) (fun c_18 => ?_)
                · exact absurd c_18 (by decide)
                · skip
                  refine lv_iload hx hb dX6_surelyNumbered_77 (lv_at hl 0 rfl) ?_
                  refine bw_if_eq (tgt := 84) (a := 0) hx hb dX6_surelyNumbered_79 (by decide) rfl (fun c_19 => ?_) (fun c_19 => ?_)
                  · skip
                    refine lv_iinc (v := nI (i + 1)) (lv' := [(4, .int (nI (i + 1))), (6, .int 0), (5, .int 1), (0, .ref (ad 3)), (1, .int (nI s)), (2, .int y), (3, .int (nI (s * 8 + k - 1)))]) hx hb dX6_surelyNumbered_84 hl (k := 6) rfl (show nI i + Int32.ofInt 1 = nI (i + 1) from nI_add i 1) (by decide) rfl (fun ls hl => ?_)
                    refine lv_goto (tgt := 12) hx hb dX6_surelyNumbered_87 (by decide) ?_
                    have hI_hno : ¬ sNumTo fr tt nu (s * 8) (i + 1) (s * 8 + k) y.toInt := by
                      first
                        | (exfalso; omega)
                        | (rw [sNumTo_s hi1]
                           rintro (q | ⟨q1, q2⟩)
                           · exact hno q
                           · unfold sSur at q2; omega)
                    exact ih12 (i + 1) (by omega) (by first | assumption | omega) (by first | assumption | omega) hI_hno ls (lv_sub hl [3, 4, 5, 6, 0] rfl)
                  · exact absurd c_19 (by decide)
            · skip
              refine lv_iconst (v := 1) hx hb dX6_surelyNumbered_55 (by decide) ?_
              refine lv_goto (tgt := 60) hx hb dX6_surelyNumbered_56 (by decide) ?_
              refine lv_istore (lv' := [(6, .int 1), (5, .int 1), (0, .ref (ad 3)), (1, .int (nI s)), (2, .int y), (3, .int (nI (s * 8 + k - 1))), (4, .int (nI i))]) hx hb dX6_surelyNumbered_60 hl (by decide) rfl (fun ls hl => ?_)
              refine lv_aload_n hx hb dX6_surelyNumbered_62 rfl (lv_at hl 2 rfl) ?_
              refine va_get (D := (dC, dI)) (ci := 6) (v := .ref (ad 8)) (C := RX6) (T := TX6) (N := 6) hx hb hts hiX6 hown hK hP 0 rfl rfl 4 (by decide) hL1 (fun _ h9 => h9) rfl dX6_surelyNumbered_63 ?_
              refine lv_iload hx hb dX6_surelyNumbered_66 (lv_at hl 6 rfl) ?_
              refine bw_iald hx hb hK hP 4 0 rfl rfl (j := i) (nI_toInt (by omega)) (by omega) dX6_surelyNumbered_68 ?_
              refine bw_if_eq (tgt := 84) (a := (nu i).toInt) hx hb dX6_surelyNumbered_69 (by decide) rfl (fun c_20 => ?_) (fun c_20 => ?_)
              · skip
                refine lv_iinc (v := nI (i + 1)) (lv' := [(4, .int (nI (i + 1))), (6, .int 1), (5, .int 1), (0, .ref (ad 3)), (1, .int (nI s)), (2, .int y), (3, .int (nI (s * 8 + k - 1)))]) hx hb dX6_surelyNumbered_84 hl (k := 6) rfl (show nI i + Int32.ofInt 1 = nI (i + 1) from nI_add i 1) (by decide) rfl (fun ls hl => ?_)
                refine lv_goto (tgt := 12) hx hb dX6_surelyNumbered_87 (by decide) ?_
                have hI_hno : ¬ sNumTo fr tt nu (s * 8) (i + 1) (s * 8 + k) y.toInt := by
                  first
                    | (exfalso; omega)
                    | (rw [sNumTo_s hi1]
                       rintro (q | ⟨q1, q2⟩)
                       · exact hno q
                       · unfold sSur at q2; omega)
                exact ih12 (i + 1) (by omega) (by first | assumption | omega) (by first | assumption | omega) hI_hno ls (lv_sub hl [3, 4, 5, 6, 0] rfl)
              · skip
                refine lv_iload hx hb dX6_surelyNumbered_72 (lv_at hl 1 rfl) ?_
                refine bw_if_eq (tgt := 84) (a := 1) hx hb dX6_surelyNumbered_74 (by decide) rfl (fun c_21 => ?_) (fun c_21 => ?_)
                · exact absurd c_21 (by decide)
                · skip
                  refine lv_iload hx hb dX6_surelyNumbered_77 (lv_at hl 0 rfl) ?_
                  refine bw_if_eq (tgt := 84) (a := 1) hx hb dX6_surelyNumbered_79 (by decide) rfl (fun c_22 => ?_) (fun c_22 => ?_)
                  · exact absurd c_22 (by decide)
                  · skip
                    refine lv_iconst (v := 1) hx hb dX6_surelyNumbered_82 (by decide) ?_
                    subst hQ
                    have hpost : (1 : Int32) = pI (sNumTo fr tt nu (s * 8) (s * 8 + k) (s * 8 + k) y.toInt) := by
                      first
                        | (exfalso; omega)
                        | exact (pI_t ⟨i, hi1, by omega, by omega, by unfold sSur; omega⟩).symm
                    exact W.zret (v := 1) hx hb hr (by rfl) (fun t9 ht hW => ⟨_, rfl, hpost, by rw [ht]⟩) (fun q h => by cases h) dX6_surelyNumbered_83
  have hI_hno : ¬ sNumTo fr tt nu (s * 8) (s * 8) (s * 8 + k) y.toInt := by
    exact sNumTo_0
  exact L_12 ((s * 8 + k - (s * 8)) + 1) (s * 8) (by omega) (by first | assumption | omega) (by first | assumption | omega) hI_hno ls (lv_sub hl [2, 3, 4, 1, 0] rfl)

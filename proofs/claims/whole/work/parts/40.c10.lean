theorem wd_eq : ∀ i, i < 11 → (sBy i).length = (wdB i).length ∧ ∀ k, k < 8 → ((sBy i).getD k 0).toInt = (((wdB i).getD k 0 : Nat) : Int) := by decide +kernel
theorem wd_eqM : ∀ i, i < 10 → (sBy (i + 11)).length = (wdB i).length ∧ ∀ k, k < 8 → ((sBy (i + 11)).getD k 0).toInt = (((wdB i).getD k 0 : Nat) : Int) := by decide +kernel
theorem wdB_len : ∀ i, i < 11 → (wdB i).length ≤ 7 ∧ 1 ≤ (wdB i).length := by decide +kernel
theorem vN_s {tb : Nat → Int32} {ts j : Nat} (h : ts ≤ j) : vN tb ts (j + 1 - ts) = vN tb ts (j - ts) * 10 + ((tb j).toInt - 48) := by
  rw [show j + 1 - ts = (j - ts) + 1 by omega]
  show vN tb ts (j - ts) * 10 + ((tb (ts + (j - ts))).toInt - 48) = _
  rw [show ts + (j - ts) = j by omega]
theorem vN_b {tb : Nat → Int32} {ts : Nat} : ∀ m, (∀ k, k < m → 48 ≤ (tb (ts + k)).toInt ∧ (tb (ts + k)).toInt ≤ 57) → 0 ≤ vN tb ts m ∧ vN tb ts m + 1 ≤ 10 ^ m
  | 0, _ => ⟨Int.le_refl _, by show (0 : Int) + 1 ≤ 10 ^ 0; decide⟩
  | m + 1, h => by
    have ih := vN_b m (fun k hk => h k (by omega))
    have h2 := h m (by omega)
    have e : (10 : Int) ^ (m + 1) = 10 ^ m * 10 := Int.pow_succ 10 m
    show 0 ≤ vN tb ts m * 10 + ((tb (ts + m)).toInt - 48) ∧ vN tb ts m * 10 + ((tb (ts + m)).toInt - 48) + 1 ≤ 10 ^ (m + 1)
    rw [e]
    omega
theorem vN_4 {tb : Nat → Int32} {ts m : Nat} (hm : m ≤ 4) (h : ∀ k, k < m → 48 ≤ (tb (ts + k)).toInt ∧ (tb (ts + k)).toInt ≤ 57) : 0 ≤ vN tb ts m ∧ vN tb ts m ≤ 9999 := by
  have q := vN_b m h
  have q2 : m = 0 ∨ m = 1 ∨ m = 2 ∨ m = 3 ∨ m = 4 := by omega
  rcases q2 with e | e | e | e | e <;> subst e <;> omega
theorem tokN_no {tb : Nat → Int32} {ts te : Nat} (h : ¬ (te ≤ ts + 4 ∧ 48 ≤ (tb ts).toInt ∧ (tb ts).toInt ≤ 57)) : tokN tb ts te = -1 := @if_neg _ (Classical.propDecidable _) h Int _ _
theorem tokN_yes {tb : Nat → Int32} {ts te : Nat} (h : te ≤ ts + 4 ∧ 48 ≤ (tb ts).toInt ∧ (tb ts).toInt ≤ 57) : tokN tb ts te = vN tb ts (te - ts) := @if_pos _ (Classical.propDecidable _) h Int _ _
theorem kw_stay {tb : Nat → Int32} {ts te m : Nat} (h : kwTo tb ts te m ≠ -1) : ∀ k, kwTo tb ts te (m + k) = kwTo tb ts te m
  | 0 => rfl
  | k + 1 => by
    have ih := kw_stay h k
    rw [show m + (k + 1) = (m + k) + 1 by omega, kw_old (by rw [ih]; exact h), ih]
/-- what findToken leaves -/
def tokP (tb : Nat → Int32) (n te ts2 te2 : Nat) : Prop := ts2 = tS tb n te ∧ te ≤ ts2 ∧ ts2 ≤ n ∧ te2 ≤ n ∧ ts2 ≤ te2 ∧ (ts2 < n → te2 = tE tb n ts2 ∧ ts2 < te2 ∧ tEnd tb n ts2 te2) ∧ (n ≤ ts2 → te2 = ts2)
theorem tp_n {tb : Nat → Int32} {n te i : Nat} (h : isRun (bBl tb n) te i) (hi : i = n) : tokP tb n te i i :=
  ⟨(rE_eq h).symm, h.1, by omega, by omega, Nat.le_refl _, fun q => absurd q (by omega), fun _ => rfl⟩
theorem tp_e {tb : Nat → Int32} {n te i j : Nat} (h : isRun (bBl tb n) te i) (hi : i < n) (hj : j ≤ n) (hij : i < j) (he : tEnd tb n i j) : tokP tb n te i j :=
  ⟨(rE_eq h).symm, h.1, by omega, hj, by omega, fun _ => ⟨(tE_eq he).symm, hij, he⟩, fun q => absurd q (by omega)⟩
theorem te_s {tb : Nat → Int32} {n i j : Nat} (h1 : bSm tb n i) (h2 : toRun (bSm tb n) i j) (h3 : ¬ bSm tb n j) : tEnd tb n i j :=
  ⟨fun _ => toRun_e h2 h3, fun q => absurd q.2.1 (by have := h1.2; have := q.2; omega), fun q _ => absurd h1 q⟩
theorem te_d {tb : Nat → Int32} {n i j : Nat} (h1 : bDg tb n i) (h2 : toRun (bDg tb n) i j) (h3 : ¬ bDg tb n j) : tEnd tb n i j :=
  ⟨fun q => absurd q.2.1 (by have := h1.2; have := q.2; omega), fun _ => toRun_e h2 h3, fun _ q => absurd h1 q⟩
theorem te_o {tb : Nat → Int32} {n i : Nat} (h1 : ¬ bSm tb n i) (h2 : ¬ bDg tb n i) : tEnd tb n i (i + 1) :=
  ⟨fun q => absurd q h1, fun q => absurd q h2, fun _ _ => rfl⟩
set_option maxHeartbeats 4000000 in
set_option maxRecDepth 100000 in
theorem c_X5_tokenIs (l : Launch) (dC : Nat → ClassId) (dI : Nat → Nat → Nat) (cy : Nat → ClassId) (sa sv : Nat → Nat) (fv : Value) (ad : Nat → Nat) (rl : Nat) (fk : Int32) (fp : Int32) (ts : Nat) (te : Nat) (lw : Int32) (pa : Nat) (rt : Int32) (tw : Nat) (tm : Nat) (tn : Nat) (tb : Nat → Int32) (i : Nat) (hi : i < 11) (hts1 : ts < te) (hte1 : te ≤ tn) (htn : tn ≤ 600) : Met l yX5_tokenIs wsX5_tokenIs ({ frames := 4, cells := 0, slots := 0, locals := 85 }) (va_Pc [.ref (ad 27), .ref (sa i)] (fun U => va_P (dC, dI) vwCl [(ad 27, .inr (5, [.ref (ad 28), .int (nI rl), .int fk, .int fp, .ref (ad 1), .int (nI ts), .int (nI te), .int lw, .int (nI pa), .int rt, .int (nI tw), .int (nI tm)])), (ad 1, .inr (8, [.ref (ad 2), .int (nI tn)])), (ad 2, .inl (cy 0, 600, .inl tb))] U.heap ∧ va_K (dC, dI) vwCl (tyL cy) U ∧ sW sa sv fv (fun _ => False) U U.heap)) (vp_Si (fun r => r = pI (isW tb ts te i))) 0 0 (fun _ => False) := by
  refine Met.ofW (cc := cX5_tokenIs) (maxL := 3) (ret := (some .boolean)) (by decide) rfl ?_
  intro pp ee ss mm args below meth cc0 s₁ B hml hv
  obtain ⟨rfl, hP, hK, hE⟩ := hv
  have hx := B.exec
  have hb := B.bytes
  have hr := B.returns
  have hts := atoms_spec (ws := wsX5_tokenIs) B.pre
  have hown : ss.vm.findClass RX5 = some mm.cls := findClass_of_methodNamed B.named
  have hlocks := B.notSynchronized
  have hL0 := hts (.fieldLink RX5 47 "HereLived$RuleReader" "tokenEnd" "I") (by decide +kernel)
  have hL1 := hts (.fieldLink RX5 58 "HereLived$RuleReader" "tokenStart" "I") (by decide +kernel)
  have hL2 := hts (.fieldLink RX5 9 "HereLived$RuleReader" "tape" "LHereLived$Tape;") (by decide +kernel)
  have hL3 := hts (.fieldLink RX5 65 "HereLived$Tape" "bytes" "[I") (by decide +kernel)
  have hiX5 : ∀ w ∈ wsX50, w ∈ wsX5_tokenIs := by decide +kernel
  have hiX8 : ∀ w ∈ wsX80, w ∈ wsX5_tokenIs := by decide +kernel
  have hl := lv_entry ([.ref (ad 27), .ref (sa i)]) (n := 3) (Nat.le_of_ble_eq_true rfl)
  rw [lg_entry_eq]
  generalize (lg_sl ([.ref (ad 27), .ref (sa i)]) ++ List.replicate (3 - (lg_sl ([.ref (ad 27), .ref (sa i)])).length) Slot.unset).toArray = ls at hl ⊢
  have hl : lv_has ls 3 [(0, .ref (ad 27)), (1, .ref (sa i))] := hl
  refine bw_Q (fun Q hQ => ?_)
  change W pp l ee { frames := 4, cells := 0, slots := 0, locals := 85 } ss mm _ below meth cc0 ss.heap [] 0 0 Q (F0 mm 0 ls [])
  have hl7 := sBy_len i (by omega)
  obtain ⟨hw1, hw2⟩ := wd_eq i hi
  refine lv_aload_n hx hb dX5_tokenIs_0 rfl (lv_at hl 0 rfl) ?_
  refine va_get (D := (dC, dI)) (ci := 5) (v := .int (nI te)) (C := RX5) (T := TX5) (N := 12) hx hb hts hiX5 hown hK hP 0 rfl rfl 6 (by decide) hL0 (fun _ h9 => h9) rfl dX5_tokenIs_1 ?_
  refine lv_aload_n hx hb dX5_tokenIs_4 rfl (lv_at hl 0 rfl) ?_
  refine va_get (D := (dC, dI)) (ci := 5) (v := .int (nI ts)) (C := RX5) (T := TX5) (N := 12) hx hb hts hiX5 hown hK hP 0 rfl rfl 5 (by decide) hL1 (fun _ h9 => h9) rfl dX5_tokenIs_5 ?_
  refine lv_isub hx hb dX5_tokenIs_8 ?_
  refine bw_re (show (nI te) - (nI ts) = nI (te - ts) from pk_sub (a := te) (b := ts) (by omega)) ?_
  refine lv_aload_n hx hb dX5_tokenIs_9 rfl (lv_at hl 1 rfl) ?_
  refine vp_callSi (va_Run.run (va_runV (As := []) (rest := [.int (nI (te - ts))]) ⟨hx, hb, hml, hown, hts⟩ (c_J0_length_8abf5 l dC dI cy sa sv fv i (by first | assumption | omega)) (cwV 0 hts gX5_tokenIs_J0_length_8abf5 rfl rfl rfl (by decide +kernel) ⟨Nat.le_of_ble_eq_true rfl, Nat.le_of_ble_eq_true rfl⟩) ⟨fun a U g mk q => by obtain ⟨q0, qP, qK, qE⟩ := q; exact ⟨q0, qP, va_K.moved (u := U) (U := U.calling g mk a) (Vm.Alike.refl U.vm) qK, sW.call qE g mk a⟩, sW.recv hE (by first | assumption | omega | decide), fun U hU hW => ⟨rfl, (fun k q h => by simp at h), va_K.moved hW.alike hK, hE.go hW hU⟩⟩ rfl rfl hl.1 rfl (lv_room (Nat.le_of_ble_eq_true rfl)) dX5_tokenIs_10 ⟨Nat.le_of_ble_eq_true rfl, Nat.le_of_ble_eq_true rfl⟩)) (fun r_1 hr_1 => ?_)
  rw [hr_1]
  refine bw_icmp_eq (tgt := 18) (a := ((te - ts : Nat) : Int)) (b := (((sBy i).length : Nat) : Int)) hx hb dX5_tokenIs_13 (by decide) (nI_toInt (by omega)) (nI_toInt (by omega)) (fun c_l => ?_) (fun c_l => ?_)
  · skip
    refine lv_iconst (v := 0) hx hb dX5_tokenIs_18 (by decide) ?_
    refine lv_istore_n (lv' := [(2, .int 0), (0, .ref (ad 27)), (1, .ref (sa i))]) hx hb dX5_tokenIs_19 rfl hl (by decide) rfl (fun ls hl => ?_)
    have L_20 : ∀ (n9 : Nat), ∀ (k : Nat), ((sBy i).length - k) < n9 → (k ≤ (sBy i).length) → (∀ j, j < k → (tb (ts + j)).toInt = (((wdB i).getD j 0 : Nat) : Int)) → ∀ (ls : Array Slot), lv_has ls 3 [(0, .ref (ad 27)), (1, .ref (sa i)), (2, .int (nI k))] → W pp l ee { frames := 4, cells := 0, slots := 0, locals := 85 } ss mm (List.toArray [Value.ref (ad 27), Value.ref (sa i)]) below meth cc0 ss.heap [] 0 0 Q (F0 mm 20 ls []) := by
      intro n9
      induction n9 with
      | zero => intro k hm9; exact absurd hm9 (Nat.not_lt_zero _)
      | succ n9 ih20 =>
        intro k hm20 hk hm
        intro ls hl
        refine lv_iload_n hx hb dX5_tokenIs_20 rfl (lv_at hl 2 rfl) ?_
        refine lv_aload_n hx hb dX5_tokenIs_21 rfl (lv_at hl 1 rfl) ?_
        refine vp_callSi (va_Run.run (va_runV (As := []) (rest := [.int (nI k)]) ⟨hx, hb, hml, hown, hts⟩ (c_J0_length_8abf5 l dC dI cy sa sv fv i (by first | assumption | omega)) (cwV 0 hts gX5_tokenIs_J0_length_8abf5 rfl rfl rfl (by decide +kernel) ⟨Nat.le_of_ble_eq_true rfl, Nat.le_of_ble_eq_true rfl⟩) ⟨fun a U g mk q => by obtain ⟨q0, qP, qK, qE⟩ := q; exact ⟨q0, qP, va_K.moved (u := U) (U := U.calling g mk a) (Vm.Alike.refl U.vm) qK, sW.call qE g mk a⟩, sW.recv hE (by first | assumption | omega | decide), fun U hU hW => ⟨rfl, (fun k q h => by simp at h), va_K.moved hW.alike hK, hE.go hW hU⟩⟩ rfl rfl hl.1 rfl (lv_room (Nat.le_of_ble_eq_true rfl)) dX5_tokenIs_22 ⟨Nat.le_of_ble_eq_true rfl, Nat.le_of_ble_eq_true rfl⟩)) (fun r_2 hr_2 => ?_)
        rw [hr_2]
        refine bw_icmp_ge (tgt := 58) (a := ((k : Nat) : Int)) (b := (((sBy i).length : Nat) : Int)) hx hb dX5_tokenIs_25 (by decide) (nI_toInt (by omega)) (nI_toInt (by omega)) (fun c_3 => ?_) (fun c_3 => ?_)
        · skip
          refine lv_iconst (v := 1) hx hb dX5_tokenIs_58 (by decide) ?_
          refine bw_Qe hQ ?_
          have hpost : (1 : Int32) = pI (isW tb ts te i) := by
            exact (pI_t ⟨by omega, fun j hj => hm j (by omega)⟩).symm
          exact W.zret (v := 1) hx hb hr (by rfl) (fun t9 ht hW => ⟨_, rfl, hpost, by rw [ht]⟩) (fun q h => by cases h) dX5_tokenIs_59
        · skip
          refine lv_aload_n hx hb dX5_tokenIs_28 rfl (lv_at hl 0 rfl) ?_
          refine va_get (D := (dC, dI)) (ci := 5) (v := .ref (ad 1)) (C := RX5) (T := TX5) (N := 12) hx hb hts hiX5 hown hK hP 0 rfl rfl 4 (by decide) hL2 (fun _ h9 => h9) rfl dX5_tokenIs_29 ?_
          refine va_get (D := (dC, dI)) (ci := 8) (v := .ref (ad 2)) (C := RX8) (T := TX8) (N := 2) hx hb hts hiX8 hown hK hP 1 rfl rfl 0 (by decide) hL3 (fun _ h9 => h9) rfl dX5_tokenIs_32 ?_
          refine lv_aload_n hx hb dX5_tokenIs_35 rfl (lv_at hl 0 rfl) ?_
          refine va_get (D := (dC, dI)) (ci := 5) (v := .int (nI ts)) (C := RX5) (T := TX5) (N := 12) hx hb hts hiX5 hown hK hP 0 rfl rfl 5 (by decide) hL1 (fun _ h9 => h9) rfl dX5_tokenIs_36 ?_
          refine lv_iload_n hx hb dX5_tokenIs_39 rfl (lv_at hl 2 rfl) ?_
          refine lv_iadd hx hb dX5_tokenIs_40 ?_
          refine bw_re (show (nI ts) + (nI k) = nI (ts + k) from nI_add (ts) (k)) ?_
          refine bw_iald hx hb hK hP 2 0 rfl rfl (j := (ts + k)) (nI_toInt (by omega)) (by omega) dX5_tokenIs_41 ?_
          refine lv_aload_n hx hb dX5_tokenIs_42 rfl (lv_at hl 1 rfl) ?_
          refine lv_iload_n hx hb dX5_tokenIs_43 rfl (lv_at hl 2 rfl) ?_
          refine vp_callSi (va_Run.run (va_runV (As := [.int (nI k)]) (rest := [.int (tb (ts + k))]) ⟨hx, hb, hml, hown, hts⟩ (c_J0_charAt_5068e l dC dI cy sa sv fv i k (by first | assumption | omega) (by first | assumption | omega)) (cwV 1 hts gX5_tokenIs_J0_charAt_5068e rfl rfl rfl (by decide +kernel) ⟨Nat.le_of_ble_eq_true rfl, Nat.le_of_ble_eq_true rfl⟩) ⟨fun a U g mk q => by obtain ⟨q0, qP, qK, qE⟩ := q; exact ⟨q0, qP, va_K.moved (u := U) (U := U.calling g mk a) (Vm.Alike.refl U.vm) qK, sW.call qE g mk a⟩, sW.recv hE (by first | assumption | omega | decide), fun U hU hW => ⟨rfl, (fun k q h => by simp at h), va_K.moved hW.alike hK, hE.go hW hU⟩⟩ rfl rfl hl.1 rfl (lv_room (Nat.le_of_ble_eq_true rfl)) dX5_tokenIs_44 ⟨Nat.le_of_ble_eq_true rfl, Nat.le_of_ble_eq_true rfl⟩)) (fun r_4 hr_4 => ?_)
          rw [hr_4]
          refine bw_icmp_eq (tgt := 52) (a := (tb (ts + k)).toInt) (b := ((sBy i).getD k 0).toInt) hx hb dX5_tokenIs_47 (by decide) rfl rfl (fun c_e => ?_) (fun c_e => ?_)
          · skip
            refine lv_iinc (v := nI (k + 1)) (lv' := [(2, .int (nI (k + 1))), (0, .ref (ad 27)), (1, .ref (sa i))]) hx hb dX5_tokenIs_52 hl (k := 2) rfl (show nI k + Int32.ofInt 1 = nI (k + 1) from nI_add k 1) (by decide) rfl (fun ls hl => ?_)
            refine lv_goto (tgt := 20) hx hb dX5_tokenIs_55 (by decide) ?_
            have hI_hm : ∀ j, j < (k + 1) → (tb (ts + j)).toInt = (((wdB i).getD j 0 : Nat) : Int) := by
              intro j hj
              by_cases q : j = k
              · rw [q, c_e]; exact hw2 k (by omega)
              · exact hm j (by omega)
            exact ih20 (k + 1) (by omega) (by first | assumption | omega) hI_hm ls (lv_sub hl [1, 2, 0] rfl)
          · skip
            refine lv_iconst (v := 0) hx hb dX5_tokenIs_50 (by decide) ?_
            refine bw_Qe hQ ?_
            have hpost : (0 : Int32) = pI (isW tb ts te i) := by
              exact (pI_f (fun q => c_e (by rw [hw2 k (by omega)]; exact q.2 k (by omega)))).symm
            exact W.zret (v := 0) hx hb hr (by rfl) (fun t9 ht hW => ⟨_, rfl, hpost, by rw [ht]⟩) (fun q h => by cases h) dX5_tokenIs_51
    have hI_hm : ∀ j, j < 0 → (tb (ts + j)).toInt = (((wdB i).getD j 0 : Nat) : Int) := by
      exact fun j hj => absurd hj (Nat.not_lt_zero _)
    exact L_20 (((sBy i).length - 0) + 1) 0 (by omega) (by first | assumption | omega) hI_hm ls (lv_sub hl [1, 2, 0] rfl)
  · skip
    refine lv_iconst (v := 0) hx hb dX5_tokenIs_16 (by decide) ?_
    refine bw_Qe hQ ?_
    have hpost : (0 : Int32) = pI (isW tb ts te i) := by
      exact (pI_f (fun q => c_l (by have := q.1; omega))).symm
    exact W.zret (v := 0) hx hb hr (by rfl) (fun t9 ht hW => ⟨_, rfl, hpost, by rw [ht]⟩) (fun q h => by cases h) dX5_tokenIs_17

set_option maxHeartbeats 4000000 in
set_option maxRecDepth 100000 in
theorem c_X5_tokenNumber (l : Launch) (dC : Nat → ClassId) (dI : Nat → Nat → Nat) (cy : Nat → ClassId) (ad : Nat → Nat) (rl : Nat) (fk : Int32) (fp : Int32) (ts : Nat) (te : Nat) (lw : Int32) (pa : Nat) (rt : Int32) (tw : Nat) (tm : Nat) (tn : Nat) (tb : Nat → Int32) (hts1 : ts < te) (hte1 : te ≤ tn) (htn : tn ≤ 600) (hdg : bDg tb tn ts → ∀ k, ts ≤ k → k < te → bDg tb tn k) : Met l yX5_tokenNumber wsX5_tokenNumber ({ frames := 1, cells := 0, slots := 0, locals := 20 }) (va_Pc [.ref (ad 27)] (fun U => va_P (dC, dI) vwCl [(ad 27, .inr (5, [.ref (ad 28), .int (nI rl), .int fk, .int fp, .ref (ad 1), .int (nI ts), .int (nI te), .int lw, .int (nI pa), .int rt, .int (nI tw), .int (nI tm)])), (ad 1, .inr (8, [.ref (ad 2), .int (nI tn)])), (ad 2, .inl (cy 0, 600, .inl tb))] U.heap ∧ va_K (dC, dI) vwCl (tyL cy) U ∧ va_Nw (.methodLinkNest RX5 76 yX10_isDigit "HereLived") U)) (vp_Si (fun r => r.toInt = tokN tb ts te)) 0 0 (fun _ => False) := by
  refine Met.ofW (cc := cX5_tokenNumber) (maxL := 3) (ret := (some .int)) (by decide) rfl ?_
  intro pp ee ss mm args below meth cc0 s₁ B hml hv
  obtain ⟨rfl, hP, hK, hn0⟩ := hv
  have hx := B.exec
  have hb := B.bytes
  have hr := B.returns
  have hts := atoms_spec (ws := wsX5_tokenNumber) B.pre
  have hown : ss.vm.findClass RX5 = some mm.cls := findClass_of_methodNamed B.named
  have hlocks := B.notSynchronized
  have hL0 := hts (.fieldLink RX5 47 "HereLived$RuleReader" "tokenEnd" "I") (by decide +kernel)
  have hL1 := hts (.fieldLink RX5 58 "HereLived$RuleReader" "tokenStart" "I") (by decide +kernel)
  have hL2 := hts (.fieldLink RX5 9 "HereLived$RuleReader" "tape" "LHereLived$Tape;") (by decide +kernel)
  have hL3 := hts (.fieldLink RX5 65 "HereLived$Tape" "bytes" "[I") (by decide +kernel)
  have hL4 := hts (.initialized RX10) (by decide +kernel)
  have hL5 := hts (.static yX10_isDigit) (by decide +kernel)
  have hiX5 : ∀ w ∈ wsX50, w ∈ wsX5_tokenNumber := by decide +kernel
  have hiX8 : ∀ w ∈ wsX80, w ∈ wsX5_tokenNumber := by decide +kernel
  have hl := lv_entry ([.ref (ad 27)]) (n := 3) (Nat.le_of_ble_eq_true rfl)
  rw [lg_entry_eq]
  generalize (lg_sl ([.ref (ad 27)]) ++ List.replicate (3 - (lg_sl ([.ref (ad 27)])).length) Slot.unset).toArray = ls at hl ⊢
  have hl : lv_has ls 3 [(0, .ref (ad 27))] := hl
  refine bw_Q (fun Q hQ => ?_)
  change W pp l ee { frames := 1, cells := 0, slots := 0, locals := 20 } ss mm _ below meth cc0 ss.heap [] 0 0 Q (F0 mm 0 ls [])
  refine lv_aload_n hx hb dX5_tokenNumber_0 rfl (lv_at hl 0 rfl) ?_
  refine va_get (D := (dC, dI)) (ci := 5) (v := .int (nI te)) (C := RX5) (T := TX5) (N := 12) hx hb hts hiX5 hown hK hP 0 rfl rfl 6 (by decide) hL0 (fun _ h9 => h9) rfl dX5_tokenNumber_1 ?_
  refine lv_aload_n hx hb dX5_tokenNumber_4 rfl (lv_at hl 0 rfl) ?_
  refine va_get (D := (dC, dI)) (ci := 5) (v := .int (nI ts)) (C := RX5) (T := TX5) (N := 12) hx hb hts hiX5 hown hK hP 0 rfl rfl 5 (by decide) hL1 (fun _ h9 => h9) rfl dX5_tokenNumber_5 ?_
  refine lv_isub hx hb dX5_tokenNumber_8 ?_
  refine bw_re (show (nI te) - (nI ts) = nI (te - ts) from pk_sub (a := te) (b := ts) (by omega)) ?_
  refine lv_iconst (v := 4) hx hb dX5_tokenNumber_9 (by decide) ?_
  refine bw_icmp_gt (tgt := 31) (a := ((te - ts : Nat) : Int)) (b := 4) hx hb dX5_tokenNumber_10 (by decide) (nI_toInt (by omega)) rfl (fun c_1 => ?_) (fun c_1 => ?_)
  · skip
    refine lv_iconst (v := (-1)) hx hb dX5_tokenNumber_31 (by decide) ?_
    refine bw_Qe hQ ?_
    have hpost : ((-1) : Int32).toInt = tokN tb ts te := by
      rw [tokN_no (fun q => by omega)]; rfl
    exact W.iret (v := (-1)) hx hb hr (fun t9 ht hW => ⟨_, rfl, hpost, by rw [ht]⟩) (fun q h => by cases h) dX5_tokenNumber_32
  · skip
    refine lv_aload_n hx hb dX5_tokenNumber_13 rfl (lv_at hl 0 rfl) ?_
    refine va_get (D := (dC, dI)) (ci := 5) (v := .ref (ad 1)) (C := RX5) (T := TX5) (N := 12) hx hb hts hiX5 hown hK hP 0 rfl rfl 4 (by decide) hL2 (fun _ h9 => h9) rfl dX5_tokenNumber_14 ?_
    refine va_get (D := (dC, dI)) (ci := 8) (v := .ref (ad 2)) (C := RX8) (T := TX8) (N := 2) hx hb hts hiX8 hown hK hP 1 rfl rfl 0 (by decide) hL3 (fun _ h9 => h9) rfl dX5_tokenNumber_17 ?_
    refine lv_aload_n hx hb dX5_tokenNumber_20 rfl (lv_at hl 0 rfl) ?_
    refine va_get (D := (dC, dI)) (ci := 5) (v := .int (nI ts)) (C := RX5) (T := TX5) (N := 12) hx hb hts hiX5 hown hK hP 0 rfl rfl 5 (by decide) hL1 (fun _ h9 => h9) rfl dX5_tokenNumber_21 ?_
    refine bw_iald hx hb hK hP 2 0 rfl rfl (j := ts) (nI_toInt (by omega)) (by omega) dX5_tokenNumber_24 ?_
    refine vp_callSi (va_Run.run (va_runSN (As := [.int (tb ts)]) (rest := []) ⟨hx, hb, hml, hown, hts⟩ (c_X10_isDigit l dC dI cy (tb ts)) ⟨va_cnB 1 hts gX5_tokenNumber_X10_isDigit_n76 rfl rfl rfl hn0 hL4 (by decide +kernel) ⟨Nat.le_of_ble_eq_true rfl, Nat.le_of_ble_eq_true rfl⟩, hL5, trivial⟩ ⟨fun a U g mk q => q, fun U hU hW => ⟨rfl, trivial⟩⟩ rfl rfl hl.1 rfl (lv_room (Nat.le_of_ble_eq_true rfl)) dX5_tokenNumber_25 ⟨Nat.le_of_ble_eq_true rfl, Nat.le_of_ble_eq_true rfl⟩)) (fun r_2 hr_2 => ?_)
    refine bw_ifneB (tgt := 33) hx hb dX5_tokenNumber_28 (by decide) hr_2 (fun c_3 => ?_) (fun c_3 => ?_)
    · skip
      have hd0 : bDg tb tn ts := ⟨by omega, by omega, by omega⟩
      have hall9 := hdg hd0
      refine lv_iconst (v := 0) hx hb dX5_tokenNumber_33 (by decide) ?_
      refine lv_istore_n (lv' := [(1, .int 0), (0, .ref (ad 27))]) hx hb dX5_tokenNumber_34 rfl hl (by decide) rfl (fun ls hl => ?_)
      refine lv_aload_n hx hb dX5_tokenNumber_35 rfl (lv_at hl 1 rfl) ?_
      refine va_get (D := (dC, dI)) (ci := 5) (v := .int (nI ts)) (C := RX5) (T := TX5) (N := 12) hx hb hts hiX5 hown hK hP 0 rfl rfl 5 (by decide) hL1 (fun _ h9 => h9) rfl dX5_tokenNumber_36 ?_
      refine lv_istore_n (lv' := [(2, .int (nI ts)), (1, .int 0), (0, .ref (ad 27))]) hx hb dX5_tokenNumber_39 rfl hl (by decide) rfl (fun ls hl => ?_)
      have L_40 : ∀ (n9 : Nat), ∀ (j : Nat) (z : Int32), (te - j) < n9 → (ts ≤ j) → (j ≤ te) → (z.toInt = vN tb ts (j - ts)) → ∀ (ls : Array Slot), lv_has ls 3 [(0, .ref (ad 27)), (1, .int z), (2, .int (nI j))] → W pp l ee { frames := 1, cells := 0, slots := 0, locals := 20 } ss mm (List.toArray [Value.ref (ad 27)]) below meth cc0 ss.heap [] 0 0 Q (F0 mm 40 ls []) := by
        intro n9
        induction n9 with
        | zero => intro j z hm9; exact absurd hm9 (Nat.not_lt_zero _)
        | succ n9 ih40 =>
          intro j z hm40 hj1 hj2 hz
          intro ls hl
          have hb9 := vN_4 (tb := tb) (ts := ts) (m := j - ts) (by omega) (fun k hk => (hall9 (ts + k) (by omega) (by omega)).2)
          rw [← hz] at hb9
          refine lv_iload_n hx hb dX5_tokenNumber_40 rfl (lv_at hl 2 rfl) ?_
          refine lv_aload_n hx hb dX5_tokenNumber_41 rfl (lv_at hl 0 rfl) ?_
          refine va_get (D := (dC, dI)) (ci := 5) (v := .int (nI te)) (C := RX5) (T := TX5) (N := 12) hx hb hts hiX5 hown hK hP 0 rfl rfl 6 (by decide) hL0 (fun _ h9 => h9) rfl dX5_tokenNumber_42 ?_
          refine bw_icmp_ge (tgt := 72) (a := ((j : Nat) : Int)) (b := ((te : Nat) : Int)) hx hb dX5_tokenNumber_45 (by decide) (nI_toInt (by omega)) (nI_toInt (by omega)) (fun c_4 => ?_) (fun c_4 => ?_)
          · skip
            refine lv_iload_n hx hb dX5_tokenNumber_72 rfl (lv_at hl 1 rfl) ?_
            refine bw_Qe hQ ?_
            have hpost : z.toInt = tokN tb ts te := by
              have e9 : j = te := by omega
              rw [tokN_yes ⟨by omega, by omega, by omega⟩, hz, e9]
            exact W.iret (v := z) hx hb hr (fun t9 ht hW => ⟨_, rfl, hpost, by rw [ht]⟩) (fun q h => by cases h) dX5_tokenNumber_73
          · skip
            have hd9 := (hall9 j (by omega) (by omega)).2
            refine lv_iload_n hx hb dX5_tokenNumber_48 rfl (lv_at hl 1 rfl) ?_
            refine lv_bipush (v := 10) hx hb dX5_tokenNumber_49 (by decide) ?_
            refine lv_imul hx hb dX5_tokenNumber_51 ?_
            refine bw_nm (a := (z.toInt * 10)) (tI_mul rfl rfl (by omega) (by omega)) (fun z_5 ez_5 tz_5 => ?_)
            refine lv_aload_n hx hb dX5_tokenNumber_52 rfl (lv_at hl 0 rfl) ?_
            refine va_get (D := (dC, dI)) (ci := 5) (v := .ref (ad 1)) (C := RX5) (T := TX5) (N := 12) hx hb hts hiX5 hown hK hP 0 rfl rfl 4 (by decide) hL2 (fun _ h9 => h9) rfl dX5_tokenNumber_53 ?_
            refine va_get (D := (dC, dI)) (ci := 8) (v := .ref (ad 2)) (C := RX8) (T := TX8) (N := 2) hx hb hts hiX8 hown hK hP 1 rfl rfl 0 (by decide) hL3 (fun _ h9 => h9) rfl dX5_tokenNumber_56 ?_
            refine lv_iload_n hx hb dX5_tokenNumber_59 rfl (lv_at hl 2 rfl) ?_
            refine bw_iald hx hb hK hP 2 0 rfl rfl (j := j) (nI_toInt (by omega)) (by omega) dX5_tokenNumber_60 ?_
            refine lv_bipush (v := 48) hx hb dX5_tokenNumber_61 (by decide) ?_
            refine lv_isub hx hb dX5_tokenNumber_63 ?_
            refine bw_nm (a := ((tb j).toInt - 48)) (tI_sub rfl rfl (by omega) (by omega)) (fun z_6 ez_6 tz_6 => ?_)
            refine lv_iadd hx hb dX5_tokenNumber_64 ?_
            refine bw_nm (a := ((z.toInt * 10) + ((tb j).toInt - 48))) (tI_add tz_5 tz_6 (by omega) (by omega)) (fun zn ezn tzn => ?_)
            refine lv_istore_n (lv' := [(1, .int zn), (0, .ref (ad 27)), (2, .int (nI j))]) hx hb dX5_tokenNumber_65 rfl hl (by decide) rfl (fun ls hl => ?_)
            refine lv_iinc (v := nI (j + 1)) (lv' := [(2, .int (nI (j + 1))), (1, .int zn), (0, .ref (ad 27))]) hx hb dX5_tokenNumber_66 hl (k := 2) rfl (show nI j + Int32.ofInt 1 = nI (j + 1) from nI_add j 1) (by decide) rfl (fun ls hl => ?_)
            refine lv_goto (tgt := 40) hx hb dX5_tokenNumber_69 (by decide) ?_
            have hI_hz : zn.toInt = vN tb ts ((j + 1) - ts) := by
              rw [vN_s hj1, ← hz, tzn]
            exact ih40 (j + 1) zn (by omega) (by first | assumption | omega) (by first | assumption | omega) hI_hz ls (lv_sub hl [2, 1, 0] rfl)
      have hI_hz : (0 : Int32).toInt = vN tb ts (ts - ts) := by
        rw [show ts - ts = 0 by omega]; rfl
      exact L_40 ((te - ts) + 1) ts 0 (by omega) (by first | assumption | omega) (by first | assumption | omega) hI_hz ls (lv_sub hl [2, 1, 0] rfl)
    · skip
      refine lv_iconst (v := (-1)) hx hb dX5_tokenNumber_31 (by decide) ?_
      refine bw_Qe hQ ?_
      have hpost : ((-1) : Int32).toInt = tokN tb ts te := by
        rw [tokN_no (fun q => by omega)]; rfl
      exact W.iret (v := (-1)) hx hb hr (fun t9 ht hW => ⟨_, rfl, hpost, by rw [ht]⟩) (fun q h => by cases h) dX5_tokenNumber_32

set_option maxHeartbeats 4000000 in
set_option maxRecDepth 100000 in
theorem c_X5_partsOf (l : Launch) (dC : Nat → ClassId) (dI : Nat → Nat → Nat) (cy : Nat → ClassId) (lw : Int32)  : Met l yX5_partsOf wsX5_partsOf ({ frames := 0, cells := 0, slots := 0, locals := 0 }) (va_Pc [.int lw] (fun _ => True)) (vp_Si (fun r => r = nI (prt lw.toInt))) 0 0 (fun _ => False) := by
  refine Met.ofW (cc := cX5_partsOf) (maxL := 1) (ret := (some .int)) (by decide) rfl ?_
  intro pp ee ss mm args below meth cc0 s₁ B hml hv
  obtain ⟨rfl, -⟩ := hv
  have hx := B.exec
  have hb := B.bytes
  have hr := B.returns
  have hts := atoms_spec (ws := wsX5_partsOf) B.pre
  have hown : ss.vm.findClass RX5 = some mm.cls := findClass_of_methodNamed B.named
  have hlocks := B.notSynchronized
  have hl := lv_entry ([.int lw]) (n := 1) (Nat.le_of_ble_eq_true rfl)
  rw [lg_entry_eq]
  generalize (lg_sl ([.int lw]) ++ List.replicate (1 - (lg_sl ([.int lw])).length) Slot.unset).toArray = ls at hl ⊢
  have hl : lv_has ls 1 [(0, .int lw)] := hl
  refine bw_Q (fun Q hQ => ?_)
  change W pp l ee { frames := 0, cells := 0, slots := 0, locals := 0 } ss mm _ below meth cc0 ss.heap [] 0 0 Q (F0 mm 0 ls [])
  refine lv_iload_n hx hb dX5_partsOf_0 rfl (lv_at hl 0 rfl) ?_
  refine lv_iconst (v := 5) hx hb dX5_partsOf_1 (by decide) ?_
  refine bw_icmp_eq (tgt := 11) (a := lw.toInt) (b := 5) hx hb dX5_partsOf_2 (by decide) rfl rfl (fun c_1 => ?_) (fun c_1 => ?_)
  · skip
    refine lv_iconst (v := 2) hx hb dX5_partsOf_11 (by decide) ?_
    refine lv_goto (tgt := 16) hx hb dX5_partsOf_12 (by decide) ?_
    refine bw_Qe hQ ?_
    have hpost : (2 : Int32) = nI (prt lw.toInt) := by
      unfold prt
      repeat (first | rw [if_pos (by omega)] | rw [if_neg (by omega)])
      try rfl
    exact W.iret (v := 2) hx hb hr (fun t9 ht hW => ⟨_, rfl, hpost, by rw [ht]⟩) (fun q h => by cases h) dX5_partsOf_16
  · skip
    refine lv_iload_n hx hb dX5_partsOf_5 rfl (lv_at hl 0 rfl) ?_
    refine lv_bipush (v := 7) hx hb dX5_partsOf_6 (by decide) ?_
    refine bw_icmp_ne (tgt := 15) (a := lw.toInt) (b := 7) hx hb dX5_partsOf_8 (by decide) rfl rfl (fun c_2 => ?_) (fun c_2 => ?_)
    · skip
      refine lv_iconst (v := 1) hx hb dX5_partsOf_15 (by decide) ?_
      refine bw_Qe hQ ?_
      have hpost : (1 : Int32) = nI (prt lw.toInt) := by
        unfold prt
        repeat (first | rw [if_pos (by omega)] | rw [if_neg (by omega)])
        try rfl
      exact W.iret (v := 1) hx hb hr (fun t9 ht hW => ⟨_, rfl, hpost, by rw [ht]⟩) (fun q h => by cases h) dX5_partsOf_16
    · skip
      refine lv_iconst (v := 2) hx hb dX5_partsOf_11 (by decide) ?_
      refine lv_goto (tgt := 16) hx hb dX5_partsOf_12 (by decide) ?_
      refine bw_Qe hQ ?_
      have hpost : (2 : Int32) = nI (prt lw.toInt) := by
        unfold prt
        repeat (first | rw [if_pos (by omega)] | rw [if_neg (by omega)])
        try rfl
      exact W.iret (v := 2) hx hb hr (fun t9 ht hW => ⟨_, rfl, hpost, by rw [ht]⟩) (fun q h => by cases h) dX5_partsOf_16

set_option maxHeartbeats 4000000 in
set_option maxRecDepth 100000 in
theorem c_X5_mostOf (l : Launch) (dC : Nat → ClassId) (dI : Nat → Nat → Nat) (cy : Nat → ClassId) (lw : Int32) (pa : Nat) (hpa : pa ≤ 2) : Met l yX5_mostOf wsX5_mostOf ({ frames := 0, cells := 0, slots := 0, locals := 0 }) (va_Pc [.int lw, .int (nI pa)] (fun _ => True)) (vp_Si (fun r => r.toInt = mst lw.toInt pa)) 0 0 (fun _ => False) := by
  refine Met.ofW (cc := cX5_mostOf) (maxL := 2) (ret := (some .int)) (by decide) rfl ?_
  intro pp ee ss mm args below meth cc0 s₁ B hml hv
  obtain ⟨rfl, -⟩ := hv
  have hx := B.exec
  have hb := B.bytes
  have hr := B.returns
  have hts := atoms_spec (ws := wsX5_mostOf) B.pre
  have hown : ss.vm.findClass RX5 = some mm.cls := findClass_of_methodNamed B.named
  have hlocks := B.notSynchronized
  have hl := lv_entry ([.int lw, .int (nI pa)]) (n := 2) (Nat.le_of_ble_eq_true rfl)
  rw [lg_entry_eq]
  generalize (lg_sl ([.int lw, .int (nI pa)]) ++ List.replicate (2 - (lg_sl ([.int lw, .int (nI pa)])).length) Slot.unset).toArray = ls at hl ⊢
  have hl : lv_has ls 2 [(0, .int lw), (1, .int (nI pa))] := hl
  refine bw_Q (fun Q hQ => ?_)
  change W pp l ee { frames := 0, cells := 0, slots := 0, locals := 0 } ss mm _ below meth cc0 ss.heap [] 0 0 Q (F0 mm 0 ls [])
  refine lv_iload_n hx hb dX5_mostOf_0 rfl (lv_at hl 0 rfl) ?_
  rcases (show (lw.toInt < 2 ∨ 7 < lw.toInt) ∨ lw.toInt = 2 ∨ lw.toInt = 3 ∨ lw.toInt = 4 ∨ lw.toInt = 5 ∨ lw.toInt = 6 ∨ lw.toInt = 7 by omega) with c_1 | c_1 | c_1 | c_1 | c_1 | c_1 | c_1
  · skip
    refine lv_tableOut (tgt := 70) hx hb dX5_mostOf_1 (by have q9 : lw.toInt = lw.toInt := rfl; omega) (by decide) ?_
    refine lv_sipush (v := 999) hx hb dX5_mostOf_70 (by decide) ?_
    refine bw_Qe hQ ?_
    have hpost : (999 : Int32).toInt = mst lw.toInt pa := by
      unfold mst
      repeat (first | rw [if_pos (by omega)] | rw [if_neg (by omega)])
      try rfl
    exact W.iret (v := 999) hx hb hr (fun t9 ht hW => ⟨_, rfl, hpost, by rw [ht]⟩) (fun q h => by cases h) dX5_mostOf_73
  · skip
    refine lv_tableIn (tgt := 40) (off := 39) hx hb dX5_mostOf_1 (by have q9 : lw.toInt = lw.toInt := rfl; omega) (by have q9 : lw.toInt = lw.toInt := rfl; omega) (by rw [show lw.toInt = lw.toInt from rfl, c_1]; rfl) (by decide) ?_
    refine lv_bipush (v := 6) hx hb dX5_mostOf_40 (by decide) ?_
    refine bw_Qe hQ ?_
    have hpost : (6 : Int32).toInt = mst lw.toInt pa := by
      unfold mst
      repeat (first | rw [if_pos (by omega)] | rw [if_neg (by omega)])
      try rfl
    exact W.iret (v := 6) hx hb hr (fun t9 ht hW => ⟨_, rfl, hpost, by rw [ht]⟩) (fun q h => by cases h) dX5_mostOf_42
  · skip
    refine lv_tableIn (tgt := 70) (off := 69) hx hb dX5_mostOf_1 (by have q9 : lw.toInt = lw.toInt := rfl; omega) (by have q9 : lw.toInt = lw.toInt := rfl; omega) (by rw [show lw.toInt = lw.toInt from rfl, c_1]; rfl) (by decide) ?_
    refine lv_sipush (v := 999) hx hb dX5_mostOf_70 (by decide) ?_
    refine bw_Qe hQ ?_
    have hpost : (999 : Int32).toInt = mst lw.toInt pa := by
      unfold mst
      repeat (first | rw [if_pos (by omega)] | rw [if_neg (by omega)])
      try rfl
    exact W.iret (v := 999) hx hb hr (fun t9 ht hW => ⟨_, rfl, hpost, by rw [ht]⟩) (fun q h => by cases h) dX5_mostOf_73
  · skip
    refine lv_tableIn (tgt := 70) (off := 69) hx hb dX5_mostOf_1 (by have q9 : lw.toInt = lw.toInt := rfl; omega) (by have q9 : lw.toInt = lw.toInt := rfl; omega) (by rw [show lw.toInt = lw.toInt from rfl, c_1]; rfl) (by decide) ?_
    refine lv_sipush (v := 999) hx hb dX5_mostOf_70 (by decide) ?_
    refine bw_Qe hQ ?_
    have hpost : (999 : Int32).toInt = mst lw.toInt pa := by
      unfold mst
      repeat (first | rw [if_pos (by omega)] | rw [if_neg (by omega)])
      try rfl
    exact W.iret (v := 999) hx hb hr (fun t9 ht hW => ⟨_, rfl, hpost, by rw [ht]⟩) (fun q h => by cases h) dX5_mostOf_73
  · skip
    refine lv_tableIn (tgt := 43) (off := 42) hx hb dX5_mostOf_1 (by have q9 : lw.toInt = lw.toInt := rfl; omega) (by have q9 : lw.toInt = lw.toInt := rfl; omega) (by rw [show lw.toInt = lw.toInt from rfl, c_1]; rfl) (by decide) ?_
    refine lv_iload_n hx hb dX5_mostOf_43 rfl (lv_at hl 1 rfl) ?_
    refine bw_if_ne (tgt := 52) (a := ((pa : Nat) : Int)) hx hb dX5_mostOf_44 (by decide) (nI_toInt (by omega)) (fun c_2 => ?_) (fun c_2 => ?_)
    · skip
      refine lv_bipush (v := 100) hx hb dX5_mostOf_52 (by decide) ?_
      refine bw_Qe hQ ?_
      have hpost : (100 : Int32).toInt = mst lw.toInt pa := by
        unfold mst
        repeat (first | rw [if_pos (by omega)] | rw [if_neg (by omega)])
        try rfl
      exact W.iret (v := 100) hx hb hr (fun t9 ht hW => ⟨_, rfl, hpost, by rw [ht]⟩) (fun q h => by cases h) dX5_mostOf_54
    · skip
      refine lv_bipush (v := 99) hx hb dX5_mostOf_47 (by decide) ?_
      refine lv_goto (tgt := 54) hx hb dX5_mostOf_49 (by decide) ?_
      refine bw_Qe hQ ?_
      have hpost : (99 : Int32).toInt = mst lw.toInt pa := by
        unfold mst
        repeat (first | rw [if_pos (by omega)] | rw [if_neg (by omega)])
        try rfl
      exact W.iret (v := 99) hx hb hr (fun t9 ht hW => ⟨_, rfl, hpost, by rw [ht]⟩) (fun q h => by cases h) dX5_mostOf_54
  · skip
    refine lv_tableIn (tgt := 55) (off := 54) hx hb dX5_mostOf_1 (by have q9 : lw.toInt = lw.toInt := rfl; omega) (by have q9 : lw.toInt = lw.toInt := rfl; omega) (by rw [show lw.toInt = lw.toInt from rfl, c_1]; rfl) (by decide) ?_
    refine lv_bipush (v := 100) hx hb dX5_mostOf_55 (by decide) ?_
    refine bw_Qe hQ ?_
    have hpost : (100 : Int32).toInt = mst lw.toInt pa := by
      unfold mst
      repeat (first | rw [if_pos (by omega)] | rw [if_neg (by omega)])
      try rfl
    exact W.iret (v := 100) hx hb hr (fun t9 ht hW => ⟨_, rfl, hpost, by rw [ht]⟩) (fun q h => by cases h) dX5_mostOf_57
  · skip
    refine lv_tableIn (tgt := 58) (off := 57) hx hb dX5_mostOf_1 (by have q9 : lw.toInt = lw.toInt := rfl; omega) (by have q9 : lw.toInt = lw.toInt := rfl; omega) (by rw [show lw.toInt = lw.toInt from rfl, c_1]; rfl) (by decide) ?_
    refine lv_iload_n hx hb dX5_mostOf_58 rfl (lv_at hl 1 rfl) ?_
    refine bw_if_ne (tgt := 67) (a := ((pa : Nat) : Int)) hx hb dX5_mostOf_59 (by decide) (nI_toInt (by omega)) (fun c_3 => ?_) (fun c_3 => ?_)
    · skip
      refine lv_bipush (v := 99) hx hb dX5_mostOf_67 (by decide) ?_
      refine bw_Qe hQ ?_
      have hpost : (99 : Int32).toInt = mst lw.toInt pa := by
        unfold mst
        repeat (first | rw [if_pos (by omega)] | rw [if_neg (by omega)])
        try rfl
      exact W.iret (v := 99) hx hb hr (fun t9 ht hW => ⟨_, rfl, hpost, by rw [ht]⟩) (fun q h => by cases h) dX5_mostOf_69
    · skip
      refine lv_bipush (v := 7) hx hb dX5_mostOf_62 (by decide) ?_
      refine lv_goto (tgt := 69) hx hb dX5_mostOf_64 (by decide) ?_
      refine bw_Qe hQ ?_
      have hpost : (7 : Int32).toInt = mst lw.toInt pa := by
        unfold mst
        repeat (first | rw [if_pos (by omega)] | rw [if_neg (by omega)])
        try rfl
      exact W.iret (v := 7) hx hb hr (fun t9 ht hW => ⟨_, rfl, hpost, by rw [ht]⟩) (fun q h => by cases h) dX5_mostOf_69

set_option maxHeartbeats 4000000 in
set_option maxRecDepth 100000 in
theorem c_X5_placeOf (l : Launch) (dC : Nat → ClassId) (dI : Nat → Nat → Nat) (cy : Nat → ClassId) (ad : Nat → Nat) (rl : Nat) (fk : Int32) (fp : Int32) (ts : Nat) (te : Nat) (lw : Int32) (pa : Nat) (rt : Int32) (tw : Nat) (tm : Nat) (th : Nat) (hpa : pa ≤ 2) (hlw : 0 ≤ lw.toInt ∧ lw.toInt ≤ 7) (hth : lw.toInt = 7 → 1 ≤ pa → rt = nI th ∧ th < 8) (h70 : lw.toInt = 7 → 1 ≤ pa) : Met l yX5_placeOf wsX5_placeOf ({ frames := 0, cells := 0, slots := 0, locals := 0 }) (va_Pc [.ref (ad 27), .int lw, .int (nI pa)] (fun U => va_P (dC, dI) vwCl [(ad 27, .inr (5, [.ref (ad 28), .int (nI rl), .int fk, .int fp, .ref (ad 1), .int (nI ts), .int (nI te), .int lw, .int (nI pa), .int rt, .int (nI tw), .int (nI tm)]))] U.heap ∧ va_K (dC, dI) vwCl (tyL cy) U)) (vp_Si (fun r => r = nI (plc lw.toInt pa th))) 0 0 (fun _ => False) := by
  refine Met.ofW (cc := cX5_placeOf) (maxL := 3) (ret := (some .int)) (by decide) rfl ?_
  intro pp ee ss mm args below meth cc0 s₁ B hml hv
  obtain ⟨rfl, hP, hK⟩ := hv
  have hx := B.exec
  have hb := B.bytes
  have hr := B.returns
  have hts := atoms_spec (ws := wsX5_placeOf) B.pre
  have hown : ss.vm.findClass RX5 = some mm.cls := findClass_of_methodNamed B.named
  have hlocks := B.notSynchronized
  have hL0 := hts (.fieldLink RX5 119 "HereLived$RuleReader" "theme" "I") (by decide +kernel)
  have hiX5 : ∀ w ∈ wsX50, w ∈ wsX5_placeOf := by decide +kernel
  have hl := lv_entry ([.ref (ad 27), .int lw, .int (nI pa)]) (n := 3) (Nat.le_of_ble_eq_true rfl)
  rw [lg_entry_eq]
  generalize (lg_sl ([.ref (ad 27), .int lw, .int (nI pa)]) ++ List.replicate (3 - (lg_sl ([.ref (ad 27), .int lw, .int (nI pa)])).length) Slot.unset).toArray = ls at hl ⊢
  have hl : lv_has ls 3 [(0, .ref (ad 27)), (1, .int lw), (2, .int (nI pa))] := hl
  refine bw_Q (fun Q hQ => ?_)
  change W pp l ee { frames := 0, cells := 0, slots := 0, locals := 0 } ss mm _ below meth cc0 ss.heap [] 0 0 Q (F0 mm 0 ls [])
  refine lv_iload_n hx hb dX5_placeOf_0 rfl (lv_at hl 1 rfl) ?_
  rcases (show (lw.toInt < 5 ∨ 7 < lw.toInt) ∨ lw.toInt = 5 ∨ lw.toInt = 6 ∨ lw.toInt = 7 by omega) with c_1 | c_1 | c_1 | c_1
  · skip
    refine lv_tableOut (tgt := 50) hx hb dX5_placeOf_1 (by have q9 : lw.toInt = lw.toInt := rfl; omega) (by decide) ?_
    refine lv_iload_n hx hb dX5_placeOf_50 rfl (lv_at hl 1 rfl) ?_
    refine bw_Qe hQ ?_
    have hpost : lw = nI (plc lw.toInt pa th) := by
      unfold plc
      repeat (first | rw [if_pos (by omega)] | rw [if_neg (by omega)])
      exact nI_back (by omega)
    exact W.iret (v := lw) hx hb hr (fun t9 ht hW => ⟨_, rfl, hpost, by rw [ht]⟩) (fun q h => by cases h) dX5_placeOf_51
  · skip
    refine lv_tableIn (tgt := 28) (off := 27) hx hb dX5_placeOf_1 (by have q9 : lw.toInt = lw.toInt := rfl; omega) (by have q9 : lw.toInt = lw.toInt := rfl; omega) (by rw [show lw.toInt = lw.toInt from rfl, c_1]; rfl) (by decide) ?_
    refine lv_iload_n hx hb dX5_placeOf_28 rfl (lv_at hl 2 rfl) ?_
    refine bw_if_ne (tgt := 36) (a := ((pa : Nat) : Int)) hx hb dX5_placeOf_29 (by decide) (nI_toInt (by omega)) (fun c_2 => ?_) (fun c_2 => ?_)
    · skip
      refine lv_bipush (v := 6) hx hb dX5_placeOf_36 (by decide) ?_
      refine bw_Qe hQ ?_
      have hpost : (6 : Int32) = nI (plc lw.toInt pa th) := by
        unfold plc
        repeat (first | rw [if_pos (by omega)] | rw [if_neg (by omega)])
        try rfl
      exact W.iret (v := 6) hx hb hr (fun t9 ht hW => ⟨_, rfl, hpost, by rw [ht]⟩) (fun q h => by cases h) dX5_placeOf_38
    · skip
      refine lv_iconst (v := 5) hx hb dX5_placeOf_32 (by decide) ?_
      refine lv_goto (tgt := 38) hx hb dX5_placeOf_33 (by decide) ?_
      refine bw_Qe hQ ?_
      have hpost : (5 : Int32) = nI (plc lw.toInt pa th) := by
        unfold plc
        repeat (first | rw [if_pos (by omega)] | rw [if_neg (by omega)])
        try rfl
      exact W.iret (v := 5) hx hb hr (fun t9 ht hW => ⟨_, rfl, hpost, by rw [ht]⟩) (fun q h => by cases h) dX5_placeOf_38
  · skip
    refine lv_tableIn (tgt := 39) (off := 38) hx hb dX5_placeOf_1 (by have q9 : lw.toInt = lw.toInt := rfl; omega) (by have q9 : lw.toInt = lw.toInt := rfl; omega) (by rw [show lw.toInt = lw.toInt from rfl, c_1]; rfl) (by decide) ?_
    refine lv_bipush (v := 7) hx hb dX5_placeOf_39 (by decide) ?_
    refine bw_Qe hQ ?_
    have hpost : (7 : Int32) = nI (plc lw.toInt pa th) := by
      unfold plc
      repeat (first | rw [if_pos (by omega)] | rw [if_neg (by omega)])
      try rfl
    exact W.iret (v := 7) hx hb hr (fun t9 ht hW => ⟨_, rfl, hpost, by rw [ht]⟩) (fun q h => by cases h) dX5_placeOf_41
  · skip
    refine lv_tableIn (tgt := 42) (off := 41) hx hb dX5_placeOf_1 (by have q9 : lw.toInt = lw.toInt := rfl; omega) (by have q9 : lw.toInt = lw.toInt := rfl; omega) (by rw [show lw.toInt = lw.toInt from rfl, c_1]; rfl) (by decide) ?_
    refine lv_bipush (v := 10) hx hb dX5_placeOf_42 (by decide) ?_
    refine lv_aload_n hx hb dX5_placeOf_44 rfl (lv_at hl 0 rfl) ?_
    refine va_get (D := (dC, dI)) (ci := 5) (v := .int rt) (C := RX5) (T := TX5) (N := 12) hx hb hts hiX5 hown hK hP 0 rfl rfl 9 (by decide) hL0 (fun _ h9 => h9) rfl dX5_placeOf_45 ?_
    refine bw_re (show rt = nI th from (hth (by omega) (h70 (by omega))).1) ?_
    refine lv_iadd hx hb dX5_placeOf_48 ?_
    refine bw_re (show 10 + (nI th) = nI (10 + th) from nI_add (10) (th)) ?_
    refine bw_Qe hQ ?_
    have hpost : (nI (10 + th)) = nI (plc lw.toInt pa th) := by
      unfold plc
      repeat (first | rw [if_pos (by omega)] | rw [if_neg (by omega)])
      try rfl
    exact W.iret (v := nI (10 + th)) hx hb hr (fun t9 ht hW => ⟨_, rfl, hpost, by rw [ht]⟩) (fun q h => by cases h) dX5_placeOf_49

set_option maxHeartbeats 4000000 in
set_option maxRecDepth 100000 in
theorem c_X5_lineWordText (l : Launch) (dC : Nat → ClassId) (dI : Nat → Nat → Nat) (cy : Nat → ClassId) (sa sv : Nat → Nat) (fv : Value) (w : Nat) (hw : w < 8) : Met l yX5_lineWordText wsX5_lineWordText ({ frames := 0, cells := 0, slots := 0, locals := 0 }) (va_Pc [.int (nI w)] (fun U => va_P (dC, dI) vwCl [] U.heap ∧ va_K (dC, dI) vwCl (tyL cy) U ∧ sW sa sv fv (fun _ => False) U U.heap)) (bw_Sr (fun r => r = sa w)) 0 0 (fun _ => False) := by
  refine Met.ofW (cc := cX5_lineWordText) (maxL := 1) (ret := (some (.object "java/lang/String"))) (by decide) rfl ?_
  intro pp ee ss mm args below meth cc0 s₁ B hml hv
  obtain ⟨rfl, hP, hK, hE⟩ := hv
  have hx := B.exec
  have hb := B.bytes
  have hr := B.returns
  have hts := atoms_spec (ws := wsX5_lineWordText) B.pre
  have hown : ss.vm.findClass RX5 = some mm.cls := findClass_of_methodNamed B.named
  have hlocks := B.notSynchronized
  have hl := lv_entry ([.int (nI w)]) (n := 1) (Nat.le_of_ble_eq_true rfl)
  rw [lg_entry_eq]
  generalize (lg_sl ([.int (nI w)]) ++ List.replicate (1 - (lg_sl ([.int (nI w)])).length) Slot.unset).toArray = ls at hl ⊢
  have hl : lv_has ls 1 [(0, .int (nI w))] := hl
  refine bw_Q (fun Q hQ => ?_)
  change W pp l ee { frames := 0, cells := 0, slots := 0, locals := 0 } ss mm _ below meth cc0 ss.heap [] 0 0 Q (F0 mm 0 ls [])
  refine lv_iload_n hx hb dX5_lineWordText_0 rfl (lv_at hl 0 rfl) ?_
  rcases (show (((w : Nat) : Int) < 0 ∨ 6 < ((w : Nat) : Int)) ∨ ((w : Nat) : Int) = 0 ∨ ((w : Nat) : Int) = 1 ∨ ((w : Nat) : Int) = 2 ∨ ((w : Nat) : Int) = 3 ∨ ((w : Nat) : Int) = 4 ∨ ((w : Nat) : Int) = 5 ∨ ((w : Nat) : Int) = 6 by omega) with c_1 | c_1 | c_1 | c_1 | c_1 | c_1 | c_1 | c_1
  · skip
    refine lv_tableOut (tgt := 65) hx hb dX5_lineWordText_1 (by have q9 : (nI w).toInt = ((w : Nat) : Int) := (nI_toInt (by omega)); omega) (by decide) ?_
    refine va_ldcS hx hb hown (show vk_R RX5 139 "theme" (sa 7) ss from (hE.1 7 (by decide)).1) dX5_lineWordText_65 ?_
    refine bw_Qe hQ ?_
    have hpost : (sa 7) = sa w := by
      exact congrArg sa (by omega)
    exact W.aret hx hb hr (Or.inl ⟨_, rfl⟩) (Or.inr ⟨_, rfl⟩) (fun t9 ht hW => ⟨_, rfl, hpost, by rw [ht]⟩) (fun q h => by cases h) dX5_lineWordText_67
  · skip
    refine lv_tableIn (tgt := 44) (off := 43) hx hb dX5_lineWordText_1 (by have q9 : (nI w).toInt = ((w : Nat) : Int) := (nI_toInt (by omega)); omega) (by have q9 : (nI w).toInt = ((w : Nat) : Int) := (nI_toInt (by omega)); omega) (by rw [show (nI w).toInt = ((w : Nat) : Int) from (nI_toInt (by omega)), c_1]; rfl) (by decide) ?_
    refine va_ldcS hx hb hown (show vk_R RX5 125 "dead" (sa 0) ss from (hE.1 0 (by decide)).1) dX5_lineWordText_44 ?_
    refine bw_Qe hQ ?_
    have hpost : (sa 0) = sa w := by
      exact congrArg sa (by omega)
    exact W.aret hx hb hr (Or.inl ⟨_, rfl⟩) (Or.inr ⟨_, rfl⟩) (fun t9 ht hW => ⟨_, rfl, hpost, by rw [ht]⟩) (fun q h => by cases h) dX5_lineWordText_46
  · skip
    refine lv_tableIn (tgt := 47) (off := 46) hx hb dX5_lineWordText_1 (by have q9 : (nI w).toInt = ((w : Nat) : Int) := (nI_toInt (by omega)); omega) (by have q9 : (nI w).toInt = ((w : Nat) : Int) := (nI_toInt (by omega)); omega) (by rw [show (nI w).toInt = ((w : Nat) : Int) from (nI_toInt (by omega)), c_1]; rfl) (by decide) ?_
    refine va_ldcS hx hb hown (show vk_R RX5 127 "lived" (sa 1) ss from (hE.1 1 (by decide)).1) dX5_lineWordText_47 ?_
    refine bw_Qe hQ ?_
    have hpost : (sa 1) = sa w := by
      exact congrArg sa (by omega)
    exact W.aret hx hb hr (Or.inl ⟨_, rfl⟩) (Or.inr ⟨_, rfl⟩) (fun t9 ht hW => ⟨_, rfl, hpost, by rw [ht]⟩) (fun q h => by cases h) dX5_lineWordText_49
  · skip
    refine lv_tableIn (tgt := 50) (off := 49) hx hb dX5_lineWordText_1 (by have q9 : (nI w).toInt = ((w : Nat) : Int) := (nI_toInt (by omega)); omega) (by have q9 : (nI w).toInt = ((w : Nat) : Int) := (nI_toInt (by omega)); omega) (by rw [show (nI w).toInt = ((w : Nat) : Int) from (nI_toInt (by omega)), c_1]; rfl) (by decide) ?_
    refine va_ldcS hx hb hown (show vk_R RX5 129 "sources" (sa 2) ss from (hE.1 2 (by decide)).1) dX5_lineWordText_50 ?_
    refine bw_Qe hQ ?_
    have hpost : (sa 2) = sa w := by
      exact congrArg sa (by omega)
    exact W.aret hx hb hr (Or.inl ⟨_, rfl⟩) (Or.inr ⟨_, rfl⟩) (fun t9 ht hW => ⟨_, rfl, hpost, by rw [ht]⟩) (fun q h => by cases h) dX5_lineWordText_52
  · skip
    refine lv_tableIn (tgt := 53) (off := 52) hx hb dX5_lineWordText_1 (by have q9 : (nI w).toInt = ((w : Nat) : Int) := (nI_toInt (by omega)); omega) (by have q9 : (nI w).toInt = ((w : Nat) : Int) := (nI_toInt (by omega)); omega) (by rw [show (nI w).toInt = ((w : Nat) : Int) from (nI_toInt (by omega)), c_1]; rfl) (by decide) ?_
    refine va_ldcS hx hb hown (show vk_R RX5 131 "span" (sa 3) ss from (hE.1 3 (by decide)).1) dX5_lineWordText_53 ?_
    refine bw_Qe hQ ?_
    have hpost : (sa 3) = sa w := by
      exact congrArg sa (by omega)
    exact W.aret hx hb hr (Or.inl ⟨_, rfl⟩) (Or.inr ⟨_, rfl⟩) (fun t9 ht hW => ⟨_, rfl, hpost, by rw [ht]⟩) (fun q h => by cases h) dX5_lineWordText_55
  · skip
    refine lv_tableIn (tgt := 56) (off := 55) hx hb dX5_lineWordText_1 (by have q9 : (nI w).toInt = ((w : Nat) : Int) := (nI_toInt (by omega)); omega) (by have q9 : (nI w).toInt = ((w : Nat) : Int) := (nI_toInt (by omega)); omega) (by rw [show (nI w).toInt = ((w : Nat) : Int) from (nI_toInt (by omega)), c_1]; rfl) (by decide) ?_
    refine va_ldcS hx hb hown (show vk_R RX5 133 "one" (sa 4) ss from (hE.1 4 (by decide)).1) dX5_lineWordText_56 ?_
    refine bw_Qe hQ ?_
    have hpost : (sa 4) = sa w := by
      exact congrArg sa (by omega)
    exact W.aret hx hb hr (Or.inl ⟨_, rfl⟩) (Or.inr ⟨_, rfl⟩) (fun t9 ht hW => ⟨_, rfl, hpost, by rw [ht]⟩) (fun q h => by cases h) dX5_lineWordText_58
  · skip
    refine lv_tableIn (tgt := 59) (off := 58) hx hb dX5_lineWordText_1 (by have q9 : (nI w).toInt = ((w : Nat) : Int) := (nI_toInt (by omega)); omega) (by have q9 : (nI w).toInt = ((w : Nat) : Int) := (nI_toInt (by omega)); omega) (by rw [show (nI w).toInt = ((w : Nat) : Int) from (nI_toInt (by omega)), c_1]; rfl) (by decide) ?_
    refine va_ldcS hx hb hown (show vk_R RX5 135 "votes" (sa 5) ss from (hE.1 5 (by decide)).1) dX5_lineWordText_59 ?_
    refine bw_Qe hQ ?_
    have hpost : (sa 5) = sa w := by
      exact congrArg sa (by omega)
    exact W.aret hx hb hr (Or.inl ⟨_, rfl⟩) (Or.inr ⟨_, rfl⟩) (fun t9 ht hW => ⟨_, rfl, hpost, by rw [ht]⟩) (fun q h => by cases h) dX5_lineWordText_61
  · skip
    refine lv_tableIn (tgt := 62) (off := 61) hx hb dX5_lineWordText_1 (by have q9 : (nI w).toInt = ((w : Nat) : Int) := (nI_toInt (by omega)); omega) (by have q9 : (nI w).toInt = ((w : Nat) : Int) := (nI_toInt (by omega)); omega) (by rw [show (nI w).toInt = ((w : Nat) : Int) from (nI_toInt (by omega)), c_1]; rfl) (by decide) ?_
    refine va_ldcS hx hb hown (show vk_R RX5 137 "down" (sa 6) ss from (hE.1 6 (by decide)).1) dX5_lineWordText_62 ?_
    refine bw_Qe hQ ?_
    have hpost : (sa 6) = sa w := by
      exact congrArg sa (by omega)
    exact W.aret hx hb hr (Or.inl ⟨_, rfl⟩) (Or.inr ⟨_, rfl⟩) (fun t9 ht hW => ⟨_, rfl, hpost, by rw [ht]⟩) (fun q h => by cases h) dX5_lineWordText_64

set_option maxHeartbeats 4000000 in
set_option maxRecDepth 100000 in
theorem c_X5_findToken (l : Launch) (dC : Nat → ClassId) (dI : Nat → Nat → Nat) (cy : Nat → ClassId) (ad : Nat → Nat) (rl : Nat) (fk : Int32) (fp : Int32) (ts : Nat) (te : Nat) (lw : Int32) (pa : Nat) (rt : Int32) (tw : Nat) (tm : Nat) (tn : Nat) (tb : Nat → Int32) (sz : Nat) (hte1 : te ≤ tn) (htn : tn ≤ 600) : Met l yX5_findToken wsX5_findToken ({ frames := 1, cells := 0, slots := 0, locals := 20 }) (va_Pc [.ref (ad 27)] (fun U => U.heap.size = sz ∧ va_P (dC, dI) vwCl [(ad 27, .inr (5, [.ref (ad 28), .int (nI rl), .int fk, .int fp, .ref (ad 1), .int (nI ts), .int (nI te), .int lw, .int (nI pa), .int rt, .int (nI tw), .int (nI tm)])), (ad 1, .inr (8, [.ref (ad 2), .int (nI tn)])), (ad 2, .inl (cy 0, 600, .inl tb))] U.heap ∧ va_K (dC, dI) vwCl (tyL cy) U ∧ va_D (fun _ => True) [(ad 27, .inr (5, [.ref (ad 28), .int (nI rl), .int fk, .int fp, .ref (ad 1), .int (nI ts), .int (nI te), .int lw, .int (nI pa), .int rt, .int (nI tw), .int (nI tm)])), (ad 1, .inr (8, [.ref (ad 2), .int (nI tn)])), (ad 2, .inl (cy 0, 600, .inl tb))] ∧ va_Nw (.methodLinkNest RX5 76 yX10_isDigit "HereLived") U ∧ va_Nw (.methodLinkNest RX5 73 yX10_isSmallLetter "HereLived") U ∧ va_Nw (.methodLinkNest RX5 69 yX10_isBlank "HereLived") U)) (va_Qv (S := Nat × Nat) (fun u => match u with | (ts2, te2) => tokP tb tn te ts2 te2) (fun u => match u with | (ts2, te2) => fun t => va_P (dC, dI) vwCl [(ad 27, .inr (5, [.ref (ad 28), .int (nI rl), .int fk, .int fp, .ref (ad 1), .int (nI ts2), .int (nI te2), .int lw, .int (nI pa), .int rt, .int (nI tw), .int (nI tm)])), (ad 1, .inr (8, [.ref (ad 2), .int (nI tn)])), (ad 2, .inl (cy 0, 600, .inl tb))] t.heap ∧ va_K (dC, dI) vwCl (tyL cy) t ∧ va_D (va_A [(ad 27, .inr (5, [.ref (ad 28), .int (nI rl), .int fk, .int fp, .ref (ad 1), .int (nI ts), .int (nI te), .int lw, .int (nI pa), .int rt, .int (nI tw), .int (nI tm)])), (ad 1, .inr (8, [.ref (ad 2), .int (nI tn)])), (ad 2, .inl (cy 0, 600, .inl tb))] sz) [(ad 27, .inr (5, [.ref (ad 28), .int (nI rl), .int fk, .int fp, .ref (ad 1), .int (nI ts2), .int (nI te2), .int lw, .int (nI pa), .int rt, .int (nI tw), .int (nI tm)])), (ad 1, .inr (8, [.ref (ad 2), .int (nI tn)])), (ad 2, .inl (cy 0, 600, .inl tb))]) (va_A [(ad 27, .inr (5, [.ref (ad 28), .int (nI rl), .int fk, .int fp, .ref (ad 1), .int (nI ts), .int (nI te), .int lw, .int (nI pa), .int rt, .int (nI tw), .int (nI tm)])), (ad 1, .inr (8, [.ref (ad 2), .int (nI tn)])), (ad 2, .inl (cy 0, 600, .inl tb))] sz)) 0 0 (va_A [(ad 27, .inr (5, [.ref (ad 28), .int (nI rl), .int fk, .int fp, .ref (ad 1), .int (nI ts), .int (nI te), .int lw, .int (nI pa), .int rt, .int (nI tw), .int (nI tm)])), (ad 1, .inr (8, [.ref (ad 2), .int (nI tn)])), (ad 2, .inl (cy 0, 600, .inl tb))] sz) := by
  refine Met.ofW (cc := cX5_findToken) (maxL := 2) (ret := none) (by decide) rfl ?_
  intro pp ee ss mm args below meth cc0 s₁ B hml hv
  obtain ⟨rfl, hsz, hP, hK, hD0, hn0, hn1, hn2⟩ := hv
  have hx := B.exec
  have hb := B.bytes
  have hr := B.returns
  have hts := atoms_spec (ws := wsX5_findToken) B.pre
  have hown : ss.vm.findClass RX5 = some mm.cls := findClass_of_methodNamed B.named
  have hlocks := B.notSynchronized
  have hL0 := hts (.fieldLink RX5 47 "HereLived$RuleReader" "tokenEnd" "I") (by decide +kernel)
  have hL1 := hts (.fieldLink RX5 9 "HereLived$RuleReader" "tape" "LHereLived$Tape;") (by decide +kernel)
  have hL2 := hts (.fieldLink RX5 50 "HereLived$Tape" "length" "I") (by decide +kernel)
  have hL3 := hts (.fieldLink RX5 58 "HereLived$RuleReader" "tokenStart" "I") (by decide +kernel)
  have hL4 := hts (.fieldLink RX5 65 "HereLived$Tape" "bytes" "[I") (by decide +kernel)
  have hL5 := hts (.initialized RX10) (by decide +kernel)
  have hL6 := hts (.static yX10_isDigit) (by decide +kernel)
  have hL7 := hts (.static yX10_isSmallLetter) (by decide +kernel)
  have hL8 := hts (.static yX10_isBlank) (by decide +kernel)
  have hiX5 : ∀ w ∈ wsX50, w ∈ wsX5_findToken := by decide +kernel
  have hiX8 : ∀ w ∈ wsX80, w ∈ wsX5_findToken := by decide +kernel
  subst hsz
  have hD := hD0.self (sz := ss.heap.size)
  generalize hAe : va_A [(ad 27, .inr (5, [.ref (ad 28), .int (nI rl), .int fk, .int fp, .ref (ad 1), .int (nI ts), .int (nI te), .int lw, .int (nI pa), .int rt, .int (nI tw), .int (nI tm)])), (ad 1, .inr (8, [.ref (ad 2), .int (nI tn)])), (ad 2, .inl (cy 0, 600, .inl tb))] ss.heap.size = A at hD ⊢
  have hA : ∀ q : Nat, ss.heap.size ≤ q → A q := fun q h => by rw [← hAe]; exact Or.inr h
  have hS : va_S A ss.heap ss.heap [] := va_S.rf
  have hP : va_P (dC, dI) vwCl [(ad 27, .inr (5, [.ref (ad 28), .int (nI rl), .int fk, .int fp, .ref (ad 1), .int (nI ts), .int (nI te), .int lw, .int (nI pa), .int rt, .int (nI tw), .int (nI tm)])), (ad 1, .inr (8, [.ref (ad 2), .int (nI tn)])), (ad 2, .inl (cy 0, 600, .inl tb))] ss.heap := hP
  have hl := lv_entry ([.ref (ad 27)]) (n := 2) (Nat.le_of_ble_eq_true rfl)
  rw [lg_entry_eq]
  generalize (lg_sl ([.ref (ad 27)]) ++ List.replicate (2 - (lg_sl ([.ref (ad 27)])).length) Slot.unset).toArray = ls at hl ⊢
  have hl : lv_has ls 2 [(0, .ref (ad 27))] := hl
  refine bw_Q (fun Q hQ => ?_)
  refine bw_H0 (fun H locs eH eL => ?_)
  have hS : va_S A ss.heap H locs := by rw [eH, eL]; exact hS
  have hP : va_P (dC, dI) vwCl [(ad 27, .inr (5, [.ref (ad 28), .int (nI rl), .int fk, .int fp, .ref (ad 1), .int (nI ts), .int (nI te), .int lw, .int (nI pa), .int rt, .int (nI tw), .int (nI tm)])), (ad 1, .inr (8, [.ref (ad 2), .int (nI tn)])), (ad 2, .inl (cy 0, 600, .inl tb))] H := by rw [eH]; exact hP
  change W pp l ee { frames := 1, cells := 0, slots := 0, locals := 20 } ss mm _ below meth cc0 H locs 0 0 Q (F0 mm 0 ls [])
  refine lv_aload_n hx hb dX5_findToken_0 rfl (lv_at hl 0 rfl) ?_
  refine va_get (D := (dC, dI)) (ci := 5) (v := .int (nI te)) (C := RX5) (T := TX5) (N := 12) hx hb hts hiX5 hown hK hP 0 rfl rfl 6 (by decide) hL0 (fun _ h9 => h9) rfl dX5_findToken_1 ?_
  refine lv_istore_n (lv' := [(1, .int (nI te)), (0, .ref (ad 27))]) hx hb dX5_findToken_4 rfl hl (by decide) rfl (fun ls hl => ?_)
  have L_5 : ∀ (n9 : Nat), ∀ (i : Nat), (tn - i) < n9 → (i ≤ tn) → (toRun (bBl tb tn) te i) → ∀ (H : Heap) (locs : List Loc), va_P (dC, dI) vwCl [(ad 27, .inr (5, [.ref (ad 28), .int (nI rl), .int fk, .int fp, .ref (ad 1), .int (nI ts), .int (nI te), .int lw, .int (nI pa), .int rt, .int (nI tw), .int (nI tm)])), (ad 1, .inr (8, [.ref (ad 2), .int (nI tn)])), (ad 2, .inl (cy 0, 600, .inl tb))] H → va_D A [(ad 27, .inr (5, [.ref (ad 28), .int (nI rl), .int fk, .int fp, .ref (ad 1), .int (nI ts), .int (nI te), .int lw, .int (nI pa), .int rt, .int (nI tw), .int (nI tm)])), (ad 1, .inr (8, [.ref (ad 2), .int (nI tn)])), (ad 2, .inl (cy 0, 600, .inl tb))] → va_S A ss.heap H locs → ∀ (ls : Array Slot), lv_has ls 2 [(0, .ref (ad 27)), (1, .int (nI i))] → W pp l ee { frames := 1, cells := 0, slots := 0, locals := 20 } ss mm (List.toArray [Value.ref (ad 27)]) below meth cc0 H locs 0 0 Q (F0 mm 5 ls []) := by
    intro n9
    induction n9 with
    | zero => intro i hm9; exact absurd hm9 (Nat.not_lt_zero _)
    | succ n9 ih5 =>
      intro i hm5 hi1 hr1
      intro H locs hP hD hS
      intro ls hl
      refine lv_iload_n hx hb dX5_findToken_5 rfl (lv_at hl 1 rfl) ?_
      refine lv_aload_n hx hb dX5_findToken_6 rfl (lv_at hl 0 rfl) ?_
      refine va_get (D := (dC, dI)) (ci := 5) (v := .ref (ad 1)) (C := RX5) (T := TX5) (N := 12) hx hb hts hiX5 hown hK hP 0 rfl rfl 4 (by decide) hL1 (fun _ h9 => h9) rfl dX5_findToken_7 ?_
      refine va_get (D := (dC, dI)) (ci := 8) (v := .int (nI tn)) (C := RX8) (T := TX8) (N := 2) hx hb hts hiX8 hown hK hP 1 rfl rfl 1 (by decide) hL2 (fun _ h9 => h9) rfl dX5_findToken_10 ?_
      have L_37 : ∀ (i1 : Nat), (i1 ≤ tn) → (isRun (bBl tb tn) te i1) → ∀ (H : Heap) (locs : List Loc), va_P (dC, dI) vwCl [(ad 27, .inr (5, [.ref (ad 28), .int (nI rl), .int fk, .int fp, .ref (ad 1), .int (nI ts), .int (nI te), .int lw, .int (nI pa), .int rt, .int (nI tw), .int (nI tm)])), (ad 1, .inr (8, [.ref (ad 2), .int (nI tn)])), (ad 2, .inl (cy 0, 600, .inl tb))] H → va_D A [(ad 27, .inr (5, [.ref (ad 28), .int (nI rl), .int fk, .int fp, .ref (ad 1), .int (nI ts), .int (nI te), .int lw, .int (nI pa), .int rt, .int (nI tw), .int (nI tm)])), (ad 1, .inr (8, [.ref (ad 2), .int (nI tn)])), (ad 2, .inl (cy 0, 600, .inl tb))] → va_S A ss.heap H locs → ∀ (ls : Array Slot), lv_has ls 2 [(0, .ref (ad 27)), (1, .int (nI i1))] → W pp l ee { frames := 1, cells := 0, slots := 0, locals := 20 } ss mm (List.toArray [Value.ref (ad 27)]) below meth cc0 H locs 0 0 Q (F0 mm 37 ls []) := by
        intro i1 hi2 hr2
        intro H locs hP hD hS
        intro ls hl
        refine lv_aload_n hx hb dX5_findToken_37 rfl (lv_at hl 0 rfl) ?_
        refine lv_iload_n hx hb dX5_findToken_38 rfl (lv_at hl 1 rfl) ?_
        refine va_put (D := (dC, dI)) (ci := 5) (v := .int (nI i1)) (ty := (tyX5 5)) (C := RX5) (T := TX5) (N := 12) hx hb hts hiX5 tyX5 tyX5_ok nmX5 hown hK hP hD hS 0 rfl rfl 5 (by decide) hL3 (fun _ h9 => h9) rfl (by decide +kernel) rfl rfl (Nat.le_of_ble_eq_true rfl) dX5_findToken_39 (fun H locs hP hD hS => ?_)
        have hP : va_P (dC, dI) vwCl [(ad 27, .inr (5, [.ref (ad 28), .int (nI rl), .int fk, .int fp, .ref (ad 1), .int (nI i1), .int (nI te), .int lw, .int (nI pa), .int rt, .int (nI tw), .int (nI tm)])), (ad 1, .inr (8, [.ref (ad 2), .int (nI tn)])), (ad 2, .inl (cy 0, 600, .inl tb))] H := hP
        have hD : va_D A [(ad 27, .inr (5, [.ref (ad 28), .int (nI rl), .int fk, .int fp, .ref (ad 1), .int (nI i1), .int (nI te), .int lw, .int (nI pa), .int rt, .int (nI tw), .int (nI tm)])), (ad 1, .inr (8, [.ref (ad 2), .int (nI tn)])), (ad 2, .inl (cy 0, 600, .inl tb))] := hD
        refine lv_iload_n hx hb dX5_findToken_42 rfl (lv_at hl 1 rfl) ?_
        refine lv_aload_n hx hb dX5_findToken_43 rfl (lv_at hl 0 rfl) ?_
        refine va_get (D := (dC, dI)) (ci := 5) (v := .ref (ad 1)) (C := RX5) (T := TX5) (N := 12) hx hb hts hiX5 hown hK hP 0 rfl rfl 4 (by decide) hL1 (fun _ h9 => h9) rfl dX5_findToken_44 ?_
        refine va_get (D := (dC, dI)) (ci := 8) (v := .int (nI tn)) (C := RX8) (T := TX8) (N := 2) hx hb hts hiX8 hown hK hP 1 rfl rfl 1 (by decide) hL2 (fun _ h9 => h9) rfl dX5_findToken_47 ?_
        refine bw_icmp_ge (tgt := 100) (a := ((i1 : Nat) : Int)) (b := ((tn : Nat) : Int)) hx hb dX5_findToken_50 (by decide) (nI_toInt (by omega)) (nI_toInt (by omega)) (fun c_1 => ?_) (fun c_1 => ?_)
        · skip
          refine lv_iload_n hx hb dX5_findToken_100 rfl (lv_at hl 1 rfl) ?_
          refine lv_aload_n hx hb dX5_findToken_101 rfl (lv_at hl 0 rfl) ?_
          refine va_get (D := (dC, dI)) (ci := 5) (v := .ref (ad 1)) (C := RX5) (T := TX5) (N := 12) hx hb hts hiX5 hown hK hP 0 rfl rfl 4 (by decide) hL1 (fun _ h9 => h9) rfl dX5_findToken_102 ?_
          refine va_get (D := (dC, dI)) (ci := 8) (v := .int (nI tn)) (C := RX8) (T := TX8) (N := 2) hx hb hts hiX8 hown hK hP 1 rfl rfl 1 (by decide) hL2 (fun _ h9 => h9) rfl dX5_findToken_105 ?_
          refine bw_icmp_ge (tgt := 158) (a := ((i1 : Nat) : Int)) (b := ((tn : Nat) : Int)) hx hb dX5_findToken_108 (by decide) (nI_toInt (by omega)) (nI_toInt (by omega)) (fun c_2 => ?_) (fun c_2 => ?_)
          · skip
            refine lv_iload_n hx hb dX5_findToken_158 rfl (lv_at hl 1 rfl) ?_
            refine lv_aload_n hx hb dX5_findToken_159 rfl (lv_at hl 0 rfl) ?_
            refine va_get (D := (dC, dI)) (ci := 5) (v := .ref (ad 1)) (C := RX5) (T := TX5) (N := 12) hx hb hts hiX5 hown hK hP 0 rfl rfl 4 (by decide) hL1 (fun _ h9 => h9) rfl dX5_findToken_160 ?_
            refine va_get (D := (dC, dI)) (ci := 8) (v := .int (nI tn)) (C := RX8) (T := TX8) (N := 2) hx hb hts hiX8 hown hK hP 1 rfl rfl 1 (by decide) hL2 (fun _ h9 => h9) rfl dX5_findToken_163 ?_
            refine bw_icmp_ge (tgt := 172) (a := ((i1 : Nat) : Int)) (b := ((tn : Nat) : Int)) hx hb dX5_findToken_166 (by decide) (nI_toInt (by omega)) (nI_toInt (by omega)) (fun c_3 => ?_) (fun c_3 => ?_)
            · skip
              refine lv_aload_n hx hb dX5_findToken_172 rfl (lv_at hl 0 rfl) ?_
              refine lv_iload_n hx hb dX5_findToken_173 rfl (lv_at hl 1 rfl) ?_
              refine va_put (D := (dC, dI)) (ci := 5) (v := .int (nI i1)) (ty := (tyX5 6)) (C := RX5) (T := TX5) (N := 12) hx hb hts hiX5 tyX5 tyX5_ok nmX5 hown hK hP hD hS 0 rfl rfl 6 (by decide) hL0 (fun _ h9 => h9) rfl (by decide +kernel) rfl rfl (Nat.le_of_ble_eq_true rfl) dX5_findToken_174 (fun H locs hP hD hS => ?_)
              have hP : va_P (dC, dI) vwCl [(ad 27, .inr (5, [.ref (ad 28), .int (nI rl), .int fk, .int fp, .ref (ad 1), .int (nI i1), .int (nI i1), .int lw, .int (nI pa), .int rt, .int (nI tw), .int (nI tm)])), (ad 1, .inr (8, [.ref (ad 2), .int (nI tn)])), (ad 2, .inl (cy 0, 600, .inl tb))] H := hP
              have hD : va_D A [(ad 27, .inr (5, [.ref (ad 28), .int (nI rl), .int fk, .int fp, .ref (ad 1), .int (nI i1), .int (nI i1), .int lw, .int (nI pa), .int rt, .int (nI tw), .int (nI tm)])), (ad 1, .inr (8, [.ref (ad 2), .int (nI tn)])), (ad 2, .inl (cy 0, 600, .inl tb))] := hD
              refine bw_Qe hQ ?_
              have hP9 : va_P (dC, dI) vwCl [(ad 27, .inr (5, [.ref (ad 28), .int (nI rl), .int fk, .int fp, .ref (ad 1), .int (nI i1), .int (nI i1), .int lw, .int (nI pa), .int rt, .int (nI tw), .int (nI tm)])), (ad 1, .inr (8, [.ref (ad 2), .int (nI tn)])), (ad 2, .inl (cy 0, 600, .inl tb))] H := hP.sub [0, 1, 2] rfl
              have hD9 : va_D A [(ad 27, .inr (5, [.ref (ad 28), .int (nI rl), .int fk, .int fp, .ref (ad 1), .int (nI i1), .int (nI i1), .int lw, .int (nI pa), .int rt, .int (nI tw), .int (nI tm)])), (ad 1, .inr (8, [.ref (ad 2), .int (nI tn)])), (ad 2, .inl (cy 0, 600, .inl tb))] := hD.sub [0, 1, 2] (by decide) rfl
              have hpost : tokP tb tn te i1 i1 := by
                first
                  | exact tp_n hr2 (by omega)
                  | exact tp_e hr2 (by omega) (by omega) (by omega) (te_o (fun q => by have q1 := q.1; have q2 := q.2; omega) (fun q => by have q1 := q.1; have q2 := q.2; omega))
                  | (have hs1 : bSm tb tn i1 := ⟨by omega, by omega, by omega⟩
                     have hn3 : ¬ bSm tb tn j := (fun q => by have q1 := q.1; have q2 := q.2; omega)
                     have hne : i1 ≠ j := fun q => hn3 (q ▸ hs1)
                     exact tp_e hr2 (by omega) (by omega) (by omega) (te_s hs1 hr3 hn3))
                  | (have hs1 : bDg tb tn i1 := ⟨by omega, by omega, by omega⟩
                     have hn3 : ¬ bDg tb tn j := (fun q => by have q1 := q.1; have q2 := q.2; omega)
                     have hne : i1 ≠ j := fun q => hn3 (q ▸ hs1)
                     exact tp_e hr2 (by omega) (by omega) (by omega) (te_d hs1 hr3 hn3))
              exact W.vret hx hb hr (fun t9 ht hW => ⟨⟨(i1, i1), rfl, hpost, by rw [ht]; exact hP9, va_K.moved hW.alike hK, hD9⟩, hS.F ht⟩) hS.2.2 dX5_findToken_177
            · skip
              refine lv_iinc (v := nI (i1 + 1)) (lv' := [(1, .int (nI (i1 + 1))), (0, .ref (ad 27))]) hx hb dX5_findToken_169 hl (k := 1) rfl (show nI i1 + Int32.ofInt 1 = nI (i1 + 1) from nI_add i1 1) (by decide) rfl (fun ls hl => ?_)
              refine lv_aload_n hx hb dX5_findToken_172 rfl (lv_at hl 1 rfl) ?_
              refine lv_iload_n hx hb dX5_findToken_173 rfl (lv_at hl 0 rfl) ?_
              refine va_put (D := (dC, dI)) (ci := 5) (v := .int (nI (i1 + 1))) (ty := (tyX5 6)) (C := RX5) (T := TX5) (N := 12) hx hb hts hiX5 tyX5 tyX5_ok nmX5 hown hK hP hD hS 0 rfl rfl 6 (by decide) hL0 (fun _ h9 => h9) rfl (by decide +kernel) rfl rfl (Nat.le_of_ble_eq_true rfl) dX5_findToken_174 (fun H locs hP hD hS => ?_)
              have hP : va_P (dC, dI) vwCl [(ad 27, .inr (5, [.ref (ad 28), .int (nI rl), .int fk, .int fp, .ref (ad 1), .int (nI i1), .int (nI (i1 + 1)), .int lw, .int (nI pa), .int rt, .int (nI tw), .int (nI tm)])), (ad 1, .inr (8, [.ref (ad 2), .int (nI tn)])), (ad 2, .inl (cy 0, 600, .inl tb))] H := hP
              have hD : va_D A [(ad 27, .inr (5, [.ref (ad 28), .int (nI rl), .int fk, .int fp, .ref (ad 1), .int (nI i1), .int (nI (i1 + 1)), .int lw, .int (nI pa), .int rt, .int (nI tw), .int (nI tm)])), (ad 1, .inr (8, [.ref (ad 2), .int (nI tn)])), (ad 2, .inl (cy 0, 600, .inl tb))] := hD
              refine bw_Qe hQ ?_
              have hP9 : va_P (dC, dI) vwCl [(ad 27, .inr (5, [.ref (ad 28), .int (nI rl), .int fk, .int fp, .ref (ad 1), .int (nI i1), .int (nI (i1 + 1)), .int lw, .int (nI pa), .int rt, .int (nI tw), .int (nI tm)])), (ad 1, .inr (8, [.ref (ad 2), .int (nI tn)])), (ad 2, .inl (cy 0, 600, .inl tb))] H := hP.sub [0, 1, 2] rfl
              have hD9 : va_D A [(ad 27, .inr (5, [.ref (ad 28), .int (nI rl), .int fk, .int fp, .ref (ad 1), .int (nI i1), .int (nI (i1 + 1)), .int lw, .int (nI pa), .int rt, .int (nI tw), .int (nI tm)])), (ad 1, .inr (8, [.ref (ad 2), .int (nI tn)])), (ad 2, .inl (cy 0, 600, .inl tb))] := hD.sub [0, 1, 2] (by decide) rfl
              have hpost : tokP tb tn te i1 (i1 + 1) := by
                first
                  | exact tp_n hr2 (by omega)
                  | exact tp_e hr2 (by omega) (by omega) (by omega) (te_o (fun q => by have q1 := q.1; have q2 := q.2; omega) (fun q => by have q1 := q.1; have q2 := q.2; omega))
                  | (have hs1 : bSm tb tn i1 := ⟨by omega, by omega, by omega⟩
                     have hn3 : ¬ bSm tb tn j := (fun q => by have q1 := q.1; have q2 := q.2; omega)
                     have hne : i1 ≠ j := fun q => hn3 (q ▸ hs1)
                     exact tp_e hr2 (by omega) (by omega) (by omega) (te_s hs1 hr3 hn3))
                  | (have hs1 : bDg tb tn i1 := ⟨by omega, by omega, by omega⟩
                     have hn3 : ¬ bDg tb tn j := (fun q => by have q1 := q.1; have q2 := q.2; omega)
                     have hne : i1 ≠ j := fun q => hn3 (q ▸ hs1)
                     exact tp_e hr2 (by omega) (by omega) (by omega) (te_d hs1 hr3 hn3))
              exact W.vret hx hb hr (fun t9 ht hW => ⟨⟨(i1, i1 + 1), rfl, hpost, by rw [ht]; exact hP9, va_K.moved hW.alike hK, hD9⟩, hS.F ht⟩) hS.2.2 dX5_findToken_177
          · skip
            refine lv_aload_n hx hb dX5_findToken_111 rfl (lv_at hl 0 rfl) ?_
            refine va_get (D := (dC, dI)) (ci := 5) (v := .ref (ad 1)) (C := RX5) (T := TX5) (N := 12) hx hb hts hiX5 hown hK hP 0 rfl rfl 4 (by decide) hL1 (fun _ h9 => h9) rfl dX5_findToken_112 ?_
            refine va_get (D := (dC, dI)) (ci := 8) (v := .ref (ad 2)) (C := RX8) (T := TX8) (N := 2) hx hb hts hiX8 hown hK hP 1 rfl rfl 0 (by decide) hL4 (fun _ h9 => h9) rfl dX5_findToken_115 ?_
            refine lv_iload_n hx hb dX5_findToken_118 rfl (lv_at hl 1 rfl) ?_
            refine bw_iald hx hb hK hP 2 0 rfl rfl (j := i1) (nI_toInt (by omega)) (by omega) dX5_findToken_119 ?_
            refine vp_callSi (va_Run.run (va_runSN (As := [.int (tb i1)]) (rest := []) ⟨hx, hb, hml, hown, hts⟩ (c_X10_isDigit l dC dI cy (tb i1)) ⟨va_cnB 1 hts gX5_findToken_X10_isDigit_n76 rfl rfl rfl hn0 hL5 (by decide +kernel) ⟨Nat.le_of_ble_eq_true rfl, Nat.le_of_ble_eq_true rfl⟩, hL6, trivial⟩ ⟨fun a U g mk q => q, fun U hU hW => ⟨rfl, trivial⟩⟩ rfl rfl hl.1 rfl (lv_room (Nat.le_of_ble_eq_true rfl)) dX5_findToken_120 ⟨Nat.le_of_ble_eq_true rfl, Nat.le_of_ble_eq_true rfl⟩)) (fun r_4 hr_4 => ?_)
            refine bw_ifeqB (tgt := 158) hx hb dX5_findToken_123 (by decide) hr_4 (fun c_5 => ?_) (fun c_5 => ?_)
            · skip
              refine lv_iload_n hx hb dX5_findToken_158 rfl (lv_at hl 1 rfl) ?_
              refine lv_aload_n hx hb dX5_findToken_159 rfl (lv_at hl 0 rfl) ?_
              refine va_get (D := (dC, dI)) (ci := 5) (v := .ref (ad 1)) (C := RX5) (T := TX5) (N := 12) hx hb hts hiX5 hown hK hP 0 rfl rfl 4 (by decide) hL1 (fun _ h9 => h9) rfl dX5_findToken_160 ?_
              refine va_get (D := (dC, dI)) (ci := 8) (v := .int (nI tn)) (C := RX8) (T := TX8) (N := 2) hx hb hts hiX8 hown hK hP 1 rfl rfl 1 (by decide) hL2 (fun _ h9 => h9) rfl dX5_findToken_163 ?_
              refine bw_icmp_ge (tgt := 172) (a := ((i1 : Nat) : Int)) (b := ((tn : Nat) : Int)) hx hb dX5_findToken_166 (by decide) (nI_toInt (by omega)) (nI_toInt (by omega)) (fun c_6 => ?_) (fun c_6 => ?_)
              · skip
                refine lv_aload_n hx hb dX5_findToken_172 rfl (lv_at hl 0 rfl) ?_
                refine lv_iload_n hx hb dX5_findToken_173 rfl (lv_at hl 1 rfl) ?_
                refine va_put (D := (dC, dI)) (ci := 5) (v := .int (nI i1)) (ty := (tyX5 6)) (C := RX5) (T := TX5) (N := 12) hx hb hts hiX5 tyX5 tyX5_ok nmX5 hown hK hP hD hS 0 rfl rfl 6 (by decide) hL0 (fun _ h9 => h9) rfl (by decide +kernel) rfl rfl (Nat.le_of_ble_eq_true rfl) dX5_findToken_174 (fun H locs hP hD hS => ?_)
                have hP : va_P (dC, dI) vwCl [(ad 27, .inr (5, [.ref (ad 28), .int (nI rl), .int fk, .int fp, .ref (ad 1), .int (nI i1), .int (nI i1), .int lw, .int (nI pa), .int rt, .int (nI tw), .int (nI tm)])), (ad 1, .inr (8, [.ref (ad 2), .int (nI tn)])), (ad 2, .inl (cy 0, 600, .inl tb))] H := hP
                have hD : va_D A [(ad 27, .inr (5, [.ref (ad 28), .int (nI rl), .int fk, .int fp, .ref (ad 1), .int (nI i1), .int (nI i1), .int lw, .int (nI pa), .int rt, .int (nI tw), .int (nI tm)])), (ad 1, .inr (8, [.ref (ad 2), .int (nI tn)])), (ad 2, .inl (cy 0, 600, .inl tb))] := hD
                refine bw_Qe hQ ?_
                have hP9 : va_P (dC, dI) vwCl [(ad 27, .inr (5, [.ref (ad 28), .int (nI rl), .int fk, .int fp, .ref (ad 1), .int (nI i1), .int (nI i1), .int lw, .int (nI pa), .int rt, .int (nI tw), .int (nI tm)])), (ad 1, .inr (8, [.ref (ad 2), .int (nI tn)])), (ad 2, .inl (cy 0, 600, .inl tb))] H := hP.sub [0, 1, 2] rfl
                have hD9 : va_D A [(ad 27, .inr (5, [.ref (ad 28), .int (nI rl), .int fk, .int fp, .ref (ad 1), .int (nI i1), .int (nI i1), .int lw, .int (nI pa), .int rt, .int (nI tw), .int (nI tm)])), (ad 1, .inr (8, [.ref (ad 2), .int (nI tn)])), (ad 2, .inl (cy 0, 600, .inl tb))] := hD.sub [0, 1, 2] (by decide) rfl
                have hpost : tokP tb tn te i1 i1 := by
                  first
                    | exact tp_n hr2 (by omega)
                    | exact tp_e hr2 (by omega) (by omega) (by omega) (te_o (fun q => by have q1 := q.1; have q2 := q.2; omega) (fun q => by have q1 := q.1; have q2 := q.2; omega))
                    | (have hs1 : bSm tb tn i1 := ⟨by omega, by omega, by omega⟩
                       have hn3 : ¬ bSm tb tn j := (fun q => by have q1 := q.1; have q2 := q.2; omega)
                       have hne : i1 ≠ j := fun q => hn3 (q ▸ hs1)
                       exact tp_e hr2 (by omega) (by omega) (by omega) (te_s hs1 hr3 hn3))
                    | (have hs1 : bDg tb tn i1 := ⟨by omega, by omega, by omega⟩
                       have hn3 : ¬ bDg tb tn j := (fun q => by have q1 := q.1; have q2 := q.2; omega)
                       have hne : i1 ≠ j := fun q => hn3 (q ▸ hs1)
                       exact tp_e hr2 (by omega) (by omega) (by omega) (te_d hs1 hr3 hn3))
                exact W.vret hx hb hr (fun t9 ht hW => ⟨⟨(i1, i1), rfl, hpost, by rw [ht]; exact hP9, va_K.moved hW.alike hK, hD9⟩, hS.F ht⟩) hS.2.2 dX5_findToken_177
              · skip
                refine lv_iinc (v := nI (i1 + 1)) (lv' := [(1, .int (nI (i1 + 1))), (0, .ref (ad 27))]) hx hb dX5_findToken_169 hl (k := 1) rfl (show nI i1 + Int32.ofInt 1 = nI (i1 + 1) from nI_add i1 1) (by decide) rfl (fun ls hl => ?_)
                refine lv_aload_n hx hb dX5_findToken_172 rfl (lv_at hl 1 rfl) ?_
                refine lv_iload_n hx hb dX5_findToken_173 rfl (lv_at hl 0 rfl) ?_
                refine va_put (D := (dC, dI)) (ci := 5) (v := .int (nI (i1 + 1))) (ty := (tyX5 6)) (C := RX5) (T := TX5) (N := 12) hx hb hts hiX5 tyX5 tyX5_ok nmX5 hown hK hP hD hS 0 rfl rfl 6 (by decide) hL0 (fun _ h9 => h9) rfl (by decide +kernel) rfl rfl (Nat.le_of_ble_eq_true rfl) dX5_findToken_174 (fun H locs hP hD hS => ?_)
                have hP : va_P (dC, dI) vwCl [(ad 27, .inr (5, [.ref (ad 28), .int (nI rl), .int fk, .int fp, .ref (ad 1), .int (nI i1), .int (nI (i1 + 1)), .int lw, .int (nI pa), .int rt, .int (nI tw), .int (nI tm)])), (ad 1, .inr (8, [.ref (ad 2), .int (nI tn)])), (ad 2, .inl (cy 0, 600, .inl tb))] H := hP
                have hD : va_D A [(ad 27, .inr (5, [.ref (ad 28), .int (nI rl), .int fk, .int fp, .ref (ad 1), .int (nI i1), .int (nI (i1 + 1)), .int lw, .int (nI pa), .int rt, .int (nI tw), .int (nI tm)])), (ad 1, .inr (8, [.ref (ad 2), .int (nI tn)])), (ad 2, .inl (cy 0, 600, .inl tb))] := hD
                refine bw_Qe hQ ?_
                have hP9 : va_P (dC, dI) vwCl [(ad 27, .inr (5, [.ref (ad 28), .int (nI rl), .int fk, .int fp, .ref (ad 1), .int (nI i1), .int (nI (i1 + 1)), .int lw, .int (nI pa), .int rt, .int (nI tw), .int (nI tm)])), (ad 1, .inr (8, [.ref (ad 2), .int (nI tn)])), (ad 2, .inl (cy 0, 600, .inl tb))] H := hP.sub [0, 1, 2] rfl
                have hD9 : va_D A [(ad 27, .inr (5, [.ref (ad 28), .int (nI rl), .int fk, .int fp, .ref (ad 1), .int (nI i1), .int (nI (i1 + 1)), .int lw, .int (nI pa), .int rt, .int (nI tw), .int (nI tm)])), (ad 1, .inr (8, [.ref (ad 2), .int (nI tn)])), (ad 2, .inl (cy 0, 600, .inl tb))] := hD.sub [0, 1, 2] (by decide) rfl
                have hpost : tokP tb tn te i1 (i1 + 1) := by
                  first
                    | exact tp_n hr2 (by omega)
                    | exact tp_e hr2 (by omega) (by omega) (by omega) (te_o (fun q => by have q1 := q.1; have q2 := q.2; omega) (fun q => by have q1 := q.1; have q2 := q.2; omega))
                    | (have hs1 : bSm tb tn i1 := ⟨by omega, by omega, by omega⟩
                       have hn3 : ¬ bSm tb tn j := (fun q => by have q1 := q.1; have q2 := q.2; omega)
                       have hne : i1 ≠ j := fun q => hn3 (q ▸ hs1)
                       exact tp_e hr2 (by omega) (by omega) (by omega) (te_s hs1 hr3 hn3))
                    | (have hs1 : bDg tb tn i1 := ⟨by omega, by omega, by omega⟩
                       have hn3 : ¬ bDg tb tn j := (fun q => by have q1 := q.1; have q2 := q.2; omega)
                       have hne : i1 ≠ j := fun q => hn3 (q ▸ hs1)
                       exact tp_e hr2 (by omega) (by omega) (by omega) (te_d hs1 hr3 hn3))
                exact W.vret hx hb hr (fun t9 ht hW => ⟨⟨(i1, i1 + 1), rfl, hpost, by rw [ht]; exact hP9, va_K.moved hW.alike hK, hD9⟩, hS.F ht⟩) hS.2.2 dX5_findToken_177
            · skip
              have L_126 : ∀ (n9 : Nat), ∀ (j : Nat), (tn - j) < n9 → (j ≤ tn) → (toRun (bDg tb tn) i1 j) → ∀ (H : Heap) (locs : List Loc), va_P (dC, dI) vwCl [(ad 27, .inr (5, [.ref (ad 28), .int (nI rl), .int fk, .int fp, .ref (ad 1), .int (nI i1), .int (nI te), .int lw, .int (nI pa), .int rt, .int (nI tw), .int (nI tm)])), (ad 1, .inr (8, [.ref (ad 2), .int (nI tn)])), (ad 2, .inl (cy 0, 600, .inl tb))] H → va_D A [(ad 27, .inr (5, [.ref (ad 28), .int (nI rl), .int fk, .int fp, .ref (ad 1), .int (nI i1), .int (nI te), .int lw, .int (nI pa), .int rt, .int (nI tw), .int (nI tm)])), (ad 1, .inr (8, [.ref (ad 2), .int (nI tn)])), (ad 2, .inl (cy 0, 600, .inl tb))] → va_S A ss.heap H locs → ∀ (ls : Array Slot), lv_has ls 2 [(0, .ref (ad 27)), (1, .int (nI j))] → W pp l ee { frames := 1, cells := 0, slots := 0, locals := 20 } ss mm (List.toArray [Value.ref (ad 27)]) below meth cc0 H locs 0 0 Q (F0 mm 126 ls []) := by
                intro n9
                induction n9 with
                | zero => intro j hm9; exact absurd hm9 (Nat.not_lt_zero _)
                | succ n9 ih126 =>
                  intro j hm126 hj1 hr3
                  intro H locs hP hD hS
                  intro ls hl
                  have hj0 := hr3.1
                  refine lv_iload_n hx hb dX5_findToken_126 rfl (lv_at hl 1 rfl) ?_
                  refine lv_aload_n hx hb dX5_findToken_127 rfl (lv_at hl 0 rfl) ?_
                  refine va_get (D := (dC, dI)) (ci := 5) (v := .ref (ad 1)) (C := RX5) (T := TX5) (N := 12) hx hb hts hiX5 hown hK hP 0 rfl rfl 4 (by decide) hL1 (fun _ h9 => h9) rfl dX5_findToken_128 ?_
                  refine va_get (D := (dC, dI)) (ci := 8) (v := .int (nI tn)) (C := RX8) (T := TX8) (N := 2) hx hb hts hiX8 hown hK hP 1 rfl rfl 1 (by decide) hL2 (fun _ h9 => h9) rfl dX5_findToken_131 ?_
                  refine bw_icmp_ge (tgt := 172) (a := ((j : Nat) : Int)) (b := ((tn : Nat) : Int)) hx hb dX5_findToken_134 (by decide) (nI_toInt (by omega)) (nI_toInt (by omega)) (fun c_7 => ?_) (fun c_7 => ?_)
                  · skip
                    refine lv_aload_n hx hb dX5_findToken_172 rfl (lv_at hl 0 rfl) ?_
                    refine lv_iload_n hx hb dX5_findToken_173 rfl (lv_at hl 1 rfl) ?_
                    refine va_put (D := (dC, dI)) (ci := 5) (v := .int (nI j)) (ty := (tyX5 6)) (C := RX5) (T := TX5) (N := 12) hx hb hts hiX5 tyX5 tyX5_ok nmX5 hown hK hP hD hS 0 rfl rfl 6 (by decide) hL0 (fun _ h9 => h9) rfl (by decide +kernel) rfl rfl (Nat.le_of_ble_eq_true rfl) dX5_findToken_174 (fun H locs hP hD hS => ?_)
                    have hP : va_P (dC, dI) vwCl [(ad 27, .inr (5, [.ref (ad 28), .int (nI rl), .int fk, .int fp, .ref (ad 1), .int (nI i1), .int (nI j), .int lw, .int (nI pa), .int rt, .int (nI tw), .int (nI tm)])), (ad 1, .inr (8, [.ref (ad 2), .int (nI tn)])), (ad 2, .inl (cy 0, 600, .inl tb))] H := hP
                    have hD : va_D A [(ad 27, .inr (5, [.ref (ad 28), .int (nI rl), .int fk, .int fp, .ref (ad 1), .int (nI i1), .int (nI j), .int lw, .int (nI pa), .int rt, .int (nI tw), .int (nI tm)])), (ad 1, .inr (8, [.ref (ad 2), .int (nI tn)])), (ad 2, .inl (cy 0, 600, .inl tb))] := hD
                    refine bw_Qe hQ ?_
                    have hP9 : va_P (dC, dI) vwCl [(ad 27, .inr (5, [.ref (ad 28), .int (nI rl), .int fk, .int fp, .ref (ad 1), .int (nI i1), .int (nI j), .int lw, .int (nI pa), .int rt, .int (nI tw), .int (nI tm)])), (ad 1, .inr (8, [.ref (ad 2), .int (nI tn)])), (ad 2, .inl (cy 0, 600, .inl tb))] H := hP.sub [0, 1, 2] rfl
                    have hD9 : va_D A [(ad 27, .inr (5, [.ref (ad 28), .int (nI rl), .int fk, .int fp, .ref (ad 1), .int (nI i1), .int (nI j), .int lw, .int (nI pa), .int rt, .int (nI tw), .int (nI tm)])), (ad 1, .inr (8, [.ref (ad 2), .int (nI tn)])), (ad 2, .inl (cy 0, 600, .inl tb))] := hD.sub [0, 1, 2] (by decide) rfl
                    have hpost : tokP tb tn te i1 j := by
                      first
                        | exact tp_n hr2 (by omega)
                        | exact tp_e hr2 (by omega) (by omega) (by omega) (te_o (fun q => by have q1 := q.1; have q2 := q.2; omega) (fun q => by have q1 := q.1; have q2 := q.2; omega))
                        | (have hs1 : bSm tb tn i1 := ⟨by omega, by omega, by omega⟩
                           have hn3 : ¬ bSm tb tn j := (fun q => by have q1 := q.1; have q2 := q.2; omega)
                           have hne : i1 ≠ j := fun q => hn3 (q ▸ hs1)
                           exact tp_e hr2 (by omega) (by omega) (by omega) (te_s hs1 hr3 hn3))
                        | (have hs1 : bDg tb tn i1 := ⟨by omega, by omega, by omega⟩
                           have hn3 : ¬ bDg tb tn j := (fun q => by have q1 := q.1; have q2 := q.2; omega)
                           have hne : i1 ≠ j := fun q => hn3 (q ▸ hs1)
                           exact tp_e hr2 (by omega) (by omega) (by omega) (te_d hs1 hr3 hn3))
                    exact W.vret hx hb hr (fun t9 ht hW => ⟨⟨(i1, j), rfl, hpost, by rw [ht]; exact hP9, va_K.moved hW.alike hK, hD9⟩, hS.F ht⟩) hS.2.2 dX5_findToken_177
                  · skip
                    refine lv_aload_n hx hb dX5_findToken_137 rfl (lv_at hl 0 rfl) ?_
                    refine va_get (D := (dC, dI)) (ci := 5) (v := .ref (ad 1)) (C := RX5) (T := TX5) (N := 12) hx hb hts hiX5 hown hK hP 0 rfl rfl 4 (by decide) hL1 (fun _ h9 => h9) rfl dX5_findToken_138 ?_
                    refine va_get (D := (dC, dI)) (ci := 8) (v := .ref (ad 2)) (C := RX8) (T := TX8) (N := 2) hx hb hts hiX8 hown hK hP 1 rfl rfl 0 (by decide) hL4 (fun _ h9 => h9) rfl dX5_findToken_141 ?_
                    refine lv_iload_n hx hb dX5_findToken_144 rfl (lv_at hl 1 rfl) ?_
                    refine bw_iald hx hb hK hP 2 0 rfl rfl (j := j) (nI_toInt (by omega)) (by omega) dX5_findToken_145 ?_
                    refine vp_callSi (va_Run.run (va_runSN (As := [.int (tb j)]) (rest := []) ⟨hx, hb, hml, hown, hts⟩ (c_X10_isDigit l dC dI cy (tb j)) ⟨va_cnB 1 hts gX5_findToken_X10_isDigit_n76 rfl rfl rfl hn0 hL5 (by decide +kernel) ⟨Nat.le_of_ble_eq_true rfl, Nat.le_of_ble_eq_true rfl⟩, hL6, trivial⟩ ⟨fun a U g mk q => q, fun U hU hW => ⟨rfl, trivial⟩⟩ rfl rfl hl.1 rfl (lv_room (Nat.le_of_ble_eq_true rfl)) dX5_findToken_146 ⟨Nat.le_of_ble_eq_true rfl, Nat.le_of_ble_eq_true rfl⟩)) (fun r_8 hr_8 => ?_)
                    refine bw_ifeqB (tgt := 172) hx hb dX5_findToken_149 (by decide) hr_8 (fun c_9 => ?_) (fun c_9 => ?_)
                    · skip
                      refine lv_aload_n hx hb dX5_findToken_172 rfl (lv_at hl 0 rfl) ?_
                      refine lv_iload_n hx hb dX5_findToken_173 rfl (lv_at hl 1 rfl) ?_
                      refine va_put (D := (dC, dI)) (ci := 5) (v := .int (nI j)) (ty := (tyX5 6)) (C := RX5) (T := TX5) (N := 12) hx hb hts hiX5 tyX5 tyX5_ok nmX5 hown hK hP hD hS 0 rfl rfl 6 (by decide) hL0 (fun _ h9 => h9) rfl (by decide +kernel) rfl rfl (Nat.le_of_ble_eq_true rfl) dX5_findToken_174 (fun H locs hP hD hS => ?_)
                      have hP : va_P (dC, dI) vwCl [(ad 27, .inr (5, [.ref (ad 28), .int (nI rl), .int fk, .int fp, .ref (ad 1), .int (nI i1), .int (nI j), .int lw, .int (nI pa), .int rt, .int (nI tw), .int (nI tm)])), (ad 1, .inr (8, [.ref (ad 2), .int (nI tn)])), (ad 2, .inl (cy 0, 600, .inl tb))] H := hP
                      have hD : va_D A [(ad 27, .inr (5, [.ref (ad 28), .int (nI rl), .int fk, .int fp, .ref (ad 1), .int (nI i1), .int (nI j), .int lw, .int (nI pa), .int rt, .int (nI tw), .int (nI tm)])), (ad 1, .inr (8, [.ref (ad 2), .int (nI tn)])), (ad 2, .inl (cy 0, 600, .inl tb))] := hD
                      refine bw_Qe hQ ?_
                      have hP9 : va_P (dC, dI) vwCl [(ad 27, .inr (5, [.ref (ad 28), .int (nI rl), .int fk, .int fp, .ref (ad 1), .int (nI i1), .int (nI j), .int lw, .int (nI pa), .int rt, .int (nI tw), .int (nI tm)])), (ad 1, .inr (8, [.ref (ad 2), .int (nI tn)])), (ad 2, .inl (cy 0, 600, .inl tb))] H := hP.sub [0, 1, 2] rfl
                      have hD9 : va_D A [(ad 27, .inr (5, [.ref (ad 28), .int (nI rl), .int fk, .int fp, .ref (ad 1), .int (nI i1), .int (nI j), .int lw, .int (nI pa), .int rt, .int (nI tw), .int (nI tm)])), (ad 1, .inr (8, [.ref (ad 2), .int (nI tn)])), (ad 2, .inl (cy 0, 600, .inl tb))] := hD.sub [0, 1, 2] (by decide) rfl
                      have hpost : tokP tb tn te i1 j := by
                        first
                          | exact tp_n hr2 (by omega)
                          | exact tp_e hr2 (by omega) (by omega) (by omega) (te_o (fun q => by have q1 := q.1; have q2 := q.2; omega) (fun q => by have q1 := q.1; have q2 := q.2; omega))
                          | (have hs1 : bSm tb tn i1 := ⟨by omega, by omega, by omega⟩
                             have hn3 : ¬ bSm tb tn j := (fun q => by have q1 := q.1; have q2 := q.2; omega)
                             have hne : i1 ≠ j := fun q => hn3 (q ▸ hs1)
                             exact tp_e hr2 (by omega) (by omega) (by omega) (te_s hs1 hr3 hn3))
                          | (have hs1 : bDg tb tn i1 := ⟨by omega, by omega, by omega⟩
                             have hn3 : ¬ bDg tb tn j := (fun q => by have q1 := q.1; have q2 := q.2; omega)
                             have hne : i1 ≠ j := fun q => hn3 (q ▸ hs1)
                             exact tp_e hr2 (by omega) (by omega) (by omega) (te_d hs1 hr3 hn3))
                      exact W.vret hx hb hr (fun t9 ht hW => ⟨⟨(i1, j), rfl, hpost, by rw [ht]; exact hP9, va_K.moved hW.alike hK, hD9⟩, hS.F ht⟩) hS.2.2 dX5_findToken_177
                    · skip
                      refine lv_iinc (v := nI (j + 1)) (lv' := [(1, .int (nI (j + 1))), (0, .ref (ad 27))]) hx hb dX5_findToken_152 hl (k := 1) rfl (show nI j + Int32.ofInt 1 = nI (j + 1) from nI_add j 1) (by decide) rfl (fun ls hl => ?_)
                      refine lv_goto (tgt := 126) hx hb dX5_findToken_155 (by decide) ?_
                      have hI_hr3 : toRun (bDg tb tn) i1 (j + 1) := by
                        exact toRun_s hr3 ⟨by omega, by omega, by omega⟩
                      exact ih126 (j + 1) (by omega) (by first | assumption | omega) hI_hr3 H locs hP hD hS ls (lv_sub hl [1, 0] rfl)
              have hI_hr3 : toRun (bDg tb tn) i1 i1 := by
                exact toRun_0
              exact L_126 ((tn - i1) + 1) i1 (by omega) (by first | assumption | omega) hI_hr3 H locs hP hD hS ls (lv_sub hl [0, 1] rfl)
        · skip
          refine lv_aload_n hx hb dX5_findToken_53 rfl (lv_at hl 0 rfl) ?_
          refine va_get (D := (dC, dI)) (ci := 5) (v := .ref (ad 1)) (C := RX5) (T := TX5) (N := 12) hx hb hts hiX5 hown hK hP 0 rfl rfl 4 (by decide) hL1 (fun _ h9 => h9) rfl dX5_findToken_54 ?_
          refine va_get (D := (dC, dI)) (ci := 8) (v := .ref (ad 2)) (C := RX8) (T := TX8) (N := 2) hx hb hts hiX8 hown hK hP 1 rfl rfl 0 (by decide) hL4 (fun _ h9 => h9) rfl dX5_findToken_57 ?_
          refine lv_iload_n hx hb dX5_findToken_60 rfl (lv_at hl 1 rfl) ?_
          refine bw_iald hx hb hK hP 2 0 rfl rfl (j := i1) (nI_toInt (by omega)) (by omega) dX5_findToken_61 ?_
          refine vp_callSi (va_Run.run (va_runSN (As := [.int (tb i1)]) (rest := []) ⟨hx, hb, hml, hown, hts⟩ (c_X10_isSmallLetter l dC dI cy (tb i1)) ⟨va_cnB 1 hts gX5_findToken_X10_isSmallLetter_n73 rfl rfl rfl hn1 hL5 (by decide +kernel) ⟨Nat.le_of_ble_eq_true rfl, Nat.le_of_ble_eq_true rfl⟩, hL7, trivial⟩ ⟨fun a U g mk q => q, fun U hU hW => ⟨rfl, trivial⟩⟩ rfl rfl hl.1 rfl (lv_room (Nat.le_of_ble_eq_true rfl)) dX5_findToken_62 ⟨Nat.le_of_ble_eq_true rfl, Nat.le_of_ble_eq_true rfl⟩)) (fun r_10 hr_10 => ?_)
          refine bw_ifeqB (tgt := 100) hx hb dX5_findToken_65 (by decide) hr_10 (fun c_11 => ?_) (fun c_11 => ?_)
          · skip
            refine lv_iload_n hx hb dX5_findToken_100 rfl (lv_at hl 1 rfl) ?_
            refine lv_aload_n hx hb dX5_findToken_101 rfl (lv_at hl 0 rfl) ?_
            refine va_get (D := (dC, dI)) (ci := 5) (v := .ref (ad 1)) (C := RX5) (T := TX5) (N := 12) hx hb hts hiX5 hown hK hP 0 rfl rfl 4 (by decide) hL1 (fun _ h9 => h9) rfl dX5_findToken_102 ?_
            refine va_get (D := (dC, dI)) (ci := 8) (v := .int (nI tn)) (C := RX8) (T := TX8) (N := 2) hx hb hts hiX8 hown hK hP 1 rfl rfl 1 (by decide) hL2 (fun _ h9 => h9) rfl dX5_findToken_105 ?_
            refine bw_icmp_ge (tgt := 158) (a := ((i1 : Nat) : Int)) (b := ((tn : Nat) : Int)) hx hb dX5_findToken_108 (by decide) (nI_toInt (by omega)) (nI_toInt (by omega)) (fun c_12 => ?_) (fun c_12 => ?_)
            · skip
              refine lv_iload_n hx hb dX5_findToken_158 rfl (lv_at hl 1 rfl) ?_
              refine lv_aload_n hx hb dX5_findToken_159 rfl (lv_at hl 0 rfl) ?_
              refine va_get (D := (dC, dI)) (ci := 5) (v := .ref (ad 1)) (C := RX5) (T := TX5) (N := 12) hx hb hts hiX5 hown hK hP 0 rfl rfl 4 (by decide) hL1 (fun _ h9 => h9) rfl dX5_findToken_160 ?_
              refine va_get (D := (dC, dI)) (ci := 8) (v := .int (nI tn)) (C := RX8) (T := TX8) (N := 2) hx hb hts hiX8 hown hK hP 1 rfl rfl 1 (by decide) hL2 (fun _ h9 => h9) rfl dX5_findToken_163 ?_
              refine bw_icmp_ge (tgt := 172) (a := ((i1 : Nat) : Int)) (b := ((tn : Nat) : Int)) hx hb dX5_findToken_166 (by decide) (nI_toInt (by omega)) (nI_toInt (by omega)) (fun c_13 => ?_) (fun c_13 => ?_)
              · skip
                refine lv_aload_n hx hb dX5_findToken_172 rfl (lv_at hl 0 rfl) ?_
                refine lv_iload_n hx hb dX5_findToken_173 rfl (lv_at hl 1 rfl) ?_
                refine va_put (D := (dC, dI)) (ci := 5) (v := .int (nI i1)) (ty := (tyX5 6)) (C := RX5) (T := TX5) (N := 12) hx hb hts hiX5 tyX5 tyX5_ok nmX5 hown hK hP hD hS 0 rfl rfl 6 (by decide) hL0 (fun _ h9 => h9) rfl (by decide +kernel) rfl rfl (Nat.le_of_ble_eq_true rfl) dX5_findToken_174 (fun H locs hP hD hS => ?_)
                have hP : va_P (dC, dI) vwCl [(ad 27, .inr (5, [.ref (ad 28), .int (nI rl), .int fk, .int fp, .ref (ad 1), .int (nI i1), .int (nI i1), .int lw, .int (nI pa), .int rt, .int (nI tw), .int (nI tm)])), (ad 1, .inr (8, [.ref (ad 2), .int (nI tn)])), (ad 2, .inl (cy 0, 600, .inl tb))] H := hP
                have hD : va_D A [(ad 27, .inr (5, [.ref (ad 28), .int (nI rl), .int fk, .int fp, .ref (ad 1), .int (nI i1), .int (nI i1), .int lw, .int (nI pa), .int rt, .int (nI tw), .int (nI tm)])), (ad 1, .inr (8, [.ref (ad 2), .int (nI tn)])), (ad 2, .inl (cy 0, 600, .inl tb))] := hD
                refine bw_Qe hQ ?_
                have hP9 : va_P (dC, dI) vwCl [(ad 27, .inr (5, [.ref (ad 28), .int (nI rl), .int fk, .int fp, .ref (ad 1), .int (nI i1), .int (nI i1), .int lw, .int (nI pa), .int rt, .int (nI tw), .int (nI tm)])), (ad 1, .inr (8, [.ref (ad 2), .int (nI tn)])), (ad 2, .inl (cy 0, 600, .inl tb))] H := hP.sub [0, 1, 2] rfl
                have hD9 : va_D A [(ad 27, .inr (5, [.ref (ad 28), .int (nI rl), .int fk, .int fp, .ref (ad 1), .int (nI i1), .int (nI i1), .int lw, .int (nI pa), .int rt, .int (nI tw), .int (nI tm)])), (ad 1, .inr (8, [.ref (ad 2), .int (nI tn)])), (ad 2, .inl (cy 0, 600, .inl tb))] := hD.sub [0, 1, 2] (by decide) rfl
                have hpost : tokP tb tn te i1 i1 := by
                  first
                    | exact tp_n hr2 (by omega)
                    | exact tp_e hr2 (by omega) (by omega) (by omega) (te_o (fun q => by have q1 := q.1; have q2 := q.2; omega) (fun q => by have q1 := q.1; have q2 := q.2; omega))
                    | (have hs1 : bSm tb tn i1 := ⟨by omega, by omega, by omega⟩
                       have hn3 : ¬ bSm tb tn j := (fun q => by have q1 := q.1; have q2 := q.2; omega)
                       have hne : i1 ≠ j := fun q => hn3 (q ▸ hs1)
                       exact tp_e hr2 (by omega) (by omega) (by omega) (te_s hs1 hr3 hn3))
                    | (have hs1 : bDg tb tn i1 := ⟨by omega, by omega, by omega⟩
                       have hn3 : ¬ bDg tb tn j := (fun q => by have q1 := q.1; have q2 := q.2; omega)
                       have hne : i1 ≠ j := fun q => hn3 (q ▸ hs1)
                       exact tp_e hr2 (by omega) (by omega) (by omega) (te_d hs1 hr3 hn3))
                exact W.vret hx hb hr (fun t9 ht hW => ⟨⟨(i1, i1), rfl, hpost, by rw [ht]; exact hP9, va_K.moved hW.alike hK, hD9⟩, hS.F ht⟩) hS.2.2 dX5_findToken_177
              · skip
                refine lv_iinc (v := nI (i1 + 1)) (lv' := [(1, .int (nI (i1 + 1))), (0, .ref (ad 27))]) hx hb dX5_findToken_169 hl (k := 1) rfl (show nI i1 + Int32.ofInt 1 = nI (i1 + 1) from nI_add i1 1) (by decide) rfl (fun ls hl => ?_)
                refine lv_aload_n hx hb dX5_findToken_172 rfl (lv_at hl 1 rfl) ?_
                refine lv_iload_n hx hb dX5_findToken_173 rfl (lv_at hl 0 rfl) ?_
                refine va_put (D := (dC, dI)) (ci := 5) (v := .int (nI (i1 + 1))) (ty := (tyX5 6)) (C := RX5) (T := TX5) (N := 12) hx hb hts hiX5 tyX5 tyX5_ok nmX5 hown hK hP hD hS 0 rfl rfl 6 (by decide) hL0 (fun _ h9 => h9) rfl (by decide +kernel) rfl rfl (Nat.le_of_ble_eq_true rfl) dX5_findToken_174 (fun H locs hP hD hS => ?_)
                have hP : va_P (dC, dI) vwCl [(ad 27, .inr (5, [.ref (ad 28), .int (nI rl), .int fk, .int fp, .ref (ad 1), .int (nI i1), .int (nI (i1 + 1)), .int lw, .int (nI pa), .int rt, .int (nI tw), .int (nI tm)])), (ad 1, .inr (8, [.ref (ad 2), .int (nI tn)])), (ad 2, .inl (cy 0, 600, .inl tb))] H := hP
                have hD : va_D A [(ad 27, .inr (5, [.ref (ad 28), .int (nI rl), .int fk, .int fp, .ref (ad 1), .int (nI i1), .int (nI (i1 + 1)), .int lw, .int (nI pa), .int rt, .int (nI tw), .int (nI tm)])), (ad 1, .inr (8, [.ref (ad 2), .int (nI tn)])), (ad 2, .inl (cy 0, 600, .inl tb))] := hD
                refine bw_Qe hQ ?_
                have hP9 : va_P (dC, dI) vwCl [(ad 27, .inr (5, [.ref (ad 28), .int (nI rl), .int fk, .int fp, .ref (ad 1), .int (nI i1), .int (nI (i1 + 1)), .int lw, .int (nI pa), .int rt, .int (nI tw), .int (nI tm)])), (ad 1, .inr (8, [.ref (ad 2), .int (nI tn)])), (ad 2, .inl (cy 0, 600, .inl tb))] H := hP.sub [0, 1, 2] rfl
                have hD9 : va_D A [(ad 27, .inr (5, [.ref (ad 28), .int (nI rl), .int fk, .int fp, .ref (ad 1), .int (nI i1), .int (nI (i1 + 1)), .int lw, .int (nI pa), .int rt, .int (nI tw), .int (nI tm)])), (ad 1, .inr (8, [.ref (ad 2), .int (nI tn)])), (ad 2, .inl (cy 0, 600, .inl tb))] := hD.sub [0, 1, 2] (by decide) rfl
                have hpost : tokP tb tn te i1 (i1 + 1) := by
                  first
                    | exact tp_n hr2 (by omega)
                    | exact tp_e hr2 (by omega) (by omega) (by omega) (te_o (fun q => by have q1 := q.1; have q2 := q.2; omega) (fun q => by have q1 := q.1; have q2 := q.2; omega))
                    | (have hs1 : bSm tb tn i1 := ⟨by omega, by omega, by omega⟩
                       have hn3 : ¬ bSm tb tn j := (fun q => by have q1 := q.1; have q2 := q.2; omega)
                       have hne : i1 ≠ j := fun q => hn3 (q ▸ hs1)
                       exact tp_e hr2 (by omega) (by omega) (by omega) (te_s hs1 hr3 hn3))
                    | (have hs1 : bDg tb tn i1 := ⟨by omega, by omega, by omega⟩
                       have hn3 : ¬ bDg tb tn j := (fun q => by have q1 := q.1; have q2 := q.2; omega)
                       have hne : i1 ≠ j := fun q => hn3 (q ▸ hs1)
                       exact tp_e hr2 (by omega) (by omega) (by omega) (te_d hs1 hr3 hn3))
                exact W.vret hx hb hr (fun t9 ht hW => ⟨⟨(i1, i1 + 1), rfl, hpost, by rw [ht]; exact hP9, va_K.moved hW.alike hK, hD9⟩, hS.F ht⟩) hS.2.2 dX5_findToken_177
            · skip
              refine lv_aload_n hx hb dX5_findToken_111 rfl (lv_at hl 0 rfl) ?_
              refine va_get (D := (dC, dI)) (ci := 5) (v := .ref (ad 1)) (C := RX5) (T := TX5) (N := 12) hx hb hts hiX5 hown hK hP 0 rfl rfl 4 (by decide) hL1 (fun _ h9 => h9) rfl dX5_findToken_112 ?_
              refine va_get (D := (dC, dI)) (ci := 8) (v := .ref (ad 2)) (C := RX8) (T := TX8) (N := 2) hx hb hts hiX8 hown hK hP 1 rfl rfl 0 (by decide) hL4 (fun _ h9 => h9) rfl dX5_findToken_115 ?_
              refine lv_iload_n hx hb dX5_findToken_118 rfl (lv_at hl 1 rfl) ?_
              refine bw_iald hx hb hK hP 2 0 rfl rfl (j := i1) (nI_toInt (by omega)) (by omega) dX5_findToken_119 ?_
              refine vp_callSi (va_Run.run (va_runSN (As := [.int (tb i1)]) (rest := []) ⟨hx, hb, hml, hown, hts⟩ (c_X10_isDigit l dC dI cy (tb i1)) ⟨va_cnB 1 hts gX5_findToken_X10_isDigit_n76 rfl rfl rfl hn0 hL5 (by decide +kernel) ⟨Nat.le_of_ble_eq_true rfl, Nat.le_of_ble_eq_true rfl⟩, hL6, trivial⟩ ⟨fun a U g mk q => q, fun U hU hW => ⟨rfl, trivial⟩⟩ rfl rfl hl.1 rfl (lv_room (Nat.le_of_ble_eq_true rfl)) dX5_findToken_120 ⟨Nat.le_of_ble_eq_true rfl, Nat.le_of_ble_eq_true rfl⟩)) (fun r_14 hr_14 => ?_)
              refine bw_ifeqB (tgt := 158) hx hb dX5_findToken_123 (by decide) hr_14 (fun c_15 => ?_) (fun c_15 => ?_)
              · skip
                refine lv_iload_n hx hb dX5_findToken_158 rfl (lv_at hl 1 rfl) ?_
                refine lv_aload_n hx hb dX5_findToken_159 rfl (lv_at hl 0 rfl) ?_
                refine va_get (D := (dC, dI)) (ci := 5) (v := .ref (ad 1)) (C := RX5) (T := TX5) (N := 12) hx hb hts hiX5 hown hK hP 0 rfl rfl 4 (by decide) hL1 (fun _ h9 => h9) rfl dX5_findToken_160 ?_
                refine va_get (D := (dC, dI)) (ci := 8) (v := .int (nI tn)) (C := RX8) (T := TX8) (N := 2) hx hb hts hiX8 hown hK hP 1 rfl rfl 1 (by decide) hL2 (fun _ h9 => h9) rfl dX5_findToken_163 ?_
                refine bw_icmp_ge (tgt := 172) (a := ((i1 : Nat) : Int)) (b := ((tn : Nat) : Int)) hx hb dX5_findToken_166 (by decide) (nI_toInt (by omega)) (nI_toInt (by omega)) (fun c_16 => ?_) (fun c_16 => ?_)
                · skip
                  refine lv_aload_n hx hb dX5_findToken_172 rfl (lv_at hl 0 rfl) ?_
                  refine lv_iload_n hx hb dX5_findToken_173 rfl (lv_at hl 1 rfl) ?_
                  refine va_put (D := (dC, dI)) (ci := 5) (v := .int (nI i1)) (ty := (tyX5 6)) (C := RX5) (T := TX5) (N := 12) hx hb hts hiX5 tyX5 tyX5_ok nmX5 hown hK hP hD hS 0 rfl rfl 6 (by decide) hL0 (fun _ h9 => h9) rfl (by decide +kernel) rfl rfl (Nat.le_of_ble_eq_true rfl) dX5_findToken_174 (fun H locs hP hD hS => ?_)
                  have hP : va_P (dC, dI) vwCl [(ad 27, .inr (5, [.ref (ad 28), .int (nI rl), .int fk, .int fp, .ref (ad 1), .int (nI i1), .int (nI i1), .int lw, .int (nI pa), .int rt, .int (nI tw), .int (nI tm)])), (ad 1, .inr (8, [.ref (ad 2), .int (nI tn)])), (ad 2, .inl (cy 0, 600, .inl tb))] H := hP
                  have hD : va_D A [(ad 27, .inr (5, [.ref (ad 28), .int (nI rl), .int fk, .int fp, .ref (ad 1), .int (nI i1), .int (nI i1), .int lw, .int (nI pa), .int rt, .int (nI tw), .int (nI tm)])), (ad 1, .inr (8, [.ref (ad 2), .int (nI tn)])), (ad 2, .inl (cy 0, 600, .inl tb))] := hD
                  refine bw_Qe hQ ?_
                  have hP9 : va_P (dC, dI) vwCl [(ad 27, .inr (5, [.ref (ad 28), .int (nI rl), .int fk, .int fp, .ref (ad 1), .int (nI i1), .int (nI i1), .int lw, .int (nI pa), .int rt, .int (nI tw), .int (nI tm)])), (ad 1, .inr (8, [.ref (ad 2), .int (nI tn)])), (ad 2, .inl (cy 0, 600, .inl tb))] H := hP.sub [0, 1, 2] rfl
                  have hD9 : va_D A [(ad 27, .inr (5, [.ref (ad 28), .int (nI rl), .int fk, .int fp, .ref (ad 1), .int (nI i1), .int (nI i1), .int lw, .int (nI pa), .int rt, .int (nI tw), .int (nI tm)])), (ad 1, .inr (8, [.ref (ad 2), .int (nI tn)])), (ad 2, .inl (cy 0, 600, .inl tb))] := hD.sub [0, 1, 2] (by decide) rfl
                  have hpost : tokP tb tn te i1 i1 := by
                    first
                      | exact tp_n hr2 (by omega)
                      | exact tp_e hr2 (by omega) (by omega) (by omega) (te_o (fun q => by have q1 := q.1; have q2 := q.2; omega) (fun q => by have q1 := q.1; have q2 := q.2; omega))
                      | (have hs1 : bSm tb tn i1 := ⟨by omega, by omega, by omega⟩
                         have hn3 : ¬ bSm tb tn j := (fun q => by have q1 := q.1; have q2 := q.2; omega)
                         have hne : i1 ≠ j := fun q => hn3 (q ▸ hs1)
                         exact tp_e hr2 (by omega) (by omega) (by omega) (te_s hs1 hr3 hn3))
                      | (have hs1 : bDg tb tn i1 := ⟨by omega, by omega, by omega⟩
                         have hn3 : ¬ bDg tb tn j := (fun q => by have q1 := q.1; have q2 := q.2; omega)
                         have hne : i1 ≠ j := fun q => hn3 (q ▸ hs1)
                         exact tp_e hr2 (by omega) (by omega) (by omega) (te_d hs1 hr3 hn3))
                  exact W.vret hx hb hr (fun t9 ht hW => ⟨⟨(i1, i1), rfl, hpost, by rw [ht]; exact hP9, va_K.moved hW.alike hK, hD9⟩, hS.F ht⟩) hS.2.2 dX5_findToken_177
                · skip
                  refine lv_iinc (v := nI (i1 + 1)) (lv' := [(1, .int (nI (i1 + 1))), (0, .ref (ad 27))]) hx hb dX5_findToken_169 hl (k := 1) rfl (show nI i1 + Int32.ofInt 1 = nI (i1 + 1) from nI_add i1 1) (by decide) rfl (fun ls hl => ?_)
                  refine lv_aload_n hx hb dX5_findToken_172 rfl (lv_at hl 1 rfl) ?_
                  refine lv_iload_n hx hb dX5_findToken_173 rfl (lv_at hl 0 rfl) ?_
                  refine va_put (D := (dC, dI)) (ci := 5) (v := .int (nI (i1 + 1))) (ty := (tyX5 6)) (C := RX5) (T := TX5) (N := 12) hx hb hts hiX5 tyX5 tyX5_ok nmX5 hown hK hP hD hS 0 rfl rfl 6 (by decide) hL0 (fun _ h9 => h9) rfl (by decide +kernel) rfl rfl (Nat.le_of_ble_eq_true rfl) dX5_findToken_174 (fun H locs hP hD hS => ?_)
                  have hP : va_P (dC, dI) vwCl [(ad 27, .inr (5, [.ref (ad 28), .int (nI rl), .int fk, .int fp, .ref (ad 1), .int (nI i1), .int (nI (i1 + 1)), .int lw, .int (nI pa), .int rt, .int (nI tw), .int (nI tm)])), (ad 1, .inr (8, [.ref (ad 2), .int (nI tn)])), (ad 2, .inl (cy 0, 600, .inl tb))] H := hP
                  have hD : va_D A [(ad 27, .inr (5, [.ref (ad 28), .int (nI rl), .int fk, .int fp, .ref (ad 1), .int (nI i1), .int (nI (i1 + 1)), .int lw, .int (nI pa), .int rt, .int (nI tw), .int (nI tm)])), (ad 1, .inr (8, [.ref (ad 2), .int (nI tn)])), (ad 2, .inl (cy 0, 600, .inl tb))] := hD
                  refine bw_Qe hQ ?_
                  have hP9 : va_P (dC, dI) vwCl [(ad 27, .inr (5, [.ref (ad 28), .int (nI rl), .int fk, .int fp, .ref (ad 1), .int (nI i1), .int (nI (i1 + 1)), .int lw, .int (nI pa), .int rt, .int (nI tw), .int (nI tm)])), (ad 1, .inr (8, [.ref (ad 2), .int (nI tn)])), (ad 2, .inl (cy 0, 600, .inl tb))] H := hP.sub [0, 1, 2] rfl
                  have hD9 : va_D A [(ad 27, .inr (5, [.ref (ad 28), .int (nI rl), .int fk, .int fp, .ref (ad 1), .int (nI i1), .int (nI (i1 + 1)), .int lw, .int (nI pa), .int rt, .int (nI tw), .int (nI tm)])), (ad 1, .inr (8, [.ref (ad 2), .int (nI tn)])), (ad 2, .inl (cy 0, 600, .inl tb))] := hD.sub [0, 1, 2] (by decide) rfl
                  have hpost : tokP tb tn te i1 (i1 + 1) := by
                    first
                      | exact tp_n hr2 (by omega)
                      | exact tp_e hr2 (by omega) (by omega) (by omega) (te_o (fun q => by have q1 := q.1; have q2 := q.2; omega) (fun q => by have q1 := q.1; have q2 := q.2; omega))
                      | (have hs1 : bSm tb tn i1 := ⟨by omega, by omega, by omega⟩
                         have hn3 : ¬ bSm tb tn j := (fun q => by have q1 := q.1; have q2 := q.2; omega)
                         have hne : i1 ≠ j := fun q => hn3 (q ▸ hs1)
                         exact tp_e hr2 (by omega) (by omega) (by omega) (te_s hs1 hr3 hn3))
                      | (have hs1 : bDg tb tn i1 := ⟨by omega, by omega, by omega⟩
                         have hn3 : ¬ bDg tb tn j := (fun q => by have q1 := q.1; have q2 := q.2; omega)
                         have hne : i1 ≠ j := fun q => hn3 (q ▸ hs1)
                         exact tp_e hr2 (by omega) (by omega) (by omega) (te_d hs1 hr3 hn3))
                  exact W.vret hx hb hr (fun t9 ht hW => ⟨⟨(i1, i1 + 1), rfl, hpost, by rw [ht]; exact hP9, va_K.moved hW.alike hK, hD9⟩, hS.F ht⟩) hS.2.2 dX5_findToken_177
              · skip
                have L_126 : ∀ (n9 : Nat), ∀ (j : Nat), (tn - j) < n9 → (j ≤ tn) → (toRun (bDg tb tn) i1 j) → ∀ (H : Heap) (locs : List Loc), va_P (dC, dI) vwCl [(ad 27, .inr (5, [.ref (ad 28), .int (nI rl), .int fk, .int fp, .ref (ad 1), .int (nI i1), .int (nI te), .int lw, .int (nI pa), .int rt, .int (nI tw), .int (nI tm)])), (ad 1, .inr (8, [.ref (ad 2), .int (nI tn)])), (ad 2, .inl (cy 0, 600, .inl tb))] H → va_D A [(ad 27, .inr (5, [.ref (ad 28), .int (nI rl), .int fk, .int fp, .ref (ad 1), .int (nI i1), .int (nI te), .int lw, .int (nI pa), .int rt, .int (nI tw), .int (nI tm)])), (ad 1, .inr (8, [.ref (ad 2), .int (nI tn)])), (ad 2, .inl (cy 0, 600, .inl tb))] → va_S A ss.heap H locs → ∀ (ls : Array Slot), lv_has ls 2 [(0, .ref (ad 27)), (1, .int (nI j))] → W pp l ee { frames := 1, cells := 0, slots := 0, locals := 20 } ss mm (List.toArray [Value.ref (ad 27)]) below meth cc0 H locs 0 0 Q (F0 mm 126 ls []) := by
                  intro n9
                  induction n9 with
                  | zero => intro j hm9; exact absurd hm9 (Nat.not_lt_zero _)
                  | succ n9 ih126 =>
                    intro j hm126 hj1 hr3
                    intro H locs hP hD hS
                    intro ls hl
                    have hj0 := hr3.1
                    refine lv_iload_n hx hb dX5_findToken_126 rfl (lv_at hl 1 rfl) ?_
                    refine lv_aload_n hx hb dX5_findToken_127 rfl (lv_at hl 0 rfl) ?_
                    refine va_get (D := (dC, dI)) (ci := 5) (v := .ref (ad 1)) (C := RX5) (T := TX5) (N := 12) hx hb hts hiX5 hown hK hP 0 rfl rfl 4 (by decide) hL1 (fun _ h9 => h9) rfl dX5_findToken_128 ?_
                    refine va_get (D := (dC, dI)) (ci := 8) (v := .int (nI tn)) (C := RX8) (T := TX8) (N := 2) hx hb hts hiX8 hown hK hP 1 rfl rfl 1 (by decide) hL2 (fun _ h9 => h9) rfl dX5_findToken_131 ?_
                    refine bw_icmp_ge (tgt := 172) (a := ((j : Nat) : Int)) (b := ((tn : Nat) : Int)) hx hb dX5_findToken_134 (by decide) (nI_toInt (by omega)) (nI_toInt (by omega)) (fun c_17 => ?_) (fun c_17 => ?_)
                    · skip
                      refine lv_aload_n hx hb dX5_findToken_172 rfl (lv_at hl 0 rfl) ?_
                      refine lv_iload_n hx hb dX5_findToken_173 rfl (lv_at hl 1 rfl) ?_
                      refine va_put (D := (dC, dI)) (ci := 5) (v := .int (nI j)) (ty := (tyX5 6)) (C := RX5) (T := TX5) (N := 12) hx hb hts hiX5 tyX5 tyX5_ok nmX5 hown hK hP hD hS 0 rfl rfl 6 (by decide) hL0 (fun _ h9 => h9) rfl (by decide +kernel) rfl rfl (Nat.le_of_ble_eq_true rfl) dX5_findToken_174 (fun H locs hP hD hS => ?_)
                      have hP : va_P (dC, dI) vwCl [(ad 27, .inr (5, [.ref (ad 28), .int (nI rl), .int fk, .int fp, .ref (ad 1), .int (nI i1), .int (nI j), .int lw, .int (nI pa), .int rt, .int (nI tw), .int (nI tm)])), (ad 1, .inr (8, [.ref (ad 2), .int (nI tn)])), (ad 2, .inl (cy 0, 600, .inl tb))] H := hP
                      have hD : va_D A [(ad 27, .inr (5, [.ref (ad 28), .int (nI rl), .int fk, .int fp, .ref (ad 1), .int (nI i1), .int (nI j), .int lw, .int (nI pa), .int rt, .int (nI tw), .int (nI tm)])), (ad 1, .inr (8, [.ref (ad 2), .int (nI tn)])), (ad 2, .inl (cy 0, 600, .inl tb))] := hD
                      refine bw_Qe hQ ?_
                      have hP9 : va_P (dC, dI) vwCl [(ad 27, .inr (5, [.ref (ad 28), .int (nI rl), .int fk, .int fp, .ref (ad 1), .int (nI i1), .int (nI j), .int lw, .int (nI pa), .int rt, .int (nI tw), .int (nI tm)])), (ad 1, .inr (8, [.ref (ad 2), .int (nI tn)])), (ad 2, .inl (cy 0, 600, .inl tb))] H := hP.sub [0, 1, 2] rfl
                      have hD9 : va_D A [(ad 27, .inr (5, [.ref (ad 28), .int (nI rl), .int fk, .int fp, .ref (ad 1), .int (nI i1), .int (nI j), .int lw, .int (nI pa), .int rt, .int (nI tw), .int (nI tm)])), (ad 1, .inr (8, [.ref (ad 2), .int (nI tn)])), (ad 2, .inl (cy 0, 600, .inl tb))] := hD.sub [0, 1, 2] (by decide) rfl
                      have hpost : tokP tb tn te i1 j := by
                        first
                          | exact tp_n hr2 (by omega)
                          | exact tp_e hr2 (by omega) (by omega) (by omega) (te_o (fun q => by have q1 := q.1; have q2 := q.2; omega) (fun q => by have q1 := q.1; have q2 := q.2; omega))
                          | (have hs1 : bSm tb tn i1 := ⟨by omega, by omega, by omega⟩
                             have hn3 : ¬ bSm tb tn j := (fun q => by have q1 := q.1; have q2 := q.2; omega)
                             have hne : i1 ≠ j := fun q => hn3 (q ▸ hs1)
                             exact tp_e hr2 (by omega) (by omega) (by omega) (te_s hs1 hr3 hn3))
                          | (have hs1 : bDg tb tn i1 := ⟨by omega, by omega, by omega⟩
                             have hn3 : ¬ bDg tb tn j := (fun q => by have q1 := q.1; have q2 := q.2; omega)
                             have hne : i1 ≠ j := fun q => hn3 (q ▸ hs1)
                             exact tp_e hr2 (by omega) (by omega) (by omega) (te_d hs1 hr3 hn3))
                      exact W.vret hx hb hr (fun t9 ht hW => ⟨⟨(i1, j), rfl, hpost, by rw [ht]; exact hP9, va_K.moved hW.alike hK, hD9⟩, hS.F ht⟩) hS.2.2 dX5_findToken_177
                    · skip
                      refine lv_aload_n hx hb dX5_findToken_137 rfl (lv_at hl 0 rfl) ?_
                      refine va_get (D := (dC, dI)) (ci := 5) (v := .ref (ad 1)) (C := RX5) (T := TX5) (N := 12) hx hb hts hiX5 hown hK hP 0 rfl rfl 4 (by decide) hL1 (fun _ h9 => h9) rfl dX5_findToken_138 ?_
                      refine va_get (D := (dC, dI)) (ci := 8) (v := .ref (ad 2)) (C := RX8) (T := TX8) (N := 2) hx hb hts hiX8 hown hK hP 1 rfl rfl 0 (by decide) hL4 (fun _ h9 => h9) rfl dX5_findToken_141 ?_
                      refine lv_iload_n hx hb dX5_findToken_144 rfl (lv_at hl 1 rfl) ?_
                      refine bw_iald hx hb hK hP 2 0 rfl rfl (j := j) (nI_toInt (by omega)) (by omega) dX5_findToken_145 ?_
                      refine vp_callSi (va_Run.run (va_runSN (As := [.int (tb j)]) (rest := []) ⟨hx, hb, hml, hown, hts⟩ (c_X10_isDigit l dC dI cy (tb j)) ⟨va_cnB 1 hts gX5_findToken_X10_isDigit_n76 rfl rfl rfl hn0 hL5 (by decide +kernel) ⟨Nat.le_of_ble_eq_true rfl, Nat.le_of_ble_eq_true rfl⟩, hL6, trivial⟩ ⟨fun a U g mk q => q, fun U hU hW => ⟨rfl, trivial⟩⟩ rfl rfl hl.1 rfl (lv_room (Nat.le_of_ble_eq_true rfl)) dX5_findToken_146 ⟨Nat.le_of_ble_eq_true rfl, Nat.le_of_ble_eq_true rfl⟩)) (fun r_18 hr_18 => ?_)
                      refine bw_ifeqB (tgt := 172) hx hb dX5_findToken_149 (by decide) hr_18 (fun c_19 => ?_) (fun c_19 => ?_)
                      · skip
                        refine lv_aload_n hx hb dX5_findToken_172 rfl (lv_at hl 0 rfl) ?_
                        refine lv_iload_n hx hb dX5_findToken_173 rfl (lv_at hl 1 rfl) ?_
                        refine va_put (D := (dC, dI)) (ci := 5) (v := .int (nI j)) (ty := (tyX5 6)) (C := RX5) (T := TX5) (N := 12) hx hb hts hiX5 tyX5 tyX5_ok nmX5 hown hK hP hD hS 0 rfl rfl 6 (by decide) hL0 (fun _ h9 => h9) rfl (by decide +kernel) rfl rfl (Nat.le_of_ble_eq_true rfl) dX5_findToken_174 (fun H locs hP hD hS => ?_)
                        have hP : va_P (dC, dI) vwCl [(ad 27, .inr (5, [.ref (ad 28), .int (nI rl), .int fk, .int fp, .ref (ad 1), .int (nI i1), .int (nI j), .int lw, .int (nI pa), .int rt, .int (nI tw), .int (nI tm)])), (ad 1, .inr (8, [.ref (ad 2), .int (nI tn)])), (ad 2, .inl (cy 0, 600, .inl tb))] H := hP
                        have hD : va_D A [(ad 27, .inr (5, [.ref (ad 28), .int (nI rl), .int fk, .int fp, .ref (ad 1), .int (nI i1), .int (nI j), .int lw, .int (nI pa), .int rt, .int (nI tw), .int (nI tm)])), (ad 1, .inr (8, [.ref (ad 2), .int (nI tn)])), (ad 2, .inl (cy 0, 600, .inl tb))] := hD
                        refine bw_Qe hQ ?_
                        have hP9 : va_P (dC, dI) vwCl [(ad 27, .inr (5, [.ref (ad 28), .int (nI rl), .int fk, .int fp, .ref (ad 1), .int (nI i1), .int (nI j), .int lw, .int (nI pa), .int rt, .int (nI tw), .int (nI tm)])), (ad 1, .inr (8, [.ref (ad 2), .int (nI tn)])), (ad 2, .inl (cy 0, 600, .inl tb))] H := hP.sub [0, 1, 2] rfl
                        have hD9 : va_D A [(ad 27, .inr (5, [.ref (ad 28), .int (nI rl), .int fk, .int fp, .ref (ad 1), .int (nI i1), .int (nI j), .int lw, .int (nI pa), .int rt, .int (nI tw), .int (nI tm)])), (ad 1, .inr (8, [.ref (ad 2), .int (nI tn)])), (ad 2, .inl (cy 0, 600, .inl tb))] := hD.sub [0, 1, 2] (by decide) rfl
                        have hpost : tokP tb tn te i1 j := by
                          first
                            | exact tp_n hr2 (by omega)
                            | exact tp_e hr2 (by omega) (by omega) (by omega) (te_o (fun q => by have q1 := q.1; have q2 := q.2; omega) (fun q => by have q1 := q.1; have q2 := q.2; omega))
                            | (have hs1 : bSm tb tn i1 := ⟨by omega, by omega, by omega⟩
                               have hn3 : ¬ bSm tb tn j := (fun q => by have q1 := q.1; have q2 := q.2; omega)
                               have hne : i1 ≠ j := fun q => hn3 (q ▸ hs1)
                               exact tp_e hr2 (by omega) (by omega) (by omega) (te_s hs1 hr3 hn3))
                            | (have hs1 : bDg tb tn i1 := ⟨by omega, by omega, by omega⟩
                               have hn3 : ¬ bDg tb tn j := (fun q => by have q1 := q.1; have q2 := q.2; omega)
                               have hne : i1 ≠ j := fun q => hn3 (q ▸ hs1)
                               exact tp_e hr2 (by omega) (by omega) (by omega) (te_d hs1 hr3 hn3))
                        exact W.vret hx hb hr (fun t9 ht hW => ⟨⟨(i1, j), rfl, hpost, by rw [ht]; exact hP9, va_K.moved hW.alike hK, hD9⟩, hS.F ht⟩) hS.2.2 dX5_findToken_177
                      · skip
                        refine lv_iinc (v := nI (j + 1)) (lv' := [(1, .int (nI (j + 1))), (0, .ref (ad 27))]) hx hb dX5_findToken_152 hl (k := 1) rfl (show nI j + Int32.ofInt 1 = nI (j + 1) from nI_add j 1) (by decide) rfl (fun ls hl => ?_)
                        refine lv_goto (tgt := 126) hx hb dX5_findToken_155 (by decide) ?_
                        have hI_hr3 : toRun (bDg tb tn) i1 (j + 1) := by
                          exact toRun_s hr3 ⟨by omega, by omega, by omega⟩
                        exact ih126 (j + 1) (by omega) (by first | assumption | omega) hI_hr3 H locs hP hD hS ls (lv_sub hl [1, 0] rfl)
                have hI_hr3 : toRun (bDg tb tn) i1 i1 := by
                  exact toRun_0
                exact L_126 ((tn - i1) + 1) i1 (by omega) (by first | assumption | omega) hI_hr3 H locs hP hD hS ls (lv_sub hl [0, 1] rfl)
          · skip
            have L_68 : ∀ (n9 : Nat), ∀ (j : Nat), (tn - j) < n9 → (j ≤ tn) → (toRun (bSm tb tn) i1 j) → ∀ (H : Heap) (locs : List Loc), va_P (dC, dI) vwCl [(ad 27, .inr (5, [.ref (ad 28), .int (nI rl), .int fk, .int fp, .ref (ad 1), .int (nI i1), .int (nI te), .int lw, .int (nI pa), .int rt, .int (nI tw), .int (nI tm)])), (ad 1, .inr (8, [.ref (ad 2), .int (nI tn)])), (ad 2, .inl (cy 0, 600, .inl tb))] H → va_D A [(ad 27, .inr (5, [.ref (ad 28), .int (nI rl), .int fk, .int fp, .ref (ad 1), .int (nI i1), .int (nI te), .int lw, .int (nI pa), .int rt, .int (nI tw), .int (nI tm)])), (ad 1, .inr (8, [.ref (ad 2), .int (nI tn)])), (ad 2, .inl (cy 0, 600, .inl tb))] → va_S A ss.heap H locs → ∀ (ls : Array Slot), lv_has ls 2 [(0, .ref (ad 27)), (1, .int (nI j))] → W pp l ee { frames := 1, cells := 0, slots := 0, locals := 20 } ss mm (List.toArray [Value.ref (ad 27)]) below meth cc0 H locs 0 0 Q (F0 mm 68 ls []) := by
              intro n9
              induction n9 with
              | zero => intro j hm9; exact absurd hm9 (Nat.not_lt_zero _)
              | succ n9 ih68 =>
                intro j hm68 hj1 hr3
                intro H locs hP hD hS
                intro ls hl
                have hj0 := hr3.1
                refine lv_iload_n hx hb dX5_findToken_68 rfl (lv_at hl 1 rfl) ?_
                refine lv_aload_n hx hb dX5_findToken_69 rfl (lv_at hl 0 rfl) ?_
                refine va_get (D := (dC, dI)) (ci := 5) (v := .ref (ad 1)) (C := RX5) (T := TX5) (N := 12) hx hb hts hiX5 hown hK hP 0 rfl rfl 4 (by decide) hL1 (fun _ h9 => h9) rfl dX5_findToken_70 ?_
                refine va_get (D := (dC, dI)) (ci := 8) (v := .int (nI tn)) (C := RX8) (T := TX8) (N := 2) hx hb hts hiX8 hown hK hP 1 rfl rfl 1 (by decide) hL2 (fun _ h9 => h9) rfl dX5_findToken_73 ?_
                refine bw_icmp_ge (tgt := 172) (a := ((j : Nat) : Int)) (b := ((tn : Nat) : Int)) hx hb dX5_findToken_76 (by decide) (nI_toInt (by omega)) (nI_toInt (by omega)) (fun c_20 => ?_) (fun c_20 => ?_)
                · skip
                  refine lv_aload_n hx hb dX5_findToken_172 rfl (lv_at hl 0 rfl) ?_
                  refine lv_iload_n hx hb dX5_findToken_173 rfl (lv_at hl 1 rfl) ?_
                  refine va_put (D := (dC, dI)) (ci := 5) (v := .int (nI j)) (ty := (tyX5 6)) (C := RX5) (T := TX5) (N := 12) hx hb hts hiX5 tyX5 tyX5_ok nmX5 hown hK hP hD hS 0 rfl rfl 6 (by decide) hL0 (fun _ h9 => h9) rfl (by decide +kernel) rfl rfl (Nat.le_of_ble_eq_true rfl) dX5_findToken_174 (fun H locs hP hD hS => ?_)
                  have hP : va_P (dC, dI) vwCl [(ad 27, .inr (5, [.ref (ad 28), .int (nI rl), .int fk, .int fp, .ref (ad 1), .int (nI i1), .int (nI j), .int lw, .int (nI pa), .int rt, .int (nI tw), .int (nI tm)])), (ad 1, .inr (8, [.ref (ad 2), .int (nI tn)])), (ad 2, .inl (cy 0, 600, .inl tb))] H := hP
                  have hD : va_D A [(ad 27, .inr (5, [.ref (ad 28), .int (nI rl), .int fk, .int fp, .ref (ad 1), .int (nI i1), .int (nI j), .int lw, .int (nI pa), .int rt, .int (nI tw), .int (nI tm)])), (ad 1, .inr (8, [.ref (ad 2), .int (nI tn)])), (ad 2, .inl (cy 0, 600, .inl tb))] := hD
                  refine bw_Qe hQ ?_
                  have hP9 : va_P (dC, dI) vwCl [(ad 27, .inr (5, [.ref (ad 28), .int (nI rl), .int fk, .int fp, .ref (ad 1), .int (nI i1), .int (nI j), .int lw, .int (nI pa), .int rt, .int (nI tw), .int (nI tm)])), (ad 1, .inr (8, [.ref (ad 2), .int (nI tn)])), (ad 2, .inl (cy 0, 600, .inl tb))] H := hP.sub [0, 1, 2] rfl
                  have hD9 : va_D A [(ad 27, .inr (5, [.ref (ad 28), .int (nI rl), .int fk, .int fp, .ref (ad 1), .int (nI i1), .int (nI j), .int lw, .int (nI pa), .int rt, .int (nI tw), .int (nI tm)])), (ad 1, .inr (8, [.ref (ad 2), .int (nI tn)])), (ad 2, .inl (cy 0, 600, .inl tb))] := hD.sub [0, 1, 2] (by decide) rfl
                  have hpost : tokP tb tn te i1 j := by
                    first
                      | exact tp_n hr2 (by omega)
                      | exact tp_e hr2 (by omega) (by omega) (by omega) (te_o (fun q => by have q1 := q.1; have q2 := q.2; omega) (fun q => by have q1 := q.1; have q2 := q.2; omega))
                      | (have hs1 : bSm tb tn i1 := ⟨by omega, by omega, by omega⟩
                         have hn3 : ¬ bSm tb tn j := (fun q => by have q1 := q.1; have q2 := q.2; omega)
                         have hne : i1 ≠ j := fun q => hn3 (q ▸ hs1)
                         exact tp_e hr2 (by omega) (by omega) (by omega) (te_s hs1 hr3 hn3))
                      | (have hs1 : bDg tb tn i1 := ⟨by omega, by omega, by omega⟩
                         have hn3 : ¬ bDg tb tn j := (fun q => by have q1 := q.1; have q2 := q.2; omega)
                         have hne : i1 ≠ j := fun q => hn3 (q ▸ hs1)
                         exact tp_e hr2 (by omega) (by omega) (by omega) (te_d hs1 hr3 hn3))
                  exact W.vret hx hb hr (fun t9 ht hW => ⟨⟨(i1, j), rfl, hpost, by rw [ht]; exact hP9, va_K.moved hW.alike hK, hD9⟩, hS.F ht⟩) hS.2.2 dX5_findToken_177
                · skip
                  refine lv_aload_n hx hb dX5_findToken_79 rfl (lv_at hl 0 rfl) ?_
                  refine va_get (D := (dC, dI)) (ci := 5) (v := .ref (ad 1)) (C := RX5) (T := TX5) (N := 12) hx hb hts hiX5 hown hK hP 0 rfl rfl 4 (by decide) hL1 (fun _ h9 => h9) rfl dX5_findToken_80 ?_
                  refine va_get (D := (dC, dI)) (ci := 8) (v := .ref (ad 2)) (C := RX8) (T := TX8) (N := 2) hx hb hts hiX8 hown hK hP 1 rfl rfl 0 (by decide) hL4 (fun _ h9 => h9) rfl dX5_findToken_83 ?_
                  refine lv_iload_n hx hb dX5_findToken_86 rfl (lv_at hl 1 rfl) ?_
                  refine bw_iald hx hb hK hP 2 0 rfl rfl (j := j) (nI_toInt (by omega)) (by omega) dX5_findToken_87 ?_
                  refine vp_callSi (va_Run.run (va_runSN (As := [.int (tb j)]) (rest := []) ⟨hx, hb, hml, hown, hts⟩ (c_X10_isSmallLetter l dC dI cy (tb j)) ⟨va_cnB 1 hts gX5_findToken_X10_isSmallLetter_n73 rfl rfl rfl hn1 hL5 (by decide +kernel) ⟨Nat.le_of_ble_eq_true rfl, Nat.le_of_ble_eq_true rfl⟩, hL7, trivial⟩ ⟨fun a U g mk q => q, fun U hU hW => ⟨rfl, trivial⟩⟩ rfl rfl hl.1 rfl (lv_room (Nat.le_of_ble_eq_true rfl)) dX5_findToken_88 ⟨Nat.le_of_ble_eq_true rfl, Nat.le_of_ble_eq_true rfl⟩)) (fun r_21 hr_21 => ?_)
                  refine bw_ifeqB (tgt := 172) hx hb dX5_findToken_91 (by decide) hr_21 (fun c_22 => ?_) (fun c_22 => ?_)
                  · skip
                    refine lv_aload_n hx hb dX5_findToken_172 rfl (lv_at hl 0 rfl) ?_
                    refine lv_iload_n hx hb dX5_findToken_173 rfl (lv_at hl 1 rfl) ?_
                    refine va_put (D := (dC, dI)) (ci := 5) (v := .int (nI j)) (ty := (tyX5 6)) (C := RX5) (T := TX5) (N := 12) hx hb hts hiX5 tyX5 tyX5_ok nmX5 hown hK hP hD hS 0 rfl rfl 6 (by decide) hL0 (fun _ h9 => h9) rfl (by decide +kernel) rfl rfl (Nat.le_of_ble_eq_true rfl) dX5_findToken_174 (fun H locs hP hD hS => ?_)
                    have hP : va_P (dC, dI) vwCl [(ad 27, .inr (5, [.ref (ad 28), .int (nI rl), .int fk, .int fp, .ref (ad 1), .int (nI i1), .int (nI j), .int lw, .int (nI pa), .int rt, .int (nI tw), .int (nI tm)])), (ad 1, .inr (8, [.ref (ad 2), .int (nI tn)])), (ad 2, .inl (cy 0, 600, .inl tb))] H := hP
                    have hD : va_D A [(ad 27, .inr (5, [.ref (ad 28), .int (nI rl), .int fk, .int fp, .ref (ad 1), .int (nI i1), .int (nI j), .int lw, .int (nI pa), .int rt, .int (nI tw), .int (nI tm)])), (ad 1, .inr (8, [.ref (ad 2), .int (nI tn)])), (ad 2, .inl (cy 0, 600, .inl tb))] := hD
                    refine bw_Qe hQ ?_
                    have hP9 : va_P (dC, dI) vwCl [(ad 27, .inr (5, [.ref (ad 28), .int (nI rl), .int fk, .int fp, .ref (ad 1), .int (nI i1), .int (nI j), .int lw, .int (nI pa), .int rt, .int (nI tw), .int (nI tm)])), (ad 1, .inr (8, [.ref (ad 2), .int (nI tn)])), (ad 2, .inl (cy 0, 600, .inl tb))] H := hP.sub [0, 1, 2] rfl
                    have hD9 : va_D A [(ad 27, .inr (5, [.ref (ad 28), .int (nI rl), .int fk, .int fp, .ref (ad 1), .int (nI i1), .int (nI j), .int lw, .int (nI pa), .int rt, .int (nI tw), .int (nI tm)])), (ad 1, .inr (8, [.ref (ad 2), .int (nI tn)])), (ad 2, .inl (cy 0, 600, .inl tb))] := hD.sub [0, 1, 2] (by decide) rfl
                    have hpost : tokP tb tn te i1 j := by
                      first
                        | exact tp_n hr2 (by omega)
                        | exact tp_e hr2 (by omega) (by omega) (by omega) (te_o (fun q => by have q1 := q.1; have q2 := q.2; omega) (fun q => by have q1 := q.1; have q2 := q.2; omega))
                        | (have hs1 : bSm tb tn i1 := ⟨by omega, by omega, by omega⟩
                           have hn3 : ¬ bSm tb tn j := (fun q => by have q1 := q.1; have q2 := q.2; omega)
                           have hne : i1 ≠ j := fun q => hn3 (q ▸ hs1)
                           exact tp_e hr2 (by omega) (by omega) (by omega) (te_s hs1 hr3 hn3))
                        | (have hs1 : bDg tb tn i1 := ⟨by omega, by omega, by omega⟩
                           have hn3 : ¬ bDg tb tn j := (fun q => by have q1 := q.1; have q2 := q.2; omega)
                           have hne : i1 ≠ j := fun q => hn3 (q ▸ hs1)
                           exact tp_e hr2 (by omega) (by omega) (by omega) (te_d hs1 hr3 hn3))
                    exact W.vret hx hb hr (fun t9 ht hW => ⟨⟨(i1, j), rfl, hpost, by rw [ht]; exact hP9, va_K.moved hW.alike hK, hD9⟩, hS.F ht⟩) hS.2.2 dX5_findToken_177
                  · skip
                    refine lv_iinc (v := nI (j + 1)) (lv' := [(1, .int (nI (j + 1))), (0, .ref (ad 27))]) hx hb dX5_findToken_94 hl (k := 1) rfl (show nI j + Int32.ofInt 1 = nI (j + 1) from nI_add j 1) (by decide) rfl (fun ls hl => ?_)
                    refine lv_goto (tgt := 68) hx hb dX5_findToken_97 (by decide) ?_
                    have hI_hr3 : toRun (bSm tb tn) i1 (j + 1) := by
                      exact toRun_s hr3 ⟨by omega, by omega, by omega⟩
                    exact ih68 (j + 1) (by omega) (by first | assumption | omega) hI_hr3 H locs hP hD hS ls (lv_sub hl [1, 0] rfl)
            have hI_hr3 : toRun (bSm tb tn) i1 i1 := by
              exact toRun_0
            exact L_68 ((tn - i1) + 1) i1 (by omega) (by first | assumption | omega) hI_hr3 H locs hP hD hS ls (lv_sub hl [0, 1] rfl)
      refine bw_icmp_ge (tgt := 37) (a := ((i : Nat) : Int)) (b := ((tn : Nat) : Int)) hx hb dX5_findToken_13 (by decide) (nI_toInt (by omega)) (nI_toInt (by omega)) (fun c_23 => ?_) (fun c_23 => ?_)
      · skip
        have hI_hr2 : isRun (bBl tb tn) te i := by
          exact toRun_e hr1 (fun q => by have q1 := q.1; have q2 := q.2; omega)
        exact L_37 i (by first | assumption | omega) hI_hr2 H locs hP hD hS ls (lv_sub hl [0, 1] rfl)
      · skip
        refine lv_aload_n hx hb dX5_findToken_16 rfl (lv_at hl 0 rfl) ?_
        refine va_get (D := (dC, dI)) (ci := 5) (v := .ref (ad 1)) (C := RX5) (T := TX5) (N := 12) hx hb hts hiX5 hown hK hP 0 rfl rfl 4 (by decide) hL1 (fun _ h9 => h9) rfl dX5_findToken_17 ?_
        refine va_get (D := (dC, dI)) (ci := 8) (v := .ref (ad 2)) (C := RX8) (T := TX8) (N := 2) hx hb hts hiX8 hown hK hP 1 rfl rfl 0 (by decide) hL4 (fun _ h9 => h9) rfl dX5_findToken_20 ?_
        refine lv_iload_n hx hb dX5_findToken_23 rfl (lv_at hl 1 rfl) ?_
        refine bw_iald hx hb hK hP 2 0 rfl rfl (j := i) (nI_toInt (by omega)) (by omega) dX5_findToken_24 ?_
        refine vp_callSi (va_Run.run (va_runSN (As := [.int (tb i)]) (rest := []) ⟨hx, hb, hml, hown, hts⟩ (c_X10_isBlank l dC dI cy (tb i)) ⟨va_cnB 1 hts gX5_findToken_X10_isBlank_n69 rfl rfl rfl hn2 hL5 (by decide +kernel) ⟨Nat.le_of_ble_eq_true rfl, Nat.le_of_ble_eq_true rfl⟩, hL8, trivial⟩ ⟨fun a U g mk q => q, fun U hU hW => ⟨rfl, trivial⟩⟩ rfl rfl hl.1 rfl (lv_room (Nat.le_of_ble_eq_true rfl)) dX5_findToken_25 ⟨Nat.le_of_ble_eq_true rfl, Nat.le_of_ble_eq_true rfl⟩)) (fun r_24 hr_24 => ?_)
        refine bw_ifeqB (tgt := 37) hx hb dX5_findToken_28 (by decide) hr_24 (fun c_25 => ?_) (fun c_25 => ?_)
        · skip
          have hI_hr2 : isRun (bBl tb tn) te i := by
            exact toRun_e hr1 (fun q => by have q1 := q.1; have q2 := q.2; omega)
          exact L_37 i (by first | assumption | omega) hI_hr2 H locs hP hD hS ls (lv_sub hl [0, 1] rfl)
        · skip
          refine lv_iinc (v := nI (i + 1)) (lv' := [(1, .int (nI (i + 1))), (0, .ref (ad 27))]) hx hb dX5_findToken_31 hl (k := 1) rfl (show nI i + Int32.ofInt 1 = nI (i + 1) from nI_add i 1) (by decide) rfl (fun ls hl => ?_)
          refine lv_goto (tgt := 5) hx hb dX5_findToken_34 (by decide) ?_
          have hI_hr1 : toRun (bBl tb tn) te (i + 1) := by
            exact toRun_s hr1 ⟨by omega, by omega⟩
          exact ih5 (i + 1) (by omega) (by first | assumption | omega) hI_hr1 H locs hP hD hS ls (lv_sub hl [1, 0] rfl)
  have hI_hr1 : toRun (bBl tb tn) te te := by
    exact toRun_0
  exact L_5 ((tn - te) + 1) te (by omega) (by first | assumption | omega) hI_hr1 H locs hP hD hS ls (lv_sub hl [1, 0] rfl)

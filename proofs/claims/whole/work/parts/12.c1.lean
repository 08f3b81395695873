set_option maxHeartbeats 4000000 in
set_option maxRecDepth 100000 in
theorem c_X10_isYear (l : Launch) (dC : Nat → ClassId) (dI : Nat → Nat → Nat) (cy : Nat → ClassId) (y : Int32)  : Met l yX10_isYear wsX10_isYear ({ frames := 0, cells := 0, slots := 0, locals := 0 }) (va_Pc [.int y] (fun _ => True)) (vp_Si (fun r => r = if 1500 ≤ y.toInt ∧ y.toInt ≤ 2100 then 1 else 0)) 0 0 (fun _ => False) := by
  refine Met.ofW (cc := cX10_isYear) (maxL := 1) (ret := (some .boolean)) (by decide) rfl ?_
  intro pp ee ss mm args below meth cc0 s₁ B hml hv
  obtain ⟨rfl, -⟩ := hv
  have hx := B.exec
  have hb := B.bytes
  have hr := B.returns
  have hts := atoms_spec (ws := wsX10_isYear) B.pre
  have hown : ss.vm.findClass RX10 = some mm.cls := findClass_of_methodNamed B.named
  have hlocks := B.notSynchronized
  have hl := lv_entry ([.int y]) (n := 1) (Nat.le_of_ble_eq_true rfl)
  rw [lg_entry_eq]
  generalize (lg_sl ([.int y]) ++ List.replicate (1 - (lg_sl ([.int y])).length) Slot.unset).toArray = ls at hl ⊢
  have hl : lv_has ls 1 [(0, .int y)] := hl
  refine bw_Q (fun Q hQ => ?_)
  change W pp l ee { frames := 0, cells := 0, slots := 0, locals := 0 } ss mm _ below meth cc0 ss.heap [] 0 0 Q (F0 mm 0 ls [])
  refine lv_iload_n hx hb dX10_isYear_0 rfl (lv_at hl 0 rfl) ?_
  refine lv_sipush (v := 1500) hx hb dX10_isYear_1 (by decide) ?_
  refine bw_icmp_lt (tgt := 18) (a := y.toInt) (b := 1500) hx hb dX10_isYear_4 (by decide) rfl rfl (fun c_1 => ?_) (fun c_1 => ?_)
  · skip
    refine lv_iconst (v := 0) hx hb dX10_isYear_18 (by decide) ?_
    subst hQ
    have hpost : (0 : Int32) = if 1500 ≤ y.toInt ∧ y.toInt ≤ 2100 then 1 else 0 := by
      first | rw [if_pos (by omega)] | rw [if_neg (by omega)]
    exact W.zret (v := 0) hx hb hr (by rfl) (fun t9 ht hW => ⟨_, rfl, hpost, by rw [ht]⟩) (fun q h => by cases h) dX10_isYear_19
  · skip
    refine lv_iload_n hx hb dX10_isYear_7 rfl (lv_at hl 0 rfl) ?_
    refine lv_sipush (v := 2100) hx hb dX10_isYear_8 (by decide) ?_
    refine bw_icmp_gt (tgt := 18) (a := y.toInt) (b := 2100) hx hb dX10_isYear_11 (by decide) rfl rfl (fun c_2 => ?_) (fun c_2 => ?_)
    · skip
      refine lv_iconst (v := 0) hx hb dX10_isYear_18 (by decide) ?_
      subst hQ
      have hpost : (0 : Int32) = if 1500 ≤ y.toInt ∧ y.toInt ≤ 2100 then 1 else 0 := by
        first | rw [if_pos (by omega)] | rw [if_neg (by omega)]
      exact W.zret (v := 0) hx hb hr (by rfl) (fun t9 ht hW => ⟨_, rfl, hpost, by rw [ht]⟩) (fun q h => by cases h) dX10_isYear_19
    · skip
      refine lv_iconst (v := 1) hx hb dX10_isYear_14 (by decide) ?_
      refine lv_goto (tgt := 19) hx hb dX10_isYear_15 (by decide) ?_
      subst hQ
      have hpost : (1 : Int32) = if 1500 ≤ y.toInt ∧ y.toInt ≤ 2100 then 1 else 0 := by
        first | rw [if_pos (by omega)] | rw [if_neg (by omega)]
      exact W.zret (v := 1) hx hb hr (by rfl) (fun t9 ht hW => ⟨_, rfl, hpost, by rw [ht]⟩) (fun q h => by cases h) dX10_isYear_19

set_option maxHeartbeats 4000000 in
set_option maxRecDepth 100000 in
theorem c_X10_isSpan (l : Launch) (dC : Nat → ClassId) (dI : Nat → Nat → Nat) (cy : Nat → ClassId) (f : Int32) (t : Int32)  : Met l yX10_isSpan wsX10_isSpan ({ frames := 1, cells := 0, slots := 0, locals := 20 }) (va_Pc [.int f, .int t] (fun _ => True)) (vp_Si (fun r => r = if 1500 ≤ f.toInt ∧ f.toInt ≤ t.toInt ∧ t.toInt ≤ 2100 then 1 else 0)) 0 0 (fun _ => False) := by
  refine Met.ofW (cc := cX10_isSpan) (maxL := 2) (ret := (some .boolean)) (by decide) rfl ?_
  intro pp ee ss mm args below meth cc0 s₁ B hml hv
  obtain ⟨rfl, -⟩ := hv
  have hx := B.exec
  have hb := B.bytes
  have hr := B.returns
  have hts := atoms_spec (ws := wsX10_isSpan) B.pre
  have hown : ss.vm.findClass RX10 = some mm.cls := findClass_of_methodNamed B.named
  have hlocks := B.notSynchronized
  have hl := lv_entry ([.int f, .int t]) (n := 2) (Nat.le_of_ble_eq_true rfl)
  rw [lg_entry_eq]
  generalize (lg_sl ([.int f, .int t]) ++ List.replicate (2 - (lg_sl ([.int f, .int t])).length) Slot.unset).toArray = ls at hl ⊢
  have hl : lv_has ls 2 [(0, .int f), (1, .int t)] := hl
  refine bw_Q (fun Q hQ => ?_)
  change W pp l ee { frames := 1, cells := 0, slots := 0, locals := 20 } ss mm _ below meth cc0 ss.heap [] 0 0 Q (F0 mm 0 ls [])
  refine lv_iload_n hx hb dX10_isSpan_0 rfl (lv_at hl 0 rfl) ?_
  refine vp_callSi (va_Run.run (va_runS (As := [.int f]) (rest := []) ⟨hx, hb, hml, hown, hts⟩ (c_X10_isYear l dC dI cy f) (va_cwS 1 hts gX10_isSpan_X10_isYear rfl rfl rfl (by decide +kernel) ⟨Nat.le_of_ble_eq_true rfl, Nat.le_of_ble_eq_true rfl⟩) ⟨fun a U g mk q => q, fun U hU hW => ⟨rfl, trivial⟩⟩ rfl rfl hl.1 rfl (lv_room (Nat.le_of_ble_eq_true rfl)) dX10_isSpan_1 ⟨Nat.le_of_ble_eq_true rfl, Nat.le_of_ble_eq_true rfl⟩)) (fun r_1 hr_1 => ?_)
  refine bw_ifeqB (tgt := 23) hx hb dX10_isSpan_4 (by decide) hr_1 (fun c_2 => ?_) (fun c_2 => ?_)
  · skip
    refine lv_iconst (v := 0) hx hb dX10_isSpan_23 (by decide) ?_
    subst hQ
    have hpost : (0 : Int32) = if 1500 ≤ f.toInt ∧ f.toInt ≤ t.toInt ∧ t.toInt ≤ 2100 then 1 else 0 := by
      first | rw [if_pos (by omega)] | rw [if_neg (by omega)]
    exact W.zret (v := 0) hx hb hr (by rfl) (fun t9 ht hW => ⟨_, rfl, hpost, by rw [ht]⟩) (fun q h => by cases h) dX10_isSpan_24
  · skip
    refine lv_iload_n hx hb dX10_isSpan_7 rfl (lv_at hl 1 rfl) ?_
    refine vp_callSi (va_Run.run (va_runS (As := [.int t]) (rest := []) ⟨hx, hb, hml, hown, hts⟩ (c_X10_isYear l dC dI cy t) (va_cwS 1 hts gX10_isSpan_X10_isYear rfl rfl rfl (by decide +kernel) ⟨Nat.le_of_ble_eq_true rfl, Nat.le_of_ble_eq_true rfl⟩) ⟨fun a U g mk q => q, fun U hU hW => ⟨rfl, trivial⟩⟩ rfl rfl hl.1 rfl (lv_room (Nat.le_of_ble_eq_true rfl)) dX10_isSpan_8 ⟨Nat.le_of_ble_eq_true rfl, Nat.le_of_ble_eq_true rfl⟩)) (fun r_3 hr_3 => ?_)
    refine bw_ifeqB (tgt := 23) hx hb dX10_isSpan_11 (by decide) hr_3 (fun c_4 => ?_) (fun c_4 => ?_)
    · skip
      refine lv_iconst (v := 0) hx hb dX10_isSpan_23 (by decide) ?_
      subst hQ
      have hpost : (0 : Int32) = if 1500 ≤ f.toInt ∧ f.toInt ≤ t.toInt ∧ t.toInt ≤ 2100 then 1 else 0 := by
        first | rw [if_pos (by omega)] | rw [if_neg (by omega)]
      exact W.zret (v := 0) hx hb hr (by rfl) (fun t9 ht hW => ⟨_, rfl, hpost, by rw [ht]⟩) (fun q h => by cases h) dX10_isSpan_24
    · skip
      refine lv_iload_n hx hb dX10_isSpan_14 rfl (lv_at hl 0 rfl) ?_
      refine lv_iload_n hx hb dX10_isSpan_15 rfl (lv_at hl 1 rfl) ?_
      refine bw_icmp_gt (tgt := 23) (a := f.toInt) (b := t.toInt) hx hb dX10_isSpan_16 (by decide) rfl rfl (fun c_5 => ?_) (fun c_5 => ?_)
      · skip
        refine lv_iconst (v := 0) hx hb dX10_isSpan_23 (by decide) ?_
        subst hQ
        have hpost : (0 : Int32) = if 1500 ≤ f.toInt ∧ f.toInt ≤ t.toInt ∧ t.toInt ≤ 2100 then 1 else 0 := by
          first | rw [if_pos (by omega)] | rw [if_neg (by omega)]
        exact W.zret (v := 0) hx hb hr (by rfl) (fun t9 ht hW => ⟨_, rfl, hpost, by rw [ht]⟩) (fun q h => by cases h) dX10_isSpan_24
      · skip
        refine lv_iconst (v := 1) hx hb dX10_isSpan_19 (by decide) ?_
        refine lv_goto (tgt := 24) hx hb dX10_isSpan_20 (by decide) ?_
        subst hQ
        have hpost : (1 : Int32) = if 1500 ≤ f.toInt ∧ f.toInt ≤ t.toInt ∧ t.toInt ≤ 2100 then 1 else 0 := by
          first | rw [if_pos (by omega)] | rw [if_neg (by omega)]
        exact W.zret (v := 1) hx hb hr (by rfl) (fun t9 ht hW => ⟨_, rfl, hpost, by rw [ht]⟩) (fun q h => by cases h) dX10_isSpan_24

set_option maxHeartbeats 4000000 in
set_option maxRecDepth 100000 in
theorem c_X10_isAddress (l : Launch) (dC : Nat → ClassId) (dI : Nat → Nat → Nat) (cy : Nat → ClassId) (t : Int32) (n : Int32)  : Met l yX10_isAddress wsX10_isAddress ({ frames := 0, cells := 0, slots := 0, locals := 0 }) (va_Pc [.int t, .int n] (fun _ => True)) (vp_Si (fun r => r = if 0 ≤ t.toInt ∧ t.toInt ≤ 9 ∧ 1 ≤ n.toInt ∧ n.toInt ≤ 999 then 1 else 0)) 0 0 (fun _ => False) := by
  refine Met.ofW (cc := cX10_isAddress) (maxL := 2) (ret := (some .boolean)) (by decide) rfl ?_
  intro pp ee ss mm args below meth cc0 s₁ B hml hv
  obtain ⟨rfl, -⟩ := hv
  have hx := B.exec
  have hb := B.bytes
  have hr := B.returns
  have hts := atoms_spec (ws := wsX10_isAddress) B.pre
  have hown : ss.vm.findClass RX10 = some mm.cls := findClass_of_methodNamed B.named
  have hlocks := B.notSynchronized
  have hl := lv_entry ([.int t, .int n]) (n := 2) (Nat.le_of_ble_eq_true rfl)
  rw [lg_entry_eq]
  generalize (lg_sl ([.int t, .int n]) ++ List.replicate (2 - (lg_sl ([.int t, .int n])).length) Slot.unset).toArray = ls at hl ⊢
  have hl : lv_has ls 2 [(0, .int t), (1, .int n)] := hl
  refine bw_Q (fun Q hQ => ?_)
  change W pp l ee { frames := 0, cells := 0, slots := 0, locals := 0 } ss mm _ below meth cc0 ss.heap [] 0 0 Q (F0 mm 0 ls [])
  refine lv_iload_n hx hb dX10_isAddress_0 rfl (lv_at hl 0 rfl) ?_
  refine bw_if_lt (tgt := 26) (a := t.toInt) hx hb dX10_isAddress_1 (by decide) rfl (fun c_1 => ?_) (fun c_1 => ?_)
  · skip
    refine lv_iconst (v := 0) hx hb dX10_isAddress_26 (by decide) ?_
    subst hQ
    have hpost : (0 : Int32) = if 0 ≤ t.toInt ∧ t.toInt ≤ 9 ∧ 1 ≤ n.toInt ∧ n.toInt ≤ 999 then 1 else 0 := by
      first | rw [if_pos (by omega)] | rw [if_neg (by omega)]
    exact W.zret (v := 0) hx hb hr (by rfl) (fun t9 ht hW => ⟨_, rfl, hpost, by rw [ht]⟩) (fun q h => by cases h) dX10_isAddress_27
  · skip
    refine lv_iload_n hx hb dX10_isAddress_4 rfl (lv_at hl 0 rfl) ?_
    refine lv_bipush (v := 9) hx hb dX10_isAddress_5 (by decide) ?_
    refine bw_icmp_gt (tgt := 26) (a := t.toInt) (b := 9) hx hb dX10_isAddress_7 (by decide) rfl rfl (fun c_2 => ?_) (fun c_2 => ?_)
    · skip
      refine lv_iconst (v := 0) hx hb dX10_isAddress_26 (by decide) ?_
      subst hQ
      have hpost : (0 : Int32) = if 0 ≤ t.toInt ∧ t.toInt ≤ 9 ∧ 1 ≤ n.toInt ∧ n.toInt ≤ 999 then 1 else 0 := by
        first | rw [if_pos (by omega)] | rw [if_neg (by omega)]
      exact W.zret (v := 0) hx hb hr (by rfl) (fun t9 ht hW => ⟨_, rfl, hpost, by rw [ht]⟩) (fun q h => by cases h) dX10_isAddress_27
    · skip
      refine lv_iload_n hx hb dX10_isAddress_10 rfl (lv_at hl 1 rfl) ?_
      refine lv_iconst (v := 1) hx hb dX10_isAddress_11 (by decide) ?_
      refine bw_icmp_lt (tgt := 26) (a := n.toInt) (b := 1) hx hb dX10_isAddress_12 (by decide) rfl rfl (fun c_3 => ?_) (fun c_3 => ?_)
      · skip
        refine lv_iconst (v := 0) hx hb dX10_isAddress_26 (by decide) ?_
        subst hQ
        have hpost : (0 : Int32) = if 0 ≤ t.toInt ∧ t.toInt ≤ 9 ∧ 1 ≤ n.toInt ∧ n.toInt ≤ 999 then 1 else 0 := by
          first | rw [if_pos (by omega)] | rw [if_neg (by omega)]
        exact W.zret (v := 0) hx hb hr (by rfl) (fun t9 ht hW => ⟨_, rfl, hpost, by rw [ht]⟩) (fun q h => by cases h) dX10_isAddress_27
      · skip
        refine lv_iload_n hx hb dX10_isAddress_15 rfl (lv_at hl 1 rfl) ?_
        refine lv_sipush (v := 999) hx hb dX10_isAddress_16 (by decide) ?_
        refine bw_icmp_gt (tgt := 26) (a := n.toInt) (b := 999) hx hb dX10_isAddress_19 (by decide) rfl rfl (fun c_4 => ?_) (fun c_4 => ?_)
        · skip
          refine lv_iconst (v := 0) hx hb dX10_isAddress_26 (by decide) ?_
          subst hQ
          have hpost : (0 : Int32) = if 0 ≤ t.toInt ∧ t.toInt ≤ 9 ∧ 1 ≤ n.toInt ∧ n.toInt ≤ 999 then 1 else 0 := by
            first | rw [if_pos (by omega)] | rw [if_neg (by omega)]
          exact W.zret (v := 0) hx hb hr (by rfl) (fun t9 ht hW => ⟨_, rfl, hpost, by rw [ht]⟩) (fun q h => by cases h) dX10_isAddress_27
        · skip
          refine lv_iconst (v := 1) hx hb dX10_isAddress_22 (by decide) ?_
          refine lv_goto (tgt := 27) hx hb dX10_isAddress_23 (by decide) ?_
          subst hQ
          have hpost : (1 : Int32) = if 0 ≤ t.toInt ∧ t.toInt ≤ 9 ∧ 1 ≤ n.toInt ∧ n.toInt ≤ 999 then 1 else 0 := by
            first | rw [if_pos (by omega)] | rw [if_neg (by omega)]
          exact W.zret (v := 1) hx hb hr (by rfl) (fun t9 ht hW => ⟨_, rfl, hpost, by rw [ht]⟩) (fun q h => by cases h) dX10_isAddress_27

set_option maxHeartbeats 4000000 in
set_option maxRecDepth 100000 in
theorem c_X10_isTheme (l : Launch) (dC : Nat → ClassId) (dI : Nat → Nat → Nat) (cy : Nat → ClassId) (t : Int32)  : Met l yX10_isTheme wsX10_isTheme ({ frames := 0, cells := 0, slots := 0, locals := 0 }) (va_Pc [.int t] (fun _ => True)) (vp_Si (fun r => r = if 0 ≤ t.toInt ∧ t.toInt ≤ 7 then 1 else 0)) 0 0 (fun _ => False) := by
  refine Met.ofW (cc := cX10_isTheme) (maxL := 1) (ret := (some .boolean)) (by decide) rfl ?_
  intro pp ee ss mm args below meth cc0 s₁ B hml hv
  obtain ⟨rfl, -⟩ := hv
  have hx := B.exec
  have hb := B.bytes
  have hr := B.returns
  have hts := atoms_spec (ws := wsX10_isTheme) B.pre
  have hown : ss.vm.findClass RX10 = some mm.cls := findClass_of_methodNamed B.named
  have hlocks := B.notSynchronized
  have hl := lv_entry ([.int t]) (n := 1) (Nat.le_of_ble_eq_true rfl)
  rw [lg_entry_eq]
  generalize (lg_sl ([.int t]) ++ List.replicate (1 - (lg_sl ([.int t])).length) Slot.unset).toArray = ls at hl ⊢
  have hl : lv_has ls 1 [(0, .int t)] := hl
  refine bw_Q (fun Q hQ => ?_)
  change W pp l ee { frames := 0, cells := 0, slots := 0, locals := 0 } ss mm _ below meth cc0 ss.heap [] 0 0 Q (F0 mm 0 ls [])
  refine lv_iload_n hx hb dX10_isTheme_0 rfl (lv_at hl 0 rfl) ?_
  refine bw_if_lt (tgt := 14) (a := t.toInt) hx hb dX10_isTheme_1 (by decide) rfl (fun c_1 => ?_) (fun c_1 => ?_)
  · skip
    refine lv_iconst (v := 0) hx hb dX10_isTheme_14 (by decide) ?_
    subst hQ
    have hpost : (0 : Int32) = if 0 ≤ t.toInt ∧ t.toInt ≤ 7 then 1 else 0 := by
      first | rw [if_pos (by omega)] | rw [if_neg (by omega)]
    exact W.zret (v := 0) hx hb hr (by rfl) (fun t9 ht hW => ⟨_, rfl, hpost, by rw [ht]⟩) (fun q h => by cases h) dX10_isTheme_15
  · skip
    refine lv_iload_n hx hb dX10_isTheme_4 rfl (lv_at hl 0 rfl) ?_
    refine lv_bipush (v := 7) hx hb dX10_isTheme_5 (by decide) ?_
    refine bw_icmp_gt (tgt := 14) (a := t.toInt) (b := 7) hx hb dX10_isTheme_7 (by decide) rfl rfl (fun c_2 => ?_) (fun c_2 => ?_)
    · skip
      refine lv_iconst (v := 0) hx hb dX10_isTheme_14 (by decide) ?_
      subst hQ
      have hpost : (0 : Int32) = if 0 ≤ t.toInt ∧ t.toInt ≤ 7 then 1 else 0 := by
        first | rw [if_pos (by omega)] | rw [if_neg (by omega)]
      exact W.zret (v := 0) hx hb hr (by rfl) (fun t9 ht hW => ⟨_, rfl, hpost, by rw [ht]⟩) (fun q h => by cases h) dX10_isTheme_15
    · skip
      refine lv_iconst (v := 1) hx hb dX10_isTheme_10 (by decide) ?_
      refine lv_goto (tgt := 15) hx hb dX10_isTheme_11 (by decide) ?_
      subst hQ
      have hpost : (1 : Int32) = if 0 ≤ t.toInt ∧ t.toInt ≤ 7 then 1 else 0 := by
        first | rw [if_pos (by omega)] | rw [if_neg (by omega)]
      exact W.zret (v := 1) hx hb hr (by rfl) (fun t9 ht hW => ⟨_, rfl, hpost, by rw [ht]⟩) (fun q h => by cases h) dX10_isTheme_15

set_option maxHeartbeats 4000000 in
set_option maxRecDepth 100000 in
theorem c_X10_isVotes (l : Launch) (dC : Nat → ClassId) (dI : Nat → Nat → Nat) (cy : Nat → ClassId) (t : Int32)  : Met l yX10_isVotes wsX10_isVotes ({ frames := 0, cells := 0, slots := 0, locals := 0 }) (va_Pc [.int t] (fun _ => True)) (vp_Si (fun r => r = if 0 ≤ t.toInt ∧ t.toInt ≤ 99 then 1 else 0)) 0 0 (fun _ => False) := by
  refine Met.ofW (cc := cX10_isVotes) (maxL := 1) (ret := (some .boolean)) (by decide) rfl ?_
  intro pp ee ss mm args below meth cc0 s₁ B hml hv
  obtain ⟨rfl, -⟩ := hv
  have hx := B.exec
  have hb := B.bytes
  have hr := B.returns
  have hts := atoms_spec (ws := wsX10_isVotes) B.pre
  have hown : ss.vm.findClass RX10 = some mm.cls := findClass_of_methodNamed B.named
  have hlocks := B.notSynchronized
  have hl := lv_entry ([.int t]) (n := 1) (Nat.le_of_ble_eq_true rfl)
  rw [lg_entry_eq]
  generalize (lg_sl ([.int t]) ++ List.replicate (1 - (lg_sl ([.int t])).length) Slot.unset).toArray = ls at hl ⊢
  have hl : lv_has ls 1 [(0, .int t)] := hl
  refine bw_Q (fun Q hQ => ?_)
  change W pp l ee { frames := 0, cells := 0, slots := 0, locals := 0 } ss mm _ below meth cc0 ss.heap [] 0 0 Q (F0 mm 0 ls [])
  refine lv_iload_n hx hb dX10_isVotes_0 rfl (lv_at hl 0 rfl) ?_
  refine bw_if_lt (tgt := 14) (a := t.toInt) hx hb dX10_isVotes_1 (by decide) rfl (fun c_1 => ?_) (fun c_1 => ?_)
  · skip
    refine lv_iconst (v := 0) hx hb dX10_isVotes_14 (by decide) ?_
    subst hQ
    have hpost : (0 : Int32) = if 0 ≤ t.toInt ∧ t.toInt ≤ 99 then 1 else 0 := by
      first | rw [if_pos (by omega)] | rw [if_neg (by omega)]
    exact W.zret (v := 0) hx hb hr (by rfl) (fun t9 ht hW => ⟨_, rfl, hpost, by rw [ht]⟩) (fun q h => by cases h) dX10_isVotes_15
  · skip
    refine lv_iload_n hx hb dX10_isVotes_4 rfl (lv_at hl 0 rfl) ?_
    refine lv_bipush (v := 99) hx hb dX10_isVotes_5 (by decide) ?_
    refine bw_icmp_gt (tgt := 14) (a := t.toInt) (b := 99) hx hb dX10_isVotes_7 (by decide) rfl rfl (fun c_2 => ?_) (fun c_2 => ?_)
    · skip
      refine lv_iconst (v := 0) hx hb dX10_isVotes_14 (by decide) ?_
      subst hQ
      have hpost : (0 : Int32) = if 0 ≤ t.toInt ∧ t.toInt ≤ 99 then 1 else 0 := by
        first | rw [if_pos (by omega)] | rw [if_neg (by omega)]
      exact W.zret (v := 0) hx hb hr (by rfl) (fun t9 ht hW => ⟨_, rfl, hpost, by rw [ht]⟩) (fun q h => by cases h) dX10_isVotes_15
    · skip
      refine lv_iconst (v := 1) hx hb dX10_isVotes_10 (by decide) ?_
      refine lv_goto (tgt := 15) hx hb dX10_isVotes_11 (by decide) ?_
      subst hQ
      have hpost : (1 : Int32) = if 0 ≤ t.toInt ∧ t.toInt ≤ 99 then 1 else 0 := by
        first | rw [if_pos (by omega)] | rw [if_neg (by omega)]
      exact W.zret (v := 1) hx hb hr (by rfl) (fun t9 ht hW => ⟨_, rfl, hpost, by rw [ht]⟩) (fun q h => by cases h) dX10_isVotes_15

set_option maxHeartbeats 4000000 in
set_option maxRecDepth 100000 in
theorem c_X10_isDigit (l : Launch) (dC : Nat → ClassId) (dI : Nat → Nat → Nat) (cy : Nat → ClassId) (x : Int32)  : Met l yX10_isDigit wsX10_isDigit ({ frames := 0, cells := 0, slots := 0, locals := 0 }) (va_Pc [.int x] (fun _ => True)) (vp_Si (fun r => r = if 48 ≤ x.toInt ∧ x.toInt ≤ 57 then 1 else 0)) 0 0 (fun _ => False) := by
  refine Met.ofW (cc := cX10_isDigit) (maxL := 1) (ret := (some .boolean)) (by decide) rfl ?_
  intro pp ee ss mm args below meth cc0 s₁ B hml hv
  obtain ⟨rfl, -⟩ := hv
  have hx := B.exec
  have hb := B.bytes
  have hr := B.returns
  have hts := atoms_spec (ws := wsX10_isDigit) B.pre
  have hown : ss.vm.findClass RX10 = some mm.cls := findClass_of_methodNamed B.named
  have hlocks := B.notSynchronized
  have hl := lv_entry ([.int x]) (n := 1) (Nat.le_of_ble_eq_true rfl)
  rw [lg_entry_eq]
  generalize (lg_sl ([.int x]) ++ List.replicate (1 - (lg_sl ([.int x])).length) Slot.unset).toArray = ls at hl ⊢
  have hl : lv_has ls 1 [(0, .int x)] := hl
  refine bw_Q (fun Q hQ => ?_)
  change W pp l ee { frames := 0, cells := 0, slots := 0, locals := 0 } ss mm _ below meth cc0 ss.heap [] 0 0 Q (F0 mm 0 ls [])
  refine lv_iload_n hx hb dX10_isDigit_0 rfl (lv_at hl 0 rfl) ?_
  refine lv_bipush (v := 48) hx hb dX10_isDigit_1 (by decide) ?_
  refine bw_icmp_lt (tgt := 16) (a := x.toInt) (b := 48) hx hb dX10_isDigit_3 (by decide) rfl rfl (fun c_1 => ?_) (fun c_1 => ?_)
  · skip
    refine lv_iconst (v := 0) hx hb dX10_isDigit_16 (by decide) ?_
    subst hQ
    have hpost : (0 : Int32) = if 48 ≤ x.toInt ∧ x.toInt ≤ 57 then 1 else 0 := by
      first | rw [if_pos (by omega)] | rw [if_neg (by omega)]
    exact W.zret (v := 0) hx hb hr (by rfl) (fun t9 ht hW => ⟨_, rfl, hpost, by rw [ht]⟩) (fun q h => by cases h) dX10_isDigit_17
  · skip
    refine lv_iload_n hx hb dX10_isDigit_6 rfl (lv_at hl 0 rfl) ?_
    refine lv_bipush (v := 57) hx hb dX10_isDigit_7 (by decide) ?_
    refine bw_icmp_gt (tgt := 16) (a := x.toInt) (b := 57) hx hb dX10_isDigit_9 (by decide) rfl rfl (fun c_2 => ?_) (fun c_2 => ?_)
    · skip
      refine lv_iconst (v := 0) hx hb dX10_isDigit_16 (by decide) ?_
      subst hQ
      have hpost : (0 : Int32) = if 48 ≤ x.toInt ∧ x.toInt ≤ 57 then 1 else 0 := by
        first | rw [if_pos (by omega)] | rw [if_neg (by omega)]
      exact W.zret (v := 0) hx hb hr (by rfl) (fun t9 ht hW => ⟨_, rfl, hpost, by rw [ht]⟩) (fun q h => by cases h) dX10_isDigit_17
    · skip
      refine lv_iconst (v := 1) hx hb dX10_isDigit_12 (by decide) ?_
      refine lv_goto (tgt := 17) hx hb dX10_isDigit_13 (by decide) ?_
      subst hQ
      have hpost : (1 : Int32) = if 48 ≤ x.toInt ∧ x.toInt ≤ 57 then 1 else 0 := by
        first | rw [if_pos (by omega)] | rw [if_neg (by omega)]
      exact W.zret (v := 1) hx hb hr (by rfl) (fun t9 ht hW => ⟨_, rfl, hpost, by rw [ht]⟩) (fun q h => by cases h) dX10_isDigit_17

set_option maxHeartbeats 4000000 in
set_option maxRecDepth 100000 in
theorem c_X10_isSmallLetter (l : Launch) (dC : Nat → ClassId) (dI : Nat → Nat → Nat) (cy : Nat → ClassId) (x : Int32)  : Met l yX10_isSmallLetter wsX10_isSmallLetter ({ frames := 0, cells := 0, slots := 0, locals := 0 }) (va_Pc [.int x] (fun _ => True)) (vp_Si (fun r => r = if 97 ≤ x.toInt ∧ x.toInt ≤ 122 then 1 else 0)) 0 0 (fun _ => False) := by
  refine Met.ofW (cc := cX10_isSmallLetter) (maxL := 1) (ret := (some .boolean)) (by decide) rfl ?_
  intro pp ee ss mm args below meth cc0 s₁ B hml hv
  obtain ⟨rfl, -⟩ := hv
  have hx := B.exec
  have hb := B.bytes
  have hr := B.returns
  have hts := atoms_spec (ws := wsX10_isSmallLetter) B.pre
  have hown : ss.vm.findClass RX10 = some mm.cls := findClass_of_methodNamed B.named
  have hlocks := B.notSynchronized
  have hl := lv_entry ([.int x]) (n := 1) (Nat.le_of_ble_eq_true rfl)
  rw [lg_entry_eq]
  generalize (lg_sl ([.int x]) ++ List.replicate (1 - (lg_sl ([.int x])).length) Slot.unset).toArray = ls at hl ⊢
  have hl : lv_has ls 1 [(0, .int x)] := hl
  refine bw_Q (fun Q hQ => ?_)
  change W pp l ee { frames := 0, cells := 0, slots := 0, locals := 0 } ss mm _ below meth cc0 ss.heap [] 0 0 Q (F0 mm 0 ls [])
  refine lv_iload_n hx hb dX10_isSmallLetter_0 rfl (lv_at hl 0 rfl) ?_
  refine lv_bipush (v := 97) hx hb dX10_isSmallLetter_1 (by decide) ?_
  refine bw_icmp_lt (tgt := 16) (a := x.toInt) (b := 97) hx hb dX10_isSmallLetter_3 (by decide) rfl rfl (fun c_1 => ?_) (fun c_1 => ?_)
  · skip
    refine lv_iconst (v := 0) hx hb dX10_isSmallLetter_16 (by decide) ?_
    subst hQ
    have hpost : (0 : Int32) = if 97 ≤ x.toInt ∧ x.toInt ≤ 122 then 1 else 0 := by
      first | rw [if_pos (by omega)] | rw [if_neg (by omega)]
    exact W.zret (v := 0) hx hb hr (by rfl) (fun t9 ht hW => ⟨_, rfl, hpost, by rw [ht]⟩) (fun q h => by cases h) dX10_isSmallLetter_17
  · skip
    refine lv_iload_n hx hb dX10_isSmallLetter_6 rfl (lv_at hl 0 rfl) ?_
    refine lv_bipush (v := 122) hx hb dX10_isSmallLetter_7 (by decide) ?_
    refine bw_icmp_gt (tgt := 16) (a := x.toInt) (b := 122) hx hb dX10_isSmallLetter_9 (by decide) rfl rfl (fun c_2 => ?_) (fun c_2 => ?_)
    · skip
      refine lv_iconst (v := 0) hx hb dX10_isSmallLetter_16 (by decide) ?_
      subst hQ
      have hpost : (0 : Int32) = if 97 ≤ x.toInt ∧ x.toInt ≤ 122 then 1 else 0 := by
        first | rw [if_pos (by omega)] | rw [if_neg (by omega)]
      exact W.zret (v := 0) hx hb hr (by rfl) (fun t9 ht hW => ⟨_, rfl, hpost, by rw [ht]⟩) (fun q h => by cases h) dX10_isSmallLetter_17
    · skip
      refine lv_iconst (v := 1) hx hb dX10_isSmallLetter_12 (by decide) ?_
      refine lv_goto (tgt := 17) hx hb dX10_isSmallLetter_13 (by decide) ?_
      subst hQ
      have hpost : (1 : Int32) = if 97 ≤ x.toInt ∧ x.toInt ≤ 122 then 1 else 0 := by
        first | rw [if_pos (by omega)] | rw [if_neg (by omega)]
      exact W.zret (v := 1) hx hb hr (by rfl) (fun t9 ht hW => ⟨_, rfl, hpost, by rw [ht]⟩) (fun q h => by cases h) dX10_isSmallLetter_17

set_option maxHeartbeats 4000000 in
set_option maxRecDepth 100000 in
theorem c_X10_isBlank (l : Launch) (dC : Nat → ClassId) (dI : Nat → Nat → Nat) (cy : Nat → ClassId) (x : Int32)  : Met l yX10_isBlank wsX10_isBlank ({ frames := 0, cells := 0, slots := 0, locals := 0 }) (va_Pc [.int x] (fun _ => True)) (vp_Si (fun r => r = if x.toInt = 32 ∨ x.toInt = 10 then 1 else 0)) 0 0 (fun _ => False) := by
  refine Met.ofW (cc := cX10_isBlank) (maxL := 1) (ret := (some .boolean)) (by decide) rfl ?_
  intro pp ee ss mm args below meth cc0 s₁ B hml hv
  obtain ⟨rfl, -⟩ := hv
  have hx := B.exec
  have hb := B.bytes
  have hr := B.returns
  have hts := atoms_spec (ws := wsX10_isBlank) B.pre
  have hown : ss.vm.findClass RX10 = some mm.cls := findClass_of_methodNamed B.named
  have hlocks := B.notSynchronized
  have hl := lv_entry ([.int x]) (n := 1) (Nat.le_of_ble_eq_true rfl)
  rw [lg_entry_eq]
  generalize (lg_sl ([.int x]) ++ List.replicate (1 - (lg_sl ([.int x])).length) Slot.unset).toArray = ls at hl ⊢
  have hl : lv_has ls 1 [(0, .int x)] := hl
  refine bw_Q (fun Q hQ => ?_)
  change W pp l ee { frames := 0, cells := 0, slots := 0, locals := 0 } ss mm _ below meth cc0 ss.heap [] 0 0 Q (F0 mm 0 ls [])
  refine lv_iload_n hx hb dX10_isBlank_0 rfl (lv_at hl 0 rfl) ?_
  refine lv_bipush (v := 32) hx hb dX10_isBlank_1 (by decide) ?_
  refine bw_icmp_eq (tgt := 12) (a := x.toInt) (b := 32) hx hb dX10_isBlank_3 (by decide) rfl rfl (fun c_1 => ?_) (fun c_1 => ?_)
  · skip
    refine lv_iconst (v := 1) hx hb dX10_isBlank_12 (by decide) ?_
    refine lv_goto (tgt := 17) hx hb dX10_isBlank_13 (by decide) ?_
    subst hQ
    have hpost : (1 : Int32) = if x.toInt = 32 ∨ x.toInt = 10 then 1 else 0 := by
      first | rw [if_pos (by omega)] | rw [if_neg (by omega)]
    exact W.zret (v := 1) hx hb hr (by rfl) (fun t9 ht hW => ⟨_, rfl, hpost, by rw [ht]⟩) (fun q h => by cases h) dX10_isBlank_17
  · skip
    refine lv_iload_n hx hb dX10_isBlank_6 rfl (lv_at hl 0 rfl) ?_
    refine lv_bipush (v := 10) hx hb dX10_isBlank_7 (by decide) ?_
    refine bw_icmp_ne (tgt := 16) (a := x.toInt) (b := 10) hx hb dX10_isBlank_9 (by decide) rfl rfl (fun c_2 => ?_) (fun c_2 => ?_)
    · skip
      refine lv_iconst (v := 0) hx hb dX10_isBlank_16 (by decide) ?_
      subst hQ
      have hpost : (0 : Int32) = if x.toInt = 32 ∨ x.toInt = 10 then 1 else 0 := by
        first | rw [if_pos (by omega)] | rw [if_neg (by omega)]
      exact W.zret (v := 0) hx hb hr (by rfl) (fun t9 ht hW => ⟨_, rfl, hpost, by rw [ht]⟩) (fun q h => by cases h) dX10_isBlank_17
    · skip
      refine lv_iconst (v := 1) hx hb dX10_isBlank_12 (by decide) ?_
      refine lv_goto (tgt := 17) hx hb dX10_isBlank_13 (by decide) ?_
      subst hQ
      have hpost : (1 : Int32) = if x.toInt = 32 ∨ x.toInt = 10 then 1 else 0 := by
        first | rw [if_pos (by omega)] | rw [if_neg (by omega)]
      exact W.zret (v := 1) hx hb hr (by rfl) (fun t9 ht hW => ⟨_, rfl, hpost, by rw [ht]⟩) (fun q h => by cases h) dX10_isBlank_17

set_option maxHeartbeats 4000000 in
set_option maxRecDepth 100000 in
theorem c_X10_isSite (l : Launch) (dC : Nat → ClassId) (dI : Nat → Nat → Nat) (cy : Nat → ClassId) (ad : Nat → Nat) (sn : Nat) (x : Int32) (hsn : sn ≤ 40) : Met l yX10_isSite wsX10_isSite ({ frames := 0, cells := 0, slots := 0, locals := 0 }) (va_Pc [.ref (ad 0), .int x] (fun U => va_P (dC, dI) vwCl [(ad 0, .inr (10, [.ref (ad 1), .ref (ad 3), .ref (ad 9), .ref (ad 14), .ref (ad 22), .ref (ad 25), .ref (ad 27), .ref (ad 30), .ref (ad 41), .ref (ad 43)])), (ad 3, .inr (6, [.ref (ad 4), .ref (ad 5), .ref (ad 6), .ref (ad 7), .ref (ad 8), .int (nI sn)]))] U.heap ∧ va_K (dC, dI) vwCl (tyL cy) U)) (vp_Si (fun r => r = if 0 ≤ x.toInt ∧ x.toInt < ((sn : Nat) : Int) then 1 else 0)) 0 0 (fun _ => False) := by
  refine Met.ofW (cc := cX10_isSite) (maxL := 2) (ret := (some .boolean)) (by decide) rfl ?_
  intro pp ee ss mm args below meth cc0 s₁ B hml hv
  obtain ⟨rfl, hP, hK⟩ := hv
  have hx := B.exec
  have hb := B.bytes
  have hr := B.returns
  have hts := atoms_spec (ws := wsX10_isSite) B.pre
  have hown : ss.vm.findClass RX10 = some mm.cls := findClass_of_methodNamed B.named
  have hlocks := B.notSynchronized
  have hL0 := hts (.fieldLink RX10 19 "HereLived" "sites" "LHereLived$Sites;") (by decide +kernel)
  have hL1 := hts (.fieldLink RX10 98 "HereLived$Sites" "size" "I") (by decide +kernel)
  have hiX10 : ∀ w ∈ wsX100, w ∈ wsX10_isSite := by decide +kernel
  have hiX6 : ∀ w ∈ wsX60, w ∈ wsX10_isSite := by decide +kernel
  have hl := lv_entry ([.ref (ad 0), .int x]) (n := 2) (Nat.le_of_ble_eq_true rfl)
  rw [lg_entry_eq]
  generalize (lg_sl ([.ref (ad 0), .int x]) ++ List.replicate (2 - (lg_sl ([.ref (ad 0), .int x])).length) Slot.unset).toArray = ls at hl ⊢
  have hl : lv_has ls 2 [(0, .ref (ad 0)), (1, .int x)] := hl
  refine bw_Q (fun Q hQ => ?_)
  change W pp l ee { frames := 0, cells := 0, slots := 0, locals := 0 } ss mm _ below meth cc0 ss.heap [] 0 0 Q (F0 mm 0 ls [])
  refine lv_iload_n hx hb dX10_isSite_0 rfl (lv_at hl 1 rfl) ?_
  refine bw_if_lt (tgt := 19) (a := x.toInt) hx hb dX10_isSite_1 (by decide) rfl (fun c_1 => ?_) (fun c_1 => ?_)
  · skip
    refine lv_iconst (v := 0) hx hb dX10_isSite_19 (by decide) ?_
    subst hQ
    have hpost : (0 : Int32) = if 0 ≤ x.toInt ∧ x.toInt < ((sn : Nat) : Int) then 1 else 0 := by
      first | rw [if_pos (by omega)] | rw [if_neg (by omega)]
    exact W.zret (v := 0) hx hb hr (by rfl) (fun t9 ht hW => ⟨_, rfl, hpost, by rw [ht]⟩) (fun q h => by cases h) dX10_isSite_20
  · skip
    refine lv_iload_n hx hb dX10_isSite_4 rfl (lv_at hl 1 rfl) ?_
    refine lv_aload_n hx hb dX10_isSite_5 rfl (lv_at hl 0 rfl) ?_
    refine va_get (D := (dC, dI)) (ci := 10) (v := .ref (ad 3)) (C := RX10) (T := TX10) (N := 10) hx hb hts hiX10 hown hK hP 0 rfl rfl 1 (by decide) hL0 (fun _ h9 => h9) rfl dX10_isSite_6 ?_
    refine va_get (D := (dC, dI)) (ci := 6) (v := .int (nI sn)) (C := RX6) (T := TX6) (N := 6) hx hb hts hiX6 hown hK hP 1 rfl rfl 5 (by decide) hL1 (fun _ h9 => h9) rfl dX10_isSite_9 ?_
    refine bw_icmp_ge (tgt := 19) (a := x.toInt) (b := ((sn : Nat) : Int)) hx hb dX10_isSite_12 (by decide) rfl (nI_toInt (by omega)) (fun c_2 => ?_) (fun c_2 => ?_)
    · skip
      refine lv_iconst (v := 0) hx hb dX10_isSite_19 (by decide) ?_
      subst hQ
      have hpost : (0 : Int32) = if 0 ≤ x.toInt ∧ x.toInt < ((sn : Nat) : Int) then 1 else 0 := by
        first | rw [if_pos (by omega)] | rw [if_neg (by omega)]
      exact W.zret (v := 0) hx hb hr (by rfl) (fun t9 ht hW => ⟨_, rfl, hpost, by rw [ht]⟩) (fun q h => by cases h) dX10_isSite_20
    · skip
      refine lv_iconst (v := 1) hx hb dX10_isSite_15 (by decide) ?_
      refine lv_goto (tgt := 20) hx hb dX10_isSite_16 (by decide) ?_
      subst hQ
      have hpost : (1 : Int32) = if 0 ≤ x.toInt ∧ x.toInt < ((sn : Nat) : Int) then 1 else 0 := by
        first | rw [if_pos (by omega)] | rw [if_neg (by omega)]
      exact W.zret (v := 1) hx hb hr (by rfl) (fun t9 ht hW => ⟨_, rfl, hpost, by rw [ht]⟩) (fun q h => by cases h) dX10_isSite_20

set_option maxHeartbeats 4000000 in
set_option maxRecDepth 100000 in
theorem c_X10_isPerson (l : Launch) (dC : Nat → ClassId) (dI : Nat → Nat → Nat) (cy : Nat → ClassId) (ad : Nat → Nat) (pn : Nat) (x : Int32) (hpn : pn ≤ 30) : Met l yX10_isPerson wsX10_isPerson ({ frames := 0, cells := 0, slots := 0, locals := 0 }) (va_Pc [.ref (ad 0), .int x] (fun U => va_P (dC, dI) vwCl [(ad 0, .inr (10, [.ref (ad 1), .ref (ad 3), .ref (ad 9), .ref (ad 14), .ref (ad 22), .ref (ad 25), .ref (ad 27), .ref (ad 30), .ref (ad 41), .ref (ad 43)])), (ad 9, .inr (3, [.ref (ad 10), .ref (ad 11), .ref (ad 12), .ref (ad 13), .int (nI pn)]))] U.heap ∧ va_K (dC, dI) vwCl (tyL cy) U)) (vp_Si (fun r => r = if 0 ≤ x.toInt ∧ x.toInt < ((pn : Nat) : Int) then 1 else 0)) 0 0 (fun _ => False) := by
  refine Met.ofW (cc := cX10_isPerson) (maxL := 2) (ret := (some .boolean)) (by decide) rfl ?_
  intro pp ee ss mm args below meth cc0 s₁ B hml hv
  obtain ⟨rfl, hP, hK⟩ := hv
  have hx := B.exec
  have hb := B.bytes
  have hr := B.returns
  have hts := atoms_spec (ws := wsX10_isPerson) B.pre
  have hown : ss.vm.findClass RX10 = some mm.cls := findClass_of_methodNamed B.named
  have hlocks := B.notSynchronized
  have hL0 := hts (.fieldLink RX10 26 "HereLived" "people" "LHereLived$People;") (by decide +kernel)
  have hL1 := hts (.fieldLink RX10 135 "HereLived$People" "size" "I") (by decide +kernel)
  have hiX10 : ∀ w ∈ wsX100, w ∈ wsX10_isPerson := by decide +kernel
  have hiX3 : ∀ w ∈ wsX30, w ∈ wsX10_isPerson := by decide +kernel
  have hl := lv_entry ([.ref (ad 0), .int x]) (n := 2) (Nat.le_of_ble_eq_true rfl)
  rw [lg_entry_eq]
  generalize (lg_sl ([.ref (ad 0), .int x]) ++ List.replicate (2 - (lg_sl ([.ref (ad 0), .int x])).length) Slot.unset).toArray = ls at hl ⊢
  have hl : lv_has ls 2 [(0, .ref (ad 0)), (1, .int x)] := hl
  refine bw_Q (fun Q hQ => ?_)
  change W pp l ee { frames := 0, cells := 0, slots := 0, locals := 0 } ss mm _ below meth cc0 ss.heap [] 0 0 Q (F0 mm 0 ls [])
  refine lv_iload_n hx hb dX10_isPerson_0 rfl (lv_at hl 1 rfl) ?_
  refine bw_if_lt (tgt := 19) (a := x.toInt) hx hb dX10_isPerson_1 (by decide) rfl (fun c_1 => ?_) (fun c_1 => ?_)
  · skip
    refine lv_iconst (v := 0) hx hb dX10_isPerson_19 (by decide) ?_
    subst hQ
    have hpost : (0 : Int32) = if 0 ≤ x.toInt ∧ x.toInt < ((pn : Nat) : Int) then 1 else 0 := by
      first | rw [if_pos (by omega)] | rw [if_neg (by omega)]
    exact W.zret (v := 0) hx hb hr (by rfl) (fun t9 ht hW => ⟨_, rfl, hpost, by rw [ht]⟩) (fun q h => by cases h) dX10_isPerson_20
  · skip
    refine lv_iload_n hx hb dX10_isPerson_4 rfl (lv_at hl 1 rfl) ?_
    refine lv_aload_n hx hb dX10_isPerson_5 rfl (lv_at hl 0 rfl) ?_
    refine va_get (D := (dC, dI)) (ci := 10) (v := .ref (ad 9)) (C := RX10) (T := TX10) (N := 10) hx hb hts hiX10 hown hK hP 0 rfl rfl 2 (by decide) hL0 (fun _ h9 => h9) rfl dX10_isPerson_6 ?_
    refine va_get (D := (dC, dI)) (ci := 3) (v := .int (nI pn)) (C := RX3) (T := TX3) (N := 5) hx hb hts hiX3 hown hK hP 1 rfl rfl 4 (by decide) hL1 (fun _ h9 => h9) rfl dX10_isPerson_9 ?_
    refine bw_icmp_ge (tgt := 19) (a := x.toInt) (b := ((pn : Nat) : Int)) hx hb dX10_isPerson_12 (by decide) rfl (nI_toInt (by omega)) (fun c_2 => ?_) (fun c_2 => ?_)
    · skip
      refine lv_iconst (v := 0) hx hb dX10_isPerson_19 (by decide) ?_
      subst hQ
      have hpost : (0 : Int32) = if 0 ≤ x.toInt ∧ x.toInt < ((pn : Nat) : Int) then 1 else 0 := by
        first | rw [if_pos (by omega)] | rw [if_neg (by omega)]
      exact W.zret (v := 0) hx hb hr (by rfl) (fun t9 ht hW => ⟨_, rfl, hpost, by rw [ht]⟩) (fun q h => by cases h) dX10_isPerson_20
    · skip
      refine lv_iconst (v := 1) hx hb dX10_isPerson_15 (by decide) ?_
      refine lv_goto (tgt := 20) hx hb dX10_isPerson_16 (by decide) ?_
      subst hQ
      have hpost : (1 : Int32) = if 0 ≤ x.toInt ∧ x.toInt < ((pn : Nat) : Int) then 1 else 0 := by
        first | rw [if_pos (by omega)] | rw [if_neg (by omega)]
      exact W.zret (v := 1) hx hb hr (by rfl) (fun t9 ht hW => ⟨_, rfl, hpost, by rw [ht]⟩) (fun q h => by cases h) dX10_isPerson_20

set_option maxHeartbeats 4000000 in
set_option maxRecDepth 100000 in
theorem c_X10_isAsking (l : Launch) (dC : Nat → ClassId) (dI : Nat → Nat → Nat) (cy : Nat → ClassId) (ad : Nat → Nat) (an : Nat) (x : Int32) (han : an ≤ 40) : Met l yX10_isAsking wsX10_isAsking ({ frames := 0, cells := 0, slots := 0, locals := 0 }) (va_Pc [.ref (ad 0), .int x] (fun U => va_P (dC, dI) vwCl [(ad 0, .inr (10, [.ref (ad 1), .ref (ad 3), .ref (ad 9), .ref (ad 14), .ref (ad 22), .ref (ad 25), .ref (ad 27), .ref (ad 30), .ref (ad 41), .ref (ad 43)])), (ad 30, .inr (0, [.ref (ad 31), .ref (ad 32), .ref (ad 33), .ref (ad 34), .ref (ad 35), .ref (ad 36), .ref (ad 37), .ref (ad 38), .ref (ad 39), .ref (ad 40), .int (nI an)]))] U.heap ∧ va_K (dC, dI) vwCl (tyL cy) U)) (vp_Si (fun r => r = if 0 ≤ x.toInt ∧ x.toInt < ((an : Nat) : Int) then 1 else 0)) 0 0 (fun _ => False) := by
  refine Met.ofW (cc := cX10_isAsking) (maxL := 2) (ret := (some .boolean)) (by decide) rfl ?_
  intro pp ee ss mm args below meth cc0 s₁ B hml hv
  obtain ⟨rfl, hP, hK⟩ := hv
  have hx := B.exec
  have hb := B.bytes
  have hr := B.returns
  have hts := atoms_spec (ws := wsX10_isAsking) B.pre
  have hown : ss.vm.findClass RX10 = some mm.cls := findClass_of_methodNamed B.named
  have hlocks := B.notSynchronized
  have hL0 := hts (.fieldLink RX10 65 "HereLived" "askings" "LHereLived$Askings;") (by decide +kernel)
  have hL1 := hts (.fieldLink RX10 202 "HereLived$Askings" "size" "I") (by decide +kernel)
  have hiX0 : ∀ w ∈ wsX00, w ∈ wsX10_isAsking := by decide +kernel
  have hiX10 : ∀ w ∈ wsX100, w ∈ wsX10_isAsking := by decide +kernel
  have hl := lv_entry ([.ref (ad 0), .int x]) (n := 2) (Nat.le_of_ble_eq_true rfl)
  rw [lg_entry_eq]
  generalize (lg_sl ([.ref (ad 0), .int x]) ++ List.replicate (2 - (lg_sl ([.ref (ad 0), .int x])).length) Slot.unset).toArray = ls at hl ⊢
  have hl : lv_has ls 2 [(0, .ref (ad 0)), (1, .int x)] := hl
  refine bw_Q (fun Q hQ => ?_)
  change W pp l ee { frames := 0, cells := 0, slots := 0, locals := 0 } ss mm _ below meth cc0 ss.heap [] 0 0 Q (F0 mm 0 ls [])
  refine lv_iload_n hx hb dX10_isAsking_0 rfl (lv_at hl 1 rfl) ?_
  refine bw_if_lt (tgt := 19) (a := x.toInt) hx hb dX10_isAsking_1 (by decide) rfl (fun c_1 => ?_) (fun c_1 => ?_)
  · skip
    refine lv_iconst (v := 0) hx hb dX10_isAsking_19 (by decide) ?_
    subst hQ
    have hpost : (0 : Int32) = if 0 ≤ x.toInt ∧ x.toInt < ((an : Nat) : Int) then 1 else 0 := by
      first | rw [if_pos (by omega)] | rw [if_neg (by omega)]
    exact W.zret (v := 0) hx hb hr (by rfl) (fun t9 ht hW => ⟨_, rfl, hpost, by rw [ht]⟩) (fun q h => by cases h) dX10_isAsking_20
  · skip
    refine lv_iload_n hx hb dX10_isAsking_4 rfl (lv_at hl 1 rfl) ?_
    refine lv_aload_n hx hb dX10_isAsking_5 rfl (lv_at hl 0 rfl) ?_
    refine va_get (D := (dC, dI)) (ci := 10) (v := .ref (ad 30)) (C := RX10) (T := TX10) (N := 10) hx hb hts hiX10 hown hK hP 0 rfl rfl 7 (by decide) hL0 (fun _ h9 => h9) rfl dX10_isAsking_6 ?_
    refine va_get (D := (dC, dI)) (ci := 0) (v := .int (nI an)) (C := RX0) (T := TX0) (N := 11) hx hb hts hiX0 hown hK hP 1 rfl rfl 10 (by decide) hL1 (fun _ h9 => h9) rfl dX10_isAsking_9 ?_
    refine bw_icmp_ge (tgt := 19) (a := x.toInt) (b := ((an : Nat) : Int)) hx hb dX10_isAsking_12 (by decide) rfl (nI_toInt (by omega)) (fun c_2 => ?_) (fun c_2 => ?_)
    · skip
      refine lv_iconst (v := 0) hx hb dX10_isAsking_19 (by decide) ?_
      subst hQ
      have hpost : (0 : Int32) = if 0 ≤ x.toInt ∧ x.toInt < ((an : Nat) : Int) then 1 else 0 := by
        first | rw [if_pos (by omega)] | rw [if_neg (by omega)]
      exact W.zret (v := 0) hx hb hr (by rfl) (fun t9 ht hW => ⟨_, rfl, hpost, by rw [ht]⟩) (fun q h => by cases h) dX10_isAsking_20
    · skip
      refine lv_iconst (v := 1) hx hb dX10_isAsking_15 (by decide) ?_
      refine lv_goto (tgt := 20) hx hb dX10_isAsking_16 (by decide) ?_
      subst hQ
      have hpost : (1 : Int32) = if 0 ≤ x.toInt ∧ x.toInt < ((an : Nat) : Int) then 1 else 0 := by
        first | rw [if_pos (by omega)] | rw [if_neg (by omega)]
      exact W.zret (v := 1) hx hb hr (by rfl) (fun t9 ht hW => ⟨_, rfl, hpost, by rw [ht]⟩) (fun q h => by cases h) dX10_isAsking_20

set_option maxHeartbeats 4000000 in
set_option maxRecDepth 100000 in
theorem c_X6_latestOf (l : Launch) (dC : Nat → ClassId) (dI : Nat → Nat → Nat) (cy : Nat → ClassId) (ad : Nat → Nat) (sn : Nat) (nb : Nat → Int32) (s : Nat) (k : Nat) (hs : s < 40) (hk : nb s = nI k) (hk1 : 1 ≤ k) (hk8 : k ≤ 8) : Met l yX6_latestOf wsX6_latestOf ({ frames := 0, cells := 0, slots := 0, locals := 0 }) (va_Pc [.ref (ad 3), .int (nI s)] (fun U => va_P (dC, dI) vwCl [(ad 3, .inr (6, [.ref (ad 4), .ref (ad 5), .ref (ad 6), .ref (ad 7), .ref (ad 8), .int (nI sn)])), (ad 4, .inl (cy 0, 40, .inl nb))] U.heap ∧ va_K (dC, dI) vwCl (tyL cy) U)) (vp_Si (fun r => r = nI (s * 8 + k - 1))) 0 0 (fun _ => False) := by
  refine Met.ofW (cc := cX6_latestOf) (maxL := 2) (ret := (some .int)) (by decide) rfl ?_
  intro pp ee ss mm args below meth cc0 s₁ B hml hv
  obtain ⟨rfl, hP, hK⟩ := hv
  have hx := B.exec
  have hb := B.bytes
  have hr := B.returns
  have hts := atoms_spec (ws := wsX6_latestOf) B.pre
  have hown : ss.vm.findClass RX6 = some mm.cls := findClass_of_methodNamed B.named
  have hlocks := B.notSynchronized
  have hL0 := hts (.fieldLink RX6 9 "HereLived$Sites" "numberings" "[I") (by decide +kernel)
  have hiX6 : ∀ w ∈ wsX60, w ∈ wsX6_latestOf := by decide +kernel
  have hl := lv_entry ([.ref (ad 3), .int (nI s)]) (n := 2) (Nat.le_of_ble_eq_true rfl)
  rw [lg_entry_eq]
  generalize (lg_sl ([.ref (ad 3), .int (nI s)]) ++ List.replicate (2 - (lg_sl ([.ref (ad 3), .int (nI s)])).length) Slot.unset).toArray = ls at hl ⊢
  have hl : lv_has ls 2 [(0, .ref (ad 3)), (1, .int (nI s))] := hl
  refine bw_Q (fun Q hQ => ?_)
  change W pp l ee { frames := 0, cells := 0, slots := 0, locals := 0 } ss mm _ below meth cc0 ss.heap [] 0 0 Q (F0 mm 0 ls [])
  refine lv_iload_n hx hb dX6_latestOf_0 rfl (lv_at hl 1 rfl) ?_
  refine lv_bipush (v := 8) hx hb dX6_latestOf_1 (by decide) ?_
  refine lv_imul hx hb dX6_latestOf_3 ?_
  refine bw_re (show (nI s) * 8 = nI (s * 8) from pk_mul (s) (8)) ?_
  refine lv_aload_n hx hb dX6_latestOf_4 rfl (lv_at hl 0 rfl) ?_
  refine va_get (D := (dC, dI)) (ci := 6) (v := .ref (ad 4)) (C := RX6) (T := TX6) (N := 6) hx hb hts hiX6 hown hK hP 0 rfl rfl 0 (by decide) hL0 (fun _ h9 => h9) rfl dX6_latestOf_5 ?_
  refine lv_iload_n hx hb dX6_latestOf_8 rfl (lv_at hl 1 rfl) ?_
  refine bw_iald hx hb hK hP 1 0 rfl rfl (j := s) (nI_toInt (by omega)) (by omega) dX6_latestOf_9 ?_
  refine bw_re (show nb s = nI k from hk) ?_
  refine lv_iadd hx hb dX6_latestOf_10 ?_
  refine bw_re (show (nI (s * 8)) + (nI k) = nI (s * 8 + k) from nI_add (s * 8) (k)) ?_
  refine lv_iconst (v := 1) hx hb dX6_latestOf_11 (by decide) ?_
  refine lv_isub hx hb dX6_latestOf_12 ?_
  refine bw_re (show (nI (s * 8 + k)) - 1 = nI ((s * 8 + k) - 1) from pk_sub (a := s * 8 + k) (b := 1) (by omega)) ?_
  subst hQ
  have hpost : (nI ((s * 8 + k) - 1)) = nI (s * 8 + k - 1) := by
    exact rfl
  exact W.iret (v := nI ((s * 8 + k) - 1)) hx hb hr (fun t9 ht hW => ⟨_, rfl, hpost, by rw [ht]⟩) (fun q h => by cases h) dX6_latestOf_13

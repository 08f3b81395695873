set_option maxHeartbeats 4000000 in
set_option maxRecDepth 100000 in
theorem c_X9_widthOf (l : Launch) (dC : Nat → ClassId) (dI : Nat → Nat → Nat) (cy : Nat → ClassId) (x : Int32)  : Met l yX9_widthOf wsX9_widthOf ({ frames := 1, cells := 0, slots := 0, locals := 20 }) (va_Pc [.int x] (fun U => va_P (dC, dI) vwCl [] U.heap ∧ va_K (dC, dI) vwCl (tyL cy) U ∧ va_Nw (.methodLinkNest RX9 35 yX10_isSmallLetter "HereLived") U ∧ va_Nw (.methodLinkNest RX9 38 yX10_isDigit "HereLived") U)) (vp_Si (fun r => r = nI (wdt x.toInt))) 0 0 (fun _ => False) := by
  refine Met.ofW (cc := cX9_widthOf) (maxL := 1) (ret := (some .int)) (by decide) rfl ?_
  intro pp ee ss mm args below meth cc0 s₁ B hml hv
  obtain ⟨rfl, hP, hK, hn0, hn1⟩ := hv
  have hx := B.exec
  have hb := B.bytes
  have hr := B.returns
  have hts := atoms_spec (ws := wsX9_widthOf) B.pre
  have hown : ss.vm.findClass RX9 = some mm.cls := findClass_of_methodNamed B.named
  have hlocks := B.notSynchronized
  have hL0 := hts (.initialized RX10) (by decide +kernel)
  have hL1 := hts (.static yX10_isSmallLetter) (by decide +kernel)
  have hL2 := hts (.static yX10_isDigit) (by decide +kernel)
  have hl := lv_entry ([.int x]) (n := 1) (Nat.le_of_ble_eq_true rfl)
  rw [lg_entry_eq]
  generalize (lg_sl ([.int x]) ++ List.replicate (1 - (lg_sl ([.int x])).length) Slot.unset).toArray = ls at hl ⊢
  have hl : lv_has ls 1 [(0, .int x)] := hl
  refine bw_Q (fun Q hQ => ?_)
  change W pp l ee { frames := 1, cells := 0, slots := 0, locals := 20 } ss mm _ below meth cc0 ss.heap [] 0 0 Q (F0 mm 0 ls [])
  refine lv_iload_n hx hb dX9_widthOf_0 rfl (lv_at hl 0 rfl) ?_
  rcases (show (x.toInt ≠ 33 ∧ x.toInt ≠ 39 ∧ x.toInt ≠ 44 ∧ x.toInt ≠ 46 ∧ x.toInt ≠ 77 ∧ x.toInt ≠ 87 ∧ x.toInt ≠ 105 ∧ x.toInt ≠ 106 ∧ x.toInt ≠ 108 ∧ x.toInt ≠ 109 ∧ x.toInt ≠ 119) ∨ x.toInt = 33 ∨ x.toInt = 39 ∨ x.toInt = 44 ∨ x.toInt = 46 ∨ x.toInt = 77 ∨ x.toInt = 87 ∨ x.toInt = 105 ∨ x.toInt = 106 ∨ x.toInt = 108 ∨ x.toInt = 109 ∨ x.toInt = 119 by omega) with c_1 | c_1 | c_1 | c_1 | c_1 | c_1 | c_1 | c_1 | c_1 | c_1 | c_1 | c_1
  · skip
    refine lv_lookup (tgt := 105) (off := 104) hx hb dX9_widthOf_1 (by decide) (by exact bw_lookD (by simpa using c_1)) (by decide) ?_
    refine lv_iload_n hx hb dX9_widthOf_105 rfl (lv_at hl 0 rfl) ?_
    refine vp_callSi (va_Run.run (va_runSN (As := [.int x]) (rest := []) ⟨hx, hb, hml, hown, hts⟩ (c_X10_isSmallLetter l dC dI cy x) ⟨va_cnB 1 hts gX9_widthOf_X10_isSmallLetter_n35 rfl rfl rfl hn0 hL0 (by decide +kernel) ⟨Nat.le_of_ble_eq_true rfl, Nat.le_of_ble_eq_true rfl⟩, hL1, trivial⟩ ⟨fun a U g mk q => q, fun U hU hW => ⟨rfl, trivial⟩⟩ rfl rfl hl.1 rfl (lv_room (Nat.le_of_ble_eq_true rfl)) dX9_widthOf_106 ⟨Nat.le_of_ble_eq_true rfl, Nat.le_of_ble_eq_true rfl⟩)) (fun r_2 hr_2 => ?_)
    refine bw_ifneB (tgt := 119) hx hb dX9_widthOf_109 (by decide) hr_2 (fun c_3 => ?_) (fun c_3 => ?_)
    · skip
      refine lv_iconst (v := 4) hx hb dX9_widthOf_119 (by decide) ?_
      refine bw_Qe hQ ?_
      have hpost : (4 : Int32) = nI (wdt x.toInt) := by
        first
          | (unfold wdt; rw [if_pos (by omega)]; rfl)
          | (unfold wdt; rw [if_neg (by omega), if_pos (by omega)]; rfl)
          | (unfold wdt; rw [if_neg (by omega), if_neg (by omega), if_pos (by omega)]; rfl)
          | (unfold wdt; rw [if_neg (by omega), if_neg (by omega), if_neg (by omega), if_pos (by omega)]; rfl)
          | (unfold wdt; rw [if_neg (by omega), if_neg (by omega), if_neg (by omega), if_neg (by omega)]; rfl)
      exact W.iret (v := 4) hx hb hr (fun t9 ht hW => ⟨_, rfl, hpost, by rw [ht]⟩) (fun q h => by cases h) dX9_widthOf_120
    · skip
      refine lv_iload_n hx hb dX9_widthOf_112 rfl (lv_at hl 0 rfl) ?_
      refine vp_callSi (va_Run.run (va_runSN (As := [.int x]) (rest := []) ⟨hx, hb, hml, hown, hts⟩ (c_X10_isDigit l dC dI cy x) ⟨va_cnB 1 hts gX9_widthOf_X10_isDigit_n38 rfl rfl rfl hn1 hL0 (by decide +kernel) ⟨Nat.le_of_ble_eq_true rfl, Nat.le_of_ble_eq_true rfl⟩, hL2, trivial⟩ ⟨fun a U g mk q => q, fun U hU hW => ⟨rfl, trivial⟩⟩ rfl rfl hl.1 rfl (lv_room (Nat.le_of_ble_eq_true rfl)) dX9_widthOf_113 ⟨Nat.le_of_ble_eq_true rfl, Nat.le_of_ble_eq_true rfl⟩)) (fun r_4 hr_4 => ?_)
      refine bw_ifeqB (tgt := 121) hx hb dX9_widthOf_116 (by decide) hr_4 (fun c_5 => ?_) (fun c_5 => ?_)
      · skip
        refine lv_iload_n hx hb dX9_widthOf_121 rfl (lv_at hl 0 rfl) ?_
        refine lv_bipush (v := 65) hx hb dX9_widthOf_122 (by decide) ?_
        refine bw_icmp_lt (tgt := 137) (a := x.toInt) (b := 65) hx hb dX9_widthOf_124 (by decide) rfl rfl (fun c_6 => ?_) (fun c_6 => ?_)
        · skip
          refine lv_iconst (v := 3) hx hb dX9_widthOf_137 (by decide) ?_
          refine bw_Qe hQ ?_
          have hpost : (3 : Int32) = nI (wdt x.toInt) := by
            first
              | (unfold wdt; rw [if_pos (by omega)]; rfl)
              | (unfold wdt; rw [if_neg (by omega), if_pos (by omega)]; rfl)
              | (unfold wdt; rw [if_neg (by omega), if_neg (by omega), if_pos (by omega)]; rfl)
              | (unfold wdt; rw [if_neg (by omega), if_neg (by omega), if_neg (by omega), if_pos (by omega)]; rfl)
              | (unfold wdt; rw [if_neg (by omega), if_neg (by omega), if_neg (by omega), if_neg (by omega)]; rfl)
          exact W.iret (v := 3) hx hb hr (fun t9 ht hW => ⟨_, rfl, hpost, by rw [ht]⟩) (fun q h => by cases h) dX9_widthOf_138
        · skip
          refine lv_iload_n hx hb dX9_widthOf_127 rfl (lv_at hl 0 rfl) ?_
          refine lv_bipush (v := 90) hx hb dX9_widthOf_128 (by decide) ?_
          refine bw_icmp_gt (tgt := 137) (a := x.toInt) (b := 90) hx hb dX9_widthOf_130 (by decide) rfl rfl (fun c_7 => ?_) (fun c_7 => ?_)
          · skip
            refine lv_iconst (v := 3) hx hb dX9_widthOf_137 (by decide) ?_
            refine bw_Qe hQ ?_
            have hpost : (3 : Int32) = nI (wdt x.toInt) := by
              first
                | (unfold wdt; rw [if_pos (by omega)]; rfl)
                | (unfold wdt; rw [if_neg (by omega), if_pos (by omega)]; rfl)
                | (unfold wdt; rw [if_neg (by omega), if_neg (by omega), if_pos (by omega)]; rfl)
                | (unfold wdt; rw [if_neg (by omega), if_neg (by omega), if_neg (by omega), if_pos (by omega)]; rfl)
                | (unfold wdt; rw [if_neg (by omega), if_neg (by omega), if_neg (by omega), if_neg (by omega)]; rfl)
            exact W.iret (v := 3) hx hb hr (fun t9 ht hW => ⟨_, rfl, hpost, by rw [ht]⟩) (fun q h => by cases h) dX9_widthOf_138
          · skip
            refine lv_iconst (v := 5) hx hb dX9_widthOf_133 (by decide) ?_
            refine lv_goto (tgt := 138) hx hb dX9_widthOf_134 (by decide) ?_
            refine bw_Qe hQ ?_
            have hpost : (5 : Int32) = nI (wdt x.toInt) := by
              first
                | (unfold wdt; rw [if_pos (by omega)]; rfl)
                | (unfold wdt; rw [if_neg (by omega), if_pos (by omega)]; rfl)
                | (unfold wdt; rw [if_neg (by omega), if_neg (by omega), if_pos (by omega)]; rfl)
                | (unfold wdt; rw [if_neg (by omega), if_neg (by omega), if_neg (by omega), if_pos (by omega)]; rfl)
                | (unfold wdt; rw [if_neg (by omega), if_neg (by omega), if_neg (by omega), if_neg (by omega)]; rfl)
            exact W.iret (v := 5) hx hb hr (fun t9 ht hW => ⟨_, rfl, hpost, by rw [ht]⟩) (fun q h => by cases h) dX9_widthOf_138
      · skip
        refine lv_iconst (v := 4) hx hb dX9_widthOf_119 (by decide) ?_
        refine bw_Qe hQ ?_
        have hpost : (4 : Int32) = nI (wdt x.toInt) := by
          first
            | (unfold wdt; rw [if_pos (by omega)]; rfl)
            | (unfold wdt; rw [if_neg (by omega), if_pos (by omega)]; rfl)
            | (unfold wdt; rw [if_neg (by omega), if_neg (by omega), if_pos (by omega)]; rfl)
            | (unfold wdt; rw [if_neg (by omega), if_neg (by omega), if_neg (by omega), if_pos (by omega)]; rfl)
            | (unfold wdt; rw [if_neg (by omega), if_neg (by omega), if_neg (by omega), if_neg (by omega)]; rfl)
        exact W.iret (v := 4) hx hb hr (fun t9 ht hW => ⟨_, rfl, hpost, by rw [ht]⟩) (fun q h => by cases h) dX9_widthOf_120
  · skip
    refine lv_lookup (tgt := 100) (off := 99) hx hb dX9_widthOf_1 (by decide) (by rw [c_1]; rfl) (by decide) ?_
    refine lv_iconst (v := 2) hx hb dX9_widthOf_100 (by decide) ?_
    refine bw_Qe hQ ?_
    have hpost : (2 : Int32) = nI (wdt x.toInt) := by
      first
        | (unfold wdt; rw [if_pos (by omega)]; rfl)
        | (unfold wdt; rw [if_neg (by omega), if_pos (by omega)]; rfl)
        | (unfold wdt; rw [if_neg (by omega), if_neg (by omega), if_pos (by omega)]; rfl)
        | (unfold wdt; rw [if_neg (by omega), if_neg (by omega), if_neg (by omega), if_pos (by omega)]; rfl)
        | (unfold wdt; rw [if_neg (by omega), if_neg (by omega), if_neg (by omega), if_neg (by omega)]; rfl)
    exact W.iret (v := 2) hx hb hr (fun t9 ht hW => ⟨_, rfl, hpost, by rw [ht]⟩) (fun q h => by cases h) dX9_widthOf_101
  · skip
    refine lv_lookup (tgt := 100) (off := 99) hx hb dX9_widthOf_1 (by decide) (by rw [c_1]; rfl) (by decide) ?_
    refine lv_iconst (v := 2) hx hb dX9_widthOf_100 (by decide) ?_
    refine bw_Qe hQ ?_
    have hpost : (2 : Int32) = nI (wdt x.toInt) := by
      first
        | (unfold wdt; rw [if_pos (by omega)]; rfl)
        | (unfold wdt; rw [if_neg (by omega), if_pos (by omega)]; rfl)
        | (unfold wdt; rw [if_neg (by omega), if_neg (by omega), if_pos (by omega)]; rfl)
        | (unfold wdt; rw [if_neg (by omega), if_neg (by omega), if_neg (by omega), if_pos (by omega)]; rfl)
        | (unfold wdt; rw [if_neg (by omega), if_neg (by omega), if_neg (by omega), if_neg (by omega)]; rfl)
    exact W.iret (v := 2) hx hb hr (fun t9 ht hW => ⟨_, rfl, hpost, by rw [ht]⟩) (fun q h => by cases h) dX9_widthOf_101
  · skip
    refine lv_lookup (tgt := 100) (off := 99) hx hb dX9_widthOf_1 (by decide) (by rw [c_1]; rfl) (by decide) ?_
    refine lv_iconst (v := 2) hx hb dX9_widthOf_100 (by decide) ?_
    refine bw_Qe hQ ?_
    have hpost : (2 : Int32) = nI (wdt x.toInt) := by
      first
        | (unfold wdt; rw [if_pos (by omega)]; rfl)
        | (unfold wdt; rw [if_neg (by omega), if_pos (by omega)]; rfl)
        | (unfold wdt; rw [if_neg (by omega), if_neg (by omega), if_pos (by omega)]; rfl)
        | (unfold wdt; rw [if_neg (by omega), if_neg (by omega), if_neg (by omega), if_pos (by omega)]; rfl)
        | (unfold wdt; rw [if_neg (by omega), if_neg (by omega), if_neg (by omega), if_neg (by omega)]; rfl)
    exact W.iret (v := 2) hx hb hr (fun t9 ht hW => ⟨_, rfl, hpost, by rw [ht]⟩) (fun q h => by cases h) dX9_widthOf_101
  · skip
    refine lv_lookup (tgt := 100) (off := 99) hx hb dX9_widthOf_1 (by decide) (by rw [c_1]; rfl) (by decide) ?_
    refine lv_iconst (v := 2) hx hb dX9_widthOf_100 (by decide) ?_
    refine bw_Qe hQ ?_
    have hpost : (2 : Int32) = nI (wdt x.toInt) := by
      first
        | (unfold wdt; rw [if_pos (by omega)]; rfl)
        | (unfold wdt; rw [if_neg (by omega), if_pos (by omega)]; rfl)
        | (unfold wdt; rw [if_neg (by omega), if_neg (by omega), if_pos (by omega)]; rfl)
        | (unfold wdt; rw [if_neg (by omega), if_neg (by omega), if_neg (by omega), if_pos (by omega)]; rfl)
        | (unfold wdt; rw [if_neg (by omega), if_neg (by omega), if_neg (by omega), if_neg (by omega)]; rfl)
    exact W.iret (v := 2) hx hb hr (fun t9 ht hW => ⟨_, rfl, hpost, by rw [ht]⟩) (fun q h => by cases h) dX9_widthOf_101
  · skip
    refine lv_lookup (tgt := 102) (off := 101) hx hb dX9_widthOf_1 (by decide) (by rw [c_1]; rfl) (by decide) ?_
    refine lv_bipush (v := 6) hx hb dX9_widthOf_102 (by decide) ?_
    refine bw_Qe hQ ?_
    have hpost : (6 : Int32) = nI (wdt x.toInt) := by
      first
        | (unfold wdt; rw [if_pos (by omega)]; rfl)
        | (unfold wdt; rw [if_neg (by omega), if_pos (by omega)]; rfl)
        | (unfold wdt; rw [if_neg (by omega), if_neg (by omega), if_pos (by omega)]; rfl)
        | (unfold wdt; rw [if_neg (by omega), if_neg (by omega), if_neg (by omega), if_pos (by omega)]; rfl)
        | (unfold wdt; rw [if_neg (by omega), if_neg (by omega), if_neg (by omega), if_neg (by omega)]; rfl)
    exact W.iret (v := 6) hx hb hr (fun t9 ht hW => ⟨_, rfl, hpost, by rw [ht]⟩) (fun q h => by cases h) dX9_widthOf_104
  · skip
    refine lv_lookup (tgt := 102) (off := 101) hx hb dX9_widthOf_1 (by decide) (by rw [c_1]; rfl) (by decide) ?_
    refine lv_bipush (v := 6) hx hb dX9_widthOf_102 (by decide) ?_
    refine bw_Qe hQ ?_
    have hpost : (6 : Int32) = nI (wdt x.toInt) := by
      first
        | (unfold wdt; rw [if_pos (by omega)]; rfl)
        | (unfold wdt; rw [if_neg (by omega), if_pos (by omega)]; rfl)
        | (unfold wdt; rw [if_neg (by omega), if_neg (by omega), if_pos (by omega)]; rfl)
        | (unfold wdt; rw [if_neg (by omega), if_neg (by omega), if_neg (by omega), if_pos (by omega)]; rfl)
        | (unfold wdt; rw [if_neg (by omega), if_neg (by omega), if_neg (by omega), if_neg (by omega)]; rfl)
    exact W.iret (v := 6) hx hb hr (fun t9 ht hW => ⟨_, rfl, hpost, by rw [ht]⟩) (fun q h => by cases h) dX9_widthOf_104
  · skip
    refine lv_lookup (tgt := 100) (off := 99) hx hb dX9_widthOf_1 (by decide) (by rw [c_1]; rfl) (by decide) ?_
    refine lv_iconst (v := 2) hx hb dX9_widthOf_100 (by decide) ?_
    refine bw_Qe hQ ?_
    have hpost : (2 : Int32) = nI (wdt x.toInt) := by
      first
        | (unfold wdt; rw [if_pos (by omega)]; rfl)
        | (unfold wdt; rw [if_neg (by omega), if_pos (by omega)]; rfl)
        | (unfold wdt; rw [if_neg (by omega), if_neg (by omega), if_pos (by omega)]; rfl)
        | (unfold wdt; rw [if_neg (by omega), if_neg (by omega), if_neg (by omega), if_pos (by omega)]; rfl)
        | (unfold wdt; rw [if_neg (by omega), if_neg (by omega), if_neg (by omega), if_neg (by omega)]; rfl)
    exact W.iret (v := 2) hx hb hr (fun t9 ht hW => ⟨_, rfl, hpost, by rw [ht]⟩) (fun q h => by cases h) dX9_widthOf_101
  · skip
    refine lv_lookup (tgt := 100) (off := 99) hx hb dX9_widthOf_1 (by decide) (by rw [c_1]; rfl) (by decide) ?_
    refine lv_iconst (v := 2) hx hb dX9_widthOf_100 (by decide) ?_
    refine bw_Qe hQ ?_
    have hpost : (2 : Int32) = nI (wdt x.toInt) := by
      first
        | (unfold wdt; rw [if_pos (by omega)]; rfl)
        | (unfold wdt; rw [if_neg (by omega), if_pos (by omega)]; rfl)
        | (unfold wdt; rw [if_neg (by omega), if_neg (by omega), if_pos (by omega)]; rfl)
        | (unfold wdt; rw [if_neg (by omega), if_neg (by omega), if_neg (by omega), if_pos (by omega)]; rfl)
        | (unfold wdt; rw [if_neg (by omega), if_neg (by omega), if_neg (by omega), if_neg (by omega)]; rfl)
    exact W.iret (v := 2) hx hb hr (fun t9 ht hW => ⟨_, rfl, hpost, by rw [ht]⟩) (fun q h => by cases h) dX9_widthOf_101
  · skip
    refine lv_lookup (tgt := 100) (off := 99) hx hb dX9_widthOf_1 (by decide) (by rw [c_1]; rfl) (by decide) ?_
    refine lv_iconst (v := 2) hx hb dX9_widthOf_100 (by decide) ?_
    refine bw_Qe hQ ?_
    have hpost : (2 : Int32) = nI (wdt x.toInt) := by
      first
        | (unfold wdt; rw [if_pos (by omega)]; rfl)
        | (unfold wdt; rw [if_neg (by omega), if_pos (by omega)]; rfl)
        | (unfold wdt; rw [if_neg (by omega), if_neg (by omega), if_pos (by omega)]; rfl)
        | (unfold wdt; rw [if_neg (by omega), if_neg (by omega), if_neg (by omega), if_pos (by omega)]; rfl)
        | (unfold wdt; rw [if_neg (by omega), if_neg (by omega), if_neg (by omega), if_neg (by omega)]; rfl)
    exact W.iret (v := 2) hx hb hr (fun t9 ht hW => ⟨_, rfl, hpost, by rw [ht]⟩) (fun q h => by cases h) dX9_widthOf_101
  · skip
    refine lv_lookup (tgt := 102) (off := 101) hx hb dX9_widthOf_1 (by decide) (by rw [c_1]; rfl) (by decide) ?_
    refine lv_bipush (v := 6) hx hb dX9_widthOf_102 (by decide) ?_
    refine bw_Qe hQ ?_
    have hpost : (6 : Int32) = nI (wdt x.toInt) := by
      first
        | (unfold wdt; rw [if_pos (by omega)]; rfl)
        | (unfold wdt; rw [if_neg (by omega), if_pos (by omega)]; rfl)
        | (unfold wdt; rw [if_neg (by omega), if_neg (by omega), if_pos (by omega)]; rfl)
        | (unfold wdt; rw [if_neg (by omega), if_neg (by omega), if_neg (by omega), if_pos (by omega)]; rfl)
        | (unfold wdt; rw [if_neg (by omega), if_neg (by omega), if_neg (by omega), if_neg (by omega)]; rfl)
    exact W.iret (v := 6) hx hb hr (fun t9 ht hW => ⟨_, rfl, hpost, by rw [ht]⟩) (fun q h => by cases h) dX9_widthOf_104
  · skip
    refine lv_lookup (tgt := 102) (off := 101) hx hb dX9_widthOf_1 (by decide) (by rw [c_1]; rfl) (by decide) ?_
    refine lv_bipush (v := 6) hx hb dX9_widthOf_102 (by decide) ?_
    refine bw_Qe hQ ?_
    have hpost : (6 : Int32) = nI (wdt x.toInt) := by
      first
        | (unfold wdt; rw [if_pos (by omega)]; rfl)
        | (unfold wdt; rw [if_neg (by omega), if_pos (by omega)]; rfl)
        | (unfold wdt; rw [if_neg (by omega), if_neg (by omega), if_pos (by omega)]; rfl)
        | (unfold wdt; rw [if_neg (by omega), if_neg (by omega), if_neg (by omega), if_pos (by omega)]; rfl)
        | (unfold wdt; rw [if_neg (by omega), if_neg (by omega), if_neg (by omega), if_neg (by omega)]; rfl)
    exact W.iret (v := 6) hx hb hr (fun t9 ht hW => ⟨_, rfl, hpost, by rw [ht]⟩) (fun q h => by cases h) dX9_widthOf_104

set_option maxHeartbeats 4000000 in
set_option maxRecDepth 100000 in
theorem c_X9_split (l : Launch) (dC : Nat → ClassId) (dI : Nat → Nat → Nat) (cy : Nat → ClassId) (ad : Nat → Nat) (wn : Nat) (ww : Nat → Int32) (tn : Nat) (tb : Nat → Int32) (sz : Nat) (htn : tn ≤ 600) : Met l yX9_split wsX9_split ({ frames := 2, cells := 0, slots := 0, locals := 40 }) (va_Pc [.ref (ad 41), .ref (ad 1)] (fun U => U.heap.size = sz ∧ va_P (dC, dI) vwCl [(ad 41, .inr (9, [.ref (ad 42), .int (nI wn)])), (ad 42, .inl (cy 0, 40, .inl ww)), (ad 1, .inr (8, [.ref (ad 2), .int (nI tn)])), (ad 2, .inl (cy 0, 600, .inl tb))] U.heap ∧ va_K (dC, dI) vwCl (tyL cy) U ∧ va_D (fun _ => True) [(ad 41, .inr (9, [.ref (ad 42), .int (nI wn)])), (ad 42, .inl (cy 0, 40, .inl ww)), (ad 1, .inr (8, [.ref (ad 2), .int (nI tn)])), (ad 2, .inl (cy 0, 600, .inl tb))] ∧ va_Nw (.methodLinkNest RX9 27 yX10_isBlank "HereLived") U ∧ va_Nw (.methodLinkNest RX9 35 yX10_isSmallLetter "HereLived") U ∧ va_Nw (.methodLinkNest RX9 38 yX10_isDigit "HereLived") U)) (va_Qi (S := Nat × (Nat → Int32)) (fun r => fun u => match u with | (wn2, ww2) => wdP tb tn r wn2 ww2) (fun u => match u with | (wn2, ww2) => fun t => va_P (dC, dI) vwCl [(ad 41, .inr (9, [.ref (ad 42), .int (nI wn2)])), (ad 42, .inl (cy 0, 40, .inl ww2)), (ad 1, .inr (8, [.ref (ad 2), .int (nI tn)])), (ad 2, .inl (cy 0, 600, .inl tb))] t.heap ∧ va_K (dC, dI) vwCl (tyL cy) t ∧ va_D (va_A [(ad 41, .inr (9, [.ref (ad 42), .int (nI wn)])), (ad 42, .inl (cy 0, 40, .inl ww)), (ad 1, .inr (8, [.ref (ad 2), .int (nI tn)])), (ad 2, .inl (cy 0, 600, .inl tb))] sz) [(ad 41, .inr (9, [.ref (ad 42), .int (nI wn2)])), (ad 42, .inl (cy 0, 40, .inl ww2)), (ad 1, .inr (8, [.ref (ad 2), .int (nI tn)])), (ad 2, .inl (cy 0, 600, .inl tb))]) (va_A [(ad 41, .inr (9, [.ref (ad 42), .int (nI wn)])), (ad 42, .inl (cy 0, 40, .inl ww)), (ad 1, .inr (8, [.ref (ad 2), .int (nI tn)])), (ad 2, .inl (cy 0, 600, .inl tb))] sz)) 0 0 (va_A [(ad 41, .inr (9, [.ref (ad 42), .int (nI wn)])), (ad 42, .inl (cy 0, 40, .inl ww)), (ad 1, .inr (8, [.ref (ad 2), .int (nI tn)])), (ad 2, .inl (cy 0, 600, .inl tb))] sz) := by
  refine Met.ofW (cc := cX9_split) (maxL := 5) (ret := (some .boolean)) (by decide) rfl ?_
  intro pp ee ss mm args below meth cc0 s₁ B hml hv
  obtain ⟨rfl, hsz, hP, hK, hD0, hn0, hn1, hn2⟩ := hv
  have hx := B.exec
  have hb := B.bytes
  have hr := B.returns
  have hts := atoms_spec (ws := wsX9_split) B.pre
  have hown : ss.vm.findClass RX9 = some mm.cls := findClass_of_methodNamed B.named
  have hlocks := B.notSynchronized
  have hL0 := hts (.fieldLink RX9 15 "HereLived$Words" "size" "I") (by decide +kernel)
  have hL1 := hts (.fieldLink RX9 19 "HereLived$Tape" "length" "I") (by decide +kernel)
  have hL2 := hts (.fieldLink RX9 24 "HereLived$Tape" "bytes" "[I") (by decide +kernel)
  have hL3 := hts (.initialized RX10) (by decide +kernel)
  have hL4 := hts (.static yX10_isBlank) (by decide +kernel)
  have hL5 := hts (.fieldLink RX9 9 "HereLived$Words" "widths" "[I") (by decide +kernel)
  have hiX8 : ∀ w ∈ wsX80, w ∈ wsX9_split := by decide +kernel
  have hiX9 : ∀ w ∈ wsX90, w ∈ wsX9_split := by decide +kernel
  subst hsz
  have hD := hD0.self (sz := ss.heap.size)
  generalize hAe : va_A [(ad 41, .inr (9, [.ref (ad 42), .int (nI wn)])), (ad 42, .inl (cy 0, 40, .inl ww)), (ad 1, .inr (8, [.ref (ad 2), .int (nI tn)])), (ad 2, .inl (cy 0, 600, .inl tb))] ss.heap.size = A at hD ⊢
  have hA : ∀ q : Nat, ss.heap.size ≤ q → A q := fun q h => by rw [← hAe]; exact Or.inr h
  have hS : va_S A ss.heap ss.heap [] := va_S.rf
  have hP : va_P (dC, dI) vwCl [(ad 41, .inr (9, [.ref (ad 42), .int (nI wn)])), (ad 42, .inl (cy 0, 40, .inl ww)), (ad 1, .inr (8, [.ref (ad 2), .int (nI tn)])), (ad 2, .inl (cy 0, 600, .inl tb))] ss.heap := hP
  have hl := lv_entry ([.ref (ad 41), .ref (ad 1)]) (n := 5) (Nat.le_of_ble_eq_true rfl)
  rw [lg_entry_eq]
  generalize (lg_sl ([.ref (ad 41), .ref (ad 1)]) ++ List.replicate (5 - (lg_sl ([.ref (ad 41), .ref (ad 1)])).length) Slot.unset).toArray = ls at hl ⊢
  have hl : lv_has ls 5 [(0, .ref (ad 41)), (1, .ref (ad 1))] := hl
  refine bw_Q (fun Q hQ => ?_)
  refine bw_H0 (fun H locs eH eL => ?_)
  have hS : va_S A ss.heap H locs := by rw [eH, eL]; exact hS
  have hP : va_P (dC, dI) vwCl [(ad 41, .inr (9, [.ref (ad 42), .int (nI wn)])), (ad 42, .inl (cy 0, 40, .inl ww)), (ad 1, .inr (8, [.ref (ad 2), .int (nI tn)])), (ad 2, .inl (cy 0, 600, .inl tb))] H := by rw [eH]; exact hP
  change W pp l ee { frames := 2, cells := 0, slots := 0, locals := 40 } ss mm _ below meth cc0 H locs 0 0 Q (F0 mm 0 ls [])
  refine lv_aload_n hx hb dX9_split_0 rfl (lv_at hl 0 rfl) ?_
  refine lv_iconst (v := 0) hx hb dX9_split_1 (by decide) ?_
  refine va_put (D := (dC, dI)) (ci := 9) (v := .int 0) (ty := (tyX9 1)) (C := RX9) (T := TX9) (N := 2) hx hb hts hiX9 tyX9 tyX9_ok nmX9 hown hK hP hD hS 0 rfl rfl 1 (by decide) hL0 (fun _ h9 => h9) rfl (by decide +kernel) rfl rfl (Nat.le_of_ble_eq_true rfl) dX9_split_2 (fun H locs hP hD hS => ?_)
  have hP : va_P (dC, dI) vwCl [(ad 41, .inr (9, [.ref (ad 42), .int 0])), (ad 42, .inl (cy 0, 40, .inl ww)), (ad 1, .inr (8, [.ref (ad 2), .int (nI tn)])), (ad 2, .inl (cy 0, 600, .inl tb))] H := hP
  have hD : va_D A [(ad 41, .inr (9, [.ref (ad 42), .int 0])), (ad 42, .inl (cy 0, 40, .inl ww)), (ad 1, .inr (8, [.ref (ad 2), .int (nI tn)])), (ad 2, .inl (cy 0, 600, .inl tb))] := hD
  refine lv_iconst (v := 0) hx hb dX9_split_5 (by decide) ?_
  refine lv_istore_n (lv' := [(2, .int 0), (0, .ref (ad 41)), (1, .ref (ad 1))]) hx hb dX9_split_6 rfl hl (by decide) rfl (fun ls hl => ?_)
  refine lv_iconst (v := 0) hx hb dX9_split_7 (by decide) ?_
  refine lv_istore_n (lv' := [(3, .int 0), (2, .int 0), (0, .ref (ad 41)), (1, .ref (ad 1))]) hx hb dX9_split_8 rfl hl (by decide) rfl (fun ls hl => ?_)
  have L_9 : ∀ (n9 : Nat), ∀ (i : Nat) (b : Nat) (w : Nat) (f : Nat → Int32) (v : Nat → Nat), (tn - i) < n9 → (i ≤ tn) → (wdS tb i = some (b, w, v)) → (wR f w v) → ∀ (H : Heap) (locs : List Loc), va_P (dC, dI) vwCl [(ad 41, .inr (9, [.ref (ad 42), .int (nI w)])), (ad 42, .inl (cy 0, 40, .inl f)), (ad 1, .inr (8, [.ref (ad 2), .int (nI tn)])), (ad 2, .inl (cy 0, 600, .inl tb))] H → va_D A [(ad 41, .inr (9, [.ref (ad 42), .int (nI w)])), (ad 42, .inl (cy 0, 40, .inl f)), (ad 1, .inr (8, [.ref (ad 2), .int (nI tn)])), (ad 2, .inl (cy 0, 600, .inl tb))] → va_S A ss.heap H locs → ∀ (ls : Array Slot), lv_has ls 5 [(0, .ref (ad 41)), (1, .ref (ad 1)), (2, .int (nI b)), (3, .int (nI i))] → W pp l ee { frames := 2, cells := 0, slots := 0, locals := 40 } ss mm (List.toArray [Value.ref (ad 41), Value.ref (ad 1)]) below meth cc0 H locs 0 0 Q (F0 mm 9 ls []) := by
    intro n9
    induction n9 with
    | zero => intro i b w f v hm9; exact absurd hm9 (Nat.not_lt_zero _)
    | succ n9 ih9 =>
      intro i b w f v hm9 hi hW hwR
      intro H locs hP hD hS
      intro ls hl
      obtain ⟨wb1, wb2, wb3, wb4⟩ := ws_b i b w v hW
      have hwc := wdt_b (tb i).toInt
      refine lv_iload_n hx hb dX9_split_9 rfl (lv_at hl 3 rfl) ?_
      refine lv_aload_n hx hb dX9_split_10 rfl (lv_at hl 1 rfl) ?_
      refine va_get (D := (dC, dI)) (ci := 8) (v := .int (nI tn)) (C := RX8) (T := TX8) (N := 2) hx hb hts hiX8 hown hK hP 2 rfl rfl 1 (by decide) hL1 (fun _ h9 => h9) rfl dX9_split_11 ?_
      refine bw_icmp_ge (tgt := 125) (a := ((i : Nat) : Int)) (b := ((tn : Nat) : Int)) hx hb dX9_split_14 (by decide) (nI_toInt (by omega)) (nI_toInt (by omega)) (fun c_1 => ?_) (fun c_1 => ?_)
      · skip
        refine lv_aload_n hx hb dX9_split_125 rfl (lv_at hl 0 rfl) ?_
        refine va_get (D := (dC, dI)) (ci := 9) (v := .int (nI w)) (C := RX9) (T := TX9) (N := 2) hx hb hts hiX9 hown hK hP 0 rfl rfl 1 (by decide) hL0 (fun _ h9 => h9) rfl dX9_split_126 ?_
        refine bw_if_le (tgt := 136) (a := ((w : Nat) : Int)) hx hb dX9_split_129 (by decide) (nI_toInt (by omega)) (fun c_2 => ?_) (fun c_2 => ?_)
        · skip
          refine lv_iconst (v := 0) hx hb dX9_split_136 (by decide) ?_
          refine bw_Qe hQ ?_
          have hP9 : va_P (dC, dI) vwCl [(ad 41, .inr (9, [.ref (ad 42), .int (nI w)])), (ad 42, .inl (cy 0, 40, .inl f)), (ad 1, .inr (8, [.ref (ad 2), .int (nI tn)])), (ad 2, .inl (cy 0, 600, .inl tb))] H := hP.sub [0, 1, 2, 3] rfl
          have hD9 : va_D A [(ad 41, .inr (9, [.ref (ad 42), .int (nI w)])), (ad 42, .inl (cy 0, 40, .inl f)), (ad 1, .inr (8, [.ref (ad 2), .int (nI tn)])), (ad 2, .inl (cy 0, 600, .inl tb))] := hD.sub [0, 1, 2, 3] (by decide) rfl
          have hpost : wdP tb tn (0 : Int32) w f := by
            have e9 : i = tn := by omega
            rw [e9] at hW
            first
              | exact Or.inl ⟨b, v, hW, hwR, (pI_t (by omega)).symm⟩
              | exact Or.inl ⟨b, v, hW, hwR, (pI_f (by omega)).symm⟩
          exact W.zret (v := 0) hx hb hr (by rfl) (fun t9 ht hW => ⟨⟨0, (w, f), rfl, hpost, by rw [ht]; exact hP9, va_K.moved hW.alike hK, hD9⟩, hS.F ht⟩) hS.2.2 dX9_split_137
        · skip
          refine lv_iconst (v := 1) hx hb dX9_split_132 (by decide) ?_
          refine lv_goto (tgt := 137) hx hb dX9_split_133 (by decide) ?_
          refine bw_Qe hQ ?_
          have hP9 : va_P (dC, dI) vwCl [(ad 41, .inr (9, [.ref (ad 42), .int (nI w)])), (ad 42, .inl (cy 0, 40, .inl f)), (ad 1, .inr (8, [.ref (ad 2), .int (nI tn)])), (ad 2, .inl (cy 0, 600, .inl tb))] H := hP.sub [0, 1, 2, 3] rfl
          have hD9 : va_D A [(ad 41, .inr (9, [.ref (ad 42), .int (nI w)])), (ad 42, .inl (cy 0, 40, .inl f)), (ad 1, .inr (8, [.ref (ad 2), .int (nI tn)])), (ad 2, .inl (cy 0, 600, .inl tb))] := hD.sub [0, 1, 2, 3] (by decide) rfl
          have hpost : wdP tb tn (1 : Int32) w f := by
            have e9 : i = tn := by omega
            rw [e9] at hW
            first
              | exact Or.inl ⟨b, v, hW, hwR, (pI_t (by omega)).symm⟩
              | exact Or.inl ⟨b, v, hW, hwR, (pI_f (by omega)).symm⟩
          exact W.zret (v := 1) hx hb hr (by rfl) (fun t9 ht hW => ⟨⟨1, (w, f), rfl, hpost, by rw [ht]; exact hP9, va_K.moved hW.alike hK, hD9⟩, hS.F ht⟩) hS.2.2 dX9_split_137
      · skip
        refine lv_aload_n hx hb dX9_split_17 rfl (lv_at hl 1 rfl) ?_
        refine va_get (D := (dC, dI)) (ci := 8) (v := .ref (ad 2)) (C := RX8) (T := TX8) (N := 2) hx hb hts hiX8 hown hK hP 2 rfl rfl 0 (by decide) hL2 (fun _ h9 => h9) rfl dX9_split_18 ?_
        refine lv_iload_n hx hb dX9_split_21 rfl (lv_at hl 3 rfl) ?_
        refine bw_iald hx hb hK hP 3 0 rfl rfl (j := i) (nI_toInt (by omega)) (by omega) dX9_split_22 ?_
        refine lv_istore (lv' := [(4, .int (tb i)), (0, .ref (ad 41)), (1, .ref (ad 1)), (2, .int (nI b)), (3, .int (nI i))]) hx hb dX9_split_23 hl (by decide) rfl (fun ls hl => ?_)
        refine lv_iload hx hb dX9_split_25 (lv_at hl 0 rfl) ?_
        refine vp_callSi (va_Run.run (va_runSN (As := [.int (tb i)]) (rest := []) ⟨hx, hb, hml, hown, hts⟩ (c_X10_isBlank l dC dI cy (tb i)) ⟨va_cnB 1 hts gX9_split_X10_isBlank_n27 rfl rfl rfl hn0 hL3 (by decide +kernel) ⟨Nat.le_of_ble_eq_true rfl, Nat.le_of_ble_eq_true rfl⟩, hL4, trivial⟩ ⟨fun a U g mk q => q, fun U hU hW => ⟨rfl, trivial⟩⟩ rfl rfl hl.1 rfl (lv_room (Nat.le_of_ble_eq_true rfl)) dX9_split_27 ⟨Nat.le_of_ble_eq_true rfl, Nat.le_of_ble_eq_true rfl⟩)) (fun r_3 hr_3 => ?_)
        refine bw_ifeqB (tgt := 38) hx hb dX9_split_30 (by decide) hr_3 (fun c_4 => ?_) (fun c_4 => ?_)
        · skip
          refine lv_iload_n hx hb dX9_split_38 rfl (lv_at hl 3 rfl) ?_
          refine bw_if_ne (tgt := 51) (a := ((b : Nat) : Int)) hx hb dX9_split_39 (by decide) (nI_toInt (by omega)) (fun c_5 => ?_) (fun c_5 => ?_)
          · skip
            refine lv_iload_n hx hb dX9_split_51 rfl (lv_at hl 3 rfl) ?_
            refine lv_bipush (v := 24) hx hb dX9_split_52 (by decide) ?_
            refine bw_icmp_ge (tgt := 71) (a := ((b : Nat) : Int)) (b := 24) hx hb dX9_split_54 (by decide) (nI_toInt (by omega)) rfl (fun c_6 => ?_) (fun c_6 => ?_)
            · skip
              refine lv_iconst (v := 0) hx hb dX9_split_71 (by decide) ?_
              refine bw_Qe hQ ?_
              have hP9 : va_P (dC, dI) vwCl [(ad 41, .inr (9, [.ref (ad 42), .int (nI w)])), (ad 42, .inl (cy 0, 40, .inl f)), (ad 1, .inr (8, [.ref (ad 2), .int (nI tn)])), (ad 2, .inl (cy 0, 600, .inl tb))] H := hP.sub [0, 1, 2, 3] rfl
              have hD9 : va_D A [(ad 41, .inr (9, [.ref (ad 42), .int (nI w)])), (ad 42, .inl (cy 0, 40, .inl f)), (ad 1, .inr (8, [.ref (ad 2), .int (nI tn)])), (ad 2, .inl (cy 0, 600, .inl tb))] := hD.sub [0, 1, 2, 3] (by decide) rfl
              have hpost : wdP tb tn (0 : Int32) w f := by
                exact Or.inr ⟨ws_no hW (fun q => by unfold wBl at q; omega) (by unfold wBad; omega) (by omega), rfl⟩
              exact W.zret (v := 0) hx hb hr (by rfl) (fun t9 ht hW => ⟨⟨0, (w, f), rfl, hpost, by rw [ht]; exact hP9, va_K.moved hW.alike hK, hD9⟩, hS.F ht⟩) hS.2.2 dX9_split_72
            · skip
              refine lv_iload hx hb dX9_split_57 (lv_at hl 0 rfl) ?_
              refine lv_bipush (v := 33) hx hb dX9_split_59 (by decide) ?_
              refine bw_icmp_lt (tgt := 71) (a := (tb i).toInt) (b := 33) hx hb dX9_split_61 (by decide) rfl rfl (fun c_7 => ?_) (fun c_7 => ?_)
              · skip
                refine lv_iconst (v := 0) hx hb dX9_split_71 (by decide) ?_
                refine bw_Qe hQ ?_
                have hP9 : va_P (dC, dI) vwCl [(ad 41, .inr (9, [.ref (ad 42), .int (nI w)])), (ad 42, .inl (cy 0, 40, .inl f)), (ad 1, .inr (8, [.ref (ad 2), .int (nI tn)])), (ad 2, .inl (cy 0, 600, .inl tb))] H := hP.sub [0, 1, 2, 3] rfl
                have hD9 : va_D A [(ad 41, .inr (9, [.ref (ad 42), .int (nI w)])), (ad 42, .inl (cy 0, 40, .inl f)), (ad 1, .inr (8, [.ref (ad 2), .int (nI tn)])), (ad 2, .inl (cy 0, 600, .inl tb))] := hD.sub [0, 1, 2, 3] (by decide) rfl
                have hpost : wdP tb tn (0 : Int32) w f := by
                  exact Or.inr ⟨ws_no hW (fun q => by unfold wBl at q; omega) (by unfold wBad; omega) (by omega), rfl⟩
                exact W.zret (v := 0) hx hb hr (by rfl) (fun t9 ht hW => ⟨⟨0, (w, f), rfl, hpost, by rw [ht]; exact hP9, va_K.moved hW.alike hK, hD9⟩, hS.F ht⟩) hS.2.2 dX9_split_72
              · skip
                refine lv_iload hx hb dX9_split_64 (lv_at hl 0 rfl) ?_
                refine lv_bipush (v := 126) hx hb dX9_split_66 (by decide) ?_
                refine bw_icmp_le (tgt := 73) (a := (tb i).toInt) (b := 126) hx hb dX9_split_68 (by decide) rfl rfl (fun c_8 => ?_) (fun c_8 => ?_)
                · skip
                  refine lv_iload_n hx hb dX9_split_73 rfl (lv_at hl 3 rfl) ?_
                  refine bw_if_ne (tgt := 97) (a := ((b : Nat) : Int)) hx hb dX9_split_74 (by decide) (nI_toInt (by omega)) (fun c_9 => ?_) (fun c_9 => ?_)
                  · skip
                    refine lv_aload_n hx hb dX9_split_97 rfl (lv_at hl 1 rfl) ?_
                    refine va_get (D := (dC, dI)) (ci := 9) (v := .ref (ad 42)) (C := RX9) (T := TX9) (N := 2) hx hb hts hiX9 hown hK hP 0 rfl rfl 0 (by decide) hL5 (fun _ h9 => h9) rfl dX9_split_98 ?_
                    refine lv_aload_n hx hb dX9_split_101 rfl (lv_at hl 1 rfl) ?_
                    refine va_get (D := (dC, dI)) (ci := 9) (v := .int (nI w)) (C := RX9) (T := TX9) (N := 2) hx hb hts hiX9 hown hK hP 0 rfl rfl 1 (by decide) hL0 (fun _ h9 => h9) rfl dX9_split_102 ?_
                    refine lv_iconst (v := 1) hx hb dX9_split_105 (by decide) ?_
                    refine lv_isub hx hb dX9_split_106 ?_
                    refine bw_re (show (nI w) - 1 = nI (w - 1) from pk_sub (a := w) (b := 1) (by omega)) ?_
                    refine lv_dup2_11 hx hb dX9_split_107 rfl rfl ?_
                    refine bw_iald hx hb hK hP 1 0 rfl rfl (j := (w - 1)) (nI_toInt (by omega)) (by omega) dX9_split_108 ?_
                    refine bw_re (show f (w - 1) = nI (v (w - 1)) from hwR _ (by omega)) ?_
                    refine lv_iload hx hb dX9_split_109 (lv_at hl 0 rfl) ?_
                    refine vp_callSi (va_Run.run (va_runS (As := [.int (tb i)]) (rest := [.int (nI (v (w - 1))), .int (nI (w - 1)), .ref (ad 42)]) ⟨hx, hb, hml, hown, hts⟩ (c_X9_widthOf l dC dI cy (tb i)) (va_cwS 1 hts gX9_split_X9_widthOf rfl rfl rfl (by decide +kernel) ⟨Nat.le_of_ble_eq_true rfl, Nat.le_of_ble_eq_true rfl⟩) ⟨fun a U g mk q => by obtain ⟨q0, qP, qK, qn0, qn1⟩ := q; exact ⟨q0, qP, va_K.moved (u := U) (U := U.calling g mk a) (Vm.Alike.refl U.vm) qK, va_Nw.same (u := U) (U := U.calling g mk a) rfl rfl qn0, va_Nw.same (u := U) (U := U.calling g mk a) rfl rfl qn1⟩, fun U hU hW => ⟨rfl, (fun k q h => by simp at h), va_K.moved hW.alike hK, va_Nw.warmM hW hn1, va_Nw.warmM hW hn2⟩⟩ rfl rfl hl.1 rfl (lv_room (Nat.le_of_ble_eq_true rfl)) dX9_split_111 ⟨Nat.le_of_ble_eq_true rfl, Nat.le_of_ble_eq_true rfl⟩)) (fun r_10 hr_10 => ?_)
                    rw [hr_10]
                    refine lv_iadd hx hb dX9_split_114 ?_
                    refine bw_re (show (nI (v (w - 1))) + (nI (wdt (tb i).toInt)) = nI (v (w - 1) + (wdt (tb i).toInt)) from nI_add (v (w - 1)) (wdt (tb i).toInt)) ?_
                    refine bw_iast hx hb hK hP hD hS 1 0 rfl rfl (j := (w - 1)) (nI_toInt (by omega)) (by omega) dX9_split_115 (fun H locs hP hD hS => ?_)
                    have hP : va_P (dC, dI) vwCl [(ad 41, .inr (9, [.ref (ad 42), .int (nI w)])), (ad 42, .inl (cy 0, 40, .inl (upd f (w - 1) (nI (v (w - 1) + (wdt (tb i).toInt)))))), (ad 1, .inr (8, [.ref (ad 2), .int (nI tn)])), (ad 2, .inl (cy 0, 600, .inl tb))] H := hP
                    have hD : va_D A [(ad 41, .inr (9, [.ref (ad 42), .int (nI w)])), (ad 42, .inl (cy 0, 40, .inl (upd f (w - 1) (nI (v (w - 1) + (wdt (tb i).toInt)))))), (ad 1, .inr (8, [.ref (ad 2), .int (nI tn)])), (ad 2, .inl (cy 0, 600, .inl tb))] := hD
                    refine lv_iinc (v := nI (b + 1)) (lv' := [(2, .int (nI (b + 1))), (4, .int (tb i)), (0, .ref (ad 41)), (1, .ref (ad 1)), (3, .int (nI i))]) hx hb dX9_split_116 hl (k := 3) rfl (show nI b + Int32.ofInt 1 = nI (b + 1) from nI_add b 1) (by decide) rfl (fun ls hl => ?_)
                    refine lv_iinc (v := nI (i + 1)) (lv' := [(3, .int (nI (i + 1))), (2, .int (nI (b + 1))), (4, .int (tb i)), (0, .ref (ad 41)), (1, .ref (ad 1))]) hx hb dX9_split_119 hl (k := 4) rfl (show nI i + Int32.ofInt 1 = nI (i + 1) from nI_add i 1) (by decide) rfl (fun ls hl => ?_)
                    refine lv_goto (tgt := 9) hx hb dX9_split_122 (by decide) ?_
                    have hI_hW : wdS tb (i + 1) = some ((b + 1), w, (wAdd v b w (wdt (tb i).toInt))) := by
                      first
                        | exact ws_bl hW (by unfold wBl; omega)
                        | (have q := ws_ok hW (fun q => by unfold wBl at q; omega) (fun q => by unfold wBad at q; omega)
                           first
                             | (rw [if_pos (by omega)] at q; exact q)
                             | (rw [if_neg (by omega)] at q; exact q))
                    have hI_hwR : wR (upd f (w - 1) (nI (v (w - 1) + (wdt (tb i).toInt)))) w (wAdd v b w (wdt (tb i).toInt)) := by
                      first
                        | exact wR_s hwR (by omega)
                        | exact wR_0 hwR (by omega)
                        | exact hwR
                    exact ih9 (i + 1) (b + 1) w (upd f (w - 1) (nI (v (w - 1) + (wdt (tb i).toInt)))) (wAdd v b w (wdt (tb i).toInt)) (by omega) (by first | assumption | omega) hI_hW hI_hwR H locs hP hD hS ls (lv_sub hl [3, 4, 1, 0] rfl)
                  · skip
                    refine lv_aload_n hx hb dX9_split_77 rfl (lv_at hl 1 rfl) ?_
                    refine va_get (D := (dC, dI)) (ci := 9) (v := .ref (ad 42)) (C := RX9) (T := TX9) (N := 2) hx hb hts hiX9 hown hK hP 0 rfl rfl 0 (by decide) hL5 (fun _ h9 => h9) rfl dX9_split_78 ?_
                    refine lv_aload_n hx hb dX9_split_81 rfl (lv_at hl 1 rfl) ?_
                    refine va_get (D := (dC, dI)) (ci := 9) (v := .int (nI w)) (C := RX9) (T := TX9) (N := 2) hx hb hts hiX9 hown hK hP 0 rfl rfl 1 (by decide) hL0 (fun _ h9 => h9) rfl dX9_split_82 ?_
                    refine lv_iconst (v := 0) hx hb dX9_split_85 (by decide) ?_
                    refine bw_iast hx hb hK hP hD hS 1 0 rfl rfl (j := w) (nI_toInt (by omega)) (by omega) dX9_split_86 (fun H locs hP hD hS => ?_)
                    have hP : va_P (dC, dI) vwCl [(ad 41, .inr (9, [.ref (ad 42), .int (nI w)])), (ad 42, .inl (cy 0, 40, .inl (upd f w 0))), (ad 1, .inr (8, [.ref (ad 2), .int (nI tn)])), (ad 2, .inl (cy 0, 600, .inl tb))] H := hP
                    have hD : va_D A [(ad 41, .inr (9, [.ref (ad 42), .int (nI w)])), (ad 42, .inl (cy 0, 40, .inl (upd f w 0))), (ad 1, .inr (8, [.ref (ad 2), .int (nI tn)])), (ad 2, .inl (cy 0, 600, .inl tb))] := hD
                    refine lv_aload_n hx hb dX9_split_87 rfl (lv_at hl 1 rfl) ?_
                    refine lv_dup hx hb dX9_split_88 rfl ?_
                    refine va_get (D := (dC, dI)) (ci := 9) (v := .int (nI w)) (C := RX9) (T := TX9) (N := 2) hx hb hts hiX9 hown hK hP 0 rfl rfl 1 (by decide) hL0 (fun _ h9 => h9) rfl dX9_split_89 ?_
                    refine lv_iconst (v := 1) hx hb dX9_split_92 (by decide) ?_
                    refine lv_iadd hx hb dX9_split_93 ?_
                    refine bw_re (show (nI w) + 1 = nI (w + 1) from nI_add (w) (1)) ?_
                    refine va_put (D := (dC, dI)) (ci := 9) (v := .int (nI (w + 1))) (ty := (tyX9 1)) (C := RX9) (T := TX9) (N := 2) hx hb hts hiX9 tyX9 tyX9_ok nmX9 hown hK hP hD hS 0 rfl rfl 1 (by decide) hL0 (fun _ h9 => h9) rfl (by decide +kernel) rfl rfl (Nat.le_of_ble_eq_true rfl) dX9_split_94 (fun H locs hP hD hS => ?_)
                    have hP : va_P (dC, dI) vwCl [(ad 41, .inr (9, [.ref (ad 42), .int (nI (w + 1))])), (ad 42, .inl (cy 0, 40, .inl (upd f w 0))), (ad 1, .inr (8, [.ref (ad 2), .int (nI tn)])), (ad 2, .inl (cy 0, 600, .inl tb))] H := hP
                    have hD : va_D A [(ad 41, .inr (9, [.ref (ad 42), .int (nI (w + 1))])), (ad 42, .inl (cy 0, 40, .inl (upd f w 0))), (ad 1, .inr (8, [.ref (ad 2), .int (nI tn)])), (ad 2, .inl (cy 0, 600, .inl tb))] := hD
                    refine lv_aload_n hx hb dX9_split_97 rfl (lv_at hl 1 rfl) ?_
                    refine va_get (D := (dC, dI)) (ci := 9) (v := .ref (ad 42)) (C := RX9) (T := TX9) (N := 2) hx hb hts hiX9 hown hK hP 0 rfl rfl 0 (by decide) hL5 (fun _ h9 => h9) rfl dX9_split_98 ?_
                    refine lv_aload_n hx hb dX9_split_101 rfl (lv_at hl 1 rfl) ?_
                    refine va_get (D := (dC, dI)) (ci := 9) (v := .int (nI (w + 1))) (C := RX9) (T := TX9) (N := 2) hx hb hts hiX9 hown hK hP 0 rfl rfl 1 (by decide) hL0 (fun _ h9 => h9) rfl dX9_split_102 ?_
                    refine lv_iconst (v := 1) hx hb dX9_split_105 (by decide) ?_
                    refine lv_isub hx hb dX9_split_106 ?_
                    refine bw_re (show (nI (w + 1)) - 1 = nI ((w + 1) - 1) from pk_sub (a := w + 1) (b := 1) (by omega)) ?_
                    refine lv_dup2_11 hx hb dX9_split_107 rfl rfl ?_
                    refine bw_iald hx hb hK hP 1 0 rfl rfl (j := ((w + 1) - 1)) (nI_toInt (by omega)) (by omega) dX9_split_108 ?_
                    refine bw_re (show (upd f w 0) ((w + 1) - 1) = nI 0 from (by rw [show w + 1 - 1 = w by omega]; exact pk_us)) ?_
                    refine lv_iload hx hb dX9_split_109 (lv_at hl 0 rfl) ?_
                    refine vp_callSi (va_Run.run (va_runS (As := [.int (tb i)]) (rest := [.int (nI 0), .int (nI ((w + 1) - 1)), .ref (ad 42)]) ⟨hx, hb, hml, hown, hts⟩ (c_X9_widthOf l dC dI cy (tb i)) (va_cwS 1 hts gX9_split_X9_widthOf rfl rfl rfl (by decide +kernel) ⟨Nat.le_of_ble_eq_true rfl, Nat.le_of_ble_eq_true rfl⟩) ⟨fun a U g mk q => by obtain ⟨q0, qP, qK, qn0, qn1⟩ := q; exact ⟨q0, qP, va_K.moved (u := U) (U := U.calling g mk a) (Vm.Alike.refl U.vm) qK, va_Nw.same (u := U) (U := U.calling g mk a) rfl rfl qn0, va_Nw.same (u := U) (U := U.calling g mk a) rfl rfl qn1⟩, fun U hU hW => ⟨rfl, (fun k q h => by simp at h), va_K.moved hW.alike hK, va_Nw.warmM hW hn1, va_Nw.warmM hW hn2⟩⟩ rfl rfl hl.1 rfl (lv_room (Nat.le_of_ble_eq_true rfl)) dX9_split_111 ⟨Nat.le_of_ble_eq_true rfl, Nat.le_of_ble_eq_true rfl⟩)) (fun r_11 hr_11 => ?_)
                    rw [hr_11]
                    refine lv_iadd hx hb dX9_split_114 ?_
                    refine bw_re (show (nI 0) + (nI (wdt (tb i).toInt)) = nI (0 + (wdt (tb i).toInt)) from nI_add (0) (wdt (tb i).toInt)) ?_
                    refine bw_iast hx hb hK hP hD hS 1 0 rfl rfl (j := ((w + 1) - 1)) (nI_toInt (by omega)) (by omega) dX9_split_115 (fun H locs hP hD hS => ?_)
                    have hP : va_P (dC, dI) vwCl [(ad 41, .inr (9, [.ref (ad 42), .int (nI (w + 1))])), (ad 42, .inl (cy 0, 40, .inl (upd (upd f w 0) ((w + 1) - 1) (nI (0 + (wdt (tb i).toInt)))))), (ad 1, .inr (8, [.ref (ad 2), .int (nI tn)])), (ad 2, .inl (cy 0, 600, .inl tb))] H := hP
                    have hD : va_D A [(ad 41, .inr (9, [.ref (ad 42), .int (nI (w + 1))])), (ad 42, .inl (cy 0, 40, .inl (upd (upd f w 0) ((w + 1) - 1) (nI (0 + (wdt (tb i).toInt)))))), (ad 1, .inr (8, [.ref (ad 2), .int (nI tn)])), (ad 2, .inl (cy 0, 600, .inl tb))] := hD
                    refine lv_iinc (v := nI (b + 1)) (lv' := [(2, .int (nI (b + 1))), (4, .int (tb i)), (0, .ref (ad 41)), (1, .ref (ad 1)), (3, .int (nI i))]) hx hb dX9_split_116 hl (k := 3) rfl (show nI b + Int32.ofInt 1 = nI (b + 1) from nI_add b 1) (by decide) rfl (fun ls hl => ?_)
                    refine lv_iinc (v := nI (i + 1)) (lv' := [(3, .int (nI (i + 1))), (2, .int (nI (b + 1))), (4, .int (tb i)), (0, .ref (ad 41)), (1, .ref (ad 1))]) hx hb dX9_split_119 hl (k := 4) rfl (show nI i + Int32.ofInt 1 = nI (i + 1) from nI_add i 1) (by decide) rfl (fun ls hl => ?_)
                    refine lv_goto (tgt := 9) hx hb dX9_split_122 (by decide) ?_
                    have hI_hW : wdS tb (i + 1) = some ((b + 1), (w + 1), (wAdd v b w (wdt (tb i).toInt))) := by
                      first
                        | exact ws_bl hW (by unfold wBl; omega)
                        | (have q := ws_ok hW (fun q => by unfold wBl at q; omega) (fun q => by unfold wBad at q; omega)
                           first
                             | (rw [if_pos (by omega)] at q; exact q)
                             | (rw [if_neg (by omega)] at q; exact q))
                    have hI_hwR : wR (upd (upd f w 0) ((w + 1) - 1) (nI (0 + (wdt (tb i).toInt)))) (w + 1) (wAdd v b w (wdt (tb i).toInt)) := by
                      first
                        | exact wR_s hwR (by omega)
                        | exact wR_0 hwR (by omega)
                        | exact hwR
                    exact ih9 (i + 1) (b + 1) (w + 1) (upd (upd f w 0) ((w + 1) - 1) (nI (0 + (wdt (tb i).toInt)))) (wAdd v b w (wdt (tb i).toInt)) (by omega) (by first | assumption | omega) hI_hW hI_hwR H locs hP hD hS ls (lv_sub hl [3, 4, 1, 0] rfl)
                · skip
                  refine lv_iconst (v := 0) hx hb dX9_split_71 (by decide) ?_
                  refine bw_Qe hQ ?_
                  have hP9 : va_P (dC, dI) vwCl [(ad 41, .inr (9, [.ref (ad 42), .int (nI w)])), (ad 42, .inl (cy 0, 40, .inl f)), (ad 1, .inr (8, [.ref (ad 2), .int (nI tn)])), (ad 2, .inl (cy 0, 600, .inl tb))] H := hP.sub [0, 1, 2, 3] rfl
                  have hD9 : va_D A [(ad 41, .inr (9, [.ref (ad 42), .int (nI w)])), (ad 42, .inl (cy 0, 40, .inl f)), (ad 1, .inr (8, [.ref (ad 2), .int (nI tn)])), (ad 2, .inl (cy 0, 600, .inl tb))] := hD.sub [0, 1, 2, 3] (by decide) rfl
                  have hpost : wdP tb tn (0 : Int32) w f := by
                    exact Or.inr ⟨ws_no hW (fun q => by unfold wBl at q; omega) (by unfold wBad; omega) (by omega), rfl⟩
                  exact W.zret (v := 0) hx hb hr (by rfl) (fun t9 ht hW => ⟨⟨0, (w, f), rfl, hpost, by rw [ht]; exact hP9, va_K.moved hW.alike hK, hD9⟩, hS.F ht⟩) hS.2.2 dX9_split_72
          · skip
            refine lv_aload_n hx hb dX9_split_42 rfl (lv_at hl 1 rfl) ?_
            refine va_get (D := (dC, dI)) (ci := 9) (v := .int (nI w)) (C := RX9) (T := TX9) (N := 2) hx hb hts hiX9 hown hK hP 0 rfl rfl 1 (by decide) hL0 (fun _ h9 => h9) rfl dX9_split_43 ?_
            refine lv_bipush (v := 40) hx hb dX9_split_46 (by decide) ?_
            refine bw_icmp_ge (tgt := 71) (a := ((w : Nat) : Int)) (b := 40) hx hb dX9_split_48 (by decide) (nI_toInt (by omega)) rfl (fun c_12 => ?_) (fun c_12 => ?_)
            · skip
              refine lv_iconst (v := 0) hx hb dX9_split_71 (by decide) ?_
              refine bw_Qe hQ ?_
              have hP9 : va_P (dC, dI) vwCl [(ad 41, .inr (9, [.ref (ad 42), .int (nI w)])), (ad 42, .inl (cy 0, 40, .inl f)), (ad 1, .inr (8, [.ref (ad 2), .int (nI tn)])), (ad 2, .inl (cy 0, 600, .inl tb))] H := hP.sub [0, 1, 2, 3] rfl
              have hD9 : va_D A [(ad 41, .inr (9, [.ref (ad 42), .int (nI w)])), (ad 42, .inl (cy 0, 40, .inl f)), (ad 1, .inr (8, [.ref (ad 2), .int (nI tn)])), (ad 2, .inl (cy 0, 600, .inl tb))] := hD.sub [0, 1, 2, 3] (by decide) rfl
              have hpost : wdP tb tn (0 : Int32) w f := by
                exact Or.inr ⟨ws_no hW (fun q => by unfold wBl at q; omega) (by unfold wBad; omega) (by omega), rfl⟩
              exact W.zret (v := 0) hx hb hr (by rfl) (fun t9 ht hW => ⟨⟨0, (w, f), rfl, hpost, by rw [ht]; exact hP9, va_K.moved hW.alike hK, hD9⟩, hS.F ht⟩) hS.2.2 dX9_split_72
            · skip
              refine lv_iload_n hx hb dX9_split_51 rfl (lv_at hl 3 rfl) ?_
              refine lv_bipush (v := 24) hx hb dX9_split_52 (by decide) ?_
              refine bw_icmp_ge (tgt := 71) (a := ((b : Nat) : Int)) (b := 24) hx hb dX9_split_54 (by decide) (nI_toInt (by omega)) rfl (fun c_13 => ?_) (fun c_13 => ?_)
              · skip
                refine lv_iconst (v := 0) hx hb dX9_split_71 (by decide) ?_
                refine bw_Qe hQ ?_
                have hP9 : va_P (dC, dI) vwCl [(ad 41, .inr (9, [.ref (ad 42), .int (nI w)])), (ad 42, .inl (cy 0, 40, .inl f)), (ad 1, .inr (8, [.ref (ad 2), .int (nI tn)])), (ad 2, .inl (cy 0, 600, .inl tb))] H := hP.sub [0, 1, 2, 3] rfl
                have hD9 : va_D A [(ad 41, .inr (9, [.ref (ad 42), .int (nI w)])), (ad 42, .inl (cy 0, 40, .inl f)), (ad 1, .inr (8, [.ref (ad 2), .int (nI tn)])), (ad 2, .inl (cy 0, 600, .inl tb))] := hD.sub [0, 1, 2, 3] (by decide) rfl
                have hpost : wdP tb tn (0 : Int32) w f := by
                  exact Or.inr ⟨ws_no hW (fun q => by unfold wBl at q; omega) (by unfold wBad; omega) (by omega), rfl⟩
                exact W.zret (v := 0) hx hb hr (by rfl) (fun t9 ht hW => ⟨⟨0, (w, f), rfl, hpost, by rw [ht]; exact hP9, va_K.moved hW.alike hK, hD9⟩, hS.F ht⟩) hS.2.2 dX9_split_72
              · skip
                refine lv_iload hx hb dX9_split_57 (lv_at hl 0 rfl) ?_
                refine lv_bipush (v := 33) hx hb dX9_split_59 (by decide) ?_
                refine bw_icmp_lt (tgt := 71) (a := (tb i).toInt) (b := 33) hx hb dX9_split_61 (by decide) rfl rfl (fun c_14 => ?_) (fun c_14 => ?_)
                · skip
                  refine lv_iconst (v := 0) hx hb dX9_split_71 (by decide) ?_
                  refine bw_Qe hQ ?_
                  have hP9 : va_P (dC, dI) vwCl [(ad 41, .inr (9, [.ref (ad 42), .int (nI w)])), (ad 42, .inl (cy 0, 40, .inl f)), (ad 1, .inr (8, [.ref (ad 2), .int (nI tn)])), (ad 2, .inl (cy 0, 600, .inl tb))] H := hP.sub [0, 1, 2, 3] rfl
                  have hD9 : va_D A [(ad 41, .inr (9, [.ref (ad 42), .int (nI w)])), (ad 42, .inl (cy 0, 40, .inl f)), (ad 1, .inr (8, [.ref (ad 2), .int (nI tn)])), (ad 2, .inl (cy 0, 600, .inl tb))] := hD.sub [0, 1, 2, 3] (by decide) rfl
                  have hpost : wdP tb tn (0 : Int32) w f := by
                    exact Or.inr ⟨ws_no hW (fun q => by unfold wBl at q; omega) (by unfold wBad; omega) (by omega), rfl⟩
                  exact W.zret (v := 0) hx hb hr (by rfl) (fun t9 ht hW => ⟨⟨0, (w, f), rfl, hpost, by rw [ht]; exact hP9, va_K.moved hW.alike hK, hD9⟩, hS.F ht⟩) hS.2.2 dX9_split_72
                · skip
                  refine lv_iload hx hb dX9_split_64 (lv_at hl 0 rfl) ?_
                  refine lv_bipush (v := 126) hx hb dX9_split_66 (by decide) ?_
                  refine bw_icmp_le (tgt := 73) (a := (tb i).toInt) (b := 126) hx hb dX9_split_68 (by decide) rfl rfl (fun c_15 => ?_) (fun c_15 => ?_)
                  · skip
                    refine lv_iload_n hx hb dX9_split_73 rfl (lv_at hl 3 rfl) ?_
                    refine bw_if_ne (tgt := 97) (a := ((b : Nat) : Int)) hx hb dX9_split_74 (by decide) (nI_toInt (by omega)) (fun c_16 => ?_) (fun c_16 => ?_)
                    · skip
                      refine lv_aload_n hx hb dX9_split_97 rfl (lv_at hl 1 rfl) ?_
                      refine va_get (D := (dC, dI)) (ci := 9) (v := .ref (ad 42)) (C := RX9) (T := TX9) (N := 2) hx hb hts hiX9 hown hK hP 0 rfl rfl 0 (by decide) hL5 (fun _ h9 => h9) rfl dX9_split_98 ?_
                      refine lv_aload_n hx hb dX9_split_101 rfl (lv_at hl 1 rfl) ?_
                      refine va_get (D := (dC, dI)) (ci := 9) (v := .int (nI w)) (C := RX9) (T := TX9) (N := 2) hx hb hts hiX9 hown hK hP 0 rfl rfl 1 (by decide) hL0 (fun _ h9 => h9) rfl dX9_split_102 ?_
                      refine lv_iconst (v := 1) hx hb dX9_split_105 (by decide) ?_
                      refine lv_isub hx hb dX9_split_106 ?_
                      refine bw_re (show (nI w) - 1 = nI (w - 1) from pk_sub (a := w) (b := 1) (by omega)) ?_
                      refine lv_dup2_11 hx hb dX9_split_107 rfl rfl ?_
                      refine bw_iald hx hb hK hP 1 0 rfl rfl (j := (w - 1)) (nI_toInt (by omega)) (by omega) dX9_split_108 ?_
                      refine bw_re (show f (w - 1) = nI (v (w - 1)) from hwR _ (by omega)) ?_
                      refine lv_iload hx hb dX9_split_109 (lv_at hl 0 rfl) ?_
                      refine vp_callSi (va_Run.run (va_runS (As := [.int (tb i)]) (rest := [.int (nI (v (w - 1))), .int (nI (w - 1)), .ref (ad 42)]) ⟨hx, hb, hml, hown, hts⟩ (c_X9_widthOf l dC dI cy (tb i)) (va_cwS 1 hts gX9_split_X9_widthOf rfl rfl rfl (by decide +kernel) ⟨Nat.le_of_ble_eq_true rfl, Nat.le_of_ble_eq_true rfl⟩) ⟨fun a U g mk q => by obtain ⟨q0, qP, qK, qn0, qn1⟩ := q; exact ⟨q0, qP, va_K.moved (u := U) (U := U.calling g mk a) (Vm.Alike.refl U.vm) qK, va_Nw.same (u := U) (U := U.calling g mk a) rfl rfl qn0, va_Nw.same (u := U) (U := U.calling g mk a) rfl rfl qn1⟩, fun U hU hW => ⟨rfl, (fun k q h => by simp at h), va_K.moved hW.alike hK, va_Nw.warmM hW hn1, va_Nw.warmM hW hn2⟩⟩ rfl rfl hl.1 rfl (lv_room (Nat.le_of_ble_eq_true rfl)) dX9_split_111 ⟨Nat.le_of_ble_eq_true rfl, Nat.le_of_ble_eq_true rfl⟩)) (fun r_17 hr_17 => ?_)
                      rw [hr_17]
                      refine lv_iadd hx hb dX9_split_114 ?_
                      refine bw_re (show (nI (v (w - 1))) + (nI (wdt (tb i).toInt)) = nI (v (w - 1) + (wdt (tb i).toInt)) from nI_add (v (w - 1)) (wdt (tb i).toInt)) ?_
                      refine bw_iast hx hb hK hP hD hS 1 0 rfl rfl (j := (w - 1)) (nI_toInt (by omega)) (by omega) dX9_split_115 (fun H locs hP hD hS => ?_)
                      have hP : va_P (dC, dI) vwCl [(ad 41, .inr (9, [.ref (ad 42), .int (nI w)])), (ad 42, .inl (cy 0, 40, .inl (upd f (w - 1) (nI (v (w - 1) + (wdt (tb i).toInt)))))), (ad 1, .inr (8, [.ref (ad 2), .int (nI tn)])), (ad 2, .inl (cy 0, 600, .inl tb))] H := hP
                      have hD : va_D A [(ad 41, .inr (9, [.ref (ad 42), .int (nI w)])), (ad 42, .inl (cy 0, 40, .inl (upd f (w - 1) (nI (v (w - 1) + (wdt (tb i).toInt)))))), (ad 1, .inr (8, [.ref (ad 2), .int (nI tn)])), (ad 2, .inl (cy 0, 600, .inl tb))] := hD
                      refine lv_iinc (v := nI (b + 1)) (lv' := [(2, .int (nI (b + 1))), (4, .int (tb i)), (0, .ref (ad 41)), (1, .ref (ad 1)), (3, .int (nI i))]) hx hb dX9_split_116 hl (k := 3) rfl (show nI b + Int32.ofInt 1 = nI (b + 1) from nI_add b 1) (by decide) rfl (fun ls hl => ?_)
                      refine lv_iinc (v := nI (i + 1)) (lv' := [(3, .int (nI (i + 1))), (2, .int (nI (b + 1))), (4, .int (tb i)), (0, .ref (ad 41)), (1, .ref (ad 1))]) hx hb dX9_split_119 hl (k := 4) rfl (show nI i + Int32.ofInt 1 = nI (i + 1) from nI_add i 1) (by decide) rfl (fun ls hl => ?_)
                      refine lv_goto (tgt := 9) hx hb dX9_split_122 (by decide) ?_
                      have hI_hW : wdS tb (i + 1) = some ((b + 1), w, (wAdd v b w (wdt (tb i).toInt))) := by
                        first
                          | exact ws_bl hW (by unfold wBl; omega)
                          | (have q := ws_ok hW (fun q => by unfold wBl at q; omega) (fun q => by unfold wBad at q; omega)
                             first
                               | (rw [if_pos (by omega)] at q; exact q)
                               | (rw [if_neg (by omega)] at q; exact q))
                      have hI_hwR : wR (upd f (w - 1) (nI (v (w - 1) + (wdt (tb i).toInt)))) w (wAdd v b w (wdt (tb i).toInt)) := by
                        first
                          | exact wR_s hwR (by omega)
                          | exact wR_0 hwR (by omega)
                          | exact hwR
                      exact ih9 (i + 1) (b + 1) w (upd f (w - 1) (nI (v (w - 1) + (wdt (tb i).toInt)))) (wAdd v b w (wdt (tb i).toInt)) (by omega) (by first | assumption | omega) hI_hW hI_hwR H locs hP hD hS ls (lv_sub hl [3, 4, 1, 0] rfl)
                    · skip
                      refine lv_aload_n hx hb dX9_split_77 rfl (lv_at hl 1 rfl) ?_
                      refine va_get (D := (dC, dI)) (ci := 9) (v := .ref (ad 42)) (C := RX9) (T := TX9) (N := 2) hx hb hts hiX9 hown hK hP 0 rfl rfl 0 (by decide) hL5 (fun _ h9 => h9) rfl dX9_split_78 ?_
                      refine lv_aload_n hx hb dX9_split_81 rfl (lv_at hl 1 rfl) ?_
                      refine va_get (D := (dC, dI)) (ci := 9) (v := .int (nI w)) (C := RX9) (T := TX9) (N := 2) hx hb hts hiX9 hown hK hP 0 rfl rfl 1 (by decide) hL0 (fun _ h9 => h9) rfl dX9_split_82 ?_
                      refine lv_iconst (v := 0) hx hb dX9_split_85 (by decide) ?_
                      refine bw_iast hx hb hK hP hD hS 1 0 rfl rfl (j := w) (nI_toInt (by omega)) (by omega) dX9_split_86 (fun H locs hP hD hS => ?_)
                      have hP : va_P (dC, dI) vwCl [(ad 41, .inr (9, [.ref (ad 42), .int (nI w)])), (ad 42, .inl (cy 0, 40, .inl (upd f w 0))), (ad 1, .inr (8, [.ref (ad 2), .int (nI tn)])), (ad 2, .inl (cy 0, 600, .inl tb))] H := hP
                      have hD : va_D A [(ad 41, .inr (9, [.ref (ad 42), .int (nI w)])), (ad 42, .inl (cy 0, 40, .inl (upd f w 0))), (ad 1, .inr (8, [.ref (ad 2), .int (nI tn)])), (ad 2, .inl (cy 0, 600, .inl tb))] := hD
                      refine lv_aload_n hx hb dX9_split_87 rfl (lv_at hl 1 rfl) ?_
                      refine lv_dup hx hb dX9_split_88 rfl ?_
                      refine va_get (D := (dC, dI)) (ci := 9) (v := .int (nI w)) (C := RX9) (T := TX9) (N := 2) hx hb hts hiX9 hown hK hP 0 rfl rfl 1 (by decide) hL0 (fun _ h9 => h9) rfl dX9_split_89 ?_
                      refine lv_iconst (v := 1) hx hb dX9_split_92 (by decide) ?_
                      refine lv_iadd hx hb dX9_split_93 ?_
                      refine bw_re (show (nI w) + 1 = nI (w + 1) from nI_add (w) (1)) ?_
                      refine va_put (D := (dC, dI)) (ci := 9) (v := .int (nI (w + 1))) (ty := (tyX9 1)) (C := RX9) (T := TX9) (N := 2) hx hb hts hiX9 tyX9 tyX9_ok nmX9 hown hK hP hD hS 0 rfl rfl 1 (by decide) hL0 (fun _ h9 => h9) rfl (by decide +kernel) rfl rfl (Nat.le_of_ble_eq_true rfl) dX9_split_94 (fun H locs hP hD hS => ?_)
                      have hP : va_P (dC, dI) vwCl [(ad 41, .inr (9, [.ref (ad 42), .int (nI (w + 1))])), (ad 42, .inl (cy 0, 40, .inl (upd f w 0))), (ad 1, .inr (8, [.ref (ad 2), .int (nI tn)])), (ad 2, .inl (cy 0, 600, .inl tb))] H := hP
                      have hD : va_D A [(ad 41, .inr (9, [.ref (ad 42), .int (nI (w + 1))])), (ad 42, .inl (cy 0, 40, .inl (upd f w 0))), (ad 1, .inr (8, [.ref (ad 2), .int (nI tn)])), (ad 2, .inl (cy 0, 600, .inl tb))] := hD
                      refine lv_aload_n hx hb dX9_split_97 rfl (lv_at hl 1 rfl) ?_
                      refine va_get (D := (dC, dI)) (ci := 9) (v := .ref (ad 42)) (C := RX9) (T := TX9) (N := 2) hx hb hts hiX9 hown hK hP 0 rfl rfl 0 (by decide) hL5 (fun _ h9 => h9) rfl dX9_split_98 ?_
                      refine lv_aload_n hx hb dX9_split_101 rfl (lv_at hl 1 rfl) ?_
                      refine va_get (D := (dC, dI)) (ci := 9) (v := .int (nI (w + 1))) (C := RX9) (T := TX9) (N := 2) hx hb hts hiX9 hown hK hP 0 rfl rfl 1 (by decide) hL0 (fun _ h9 => h9) rfl dX9_split_102 ?_
                      refine lv_iconst (v := 1) hx hb dX9_split_105 (by decide) ?_
                      refine lv_isub hx hb dX9_split_106 ?_
                      refine bw_re (show (nI (w + 1)) - 1 = nI ((w + 1) - 1) from pk_sub (a := w + 1) (b := 1) (by omega)) ?_
                      refine lv_dup2_11 hx hb dX9_split_107 rfl rfl ?_
                      refine bw_iald hx hb hK hP 1 0 rfl rfl (j := ((w + 1) - 1)) (nI_toInt (by omega)) (by omega) dX9_split_108 ?_
                      refine bw_re (show (upd f w 0) ((w + 1) - 1) = nI 0 from (by rw [show w + 1 - 1 = w by omega]; exact pk_us)) ?_
                      refine lv_iload hx hb dX9_split_109 (lv_at hl 0 rfl) ?_
                      refine vp_callSi (va_Run.run (va_runS (As := [.int (tb i)]) (rest := [.int (nI 0), .int (nI ((w + 1) - 1)), .ref (ad 42)]) ⟨hx, hb, hml, hown, hts⟩ (c_X9_widthOf l dC dI cy (tb i)) (va_cwS 1 hts gX9_split_X9_widthOf rfl rfl rfl (by decide +kernel) ⟨Nat.le_of_ble_eq_true rfl, Nat.le_of_ble_eq_true rfl⟩) ⟨fun a U g mk q => by obtain ⟨q0, qP, qK, qn0, qn1⟩ := q; exact ⟨q0, qP, va_K.moved (u := U) (U := U.calling g mk a) (Vm.Alike.refl U.vm) qK, va_Nw.same (u := U) (U := U.calling g mk a) rfl rfl qn0, va_Nw.same (u := U) (U := U.calling g mk a) rfl rfl qn1⟩, fun U hU hW => ⟨rfl, (fun k q h => by simp at h), va_K.moved hW.alike hK, va_Nw.warmM hW hn1, va_Nw.warmM hW hn2⟩⟩ rfl rfl hl.1 rfl (lv_room (Nat.le_of_ble_eq_true rfl)) dX9_split_111 ⟨Nat.le_of_ble_eq_true rfl, Nat.le_of_ble_eq_true rfl⟩)) (fun r_18 hr_18 => ?_)
                      rw [hr_18]
                      refine lv_iadd hx hb dX9_split_114 ?_
                      refine bw_re (show (nI 0) + (nI (wdt (tb i).toInt)) = nI (0 + (wdt (tb i).toInt)) from nI_add (0) (wdt (tb i).toInt)) ?_
                      refine bw_iast hx hb hK hP hD hS 1 0 rfl rfl (j := ((w + 1) - 1)) (nI_toInt (by omega)) (by omega) dX9_split_115 (fun H locs hP hD hS => ?_)
                      have hP : va_P (dC, dI) vwCl [(ad 41, .inr (9, [.ref (ad 42), .int (nI (w + 1))])), (ad 42, .inl (cy 0, 40, .inl (upd (upd f w 0) ((w + 1) - 1) (nI (0 + (wdt (tb i).toInt)))))), (ad 1, .inr (8, [.ref (ad 2), .int (nI tn)])), (ad 2, .inl (cy 0, 600, .inl tb))] H := hP
                      have hD : va_D A [(ad 41, .inr (9, [.ref (ad 42), .int (nI (w + 1))])), (ad 42, .inl (cy 0, 40, .inl (upd (upd f w 0) ((w + 1) - 1) (nI (0 + (wdt (tb i).toInt)))))), (ad 1, .inr (8, [.ref (ad 2), .int (nI tn)])), (ad 2, .inl (cy 0, 600, .inl tb))] := hD
                      refine lv_iinc (v := nI (b + 1)) (lv' := [(2, .int (nI (b + 1))), (4, .int (tb i)), (0, .ref (ad 41)), (1, .ref (ad 1)), (3, .int (nI i))]) hx hb dX9_split_116 hl (k := 3) rfl (show nI b + Int32.ofInt 1 = nI (b + 1) from nI_add b 1) (by decide) rfl (fun ls hl => ?_)
                      refine lv_iinc (v := nI (i + 1)) (lv' := [(3, .int (nI (i + 1))), (2, .int (nI (b + 1))), (4, .int (tb i)), (0, .ref (ad 41)), (1, .ref (ad 1))]) hx hb dX9_split_119 hl (k := 4) rfl (show nI i + Int32.ofInt 1 = nI (i + 1) from nI_add i 1) (by decide) rfl (fun ls hl => ?_)
                      refine lv_goto (tgt := 9) hx hb dX9_split_122 (by decide) ?_
                      have hI_hW : wdS tb (i + 1) = some ((b + 1), (w + 1), (wAdd v b w (wdt (tb i).toInt))) := by
                        first
                          | exact ws_bl hW (by unfold wBl; omega)
                          | (have q := ws_ok hW (fun q => by unfold wBl at q; omega) (fun q => by unfold wBad at q; omega)
                             first
                               | (rw [if_pos (by omega)] at q; exact q)
                               | (rw [if_neg (by omega)] at q; exact q))
                      have hI_hwR : wR (upd (upd f w 0) ((w + 1) - 1) (nI (0 + (wdt (tb i).toInt)))) (w + 1) (wAdd v b w (wdt (tb i).toInt)) := by
                        first
                          | exact wR_s hwR (by omega)
                          | exact wR_0 hwR (by omega)
                          | exact hwR
                      exact ih9 (i + 1) (b + 1) (w + 1) (upd (upd f w 0) ((w + 1) - 1) (nI (0 + (wdt (tb i).toInt)))) (wAdd v b w (wdt (tb i).toInt)) (by omega) (by first | assumption | omega) hI_hW hI_hwR H locs hP hD hS ls (lv_sub hl [3, 4, 1, 0] rfl)
                  · skip
                    refine lv_iconst (v := 0) hx hb dX9_split_71 (by decide) ?_
                    refine bw_Qe hQ ?_
                    have hP9 : va_P (dC, dI) vwCl [(ad 41, .inr (9, [.ref (ad 42), .int (nI w)])), (ad 42, .inl (cy 0, 40, .inl f)), (ad 1, .inr (8, [.ref (ad 2), .int (nI tn)])), (ad 2, .inl (cy 0, 600, .inl tb))] H := hP.sub [0, 1, 2, 3] rfl
                    have hD9 : va_D A [(ad 41, .inr (9, [.ref (ad 42), .int (nI w)])), (ad 42, .inl (cy 0, 40, .inl f)), (ad 1, .inr (8, [.ref (ad 2), .int (nI tn)])), (ad 2, .inl (cy 0, 600, .inl tb))] := hD.sub [0, 1, 2, 3] (by decide) rfl
                    have hpost : wdP tb tn (0 : Int32) w f := by
                      exact Or.inr ⟨ws_no hW (fun q => by unfold wBl at q; omega) (by unfold wBad; omega) (by omega), rfl⟩
                    exact W.zret (v := 0) hx hb hr (by rfl) (fun t9 ht hW => ⟨⟨0, (w, f), rfl, hpost, by rw [ht]; exact hP9, va_K.moved hW.alike hK, hD9⟩, hS.F ht⟩) hS.2.2 dX9_split_72
        · skip
          refine lv_iconst (v := 0) hx hb dX9_split_33 (by decide) ?_
          refine lv_istore_n (lv' := [(2, .int 0), (4, .int (tb i)), (0, .ref (ad 41)), (1, .ref (ad 1)), (3, .int (nI i))]) hx hb dX9_split_34 rfl hl (by decide) rfl (fun ls hl => ?_)
          refine lv_goto (tgt := 119) hx hb dX9_split_35 (by decide) ?_
          refine lv_iinc (v := nI (i + 1)) (lv' := [(3, .int (nI (i + 1))), (2, .int 0), (4, .int (tb i)), (0, .ref (ad 41)), (1, .ref (ad 1))]) hx hb dX9_split_119 hl (k := 4) rfl (show nI i + Int32.ofInt 1 = nI (i + 1) from nI_add i 1) (by decide) rfl (fun ls hl => ?_)
          refine lv_goto (tgt := 9) hx hb dX9_split_122 (by decide) ?_
          have hI_hW : wdS tb (i + 1) = some (0, w, v) := by
            first
              | exact ws_bl hW (by unfold wBl; omega)
              | (have q := ws_ok hW (fun q => by unfold wBl at q; omega) (fun q => by unfold wBad at q; omega)
                 first
                   | (rw [if_pos (by omega)] at q; exact q)
                   | (rw [if_neg (by omega)] at q; exact q))
          have hI_hwR : wR f w v := by
            first
              | exact wR_s hwR (by omega)
              | exact wR_0 hwR (by omega)
              | exact hwR
          exact ih9 (i + 1) 0 w f v (by omega) (by first | assumption | omega) hI_hW hI_hwR H locs hP hD hS ls (lv_sub hl [3, 4, 1, 0] rfl)
  have hI_hW : wdS tb 0 = some (0, 0, (fun _ => 0)) := by
    rfl
  have hI_hwR : wR ww 0 (fun _ => 0) := by
    exact fun k hk => absurd hk (Nat.not_lt_zero _)
  exact L_9 ((tn - 0) + 1) 0 0 0 ww (fun _ => 0) (by omega) (by first | assumption | omega) hI_hW hI_hwR H locs hP hD hS ls (lv_sub hl [2, 3, 1, 0] rfl)

set_option maxHeartbeats 4000000 in
set_option maxRecDepth 100000 in
theorem c_X10_isSureYear (l : Launch) (dC : Nat → ClassId) (dI : Nat → Nat → Nat) (cy : Nat → ClassId) (ad : Nat → Nat) (pn : Nat) (bo : Nat → Int32) (di : Nat → Int32) (sb : Int32) (su : Nat → Int64) (p : Nat) (y : Int32) (hp : p < 30) : Met l yX10_isSureYear wsX10_isSureYear ({ frames := 2, cells := 0, slots := 0, locals := 42 }) (va_Pc [.ref (ad 0), .int (nI p), .int y] (fun U => va_P (dC, dI) vwCl [(ad 0, .inr (10, [.ref (ad 1), .ref (ad 3), .ref (ad 9), .ref (ad 14), .ref (ad 22), .ref (ad 25), .ref (ad 27), .ref (ad 30), .ref (ad 41), .ref (ad 43)])), (ad 9, .inr (3, [.ref (ad 10), .ref (ad 11), .ref (ad 12), .ref (ad 13), .int (nI pn)])), (ad 10, .inl (cy 0, 30, .inl bo)), (ad 11, .inl (cy 0, 30, .inl di)), (ad 22, .inr (7, [.ref (ad 3), .ref (ad 9), .ref (ad 14), .ref (ad 23), .ref (ad 24), .int sb])), (ad 23, .inl (cy 1, 10, .inr (.inl su)))] U.heap ∧ va_K (dC, dI) vwCl (tyL cy) U ∧ va_Nw (.methodLinkNest RX7 85 yX10_isYear "HereLived") U)) (vp_Si (fun r => r = pI (sureY bo di (rb su) p y.toInt))) 0 0 (fun _ => False) := by
  refine Met.ofW (cc := cX10_isSureYear) (maxL := 3) (ret := (some .boolean)) (by decide) rfl ?_
  intro pp ee ss mm args below meth cc0 s₁ B hml hv
  obtain ⟨rfl, hP, hK, hn0⟩ := hv
  have hx := B.exec
  have hb := B.bytes
  have hr := B.returns
  have hts := atoms_spec (ws := wsX10_isSureYear) B.pre
  have hown : ss.vm.findClass RX10 = some mm.cls := findClass_of_methodNamed B.named
  have hlocks := B.notSynchronized
  have hL0 := hts (.fieldLink RX10 26 "HereLived" "people" "LHereLived$People;") (by decide +kernel)
  have hL1 := hts (.fieldLink RX10 293 "HereLived$People" "born" "[I") (by decide +kernel)
  have hL2 := hts (.fieldLink RX10 260 "HereLived$People" "died" "[I") (by decide +kernel)
  have hL3 := hts (.fieldLink RX10 42 "HereLived" "stay" "LHereLived$Stay;") (by decide +kernel)
  have hiX10 : ∀ w ∈ wsX100, w ∈ wsX10_isSureYear := by decide +kernel
  have hiX3 : ∀ w ∈ wsX30, w ∈ wsX10_isSureYear := by decide +kernel
  have hl := lv_entry ([.ref (ad 0), .int (nI p), .int y]) (n := 3) (Nat.le_of_ble_eq_true rfl)
  rw [lg_entry_eq]
  generalize (lg_sl ([.ref (ad 0), .int (nI p), .int y]) ++ List.replicate (3 - (lg_sl ([.ref (ad 0), .int (nI p), .int y])).length) Slot.unset).toArray = ls at hl ⊢
  have hl : lv_has ls 3 [(0, .ref (ad 0)), (1, .int (nI p)), (2, .int y)] := hl
  refine bw_Q (fun Q hQ => ?_)
  change W pp l ee { frames := 2, cells := 0, slots := 0, locals := 42 } ss mm _ below meth cc0 ss.heap [] 0 0 Q (F0 mm 0 ls [])
  refine lv_iload_n hx hb dX10_isSureYear_0 rfl (lv_at hl 2 rfl) ?_
  refine lv_aload_n hx hb dX10_isSureYear_1 rfl (lv_at hl 0 rfl) ?_
  refine va_get (D := (dC, dI)) (ci := 10) (v := .ref (ad 9)) (C := RX10) (T := TX10) (N := 10) hx hb hts hiX10 hown hK hP 0 rfl rfl 2 (by decide) hL0 (fun _ h9 => h9) rfl dX10_isSureYear_2 ?_
  refine va_get (D := (dC, dI)) (ci := 3) (v := .ref (ad 10)) (C := RX3) (T := TX3) (N := 5) hx hb hts hiX3 hown hK hP 1 rfl rfl 0 (by decide) hL1 (fun _ h9 => h9) rfl dX10_isSureYear_5 ?_
  refine lv_iload_n hx hb dX10_isSureYear_8 rfl (lv_at hl 1 rfl) ?_
  refine bw_iald hx hb hK hP 2 0 rfl rfl (j := p) (nI_toInt (by omega)) (by omega) dX10_isSureYear_9 ?_
  refine bw_icmp_eq (tgt := 37) (a := y.toInt) (b := (bo p).toInt) hx hb dX10_isSureYear_10 (by decide) rfl rfl (fun c_b => ?_) (fun c_b => ?_)
  · skip
    refine lv_iconst (v := 1) hx hb dX10_isSureYear_37 (by decide) ?_
    refine lv_goto (tgt := 42) hx hb dX10_isSureYear_38 (by decide) ?_
    refine bw_Qe hQ ?_
    have hpost : (1 : Int32) = pI (sureY bo di (rb su) p y.toInt) := by
      first
        | exact (pI_t (Or.inl c_b)).symm
        | exact (pI_t (Or.inr (Or.inl c_d))).symm
        | exact (pI_t (Or.inr (Or.inr c_s))).symm
        | exact (pI_f (fun q => q.elim c_b (fun q => q.elim c_d c_s))).symm
    exact W.zret (v := 1) hx hb hr (by rfl) (fun t9 ht hW => ⟨_, rfl, hpost, by rw [ht]⟩) (fun q h => by cases h) dX10_isSureYear_42
  · skip
    refine lv_iload_n hx hb dX10_isSureYear_13 rfl (lv_at hl 2 rfl) ?_
    refine lv_aload_n hx hb dX10_isSureYear_14 rfl (lv_at hl 0 rfl) ?_
    refine va_get (D := (dC, dI)) (ci := 10) (v := .ref (ad 9)) (C := RX10) (T := TX10) (N := 10) hx hb hts hiX10 hown hK hP 0 rfl rfl 2 (by decide) hL0 (fun _ h9 => h9) rfl dX10_isSureYear_15 ?_
    refine va_get (D := (dC, dI)) (ci := 3) (v := .ref (ad 11)) (C := RX3) (T := TX3) (N := 5) hx hb hts hiX3 hown hK hP 1 rfl rfl 1 (by decide) hL2 (fun _ h9 => h9) rfl dX10_isSureYear_18 ?_
    refine lv_iload_n hx hb dX10_isSureYear_21 rfl (lv_at hl 1 rfl) ?_
    refine bw_iald hx hb hK hP 3 0 rfl rfl (j := p) (nI_toInt (by omega)) (by omega) dX10_isSureYear_22 ?_
    refine bw_icmp_eq (tgt := 37) (a := y.toInt) (b := (di p).toInt) hx hb dX10_isSureYear_23 (by decide) rfl rfl (fun c_d => ?_) (fun c_d => ?_)
    · skip
      refine lv_iconst (v := 1) hx hb dX10_isSureYear_37 (by decide) ?_
      refine lv_goto (tgt := 42) hx hb dX10_isSureYear_38 (by decide) ?_
      refine bw_Qe hQ ?_
      have hpost : (1 : Int32) = pI (sureY bo di (rb su) p y.toInt) := by
        first
          | exact (pI_t (Or.inl c_b)).symm
          | exact (pI_t (Or.inr (Or.inl c_d))).symm
          | exact (pI_t (Or.inr (Or.inr c_s))).symm
          | exact (pI_f (fun q => q.elim c_b (fun q => q.elim c_d c_s))).symm
      exact W.zret (v := 1) hx hb hr (by rfl) (fun t9 ht hW => ⟨_, rfl, hpost, by rw [ht]⟩) (fun q h => by cases h) dX10_isSureYear_42
    · skip
      refine lv_aload_n hx hb dX10_isSureYear_26 rfl (lv_at hl 0 rfl) ?_
      refine va_get (D := (dC, dI)) (ci := 10) (v := .ref (ad 22)) (C := RX10) (T := TX10) (N := 10) hx hb hts hiX10 hown hK hP 0 rfl rfl 4 (by decide) hL3 (fun _ h9 => h9) rfl dX10_isSureYear_27 ?_
      refine lv_iload_n hx hb dX10_isSureYear_30 rfl (lv_at hl 2 rfl) ?_
      have hPc : va_P (dC, dI) vwCl [(ad 22, .inr (7, [.ref (ad 3), .ref (ad 9), .ref (ad 14), .ref (ad 23), .ref (ad 24), .int sb])), (ad 23, .inl (cy 1, 10, .inr (.inl su)))] ss.heap := hP.sub [4, 5] rfl
      refine vp_callSi (va_Run.run (va_runV (As := [.int y]) (rest := []) ⟨hx, hb, hml, hown, hts⟩ (c_X7_isSure l dC dI cy ad sb su y) (cwV 1 hts gX10_isSureYear_X7_isSure rfl rfl rfl (by decide +kernel) ⟨Nat.le_of_ble_eq_true rfl, Nat.le_of_ble_eq_true rfl⟩) ⟨fun a U g mk q => by obtain ⟨q0, qP, qK, qn0⟩ := q; exact ⟨q0, qP, va_K.moved (u := U) (U := U.calling g mk a) (Vm.Alike.refl U.vm) qK, va_Nw.same (u := U) (U := U.calling g mk a) rfl rfl qn0⟩, va_recv hK hPc (ci := 7) (q0 := 0) rfl rfl, fun U hU hW => ⟨rfl, by rw [hU]; exact hPc, va_K.moved hW.alike hK, va_Nw.warmM hW hn0⟩⟩ rfl rfl hl.1 rfl (lv_room (Nat.le_of_ble_eq_true rfl)) dX10_isSureYear_31 ⟨Nat.le_of_ble_eq_true rfl, Nat.le_of_ble_eq_true rfl⟩)) (fun r_1 hr_1 => ?_)
      refine bw_ifeqP (tgt := 41) hx hb dX10_isSureYear_34 (by decide) hr_1 (fun c_s => ?_) (fun c_s => ?_)
      · skip
        refine lv_iconst (v := 0) hx hb dX10_isSureYear_41 (by decide) ?_
        refine bw_Qe hQ ?_
        have hpost : (0 : Int32) = pI (sureY bo di (rb su) p y.toInt) := by
          first
            | exact (pI_t (Or.inl c_b)).symm
            | exact (pI_t (Or.inr (Or.inl c_d))).symm
            | exact (pI_t (Or.inr (Or.inr c_s))).symm
            | exact (pI_f (fun q => q.elim c_b (fun q => q.elim c_d c_s))).symm
        exact W.zret (v := 0) hx hb hr (by rfl) (fun t9 ht hW => ⟨_, rfl, hpost, by rw [ht]⟩) (fun q h => by cases h) dX10_isSureYear_42
      · skip
        refine lv_iconst (v := 1) hx hb dX10_isSureYear_37 (by decide) ?_
        refine lv_goto (tgt := 42) hx hb dX10_isSureYear_38 (by decide) ?_
        refine bw_Qe hQ ?_
        have hpost : (1 : Int32) = pI (sureY bo di (rb su) p y.toInt) := by
          first
            | exact (pI_t (Or.inl c_b)).symm
            | exact (pI_t (Or.inr (Or.inl c_d))).symm
            | exact (pI_t (Or.inr (Or.inr c_s))).symm
            | exact (pI_f (fun q => q.elim c_b (fun q => q.elim c_d c_s))).symm
        exact W.zret (v := 1) hx hb hr (by rfl) (fun t9 ht hW => ⟨_, rfl, hpost, by rw [ht]⟩) (fun q h => by cases h) dX10_isSureYear_42

set_option maxHeartbeats 4000000 in
set_option maxRecDepth 100000 in
theorem c_X10_yearsAreSure (l : Launch) (dC : Nat → ClassId) (dI : Nat → Nat → Nat) (cy : Nat → ClassId) (ad : Nat → Nat) (pn : Nat) (bo : Nat → Int32) (di : Nat → Int32) (sb : Int32) (su : Nat → Int64) (tn : Nat) (tb : Nat → Int32) (p : Nat) (hp : p < 30) (htn : tn ≤ 600) : Met l yX10_yearsAreSure wsX10_yearsAreSure ({ frames := 3, cells := 0, slots := 0, locals := 64 }) (va_Pc [.ref (ad 0), .int (nI p)] (fun U => va_P (dC, dI) vwCl [(ad 0, .inr (10, [.ref (ad 1), .ref (ad 3), .ref (ad 9), .ref (ad 14), .ref (ad 22), .ref (ad 25), .ref (ad 27), .ref (ad 30), .ref (ad 41), .ref (ad 43)])), (ad 9, .inr (3, [.ref (ad 10), .ref (ad 11), .ref (ad 12), .ref (ad 13), .int (nI pn)])), (ad 10, .inl (cy 0, 30, .inl bo)), (ad 11, .inl (cy 0, 30, .inl di)), (ad 22, .inr (7, [.ref (ad 3), .ref (ad 9), .ref (ad 14), .ref (ad 23), .ref (ad 24), .int sb])), (ad 23, .inl (cy 1, 10, .inr (.inl su))), (ad 1, .inr (8, [.ref (ad 2), .int (nI tn)])), (ad 2, .inl (cy 0, 600, .inl tb))] U.heap ∧ va_K (dC, dI) vwCl (tyL cy) U ∧ va_Nw (.methodLinkNest RX7 85 yX10_isYear "HereLived") U)) (vp_Si (fun r => r = pI (aSure tb tn (sureY bo di (rb su) p)))) 0 0 (fun _ => False) := by
  refine Met.ofW (cc := cX10_yearsAreSure) (maxL := 6) (ret := (some .boolean)) (by decide) rfl ?_
  intro pp ee ss mm args below meth cc0 s₁ B hml hv
  obtain ⟨rfl, hP, hK, hn0⟩ := hv
  have hx := B.exec
  have hb := B.bytes
  have hr := B.returns
  have hts := atoms_spec (ws := wsX10_yearsAreSure) B.pre
  have hown : ss.vm.findClass RX10 = some mm.cls := findClass_of_methodNamed B.named
  have hlocks := B.notSynchronized
  have hL0 := hts (.fieldLink RX10 10 "HereLived" "tape" "LHereLived$Tape;") (by decide +kernel)
  have hL1 := hts (.fieldLink RX10 83 "HereLived$Tape" "length" "I") (by decide +kernel)
  have hL2 := hts (.fieldLink RX10 284 "HereLived$Tape" "bytes" "[I") (by decide +kernel)
  have hiX10 : ∀ w ∈ wsX100, w ∈ wsX10_yearsAreSure := by decide +kernel
  have hiX8 : ∀ w ∈ wsX80, w ∈ wsX10_yearsAreSure := by decide +kernel
  have hl := lv_entry ([.ref (ad 0), .int (nI p)]) (n := 6) (Nat.le_of_ble_eq_true rfl)
  rw [lg_entry_eq]
  generalize (lg_sl ([.ref (ad 0), .int (nI p)]) ++ List.replicate (6 - (lg_sl ([.ref (ad 0), .int (nI p)])).length) Slot.unset).toArray = ls at hl ⊢
  have hl : lv_has ls 6 [(0, .ref (ad 0)), (1, .int (nI p))] := hl
  refine bw_Q (fun Q hQ => ?_)
  change W pp l ee { frames := 3, cells := 0, slots := 0, locals := 64 } ss mm _ below meth cc0 ss.heap [] 0 0 Q (F0 mm 0 ls [])
  have q32 : (32 : Int32).toInt = 32 := rfl
  refine lv_iconst (v := 0) hx hb dX10_yearsAreSure_0 (by decide) ?_
  refine lv_istore_n (lv' := [(2, .int 0), (0, .ref (ad 0)), (1, .int (nI p))]) hx hb dX10_yearsAreSure_1 rfl hl (by decide) rfl (fun ls hl => ?_)
  refine lv_iconst (v := 0) hx hb dX10_yearsAreSure_2 (by decide) ?_
  refine lv_istore_n (lv' := [(3, .int 0), (2, .int 0), (0, .ref (ad 0)), (1, .int (nI p))]) hx hb dX10_yearsAreSure_3 rfl hl (by decide) rfl (fun ls hl => ?_)
  refine lv_iconst (v := 0) hx hb dX10_yearsAreSure_4 (by decide) ?_
  refine lv_istore (lv' := [(4, .int 0), (3, .int 0), (2, .int 0), (0, .ref (ad 0)), (1, .int (nI p))]) hx hb dX10_yearsAreSure_5 hl (by decide) rfl (fun ls hl => ?_)
  have L_7 : ∀ (n9 : Nat), ∀ (i : Nat) (rn : Nat) (z : Int32), (tn + 1 - i) < n9 → (i ≤ tn + 1) → (cur tb tn i rn) → (okTo tb tn (sureY bo di (rb su) p) i) → (rn ≤ 4 → z.toInt = vN tb (i - rn) rn) → ∀ (ls : Array Slot), lv_has ls 6 [(0, .ref (ad 0)), (1, .int (nI p)), (2, .int (nI rn)), (3, .int z), (4, .int (nI i))] → W pp l ee { frames := 3, cells := 0, slots := 0, locals := 64 } ss mm (List.toArray [Value.ref (ad 0), Value.int (nI p)]) below meth cc0 ss.heap [] 0 0 Q (F0 mm 7 ls []) := by
    intro n9
    induction n9 with
    | zero => intro i rn z hm9; exact absurd hm9 (Nat.not_lt_zero _)
    | succ n9 ih7 =>
      intro i rn z hm7 hi hc hok hz
      intro ls hl
      have hc1 := hc.1
      have hzb : rn ≤ 4 → 0 ≤ z.toInt ∧ z.toInt ≤ 9999 := fun q => by
        rw [hz q]
        exact vN_4 q (fun k hk => (hc.2.1 (i - rn + k) (by omega) (by omega)).2)
      refine lv_iload hx hb dX10_yearsAreSure_7 (lv_at hl 4 rfl) ?_
      refine lv_aload_n hx hb dX10_yearsAreSure_9 rfl (lv_at hl 0 rfl) ?_
      refine va_get (D := (dC, dI)) (ci := 10) (v := .ref (ad 1)) (C := RX10) (T := TX10) (N := 10) hx hb hts hiX10 hown hK hP 0 rfl rfl 0 (by decide) hL0 (fun _ h9 => h9) rfl dX10_yearsAreSure_10 ?_
      refine va_get (D := (dC, dI)) (ci := 8) (v := .int (nI tn)) (C := RX8) (T := TX8) (N := 2) hx hb hts hiX8 hown hK hP 6 rfl rfl 1 (by decide) hL1 (fun _ h9 => h9) rfl dX10_yearsAreSure_13 ?_
      refine bw_icmp_gt (tgt := 108) (a := ((i : Nat) : Int)) (b := ((tn : Nat) : Int)) hx hb dX10_yearsAreSure_16 (by decide) (nI_toInt (by omega)) (nI_toInt (by omega)) (fun c_1 => ?_) (fun c_1 => ?_)
      · skip
        refine lv_iconst (v := 1) hx hb dX10_yearsAreSure_108 (by decide) ?_
        refine bw_Qe hQ ?_
        have hpost : (1 : Int32) = pI (aSure tb tn (sureY bo di (rb su) p)) := by
          have e9 : i = tn + 1 := by omega
          rw [e9] at hok
          exact (pI_t (ok_all hok)).symm
        exact W.zret (v := 1) hx hb hr (by rfl) (fun t9 ht hW => ⟨_, rfl, hpost, by rw [ht]⟩) (fun q h => by cases h) dX10_yearsAreSure_109
      · skip
        refine lv_iload hx hb dX10_yearsAreSure_19 (lv_at hl 4 rfl) ?_
        refine lv_aload_n hx hb dX10_yearsAreSure_21 rfl (lv_at hl 0 rfl) ?_
        refine va_get (D := (dC, dI)) (ci := 10) (v := .ref (ad 1)) (C := RX10) (T := TX10) (N := 10) hx hb hts hiX10 hown hK hP 0 rfl rfl 0 (by decide) hL0 (fun _ h9 => h9) rfl dX10_yearsAreSure_22 ?_
        refine va_get (D := (dC, dI)) (ci := 8) (v := .int (nI tn)) (C := RX8) (T := TX8) (N := 2) hx hb hts hiX8 hown hK hP 6 rfl rfl 1 (by decide) hL1 (fun _ h9 => h9) rfl dX10_yearsAreSure_25 ?_
        refine bw_icmp_ge (tgt := 44) (a := ((i : Nat) : Int)) (b := ((tn : Nat) : Int)) hx hb dX10_yearsAreSure_28 (by decide) (nI_toInt (by omega)) (nI_toInt (by omega)) (fun c_2 => ?_) (fun c_2 => ?_)
        · skip
          refine lv_bipush (v := 32) hx hb dX10_yearsAreSure_44 (by decide) ?_
          refine lv_istore (lv' := [(5, .int 32), (0, .ref (ad 0)), (1, .int (nI p)), (2, .int (nI rn)), (3, .int z), (4, .int (nI i))]) hx hb dX10_yearsAreSure_46 hl (by decide) rfl (fun ls hl => ?_)
          refine lv_iload hx hb dX10_yearsAreSure_48 (lv_at hl 0 rfl) ?_
          refine vp_callSi (va_Run.run (va_runS (As := [.int 32]) (rest := []) ⟨hx, hb, hml, hown, hts⟩ (c_X10_isDigit l dC dI cy 32) (va_cwS 1 hts gX10_yearsAreSure_X10_isDigit rfl rfl rfl (by decide +kernel) ⟨Nat.le_of_ble_eq_true rfl, Nat.le_of_ble_eq_true rfl⟩) ⟨fun a U g mk q => q, fun U hU hW => ⟨rfl, trivial⟩⟩ rfl rfl hl.1 rfl (lv_room (Nat.le_of_ble_eq_true rfl)) dX10_yearsAreSure_50 ⟨Nat.le_of_ble_eq_true rfl, Nat.le_of_ble_eq_true rfl⟩)) (fun r_3 hr_3 => ?_)
          refine bw_ifeqB (tgt := 82) hx hb dX10_yearsAreSure_53 (by decide) hr_3 (fun c_4 => ?_) (fun c_4 => ?_)
          · skip
            refine lv_iload_n hx hb dX10_yearsAreSure_82 rfl (lv_at hl 3 rfl) ?_
            refine lv_iconst (v := 4) hx hb dX10_yearsAreSure_83 (by decide) ?_
            refine bw_icmp_ne (tgt := 98) (a := ((rn : Nat) : Int)) (b := 4) hx hb dX10_yearsAreSure_84 (by decide) (nI_toInt (by omega)) rfl (fun c_5 => ?_) (fun c_5 => ?_)
            · skip
              refine lv_iconst (v := 0) hx hb dX10_yearsAreSure_98 (by decide) ?_
              refine lv_istore_n (lv' := [(2, .int 0), (5, .int 32), (0, .ref (ad 0)), (1, .int (nI p)), (3, .int z), (4, .int (nI i))]) hx hb dX10_yearsAreSure_99 rfl hl (by decide) rfl (fun ls hl => ?_)
              refine lv_iconst (v := 0) hx hb dX10_yearsAreSure_100 (by decide) ?_
              refine lv_istore_n (lv' := [(3, .int 0), (2, .int 0), (5, .int 32), (0, .ref (ad 0)), (1, .int (nI p)), (4, .int (nI i))]) hx hb dX10_yearsAreSure_101 rfl hl (by decide) rfl (fun ls hl => ?_)
              refine lv_iinc (v := nI (i + 1)) (lv' := [(4, .int (nI (i + 1))), (3, .int 0), (2, .int 0), (5, .int 32), (0, .ref (ad 0)), (1, .int (nI p))]) hx hb dX10_yearsAreSure_102 hl (k := 5) rfl (show nI i + Int32.ofInt 1 = nI (i + 1) from nI_add i 1) (by decide) rfl (fun ls hl => ?_)
              refine lv_goto (tgt := 7) hx hb dX10_yearsAreSure_105 (by decide) ?_
              have hI_hi : (i + 1) ≤ tn + 1 := by
                omega
              have hI_hc : cur tb tn (i + 1) 0 := by
                first
                  | (exfalso; omega)
                  | (have hdg : bDg tb tn i := ⟨by omega, by omega, by omega⟩
                     exact cur_d hc hdg)
                  | (have hnd : ¬ bDg tb tn i := fun q => by have q1 := q.1; have q2 := q.2; omega
                     exact cur_n hnd)
              have hI_hok : okTo tb tn (sureY bo di (rb su) p) (i + 1) := by
                first
                  | (exfalso; omega)
                  | (have hdg : bDg tb tn i := ⟨by omega, by omega, by omega⟩
                     exact ok_d hok hdg)
                  | (have hnd : ¬ bDg tb tn i := fun q => by have q1 := q.1; have q2 := q.2; omega
                     exact ok_n hok hc (fun q => by
                       first
                         | exact absurd q (by omega)
                         | (have e9 := c_s
                            rw [hz (by omega)] at e9
                            rw [q] at e9; exact e9)))
              have hI_hz : 0 ≤ 4 → (0 : Int32).toInt = vN tb ((i + 1) - 0) 0 := by
                first
                  | (exfalso; omega)
                  | (have hdg : bDg tb tn i := ⟨by omega, by omega, by omega⟩
                     intro q9
                     first
                       | (rw [tzn, show i + 1 - (rn + 1) = i - rn by omega]
                          show _ = vN tb (i - rn) rn * 10 + ((tb (i - rn + rn)).toInt - 48)
                          rw [← hz (by omega), show i - rn + rn = i by omega])
                       | (exfalso; omega))
                  | (have hnd : ¬ bDg tb tn i := fun q => by have q1 := q.1; have q2 := q.2; omega
                     exact fun _ => rfl)
              exact ih7 (i + 1) 0 0 (by omega) hI_hi hI_hc hI_hok hI_hz ls (lv_sub hl [4, 5, 2, 1, 0] rfl)
            · skip
              refine lv_aload_n hx hb dX10_yearsAreSure_87 rfl (lv_at hl 1 rfl) ?_
              refine lv_iload_n hx hb dX10_yearsAreSure_88 rfl (lv_at hl 2 rfl) ?_
              refine lv_iload_n hx hb dX10_yearsAreSure_89 rfl (lv_at hl 4 rfl) ?_
              have hPc : va_P (dC, dI) vwCl [(ad 0, .inr (10, [.ref (ad 1), .ref (ad 3), .ref (ad 9), .ref (ad 14), .ref (ad 22), .ref (ad 25), .ref (ad 27), .ref (ad 30), .ref (ad 41), .ref (ad 43)])), (ad 9, .inr (3, [.ref (ad 10), .ref (ad 11), .ref (ad 12), .ref (ad 13), .int (nI pn)])), (ad 10, .inl (cy 0, 30, .inl bo)), (ad 11, .inl (cy 0, 30, .inl di)), (ad 22, .inr (7, [.ref (ad 3), .ref (ad 9), .ref (ad 14), .ref (ad 23), .ref (ad 24), .int sb])), (ad 23, .inl (cy 1, 10, .inr (.inl su)))] ss.heap := hP.sub [0, 1, 2, 3, 4, 5] rfl
              refine vp_callSi (va_Run.run (va_runV (As := [.int (nI p), .int z]) (rest := []) ⟨hx, hb, hml, hown, hts⟩ (c_X10_isSureYear l dC dI cy ad pn bo di sb su p z (by first | assumption | omega)) (cwV 2 hts gX10_yearsAreSure_X10_isSureYear rfl rfl rfl (by decide +kernel) ⟨Nat.le_of_ble_eq_true rfl, Nat.le_of_ble_eq_true rfl⟩) ⟨fun a U g mk q => by obtain ⟨q0, qP, qK, qn0⟩ := q; exact ⟨q0, qP, va_K.moved (u := U) (U := U.calling g mk a) (Vm.Alike.refl U.vm) qK, va_Nw.same (u := U) (U := U.calling g mk a) rfl rfl qn0⟩, va_recv hK hPc (ci := 10) (q0 := 0) rfl rfl, fun U hU hW => ⟨rfl, by rw [hU]; exact hPc, va_K.moved hW.alike hK, va_Nw.warmM hW hn0⟩⟩ rfl rfl hl.1 rfl (lv_room (Nat.le_of_ble_eq_true rfl)) dX10_yearsAreSure_90 ⟨Nat.le_of_ble_eq_true rfl, Nat.le_of_ble_eq_true rfl⟩)) (fun r_6 hr_6 => ?_)
              refine bw_ifneP (tgt := 98) hx hb dX10_yearsAreSure_93 (by decide) hr_6 (fun c_s => ?_) (fun c_s => ?_)
              · skip
                refine lv_iconst (v := 0) hx hb dX10_yearsAreSure_98 (by decide) ?_
                refine lv_istore_n (lv' := [(2, .int 0), (5, .int 32), (0, .ref (ad 0)), (1, .int (nI p)), (3, .int z), (4, .int (nI i))]) hx hb dX10_yearsAreSure_99 rfl hl (by decide) rfl (fun ls hl => ?_)
                refine lv_iconst (v := 0) hx hb dX10_yearsAreSure_100 (by decide) ?_
                refine lv_istore_n (lv' := [(3, .int 0), (2, .int 0), (5, .int 32), (0, .ref (ad 0)), (1, .int (nI p)), (4, .int (nI i))]) hx hb dX10_yearsAreSure_101 rfl hl (by decide) rfl (fun ls hl => ?_)
                refine lv_iinc (v := nI (i + 1)) (lv' := [(4, .int (nI (i + 1))), (3, .int 0), (2, .int 0), (5, .int 32), (0, .ref (ad 0)), (1, .int (nI p))]) hx hb dX10_yearsAreSure_102 hl (k := 5) rfl (show nI i + Int32.ofInt 1 = nI (i + 1) from nI_add i 1) (by decide) rfl (fun ls hl => ?_)
                refine lv_goto (tgt := 7) hx hb dX10_yearsAreSure_105 (by decide) ?_
                have hI_hi : (i + 1) ≤ tn + 1 := by
                  omega
                have hI_hc : cur tb tn (i + 1) 0 := by
                  first
                    | (exfalso; omega)
                    | (have hdg : bDg tb tn i := ⟨by omega, by omega, by omega⟩
                       exact cur_d hc hdg)
                    | (have hnd : ¬ bDg tb tn i := fun q => by have q1 := q.1; have q2 := q.2; omega
                       exact cur_n hnd)
                have hI_hok : okTo tb tn (sureY bo di (rb su) p) (i + 1) := by
                  first
                    | (exfalso; omega)
                    | (have hdg : bDg tb tn i := ⟨by omega, by omega, by omega⟩
                       exact ok_d hok hdg)
                    | (have hnd : ¬ bDg tb tn i := fun q => by have q1 := q.1; have q2 := q.2; omega
                       exact ok_n hok hc (fun q => by
                         first
                           | exact absurd q (by omega)
                           | (have e9 := c_s
                              rw [hz (by omega)] at e9
                              rw [q] at e9; exact e9)))
                have hI_hz : 0 ≤ 4 → (0 : Int32).toInt = vN tb ((i + 1) - 0) 0 := by
                  first
                    | (exfalso; omega)
                    | (have hdg : bDg tb tn i := ⟨by omega, by omega, by omega⟩
                       intro q9
                       first
                         | (rw [tzn, show i + 1 - (rn + 1) = i - rn by omega]
                            show _ = vN tb (i - rn) rn * 10 + ((tb (i - rn + rn)).toInt - 48)
                            rw [← hz (by omega), show i - rn + rn = i by omega])
                         | (exfalso; omega))
                    | (have hnd : ¬ bDg tb tn i := fun q => by have q1 := q.1; have q2 := q.2; omega
                       exact fun _ => rfl)
                exact ih7 (i + 1) 0 0 (by omega) hI_hi hI_hc hI_hok hI_hz ls (lv_sub hl [4, 5, 2, 1, 0] rfl)
              · skip
                refine lv_iconst (v := 0) hx hb dX10_yearsAreSure_96 (by decide) ?_
                refine bw_Qe hQ ?_
                have hpost : (0 : Int32) = pI (aSure tb tn (sureY bo di (rb su) p)) := by
                  have hnd : ¬ bDg tb tn i := fun q => by have q1 := q.1; have q2 := q.2; omega
                  have hm := cur_max hc hnd
                  have e4 : rn = 4 := by omega
                  refine (pI_f (fun q => c_s ?_)).symm
                  rw [hz (by omega), e4]
                  rw [e4] at hm
                  have q2 := q (i - 4) (by rw [show i - 4 + 4 = i by omega]; exact hm)
                  exact q2
                exact W.zret (v := 0) hx hb hr (by rfl) (fun t9 ht hW => ⟨_, rfl, hpost, by rw [ht]⟩) (fun q h => by cases h) dX10_yearsAreSure_97
          · skip
            refine lv_iinc (v := nI (rn + 1)) (lv' := [(2, .int (nI (rn + 1))), (5, .int 32), (0, .ref (ad 0)), (1, .int (nI p)), (3, .int z), (4, .int (nI i))]) hx hb dX10_yearsAreSure_56 hl (k := 3) rfl (show nI rn + Int32.ofInt 1 = nI (rn + 1) from nI_add rn 1) (by decide) rfl (fun ls hl => ?_)
            refine lv_iload_n hx hb dX10_yearsAreSure_59 rfl (lv_at hl 0 rfl) ?_
            refine lv_iconst (v := 4) hx hb dX10_yearsAreSure_60 (by decide) ?_
            refine bw_icmp_gt (tgt := 77) (a := ((rn + 1 : Nat) : Int)) (b := 4) hx hb dX10_yearsAreSure_61 (by decide) (nI_toInt (by omega)) rfl (fun c_7 => ?_) (fun c_7 => ?_)
            · skip
              refine lv_iconst (v := 0) hx hb dX10_yearsAreSure_77 (by decide) ?_
              refine lv_istore_n (lv' := [(3, .int 0), (2, .int (nI (rn + 1))), (5, .int 32), (0, .ref (ad 0)), (1, .int (nI p)), (4, .int (nI i))]) hx hb dX10_yearsAreSure_78 rfl hl (by decide) rfl (fun ls hl => ?_)
              refine lv_goto (tgt := 102) hx hb dX10_yearsAreSure_79 (by decide) ?_
              refine lv_iinc (v := nI (i + 1)) (lv' := [(4, .int (nI (i + 1))), (3, .int 0), (2, .int (nI (rn + 1))), (5, .int 32), (0, .ref (ad 0)), (1, .int (nI p))]) hx hb dX10_yearsAreSure_102 hl (k := 5) rfl (show nI i + Int32.ofInt 1 = nI (i + 1) from nI_add i 1) (by decide) rfl (fun ls hl => ?_)
              refine lv_goto (tgt := 7) hx hb dX10_yearsAreSure_105 (by decide) ?_
              have hI_hi : (i + 1) ≤ tn + 1 := by
                omega
              have hI_hc : cur tb tn (i + 1) (rn + 1) := by
                first
                  | (exfalso; omega)
                  | (have hdg : bDg tb tn i := ⟨by omega, by omega, by omega⟩
                     exact cur_d hc hdg)
                  | (have hnd : ¬ bDg tb tn i := fun q => by have q1 := q.1; have q2 := q.2; omega
                     exact cur_n hnd)
              have hI_hok : okTo tb tn (sureY bo di (rb su) p) (i + 1) := by
                first
                  | (exfalso; omega)
                  | (have hdg : bDg tb tn i := ⟨by omega, by omega, by omega⟩
                     exact ok_d hok hdg)
                  | (have hnd : ¬ bDg tb tn i := fun q => by have q1 := q.1; have q2 := q.2; omega
                     exact ok_n hok hc (fun q => by
                       first
                         | exact absurd q (by omega)
                         | (have e9 := c_s
                            rw [hz (by omega)] at e9
                            rw [q] at e9; exact e9)))
              have hI_hz : (rn + 1) ≤ 4 → (0 : Int32).toInt = vN tb ((i + 1) - (rn + 1)) (rn + 1) := by
                first
                  | (exfalso; omega)
                  | (have hdg : bDg tb tn i := ⟨by omega, by omega, by omega⟩
                     intro q9
                     first
                       | (rw [tzn, show i + 1 - (rn + 1) = i - rn by omega]
                          show _ = vN tb (i - rn) rn * 10 + ((tb (i - rn + rn)).toInt - 48)
                          rw [← hz (by omega), show i - rn + rn = i by omega])
                       | (exfalso; omega))
                  | (have hnd : ¬ bDg tb tn i := fun q => by have q1 := q.1; have q2 := q.2; omega
                     exact fun _ => rfl)
              exact ih7 (i + 1) (rn + 1) 0 (by omega) hI_hi hI_hc hI_hok hI_hz ls (lv_sub hl [4, 5, 2, 1, 0] rfl)
            · skip
              have hzb2 := hzb (by omega)
              refine lv_iload_n hx hb dX10_yearsAreSure_64 rfl (lv_at hl 4 rfl) ?_
              refine lv_bipush (v := 10) hx hb dX10_yearsAreSure_65 (by decide) ?_
              refine lv_imul hx hb dX10_yearsAreSure_67 ?_
              refine bw_nm (a := (z.toInt * 10)) (tI_mul rfl rfl (by omega) (by omega)) (fun z_8 ez_8 tz_8 => ?_)
              refine lv_iload hx hb dX10_yearsAreSure_68 (lv_at hl 1 rfl) ?_
              refine lv_bipush (v := 48) hx hb dX10_yearsAreSure_70 (by decide) ?_
              refine lv_isub hx hb dX10_yearsAreSure_72 ?_
              refine bw_nm (a := (32 - 48)) (tI_sub rfl rfl (by omega) (by omega)) (fun z_9 ez_9 tz_9 => ?_)
              refine lv_iadd hx hb dX10_yearsAreSure_73 ?_
              refine bw_nm (a := ((z.toInt * 10) + (32 - 48))) (tI_add tz_8 tz_9 (by omega) (by omega)) (fun zn ezn tzn => ?_)
              refine lv_goto (tgt := 78) hx hb dX10_yearsAreSure_74 (by decide) ?_
              refine lv_istore_n (lv' := [(3, .int zn), (2, .int (nI (rn + 1))), (5, .int 32), (0, .ref (ad 0)), (1, .int (nI p)), (4, .int (nI i))]) hx hb dX10_yearsAreSure_78 rfl hl (by decide) rfl (fun ls hl => ?_)
              refine lv_goto (tgt := 102) hx hb dX10_yearsAreSure_79 (by decide) ?_
              refine lv_iinc (v := nI (i + 1)) (lv' := [(4, .int (nI (i + 1))), (3, .int zn), (2, .int (nI (rn + 1))), (5, .int 32), (0, .ref (ad 0)), (1, .int (nI p))]) hx hb dX10_yearsAreSure_102 hl (k := 5) rfl (show nI i + Int32.ofInt 1 = nI (i + 1) from nI_add i 1) (by decide) rfl (fun ls hl => ?_)
              refine lv_goto (tgt := 7) hx hb dX10_yearsAreSure_105 (by decide) ?_
              have hI_hi : (i + 1) ≤ tn + 1 := by
                omega
              have hI_hc : cur tb tn (i + 1) (rn + 1) := by
                first
                  | (exfalso; omega)
                  | (have hdg : bDg tb tn i := ⟨by omega, by omega, by omega⟩
                     exact cur_d hc hdg)
                  | (have hnd : ¬ bDg tb tn i := fun q => by have q1 := q.1; have q2 := q.2; omega
                     exact cur_n hnd)
              have hI_hok : okTo tb tn (sureY bo di (rb su) p) (i + 1) := by
                first
                  | (exfalso; omega)
                  | (have hdg : bDg tb tn i := ⟨by omega, by omega, by omega⟩
                     exact ok_d hok hdg)
                  | (have hnd : ¬ bDg tb tn i := fun q => by have q1 := q.1; have q2 := q.2; omega
                     exact ok_n hok hc (fun q => by
                       first
                         | exact absurd q (by omega)
                         | (have e9 := c_s
                            rw [hz (by omega)] at e9
                            rw [q] at e9; exact e9)))
              have hI_hz : (rn + 1) ≤ 4 → zn.toInt = vN tb ((i + 1) - (rn + 1)) (rn + 1) := by
                first
                  | (exfalso; omega)
                  | (have hdg : bDg tb tn i := ⟨by omega, by omega, by omega⟩
                     intro q9
                     first
                       | (rw [tzn, show i + 1 - (rn + 1) = i - rn by omega]
                          show _ = vN tb (i - rn) rn * 10 + ((tb (i - rn + rn)).toInt - 48)
                          rw [← hz (by omega), show i - rn + rn = i by omega])
                       | (exfalso; omega))
                  | (have hnd : ¬ bDg tb tn i := fun q => by have q1 := q.1; have q2 := q.2; omega
                     exact fun _ => rfl)
              exact ih7 (i + 1) (rn + 1) zn (by omega) hI_hi hI_hc hI_hok hI_hz ls (lv_sub hl [4, 5, 2, 1, 0] rfl)
        · skip
          refine lv_aload_n hx hb dX10_yearsAreSure_31 rfl (lv_at hl 0 rfl) ?_
          refine va_get (D := (dC, dI)) (ci := 10) (v := .ref (ad 1)) (C := RX10) (T := TX10) (N := 10) hx hb hts hiX10 hown hK hP 0 rfl rfl 0 (by decide) hL0 (fun _ h9 => h9) rfl dX10_yearsAreSure_32 ?_
          refine va_get (D := (dC, dI)) (ci := 8) (v := .ref (ad 2)) (C := RX8) (T := TX8) (N := 2) hx hb hts hiX8 hown hK hP 6 rfl rfl 0 (by decide) hL2 (fun _ h9 => h9) rfl dX10_yearsAreSure_35 ?_
          refine lv_iload hx hb dX10_yearsAreSure_38 (lv_at hl 4 rfl) ?_
          refine bw_iald hx hb hK hP 7 0 rfl rfl (j := i) (nI_toInt (by omega)) (by omega) dX10_yearsAreSure_40 ?_
          refine lv_goto (tgt := 46) hx hb dX10_yearsAreSure_41 (by decide) ?_
          refine lv_istore (lv' := [(5, .int (tb i)), (0, .ref (ad 0)), (1, .int (nI p)), (2, .int (nI rn)), (3, .int z), (4, .int (nI i))]) hx hb dX10_yearsAreSure_46 hl (by decide) rfl (fun ls hl => ?_)
          refine lv_iload hx hb dX10_yearsAreSure_48 (lv_at hl 0 rfl) ?_
          refine vp_callSi (va_Run.run (va_runS (As := [.int (tb i)]) (rest := []) ⟨hx, hb, hml, hown, hts⟩ (c_X10_isDigit l dC dI cy (tb i)) (va_cwS 1 hts gX10_yearsAreSure_X10_isDigit rfl rfl rfl (by decide +kernel) ⟨Nat.le_of_ble_eq_true rfl, Nat.le_of_ble_eq_true rfl⟩) ⟨fun a U g mk q => q, fun U hU hW => ⟨rfl, trivial⟩⟩ rfl rfl hl.1 rfl (lv_room (Nat.le_of_ble_eq_true rfl)) dX10_yearsAreSure_50 ⟨Nat.le_of_ble_eq_true rfl, Nat.le_of_ble_eq_true rfl⟩)) (fun r_10 hr_10 => ?_)
          refine bw_ifeqB (tgt := 82) hx hb dX10_yearsAreSure_53 (by decide) hr_10 (fun c_11 => ?_) (fun c_11 => ?_)
          · skip
            refine lv_iload_n hx hb dX10_yearsAreSure_82 rfl (lv_at hl 3 rfl) ?_
            refine lv_iconst (v := 4) hx hb dX10_yearsAreSure_83 (by decide) ?_
            refine bw_icmp_ne (tgt := 98) (a := ((rn : Nat) : Int)) (b := 4) hx hb dX10_yearsAreSure_84 (by decide) (nI_toInt (by omega)) rfl (fun c_12 => ?_) (fun c_12 => ?_)
            · skip
              refine lv_iconst (v := 0) hx hb dX10_yearsAreSure_98 (by decide) ?_
              refine lv_istore_n (lv' := [(2, .int 0), (5, .int (tb i)), (0, .ref (ad 0)), (1, .int (nI p)), (3, .int z), (4, .int (nI i))]) hx hb dX10_yearsAreSure_99 rfl hl (by decide) rfl (fun ls hl => ?_)
              refine lv_iconst (v := 0) hx hb dX10_yearsAreSure_100 (by decide) ?_
              refine lv_istore_n (lv' := [(3, .int 0), (2, .int 0), (5, .int (tb i)), (0, .ref (ad 0)), (1, .int (nI p)), (4, .int (nI i))]) hx hb dX10_yearsAreSure_101 rfl hl (by decide) rfl (fun ls hl => ?_)
              refine lv_iinc (v := nI (i + 1)) (lv' := [(4, .int (nI (i + 1))), (3, .int 0), (2, .int 0), (5, .int (tb i)), (0, .ref (ad 0)), (1, .int (nI p))]) hx hb dX10_yearsAreSure_102 hl (k := 5) rfl (show nI i + Int32.ofInt 1 = nI (i + 1) from nI_add i 1) (by decide) rfl (fun ls hl => ?_)
              refine lv_goto (tgt := 7) hx hb dX10_yearsAreSure_105 (by decide) ?_
              have hI_hi : (i + 1) ≤ tn + 1 := by
                omega
              have hI_hc : cur tb tn (i + 1) 0 := by
                first
                  | (exfalso; omega)
                  | (have hdg : bDg tb tn i := ⟨by omega, by omega, by omega⟩
                     exact cur_d hc hdg)
                  | (have hnd : ¬ bDg tb tn i := fun q => by have q1 := q.1; have q2 := q.2; omega
                     exact cur_n hnd)
              have hI_hok : okTo tb tn (sureY bo di (rb su) p) (i + 1) := by
                first
                  | (exfalso; omega)
                  | (have hdg : bDg tb tn i := ⟨by omega, by omega, by omega⟩
                     exact ok_d hok hdg)
                  | (have hnd : ¬ bDg tb tn i := fun q => by have q1 := q.1; have q2 := q.2; omega
                     exact ok_n hok hc (fun q => by
                       first
                         | exact absurd q (by omega)
                         | (have e9 := c_s
                            rw [hz (by omega)] at e9
                            rw [q] at e9; exact e9)))
              have hI_hz : 0 ≤ 4 → (0 : Int32).toInt = vN tb ((i + 1) - 0) 0 := by
                first
                  | (exfalso; omega)
                  | (have hdg : bDg tb tn i := ⟨by omega, by omega, by omega⟩
                     intro q9
                     first
                       | (rw [tzn, show i + 1 - (rn + 1) = i - rn by omega]
                          show _ = vN tb (i - rn) rn * 10 + ((tb (i - rn + rn)).toInt - 48)
                          rw [← hz (by omega), show i - rn + rn = i by omega])
                       | (exfalso; omega))
                  | (have hnd : ¬ bDg tb tn i := fun q => by have q1 := q.1; have q2 := q.2; omega
                     exact fun _ => rfl)
              exact ih7 (i + 1) 0 0 (by omega) hI_hi hI_hc hI_hok hI_hz ls (lv_sub hl [4, 5, 2, 1, 0] rfl)
            · skip
              refine lv_aload_n hx hb dX10_yearsAreSure_87 rfl (lv_at hl 1 rfl) ?_
              refine lv_iload_n hx hb dX10_yearsAreSure_88 rfl (lv_at hl 2 rfl) ?_
              refine lv_iload_n hx hb dX10_yearsAreSure_89 rfl (lv_at hl 4 rfl) ?_
              have hPc : va_P (dC, dI) vwCl [(ad 0, .inr (10, [.ref (ad 1), .ref (ad 3), .ref (ad 9), .ref (ad 14), .ref (ad 22), .ref (ad 25), .ref (ad 27), .ref (ad 30), .ref (ad 41), .ref (ad 43)])), (ad 9, .inr (3, [.ref (ad 10), .ref (ad 11), .ref (ad 12), .ref (ad 13), .int (nI pn)])), (ad 10, .inl (cy 0, 30, .inl bo)), (ad 11, .inl (cy 0, 30, .inl di)), (ad 22, .inr (7, [.ref (ad 3), .ref (ad 9), .ref (ad 14), .ref (ad 23), .ref (ad 24), .int sb])), (ad 23, .inl (cy 1, 10, .inr (.inl su)))] ss.heap := hP.sub [0, 1, 2, 3, 4, 5] rfl
              refine vp_callSi (va_Run.run (va_runV (As := [.int (nI p), .int z]) (rest := []) ⟨hx, hb, hml, hown, hts⟩ (c_X10_isSureYear l dC dI cy ad pn bo di sb su p z (by first | assumption | omega)) (cwV 2 hts gX10_yearsAreSure_X10_isSureYear rfl rfl rfl (by decide +kernel) ⟨Nat.le_of_ble_eq_true rfl, Nat.le_of_ble_eq_true rfl⟩) ⟨fun a U g mk q => by obtain ⟨q0, qP, qK, qn0⟩ := q; exact ⟨q0, qP, va_K.moved (u := U) (U := U.calling g mk a) (Vm.Alike.refl U.vm) qK, va_Nw.same (u := U) (U := U.calling g mk a) rfl rfl qn0⟩, va_recv hK hPc (ci := 10) (q0 := 0) rfl rfl, fun U hU hW => ⟨rfl, by rw [hU]; exact hPc, va_K.moved hW.alike hK, va_Nw.warmM hW hn0⟩⟩ rfl rfl hl.1 rfl (lv_room (Nat.le_of_ble_eq_true rfl)) dX10_yearsAreSure_90 ⟨Nat.le_of_ble_eq_true rfl, Nat.le_of_ble_eq_true rfl⟩)) (fun r_13 hr_13 => ?_)
              refine bw_ifneP (tgt := 98) hx hb dX10_yearsAreSure_93 (by decide) hr_13 (fun c_s => ?_) (fun c_s => ?_)
              · skip
                refine lv_iconst (v := 0) hx hb dX10_yearsAreSure_98 (by decide) ?_
                refine lv_istore_n (lv' := [(2, .int 0), (5, .int (tb i)), (0, .ref (ad 0)), (1, .int (nI p)), (3, .int z), (4, .int (nI i))]) hx hb dX10_yearsAreSure_99 rfl hl (by decide) rfl (fun ls hl => ?_)
                refine lv_iconst (v := 0) hx hb dX10_yearsAreSure_100 (by decide) ?_
                refine lv_istore_n (lv' := [(3, .int 0), (2, .int 0), (5, .int (tb i)), (0, .ref (ad 0)), (1, .int (nI p)), (4, .int (nI i))]) hx hb dX10_yearsAreSure_101 rfl hl (by decide) rfl (fun ls hl => ?_)
                refine lv_iinc (v := nI (i + 1)) (lv' := [(4, .int (nI (i + 1))), (3, .int 0), (2, .int 0), (5, .int (tb i)), (0, .ref (ad 0)), (1, .int (nI p))]) hx hb dX10_yearsAreSure_102 hl (k := 5) rfl (show nI i + Int32.ofInt 1 = nI (i + 1) from nI_add i 1) (by decide) rfl (fun ls hl => ?_)
                refine lv_goto (tgt := 7) hx hb dX10_yearsAreSure_105 (by decide) ?_
                have hI_hi : (i + 1) ≤ tn + 1 := by
                  omega
                have hI_hc : cur tb tn (i + 1) 0 := by
                  first
                    | (exfalso; omega)
                    | (have hdg : bDg tb tn i := ⟨by omega, by omega, by omega⟩
                       exact cur_d hc hdg)
                    | (have hnd : ¬ bDg tb tn i := fun q => by have q1 := q.1; have q2 := q.2; omega
                       exact cur_n hnd)
                have hI_hok : okTo tb tn (sureY bo di (rb su) p) (i + 1) := by
                  first
                    | (exfalso; omega)
                    | (have hdg : bDg tb tn i := ⟨by omega, by omega, by omega⟩
                       exact ok_d hok hdg)
                    | (have hnd : ¬ bDg tb tn i := fun q => by have q1 := q.1; have q2 := q.2; omega
                       exact ok_n hok hc (fun q => by
                         first
                           | exact absurd q (by omega)
                           | (have e9 := c_s
                              rw [hz (by omega)] at e9
                              rw [q] at e9; exact e9)))
                have hI_hz : 0 ≤ 4 → (0 : Int32).toInt = vN tb ((i + 1) - 0) 0 := by
                  first
                    | (exfalso; omega)
                    | (have hdg : bDg tb tn i := ⟨by omega, by omega, by omega⟩
                       intro q9
                       first
                         | (rw [tzn, show i + 1 - (rn + 1) = i - rn by omega]
                            show _ = vN tb (i - rn) rn * 10 + ((tb (i - rn + rn)).toInt - 48)
                            rw [← hz (by omega), show i - rn + rn = i by omega])
                         | (exfalso; omega))
                    | (have hnd : ¬ bDg tb tn i := fun q => by have q1 := q.1; have q2 := q.2; omega
                       exact fun _ => rfl)
                exact ih7 (i + 1) 0 0 (by omega) hI_hi hI_hc hI_hok hI_hz ls (lv_sub hl [4, 5, 2, 1, 0] rfl)
              · skip
                refine lv_iconst (v := 0) hx hb dX10_yearsAreSure_96 (by decide) ?_
                refine bw_Qe hQ ?_
                have hpost : (0 : Int32) = pI (aSure tb tn (sureY bo di (rb su) p)) := by
                  have hnd : ¬ bDg tb tn i := fun q => by have q1 := q.1; have q2 := q.2; omega
                  have hm := cur_max hc hnd
                  have e4 : rn = 4 := by omega
                  refine (pI_f (fun q => c_s ?_)).symm
                  rw [hz (by omega), e4]
                  rw [e4] at hm
                  have q2 := q (i - 4) (by rw [show i - 4 + 4 = i by omega]; exact hm)
                  exact q2
                exact W.zret (v := 0) hx hb hr (by rfl) (fun t9 ht hW => ⟨_, rfl, hpost, by rw [ht]⟩) (fun q h => by cases h) dX10_yearsAreSure_97
          · skip
            refine lv_iinc (v := nI (rn + 1)) (lv' := [(2, .int (nI (rn + 1))), (5, .int (tb i)), (0, .ref (ad 0)), (1, .int (nI p)), (3, .int z), (4, .int (nI i))]) hx hb dX10_yearsAreSure_56 hl (k := 3) rfl (show nI rn + Int32.ofInt 1 = nI (rn + 1) from nI_add rn 1) (by decide) rfl (fun ls hl => ?_)
            refine lv_iload_n hx hb dX10_yearsAreSure_59 rfl (lv_at hl 0 rfl) ?_
            refine lv_iconst (v := 4) hx hb dX10_yearsAreSure_60 (by decide) ?_
            refine bw_icmp_gt (tgt := 77) (a := ((rn + 1 : Nat) : Int)) (b := 4) hx hb dX10_yearsAreSure_61 (by decide) (nI_toInt (by omega)) rfl (fun c_14 => ?_) (fun c_14 => ?_)
            · skip
              refine lv_iconst (v := 0) hx hb dX10_yearsAreSure_77 (by decide) ?_
              refine lv_istore_n (lv' := [(3, .int 0), (2, .int (nI (rn + 1))), (5, .int (tb i)), (0, .ref (ad 0)), (1, .int (nI p)), (4, .int (nI i))]) hx hb dX10_yearsAreSure_78 rfl hl (by decide) rfl (fun ls hl => ?_)
              refine lv_goto (tgt := 102) hx hb dX10_yearsAreSure_79 (by decide) ?_
              refine lv_iinc (v := nI (i + 1)) (lv' := [(4, .int (nI (i + 1))), (3, .int 0), (2, .int (nI (rn + 1))), (5, .int (tb i)), (0, .ref (ad 0)), (1, .int (nI p))]) hx hb dX10_yearsAreSure_102 hl (k := 5) rfl (show nI i + Int32.ofInt 1 = nI (i + 1) from nI_add i 1) (by decide) rfl (fun ls hl => ?_)
              refine lv_goto (tgt := 7) hx hb dX10_yearsAreSure_105 (by decide) ?_
              have hI_hi : (i + 1) ≤ tn + 1 := by
                omega
              have hI_hc : cur tb tn (i + 1) (rn + 1) := by
                first
                  | (exfalso; omega)
                  | (have hdg : bDg tb tn i := ⟨by omega, by omega, by omega⟩
                     exact cur_d hc hdg)
                  | (have hnd : ¬ bDg tb tn i := fun q => by have q1 := q.1; have q2 := q.2; omega
                     exact cur_n hnd)
              have hI_hok : okTo tb tn (sureY bo di (rb su) p) (i + 1) := by
                first
                  | (exfalso; omega)
                  | (have hdg : bDg tb tn i := ⟨by omega, by omega, by omega⟩
                     exact ok_d hok hdg)
                  | (have hnd : ¬ bDg tb tn i := fun q => by have q1 := q.1; have q2 := q.2; omega
                     exact ok_n hok hc (fun q => by
                       first
                         | exact absurd q (by omega)
                         | (have e9 := c_s
                            rw [hz (by omega)] at e9
                            rw [q] at e9; exact e9)))
              have hI_hz : (rn + 1) ≤ 4 → (0 : Int32).toInt = vN tb ((i + 1) - (rn + 1)) (rn + 1) := by
                first
                  | (exfalso; omega)
                  | (have hdg : bDg tb tn i := ⟨by omega, by omega, by omega⟩
                     intro q9
                     first
                       | (rw [tzn, show i + 1 - (rn + 1) = i - rn by omega]
                          show _ = vN tb (i - rn) rn * 10 + ((tb (i - rn + rn)).toInt - 48)
                          rw [← hz (by omega), show i - rn + rn = i by omega])
                       | (exfalso; omega))
                  | (have hnd : ¬ bDg tb tn i := fun q => by have q1 := q.1; have q2 := q.2; omega
                     exact fun _ => rfl)
              exact ih7 (i + 1) (rn + 1) 0 (by omega) hI_hi hI_hc hI_hok hI_hz ls (lv_sub hl [4, 5, 2, 1, 0] rfl)
            · skip
              have hzb2 := hzb (by omega)
              refine lv_iload_n hx hb dX10_yearsAreSure_64 rfl (lv_at hl 4 rfl) ?_
              refine lv_bipush (v := 10) hx hb dX10_yearsAreSure_65 (by decide) ?_
              refine lv_imul hx hb dX10_yearsAreSure_67 ?_
              refine bw_nm (a := (z.toInt * 10)) (tI_mul rfl rfl (by omega) (by omega)) (fun z_15 ez_15 tz_15 => ?_)
              refine lv_iload hx hb dX10_yearsAreSure_68 (lv_at hl 1 rfl) ?_
              refine lv_bipush (v := 48) hx hb dX10_yearsAreSure_70 (by decide) ?_
              refine lv_isub hx hb dX10_yearsAreSure_72 ?_
              refine bw_nm (a := ((tb i).toInt - 48)) (tI_sub rfl rfl (by omega) (by omega)) (fun z_16 ez_16 tz_16 => ?_)
              refine lv_iadd hx hb dX10_yearsAreSure_73 ?_
              refine bw_nm (a := ((z.toInt * 10) + ((tb i).toInt - 48))) (tI_add tz_15 tz_16 (by omega) (by omega)) (fun zn ezn tzn => ?_)
              refine lv_goto (tgt := 78) hx hb dX10_yearsAreSure_74 (by decide) ?_
              refine lv_istore_n (lv' := [(3, .int zn), (2, .int (nI (rn + 1))), (5, .int (tb i)), (0, .ref (ad 0)), (1, .int (nI p)), (4, .int (nI i))]) hx hb dX10_yearsAreSure_78 rfl hl (by decide) rfl (fun ls hl => ?_)
              refine lv_goto (tgt := 102) hx hb dX10_yearsAreSure_79 (by decide) ?_
              refine lv_iinc (v := nI (i + 1)) (lv' := [(4, .int (nI (i + 1))), (3, .int zn), (2, .int (nI (rn + 1))), (5, .int (tb i)), (0, .ref (ad 0)), (1, .int (nI p))]) hx hb dX10_yearsAreSure_102 hl (k := 5) rfl (show nI i + Int32.ofInt 1 = nI (i + 1) from nI_add i 1) (by decide) rfl (fun ls hl => ?_)
              refine lv_goto (tgt := 7) hx hb dX10_yearsAreSure_105 (by decide) ?_
              have hI_hi : (i + 1) ≤ tn + 1 := by
                omega
              have hI_hc : cur tb tn (i + 1) (rn + 1) := by
                first
                  | (exfalso; omega)
                  | (have hdg : bDg tb tn i := ⟨by omega, by omega, by omega⟩
                     exact cur_d hc hdg)
                  | (have hnd : ¬ bDg tb tn i := fun q => by have q1 := q.1; have q2 := q.2; omega
                     exact cur_n hnd)
              have hI_hok : okTo tb tn (sureY bo di (rb su) p) (i + 1) := by
                first
                  | (exfalso; omega)
                  | (have hdg : bDg tb tn i := ⟨by omega, by omega, by omega⟩
                     exact ok_d hok hdg)
                  | (have hnd : ¬ bDg tb tn i := fun q => by have q1 := q.1; have q2 := q.2; omega
                     exact ok_n hok hc (fun q => by
                       first
                         | exact absurd q (by omega)
                         | (have e9 := c_s
                            rw [hz (by omega)] at e9
                            rw [q] at e9; exact e9)))
              have hI_hz : (rn + 1) ≤ 4 → zn.toInt = vN tb ((i + 1) - (rn + 1)) (rn + 1) := by
                first
                  | (exfalso; omega)
                  | (have hdg : bDg tb tn i := ⟨by omega, by omega, by omega⟩
                     intro q9
                     first
                       | (rw [tzn, show i + 1 - (rn + 1) = i - rn by omega]
                          show _ = vN tb (i - rn) rn * 10 + ((tb (i - rn + rn)).toInt - 48)
                          rw [← hz (by omega), show i - rn + rn = i by omega])
                       | (exfalso; omega))
                  | (have hnd : ¬ bDg tb tn i := fun q => by have q1 := q.1; have q2 := q.2; omega
                     exact fun _ => rfl)
              exact ih7 (i + 1) (rn + 1) zn (by omega) hI_hi hI_hc hI_hok hI_hz ls (lv_sub hl [4, 5, 2, 1, 0] rfl)
  have hI_hi : 0 ≤ tn + 1 := by
    omega
  have hI_hc : cur tb tn 0 0 := by
    exact cur_0
  have hI_hok : okTo tb tn (sureY bo di (rb su) p) 0 := by
    exact ok_0
  have hI_hz : 0 ≤ 4 → (0 : Int32).toInt = vN tb (0 - 0) 0 := by
    exact fun _ => rfl
  exact L_7 ((tn + 1 - 0) + 1) 0 0 0 (by omega) hI_hi hI_hc hI_hok hI_hz ls (lv_sub hl [3, 4, 2, 1, 0] rfl)

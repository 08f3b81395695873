set_option maxHeartbeats 4000000 in
set_option maxRecDepth 100000 in
theorem c_X12_widthOf (l : Launch) (dC : Nat → ClassId) (dI : Nat → Nat → Nat) (cy : Nat → ClassId) (x : Int32)  : Met l yX12_widthOf wsX12_widthOf ({ frames := 1, cells := 0, slots := 0, locals := 20 }) (va_Pc [.int x] (fun _ => True)) (vp_Si (fun r => r = nI (wdt x.toInt))) 0 0 (fun _ => False) := by
  refine Met.ofW (cc := cX12_widthOf) (maxL := 1) (ret := (some .int)) (by decide) rfl ?_
  intro pp ee ss mm args below meth cc0 s₁ B hml hv
  obtain ⟨rfl, -⟩ := hv
  have hx := B.exec
  have hb := B.bytes
  have hr := B.returns
  have hts := atoms_spec (ws := wsX12_widthOf) B.pre
  have hown : ss.vm.findClass RX12 = some mm.cls := findClass_of_methodNamed B.named
  have hlocks := B.notSynchronized
  have hl := lv_entry ([.int x]) (n := 1) (Nat.le_of_ble_eq_true rfl)
  rw [lg_entry_eq]
  generalize (lg_sl ([.int x]) ++ List.replicate (1 - (lg_sl ([.int x])).length) Slot.unset).toArray = ls at hl ⊢
  have hl : lv_has ls 1 [(0, .int x)] := hl
  refine bw_Q (fun Q hQ => ?_)
  change W pp l ee { frames := 1, cells := 0, slots := 0, locals := 20 } ss mm _ below meth cc0 ss.heap [] 0 0 Q (F0 mm 0 ls [])
  refine lv_iload_n hx hb dX12_widthOf_0 rfl (lv_at hl 0 rfl) ?_
  refine lv_bipush (v := 105) hx hb dX12_widthOf_1 (by decide) ?_
  refine bw_icmp_eq (tgt := 42) (a := x.toInt) (b := 105) hx hb dX12_widthOf_3 (by decide) rfl rfl (fun c_1 => ?_) (fun c_1 => ?_)
  · skip
    refine lv_iconst (v := 2) hx hb dX12_widthOf_42 (by decide) ?_
    refine bw_Qe hQ ?_
    have hpost : (2 : Int32) = nI (wdt x.toInt) := by
      first
        | (unfold wdt; rw [if_pos (by omega)]; rfl)
        | (unfold wdt; rw [if_neg (by omega), if_pos (by omega)]; rfl)
        | (unfold wdt; rw [if_neg (by omega), if_neg (by omega), if_pos (by omega)]; rfl)
        | (unfold wdt; rw [if_neg (by omega), if_neg (by omega), if_neg (by omega), if_pos (by omega)]; rfl)
        | (unfold wdt; rw [if_neg (by omega), if_neg (by omega), if_neg (by omega), if_neg (by omega)]; rfl)
    exact W.iret (v := 2) hx hb hr (fun t9 ht hW => ⟨_, rfl, hpost, by rw [ht]⟩) (fun q h => by cases h) dX12_widthOf_43
  · skip
    refine lv_iload_n hx hb dX12_widthOf_6 rfl (lv_at hl 0 rfl) ?_
    refine lv_bipush (v := 108) hx hb dX12_widthOf_7 (by decide) ?_
    refine bw_icmp_eq (tgt := 42) (a := x.toInt) (b := 108) hx hb dX12_widthOf_9 (by decide) rfl rfl (fun c_2 => ?_) (fun c_2 => ?_)
    · skip
      refine lv_iconst (v := 2) hx hb dX12_widthOf_42 (by decide) ?_
      refine bw_Qe hQ ?_
      have hpost : (2 : Int32) = nI (wdt x.toInt) := by
        first
          | (unfold wdt; rw [if_pos (by omega)]; rfl)
          | (unfold wdt; rw [if_neg (by omega), if_pos (by omega)]; rfl)
          | (unfold wdt; rw [if_neg (by omega), if_neg (by omega), if_pos (by omega)]; rfl)
          | (unfold wdt; rw [if_neg (by omega), if_neg (by omega), if_neg (by omega), if_pos (by omega)]; rfl)
          | (unfold wdt; rw [if_neg (by omega), if_neg (by omega), if_neg (by omega), if_neg (by omega)]; rfl)
      exact W.iret (v := 2) hx hb hr (fun t9 ht hW => ⟨_, rfl, hpost, by rw [ht]⟩) (fun q h => by cases h) dX12_widthOf_43
    · skip
      refine lv_iload_n hx hb dX12_widthOf_12 rfl (lv_at hl 0 rfl) ?_
      refine lv_bipush (v := 106) hx hb dX12_widthOf_13 (by decide) ?_
      refine bw_icmp_eq (tgt := 42) (a := x.toInt) (b := 106) hx hb dX12_widthOf_15 (by decide) rfl rfl (fun c_3 => ?_) (fun c_3 => ?_)
      · skip
        refine lv_iconst (v := 2) hx hb dX12_widthOf_42 (by decide) ?_
        refine bw_Qe hQ ?_
        have hpost : (2 : Int32) = nI (wdt x.toInt) := by
          first
            | (unfold wdt; rw [if_pos (by omega)]; rfl)
            | (unfold wdt; rw [if_neg (by omega), if_pos (by omega)]; rfl)
            | (unfold wdt; rw [if_neg (by omega), if_neg (by omega), if_pos (by omega)]; rfl)
            | (unfold wdt; rw [if_neg (by omega), if_neg (by omega), if_neg (by omega), if_pos (by omega)]; rfl)
            | (unfold wdt; rw [if_neg (by omega), if_neg (by omega), if_neg (by omega), if_neg (by omega)]; rfl)
        exact W.iret (v := 2) hx hb hr (fun t9 ht hW => ⟨_, rfl, hpost, by rw [ht]⟩) (fun q h => by cases h) dX12_widthOf_43
      · skip
        refine lv_iload_n hx hb dX12_widthOf_18 rfl (lv_at hl 0 rfl) ?_
        refine lv_bipush (v := 46) hx hb dX12_widthOf_19 (by decide) ?_
        refine bw_icmp_eq (tgt := 42) (a := x.toInt) (b := 46) hx hb dX12_widthOf_21 (by decide) rfl rfl (fun c_4 => ?_) (fun c_4 => ?_)
        · skip
          refine lv_iconst (v := 2) hx hb dX12_widthOf_42 (by decide) ?_
          refine bw_Qe hQ ?_
          have hpost : (2 : Int32) = nI (wdt x.toInt) := by
            first
              | (unfold wdt; rw [if_pos (by omega)]; rfl)
              | (unfold wdt; rw [if_neg (by omega), if_pos (by omega)]; rfl)
              | (unfold wdt; rw [if_neg (by omega), if_neg (by omega), if_pos (by omega)]; rfl)
              | (unfold wdt; rw [if_neg (by omega), if_neg (by omega), if_neg (by omega), if_pos (by omega)]; rfl)
              | (unfold wdt; rw [if_neg (by omega), if_neg (by omega), if_neg (by omega), if_neg (by omega)]; rfl)
          exact W.iret (v := 2) hx hb hr (fun t9 ht hW => ⟨_, rfl, hpost, by rw [ht]⟩) (fun q h => by cases h) dX12_widthOf_43
        · skip
          refine lv_iload_n hx hb dX12_widthOf_24 rfl (lv_at hl 0 rfl) ?_
          refine lv_bipush (v := 44) hx hb dX12_widthOf_25 (by decide) ?_
          refine bw_icmp_eq (tgt := 42) (a := x.toInt) (b := 44) hx hb dX12_widthOf_27 (by decide) rfl rfl (fun c_5 => ?_) (fun c_5 => ?_)
          · skip
            refine lv_iconst (v := 2) hx hb dX12_widthOf_42 (by decide) ?_
            refine bw_Qe hQ ?_
            have hpost : (2 : Int32) = nI (wdt x.toInt) := by
              first
                | (unfold wdt; rw [if_pos (by omega)]; rfl)
                | (unfold wdt; rw [if_neg (by omega), if_pos (by omega)]; rfl)
                | (unfold wdt; rw [if_neg (by omega), if_neg (by omega), if_pos (by omega)]; rfl)
                | (unfold wdt; rw [if_neg (by omega), if_neg (by omega), if_neg (by omega), if_pos (by omega)]; rfl)
                | (unfold wdt; rw [if_neg (by omega), if_neg (by omega), if_neg (by omega), if_neg (by omega)]; rfl)
            exact W.iret (v := 2) hx hb hr (fun t9 ht hW => ⟨_, rfl, hpost, by rw [ht]⟩) (fun q h => by cases h) dX12_widthOf_43
          · skip
            refine lv_iload_n hx hb dX12_widthOf_30 rfl (lv_at hl 0 rfl) ?_
            refine lv_bipush (v := 39) hx hb dX12_widthOf_31 (by decide) ?_
            refine bw_icmp_eq (tgt := 42) (a := x.toInt) (b := 39) hx hb dX12_widthOf_33 (by decide) rfl rfl (fun c_6 => ?_) (fun c_6 => ?_)
            · skip
              refine lv_iconst (v := 2) hx hb dX12_widthOf_42 (by decide) ?_
              refine bw_Qe hQ ?_
              have hpost : (2 : Int32) = nI (wdt x.toInt) := by
                first
                  | (unfold wdt; rw [if_pos (by omega)]; rfl)
                  | (unfold wdt; rw [if_neg (by omega), if_pos (by omega)]; rfl)
                  | (unfold wdt; rw [if_neg (by omega), if_neg (by omega), if_pos (by omega)]; rfl)
                  | (unfold wdt; rw [if_neg (by omega), if_neg (by omega), if_neg (by omega), if_pos (by omega)]; rfl)
                  | (unfold wdt; rw [if_neg (by omega), if_neg (by omega), if_neg (by omega), if_neg (by omega)]; rfl)
              exact W.iret (v := 2) hx hb hr (fun t9 ht hW => ⟨_, rfl, hpost, by rw [ht]⟩) (fun q h => by cases h) dX12_widthOf_43
            · skip
              refine lv_iload_n hx hb dX12_widthOf_36 rfl (lv_at hl 0 rfl) ?_
              refine lv_bipush (v := 33) hx hb dX12_widthOf_37 (by decide) ?_
              refine bw_icmp_ne (tgt := 44) (a := x.toInt) (b := 33) hx hb dX12_widthOf_39 (by decide) rfl rfl (fun c_7 => ?_) (fun c_7 => ?_)
              · skip
                refine lv_iload_n hx hb dX12_widthOf_44 rfl (lv_at hl 0 rfl) ?_
                refine lv_bipush (v := 109) hx hb dX12_widthOf_45 (by decide) ?_
                refine bw_icmp_eq (tgt := 68) (a := x.toInt) (b := 109) hx hb dX12_widthOf_47 (by decide) rfl rfl (fun c_8 => ?_) (fun c_8 => ?_)
                · skip
                  refine lv_bipush (v := 6) hx hb dX12_widthOf_68 (by decide) ?_
                  refine bw_Qe hQ ?_
                  have hpost : (6 : Int32) = nI (wdt x.toInt) := by
                    first
                      | (unfold wdt; rw [if_pos (by omega)]; rfl)
                      | (unfold wdt; rw [if_neg (by omega), if_pos (by omega)]; rfl)
                      | (unfold wdt; rw [if_neg (by omega), if_neg (by omega), if_pos (by omega)]; rfl)
                      | (unfold wdt; rw [if_neg (by omega), if_neg (by omega), if_neg (by omega), if_pos (by omega)]; rfl)
                      | (unfold wdt; rw [if_neg (by omega), if_neg (by omega), if_neg (by omega), if_neg (by omega)]; rfl)
                  exact W.iret (v := 6) hx hb hr (fun t9 ht hW => ⟨_, rfl, hpost, by rw [ht]⟩) (fun q h => by cases h) dX12_widthOf_70
                · skip
                  refine lv_iload_n hx hb dX12_widthOf_50 rfl (lv_at hl 0 rfl) ?_
                  refine lv_bipush (v := 119) hx hb dX12_widthOf_51 (by decide) ?_
                  refine bw_icmp_eq (tgt := 68) (a := x.toInt) (b := 119) hx hb dX12_widthOf_53 (by decide) rfl rfl (fun c_9 => ?_) (fun c_9 => ?_)
                  · skip
                    refine lv_bipush (v := 6) hx hb dX12_widthOf_68 (by decide) ?_
                    refine bw_Qe hQ ?_
                    have hpost : (6 : Int32) = nI (wdt x.toInt) := by
                      first
                        | (unfold wdt; rw [if_pos (by omega)]; rfl)
                        | (unfold wdt; rw [if_neg (by omega), if_pos (by omega)]; rfl)
                        | (unfold wdt; rw [if_neg (by omega), if_neg (by omega), if_pos (by omega)]; rfl)
                        | (unfold wdt; rw [if_neg (by omega), if_neg (by omega), if_neg (by omega), if_pos (by omega)]; rfl)
                        | (unfold wdt; rw [if_neg (by omega), if_neg (by omega), if_neg (by omega), if_neg (by omega)]; rfl)
                    exact W.iret (v := 6) hx hb hr (fun t9 ht hW => ⟨_, rfl, hpost, by rw [ht]⟩) (fun q h => by cases h) dX12_widthOf_70
                  · skip
                    refine lv_iload_n hx hb dX12_widthOf_56 rfl (lv_at hl 0 rfl) ?_
                    refine lv_bipush (v := 77) hx hb dX12_widthOf_57 (by decide) ?_
                    refine bw_icmp_eq (tgt := 68) (a := x.toInt) (b := 77) hx hb dX12_widthOf_59 (by decide) rfl rfl (fun c_10 => ?_) (fun c_10 => ?_)
                    · skip
                      refine lv_bipush (v := 6) hx hb dX12_widthOf_68 (by decide) ?_
                      refine bw_Qe hQ ?_
                      have hpost : (6 : Int32) = nI (wdt x.toInt) := by
                        first
                          | (unfold wdt; rw [if_pos (by omega)]; rfl)
                          | (unfold wdt; rw [if_neg (by omega), if_pos (by omega)]; rfl)
                          | (unfold wdt; rw [if_neg (by omega), if_neg (by omega), if_pos (by omega)]; rfl)
                          | (unfold wdt; rw [if_neg (by omega), if_neg (by omega), if_neg (by omega), if_pos (by omega)]; rfl)
                          | (unfold wdt; rw [if_neg (by omega), if_neg (by omega), if_neg (by omega), if_neg (by omega)]; rfl)
                      exact W.iret (v := 6) hx hb hr (fun t9 ht hW => ⟨_, rfl, hpost, by rw [ht]⟩) (fun q h => by cases h) dX12_widthOf_70
                    · skip
                      refine lv_iload_n hx hb dX12_widthOf_62 rfl (lv_at hl 0 rfl) ?_
                      refine lv_bipush (v := 87) hx hb dX12_widthOf_63 (by decide) ?_
                      refine bw_icmp_ne (tgt := 71) (a := x.toInt) (b := 87) hx hb dX12_widthOf_65 (by decide) rfl rfl (fun c_11 => ?_) (fun c_11 => ?_)
                      · skip
                        refine lv_iload_n hx hb dX12_widthOf_71 rfl (lv_at hl 0 rfl) ?_
                        refine vp_callSi (va_Run.run (va_runS (As := [.int x]) (rest := []) ⟨hx, hb, hml, hown, hts⟩ (c_X12_isSmall l dC dI cy x) (va_cwS 1 hts gX12_widthOf_X12_isSmall rfl rfl rfl (by decide +kernel) ⟨Nat.le_of_ble_eq_true rfl, Nat.le_of_ble_eq_true rfl⟩) ⟨fun a U g mk q => q, fun U hU hW => ⟨rfl, trivial⟩⟩ rfl rfl hl.1 rfl (lv_room (Nat.le_of_ble_eq_true rfl)) dX12_widthOf_72 ⟨Nat.le_of_ble_eq_true rfl, Nat.le_of_ble_eq_true rfl⟩)) (fun r_12 hr_12 => ?_)
                        refine bw_ifneB (tgt := 85) hx hb dX12_widthOf_75 (by decide) hr_12 (fun c_13 => ?_) (fun c_13 => ?_)
                        · skip
                          refine lv_iconst (v := 4) hx hb dX12_widthOf_85 (by decide) ?_
                          refine bw_Qe hQ ?_
                          have hpost : (4 : Int32) = nI (wdt x.toInt) := by
                            first
                              | (unfold wdt; rw [if_pos (by omega)]; rfl)
                              | (unfold wdt; rw [if_neg (by omega), if_pos (by omega)]; rfl)
                              | (unfold wdt; rw [if_neg (by omega), if_neg (by omega), if_pos (by omega)]; rfl)
                              | (unfold wdt; rw [if_neg (by omega), if_neg (by omega), if_neg (by omega), if_pos (by omega)]; rfl)
                              | (unfold wdt; rw [if_neg (by omega), if_neg (by omega), if_neg (by omega), if_neg (by omega)]; rfl)
                          exact W.iret (v := 4) hx hb hr (fun t9 ht hW => ⟨_, rfl, hpost, by rw [ht]⟩) (fun q h => by cases h) dX12_widthOf_86
                        · skip
                          refine lv_iload_n hx hb dX12_widthOf_78 rfl (lv_at hl 0 rfl) ?_
                          refine vp_callSi (va_Run.run (va_runS (As := [.int x]) (rest := []) ⟨hx, hb, hml, hown, hts⟩ (c_X12_isDigit l dC dI cy x) (va_cwS 1 hts gX12_widthOf_X12_isDigit rfl rfl rfl (by decide +kernel) ⟨Nat.le_of_ble_eq_true rfl, Nat.le_of_ble_eq_true rfl⟩) ⟨fun a U g mk q => q, fun U hU hW => ⟨rfl, trivial⟩⟩ rfl rfl hl.1 rfl (lv_room (Nat.le_of_ble_eq_true rfl)) dX12_widthOf_79 ⟨Nat.le_of_ble_eq_true rfl, Nat.le_of_ble_eq_true rfl⟩)) (fun r_14 hr_14 => ?_)
                          refine bw_ifeqB (tgt := 87) hx hb dX12_widthOf_82 (by decide) hr_14 (fun c_15 => ?_) (fun c_15 => ?_)
                          · skip
                            refine lv_iload_n hx hb dX12_widthOf_87 rfl (lv_at hl 0 rfl) ?_
                            refine lv_bipush (v := 65) hx hb dX12_widthOf_88 (by decide) ?_
                            refine bw_icmp_lt (tgt := 103) (a := x.toInt) (b := 65) hx hb dX12_widthOf_90 (by decide) rfl rfl (fun c_16 => ?_) (fun c_16 => ?_)
                            · skip
                              refine lv_iconst (v := 3) hx hb dX12_widthOf_103 (by decide) ?_
                              refine bw_Qe hQ ?_
                              have hpost : (3 : Int32) = nI (wdt x.toInt) := by
                                first
                                  | (unfold wdt; rw [if_pos (by omega)]; rfl)
                                  | (unfold wdt; rw [if_neg (by omega), if_pos (by omega)]; rfl)
                                  | (unfold wdt; rw [if_neg (by omega), if_neg (by omega), if_pos (by omega)]; rfl)
                                  | (unfold wdt; rw [if_neg (by omega), if_neg (by omega), if_neg (by omega), if_pos (by omega)]; rfl)
                                  | (unfold wdt; rw [if_neg (by omega), if_neg (by omega), if_neg (by omega), if_neg (by omega)]; rfl)
                              exact W.iret (v := 3) hx hb hr (fun t9 ht hW => ⟨_, rfl, hpost, by rw [ht]⟩) (fun q h => by cases h) dX12_widthOf_104
                            · skip
                              refine lv_iload_n hx hb dX12_widthOf_93 rfl (lv_at hl 0 rfl) ?_
                              refine lv_bipush (v := 90) hx hb dX12_widthOf_94 (by decide) ?_
                              refine bw_icmp_gt (tgt := 103) (a := x.toInt) (b := 90) hx hb dX12_widthOf_96 (by decide) rfl rfl (fun c_17 => ?_) (fun c_17 => ?_)
                              · skip
                                refine lv_iconst (v := 3) hx hb dX12_widthOf_103 (by decide) ?_
                                refine bw_Qe hQ ?_
                                have hpost : (3 : Int32) = nI (wdt x.toInt) := by
                                  first
                                    | (unfold wdt; rw [if_pos (by omega)]; rfl)
                                    | (unfold wdt; rw [if_neg (by omega), if_pos (by omega)]; rfl)
                                    | (unfold wdt; rw [if_neg (by omega), if_neg (by omega), if_pos (by omega)]; rfl)
                                    | (unfold wdt; rw [if_neg (by omega), if_neg (by omega), if_neg (by omega), if_pos (by omega)]; rfl)
                                    | (unfold wdt; rw [if_neg (by omega), if_neg (by omega), if_neg (by omega), if_neg (by omega)]; rfl)
                                exact W.iret (v := 3) hx hb hr (fun t9 ht hW => ⟨_, rfl, hpost, by rw [ht]⟩) (fun q h => by cases h) dX12_widthOf_104
                              · skip
                                refine lv_iconst (v := 5) hx hb dX12_widthOf_99 (by decide) ?_
                                refine lv_goto (tgt := 104) hx hb dX12_widthOf_100 (by decide) ?_
                                refine bw_Qe hQ ?_
                                have hpost : (5 : Int32) = nI (wdt x.toInt) := by
                                  first
                                    | (unfold wdt; rw [if_pos (by omega)]; rfl)
                                    | (unfold wdt; rw [if_neg (by omega), if_pos (by omega)]; rfl)
                                    | (unfold wdt; rw [if_neg (by omega), if_neg (by omega), if_pos (by omega)]; rfl)
                                    | (unfold wdt; rw [if_neg (by omega), if_neg (by omega), if_neg (by omega), if_pos (by omega)]; rfl)
                                    | (unfold wdt; rw [if_neg (by omega), if_neg (by omega), if_neg (by omega), if_neg (by omega)]; rfl)
                                exact W.iret (v := 5) hx hb hr (fun t9 ht hW => ⟨_, rfl, hpost, by rw [ht]⟩) (fun q h => by cases h) dX12_widthOf_104
                          · skip
                            refine lv_iconst (v := 4) hx hb dX12_widthOf_85 (by decide) ?_
                            refine bw_Qe hQ ?_
                            have hpost : (4 : Int32) = nI (wdt x.toInt) := by
                              first
                                | (unfold wdt; rw [if_pos (by omega)]; rfl)
                                | (unfold wdt; rw [if_neg (by omega), if_pos (by omega)]; rfl)
                                | (unfold wdt; rw [if_neg (by omega), if_neg (by omega), if_pos (by omega)]; rfl)
                                | (unfold wdt; rw [if_neg (by omega), if_neg (by omega), if_neg (by omega), if_pos (by omega)]; rfl)
                                | (unfold wdt; rw [if_neg (by omega), if_neg (by omega), if_neg (by omega), if_neg (by omega)]; rfl)
                            exact W.iret (v := 4) hx hb hr (fun t9 ht hW => ⟨_, rfl, hpost, by rw [ht]⟩) (fun q h => by cases h) dX12_widthOf_86
                      · skip
                        refine lv_bipush (v := 6) hx hb dX12_widthOf_68 (by decide) ?_
                        refine bw_Qe hQ ?_
                        have hpost : (6 : Int32) = nI (wdt x.toInt) := by
                          first
                            | (unfold wdt; rw [if_pos (by omega)]; rfl)
                            | (unfold wdt; rw [if_neg (by omega), if_pos (by omega)]; rfl)
                            | (unfold wdt; rw [if_neg (by omega), if_neg (by omega), if_pos (by omega)]; rfl)
                            | (unfold wdt; rw [if_neg (by omega), if_neg (by omega), if_neg (by omega), if_pos (by omega)]; rfl)
                            | (unfold wdt; rw [if_neg (by omega), if_neg (by omega), if_neg (by omega), if_neg (by omega)]; rfl)
                        exact W.iret (v := 6) hx hb hr (fun t9 ht hW => ⟨_, rfl, hpost, by rw [ht]⟩) (fun q h => by cases h) dX12_widthOf_70
              · skip
                refine lv_iconst (v := 2) hx hb dX12_widthOf_42 (by decide) ?_
                refine bw_Qe hQ ?_
                have hpost : (2 : Int32) = nI (wdt x.toInt) := by
                  first
                    | (unfold wdt; rw [if_pos (by omega)]; rfl)
                    | (unfold wdt; rw [if_neg (by omega), if_pos (by omega)]; rfl)
                    | (unfold wdt; rw [if_neg (by omega), if_neg (by omega), if_pos (by omega)]; rfl)
                    | (unfold wdt; rw [if_neg (by omega), if_neg (by omega), if_neg (by omega), if_pos (by omega)]; rfl)
                    | (unfold wdt; rw [if_neg (by omega), if_neg (by omega), if_neg (by omega), if_neg (by omega)]; rfl)
                exact W.iret (v := 2) hx hb hr (fun t9 ht hW => ⟨_, rfl, hpost, by rw [ht]⟩) (fun q h => by cases h) dX12_widthOf_43

set_option maxHeartbeats 4000000 in
set_option maxRecDepth 100000 in
theorem c_X12_takeWords (l : Launch) (dC : Nat → ClassId) (dI : Nat → Nat → Nat) (cy : Nat → ClassId) (am : Nat → Nat) (tn : Nat) (zsz : Nat) (zfr : Nat) (zbe : Nat) (zha : Int32) (zva : Int32) (fk : Int32) (fp : Int32) (sn : Nat) (pn : Nat) (qn : Nat) (zss : Int32) (zsy : Int32) (zpy : Int32) (zfs : Int32) (zls : Int32) (an : Nat) (zw : Nat) (tb : Nat → Int32) (zwd : Nat → Int32) (sz : Nat) (hby : byOK tb) (hsz : zsz ≤ 600) : Met l yX12_takeWords wsX12_takeWords ({ frames := 2, cells := 0, slots := 0, locals := 40 }) (va_Pc [.ref (am 0)] (fun U => U.heap.size = sz ∧ va_P (dC, dI) vwCl [(am 0, .inr (12, [.ref (am 1), .ref (am 2), .ref (am 3), .ref (am 4), .int (nI tn), .int (nI zsz), .int (nI zfr), .int (nI zbe), .int zha, .int zva, .int fk, .int fp, .ref (am 13), .int (nI sn), .ref (am 15), .ref (am 16), .ref (am 17), .ref (am 18), .ref (am 19), .int (nI pn), .int (nI qn), .ref (am 22), .ref (am 23), .ref (am 24), .ref (am 25), .ref (am 26), .ref (am 27), .ref (am 28), .ref (am 29), .ref (am 30), .ref (am 31), .ref (am 32), .ref (am 33), .ref (am 34), .int zss, .int zsy, .int zpy, .int zfs, .int zls, .int (nI an), .ref (am 41), .ref (am 42), .ref (am 43), .ref (am 44), .ref (am 45), .ref (am 46), .ref (am 47), .ref (am 48), .ref (am 49), .ref (am 50), .int (nI zw), .ref (am 52), .ref (am 53)])), (am 4, .inl (cy 3, 600, .inl (mTape tb))), (am 52, .inl (cy 0, 40, .inl zwd))] U.heap ∧ va_K (dC, dI) vwCl (tyL cy) U ∧ va_D (fun _ => True) [(am 0, .inr (12, [.ref (am 1), .ref (am 2), .ref (am 3), .ref (am 4), .int (nI tn), .int (nI zsz), .int (nI zfr), .int (nI zbe), .int zha, .int zva, .int fk, .int fp, .ref (am 13), .int (nI sn), .ref (am 15), .ref (am 16), .ref (am 17), .ref (am 18), .ref (am 19), .int (nI pn), .int (nI qn), .ref (am 22), .ref (am 23), .ref (am 24), .ref (am 25), .ref (am 26), .ref (am 27), .ref (am 28), .ref (am 29), .ref (am 30), .ref (am 31), .ref (am 32), .ref (am 33), .ref (am 34), .int zss, .int zsy, .int zpy, .int zfs, .int zls, .int (nI an), .ref (am 41), .ref (am 42), .ref (am 43), .ref (am 44), .ref (am 45), .ref (am 46), .ref (am 47), .ref (am 48), .ref (am 49), .ref (am 50), .int (nI zw), .ref (am 52), .ref (am 53)])), (am 4, .inl (cy 3, 600, .inl (mTape tb))), (am 52, .inl (cy 0, 40, .inl zwd))])) (va_Qi (S := Nat × (Nat → Int32)) (fun r => fun u => match u with | (zw2, zwd2) => wdP tb zsz r zw2 zwd2) (fun u => match u with | (zw2, zwd2) => fun t => va_P (dC, dI) vwCl [(am 0, .inr (12, [.ref (am 1), .ref (am 2), .ref (am 3), .ref (am 4), .int (nI tn), .int (nI zsz), .int (nI zfr), .int (nI zbe), .int zha, .int zva, .int fk, .int fp, .ref (am 13), .int (nI sn), .ref (am 15), .ref (am 16), .ref (am 17), .ref (am 18), .ref (am 19), .int (nI pn), .int (nI qn), .ref (am 22), .ref (am 23), .ref (am 24), .ref (am 25), .ref (am 26), .ref (am 27), .ref (am 28), .ref (am 29), .ref (am 30), .ref (am 31), .ref (am 32), .ref (am 33), .ref (am 34), .int zss, .int zsy, .int zpy, .int zfs, .int zls, .int (nI an), .ref (am 41), .ref (am 42), .ref (am 43), .ref (am 44), .ref (am 45), .ref (am 46), .ref (am 47), .ref (am 48), .ref (am 49), .ref (am 50), .int (nI zw2), .ref (am 52), .ref (am 53)])), (am 4, .inl (cy 3, 600, .inl (mTape tb))), (am 52, .inl (cy 0, 40, .inl zwd2))] t.heap ∧ va_K (dC, dI) vwCl (tyL cy) t ∧ va_D (va_A [(am 0, .inr (12, [.ref (am 1), .ref (am 2), .ref (am 3), .ref (am 4), .int (nI tn), .int (nI zsz), .int (nI zfr), .int (nI zbe), .int zha, .int zva, .int fk, .int fp, .ref (am 13), .int (nI sn), .ref (am 15), .ref (am 16), .ref (am 17), .ref (am 18), .ref (am 19), .int (nI pn), .int (nI qn), .ref (am 22), .ref (am 23), .ref (am 24), .ref (am 25), .ref (am 26), .ref (am 27), .ref (am 28), .ref (am 29), .ref (am 30), .ref (am 31), .ref (am 32), .ref (am 33), .ref (am 34), .int zss, .int zsy, .int zpy, .int zfs, .int zls, .int (nI an), .ref (am 41), .ref (am 42), .ref (am 43), .ref (am 44), .ref (am 45), .ref (am 46), .ref (am 47), .ref (am 48), .ref (am 49), .ref (am 50), .int (nI zw), .ref (am 52), .ref (am 53)])), (am 4, .inl (cy 3, 600, .inl (mTape tb))), (am 52, .inl (cy 0, 40, .inl zwd))] sz) [(am 0, .inr (12, [.ref (am 1), .ref (am 2), .ref (am 3), .ref (am 4), .int (nI tn), .int (nI zsz), .int (nI zfr), .int (nI zbe), .int zha, .int zva, .int fk, .int fp, .ref (am 13), .int (nI sn), .ref (am 15), .ref (am 16), .ref (am 17), .ref (am 18), .ref (am 19), .int (nI pn), .int (nI qn), .ref (am 22), .ref (am 23), .ref (am 24), .ref (am 25), .ref (am 26), .ref (am 27), .ref (am 28), .ref (am 29), .ref (am 30), .ref (am 31), .ref (am 32), .ref (am 33), .ref (am 34), .int zss, .int zsy, .int zpy, .int zfs, .int zls, .int (nI an), .ref (am 41), .ref (am 42), .ref (am 43), .ref (am 44), .ref (am 45), .ref (am 46), .ref (am 47), .ref (am 48), .ref (am 49), .ref (am 50), .int (nI zw2), .ref (am 52), .ref (am 53)])), (am 4, .inl (cy 3, 600, .inl (mTape tb))), (am 52, .inl (cy 0, 40, .inl zwd2))]) (va_A [(am 0, .inr (12, [.ref (am 1), .ref (am 2), .ref (am 3), .ref (am 4), .int (nI tn), .int (nI zsz), .int (nI zfr), .int (nI zbe), .int zha, .int zva, .int fk, .int fp, .ref (am 13), .int (nI sn), .ref (am 15), .ref (am 16), .ref (am 17), .ref (am 18), .ref (am 19), .int (nI pn), .int (nI qn), .ref (am 22), .ref (am 23), .ref (am 24), .ref (am 25), .ref (am 26), .ref (am 27), .ref (am 28), .ref (am 29), .ref (am 30), .ref (am 31), .ref (am 32), .ref (am 33), .ref (am 34), .int zss, .int zsy, .int zpy, .int zfs, .int zls, .int (nI an), .ref (am 41), .ref (am 42), .ref (am 43), .ref (am 44), .ref (am 45), .ref (am 46), .ref (am 47), .ref (am 48), .ref (am 49), .ref (am 50), .int (nI zw), .ref (am 52), .ref (am 53)])), (am 4, .inl (cy 3, 600, .inl (mTape tb))), (am 52, .inl (cy 0, 40, .inl zwd))] sz)) 0 0 (va_A [(am 0, .inr (12, [.ref (am 1), .ref (am 2), .ref (am 3), .ref (am 4), .int (nI tn), .int (nI zsz), .int (nI zfr), .int (nI zbe), .int zha, .int zva, .int fk, .int fp, .ref (am 13), .int (nI sn), .ref (am 15), .ref (am 16), .ref (am 17), .ref (am 18), .ref (am 19), .int (nI pn), .int (nI qn), .ref (am 22), .ref (am 23), .ref (am 24), .ref (am 25), .ref (am 26), .ref (am 27), .ref (am 28), .ref (am 29), .ref (am 30), .ref (am 31), .ref (am 32), .ref (am 33), .ref (am 34), .int zss, .int zsy, .int zpy, .int zfs, .int zls, .int (nI an), .ref (am 41), .ref (am 42), .ref (am 43), .ref (am 44), .ref (am 45), .ref (am 46), .ref (am 47), .ref (am 48), .ref (am 49), .ref (am 50), .int (nI zw), .ref (am 52), .ref (am 53)])), (am 4, .inl (cy 3, 600, .inl (mTape tb))), (am 52, .inl (cy 0, 40, .inl zwd))] sz) := by
  refine Met.ofW (cc := cX12_takeWords) (maxL := 4) (ret := (some .boolean)) (by decide) rfl ?_
  intro pp ee ss mm args below meth cc0 s₁ B hml hv
  obtain ⟨rfl, hsz, hP, hK, hD0⟩ := hv
  have hx := B.exec
  have hb := B.bytes
  have hr := B.returns
  have hts := atoms_spec (ws := wsX12_takeWords) B.pre
  have hown : ss.vm.findClass RX12 = some mm.cls := findClass_of_methodNamed B.named
  have hlocks := B.notSynchronized
  have hL0 := hts (.fieldLink RX12 321 "HereLivedModel" "words" "I") (by decide +kernel)
  have hL1 := hts (.fieldLink RX12 25 "HereLivedModel" "size" "I") (by decide +kernel)
  have hL2 := hts (.fieldLink RX12 209 "HereLivedModel" "wide" "[I") (by decide +kernel)
  have hiX12 : ∀ w ∈ wsX120, w ∈ wsX12_takeWords := by decide +kernel
  subst hsz
  have hD := hD0.self (sz := ss.heap.size)
  generalize hAe : va_A [(am 0, .inr (12, [.ref (am 1), .ref (am 2), .ref (am 3), .ref (am 4), .int (nI tn), .int (nI zsz), .int (nI zfr), .int (nI zbe), .int zha, .int zva, .int fk, .int fp, .ref (am 13), .int (nI sn), .ref (am 15), .ref (am 16), .ref (am 17), .ref (am 18), .ref (am 19), .int (nI pn), .int (nI qn), .ref (am 22), .ref (am 23), .ref (am 24), .ref (am 25), .ref (am 26), .ref (am 27), .ref (am 28), .ref (am 29), .ref (am 30), .ref (am 31), .ref (am 32), .ref (am 33), .ref (am 34), .int zss, .int zsy, .int zpy, .int zfs, .int zls, .int (nI an), .ref (am 41), .ref (am 42), .ref (am 43), .ref (am 44), .ref (am 45), .ref (am 46), .ref (am 47), .ref (am 48), .ref (am 49), .ref (am 50), .int (nI zw), .ref (am 52), .ref (am 53)])), (am 4, .inl (cy 3, 600, .inl (mTape tb))), (am 52, .inl (cy 0, 40, .inl zwd))] ss.heap.size = A at hD ⊢
  have hA : ∀ q : Nat, ss.heap.size ≤ q → A q := fun q h => by rw [← hAe]; exact Or.inr h
  have hS : va_S A ss.heap ss.heap [] := va_S.rf
  have hP : va_P (dC, dI) vwCl [(am 0, .inr (12, [.ref (am 1), .ref (am 2), .ref (am 3), .ref (am 4), .int (nI tn), .int (nI zsz), .int (nI zfr), .int (nI zbe), .int zha, .int zva, .int fk, .int fp, .ref (am 13), .int (nI sn), .ref (am 15), .ref (am 16), .ref (am 17), .ref (am 18), .ref (am 19), .int (nI pn), .int (nI qn), .ref (am 22), .ref (am 23), .ref (am 24), .ref (am 25), .ref (am 26), .ref (am 27), .ref (am 28), .ref (am 29), .ref (am 30), .ref (am 31), .ref (am 32), .ref (am 33), .ref (am 34), .int zss, .int zsy, .int zpy, .int zfs, .int zls, .int (nI an), .ref (am 41), .ref (am 42), .ref (am 43), .ref (am 44), .ref (am 45), .ref (am 46), .ref (am 47), .ref (am 48), .ref (am 49), .ref (am 50), .int (nI zw), .ref (am 52), .ref (am 53)])), (am 4, .inl (cy 3, 600, .inl (mTape tb))), (am 52, .inl (cy 0, 40, .inl zwd))] ss.heap := hP
  have hl := lv_entry ([.ref (am 0)]) (n := 4) (Nat.le_of_ble_eq_true rfl)
  rw [lg_entry_eq]
  generalize (lg_sl ([.ref (am 0)]) ++ List.replicate (4 - (lg_sl ([.ref (am 0)])).length) Slot.unset).toArray = ls at hl ⊢
  have hl : lv_has ls 4 [(0, .ref (am 0))] := hl
  refine bw_Q (fun Q hQ => ?_)
  refine bw_H0 (fun H locs eH eL => ?_)
  have hS : va_S A ss.heap H locs := by rw [eH, eL]; exact hS
  have hP : va_P (dC, dI) vwCl [(am 0, .inr (12, [.ref (am 1), .ref (am 2), .ref (am 3), .ref (am 4), .int (nI tn), .int (nI zsz), .int (nI zfr), .int (nI zbe), .int zha, .int zva, .int fk, .int fp, .ref (am 13), .int (nI sn), .ref (am 15), .ref (am 16), .ref (am 17), .ref (am 18), .ref (am 19), .int (nI pn), .int (nI qn), .ref (am 22), .ref (am 23), .ref (am 24), .ref (am 25), .ref (am 26), .ref (am 27), .ref (am 28), .ref (am 29), .ref (am 30), .ref (am 31), .ref (am 32), .ref (am 33), .ref (am 34), .int zss, .int zsy, .int zpy, .int zfs, .int zls, .int (nI an), .ref (am 41), .ref (am 42), .ref (am 43), .ref (am 44), .ref (am 45), .ref (am 46), .ref (am 47), .ref (am 48), .ref (am 49), .ref (am 50), .int (nI zw), .ref (am 52), .ref (am 53)])), (am 4, .inl (cy 3, 600, .inl (mTape tb))), (am 52, .inl (cy 0, 40, .inl zwd))] H := by rw [eH]; exact hP
  change W pp l ee { frames := 2, cells := 0, slots := 0, locals := 40 } ss mm _ below meth cc0 H locs 0 0 Q (F0 mm 0 ls [])
  refine lv_aload_n hx hb dX12_takeWords_0 rfl (lv_at hl 0 rfl) ?_
  refine lv_iconst (v := 0) hx hb dX12_takeWords_1 (by decide) ?_
  refine va_put (D := (dC, dI)) (ci := 12) (v := .int 0) (ty := (tyX12 50)) (C := RX12) (T := TX12) (N := 53) hx hb hts hiX12 tyX12 tyX12_ok nmX12 hown hK hP hD hS 0 rfl rfl 50 (by decide) hL0 (fun _ h9 => h9) rfl (by decide +kernel) rfl rfl (Nat.le_of_ble_eq_true rfl) dX12_takeWords_2 (fun H locs hP hD hS => ?_)
  have hP : va_P (dC, dI) vwCl [(am 0, .inr (12, [.ref (am 1), .ref (am 2), .ref (am 3), .ref (am 4), .int (nI tn), .int (nI zsz), .int (nI zfr), .int (nI zbe), .int zha, .int zva, .int fk, .int fp, .ref (am 13), .int (nI sn), .ref (am 15), .ref (am 16), .ref (am 17), .ref (am 18), .ref (am 19), .int (nI pn), .int (nI qn), .ref (am 22), .ref (am 23), .ref (am 24), .ref (am 25), .ref (am 26), .ref (am 27), .ref (am 28), .ref (am 29), .ref (am 30), .ref (am 31), .ref (am 32), .ref (am 33), .ref (am 34), .int zss, .int zsy, .int zpy, .int zfs, .int zls, .int (nI an), .ref (am 41), .ref (am 42), .ref (am 43), .ref (am 44), .ref (am 45), .ref (am 46), .ref (am 47), .ref (am 48), .ref (am 49), .ref (am 50), .int 0, .ref (am 52), .ref (am 53)])), (am 4, .inl (cy 3, 600, .inl (mTape tb))), (am 52, .inl (cy 0, 40, .inl zwd))] H := hP
  have hD : va_D A [(am 0, .inr (12, [.ref (am 1), .ref (am 2), .ref (am 3), .ref (am 4), .int (nI tn), .int (nI zsz), .int (nI zfr), .int (nI zbe), .int zha, .int zva, .int fk, .int fp, .ref (am 13), .int (nI sn), .ref (am 15), .ref (am 16), .ref (am 17), .ref (am 18), .ref (am 19), .int (nI pn), .int (nI qn), .ref (am 22), .ref (am 23), .ref (am 24), .ref (am 25), .ref (am 26), .ref (am 27), .ref (am 28), .ref (am 29), .ref (am 30), .ref (am 31), .ref (am 32), .ref (am 33), .ref (am 34), .int zss, .int zsy, .int zpy, .int zfs, .int zls, .int (nI an), .ref (am 41), .ref (am 42), .ref (am 43), .ref (am 44), .ref (am 45), .ref (am 46), .ref (am 47), .ref (am 48), .ref (am 49), .ref (am 50), .int 0, .ref (am 52), .ref (am 53)])), (am 4, .inl (cy 3, 600, .inl (mTape tb))), (am 52, .inl (cy 0, 40, .inl zwd))] := hD
  refine lv_iconst (v := 0) hx hb dX12_takeWords_5 (by decide) ?_
  refine lv_istore_n (lv' := [(1, .int 0), (0, .ref (am 0))]) hx hb dX12_takeWords_6 rfl hl (by decide) rfl (fun ls hl => ?_)
  refine lv_iconst (v := 0) hx hb dX12_takeWords_7 (by decide) ?_
  refine lv_istore_n (lv' := [(2, .int 0), (1, .int 0), (0, .ref (am 0))]) hx hb dX12_takeWords_8 rfl hl (by decide) rfl (fun ls hl => ?_)
  have L_9 : ∀ (n9 : Nat), ∀ (i : Nat) (b : Nat) (w : Nat) (f : Nat → Int32) (v : Nat → Nat), (zsz - i) < n9 → (i ≤ zsz) → (wdS tb i = some (b, w, v)) → (wR f w v) → ∀ (H : Heap) (locs : List Loc), va_P (dC, dI) vwCl [(am 0, .inr (12, [.ref (am 1), .ref (am 2), .ref (am 3), .ref (am 4), .int (nI tn), .int (nI zsz), .int (nI zfr), .int (nI zbe), .int zha, .int zva, .int fk, .int fp, .ref (am 13), .int (nI sn), .ref (am 15), .ref (am 16), .ref (am 17), .ref (am 18), .ref (am 19), .int (nI pn), .int (nI qn), .ref (am 22), .ref (am 23), .ref (am 24), .ref (am 25), .ref (am 26), .ref (am 27), .ref (am 28), .ref (am 29), .ref (am 30), .ref (am 31), .ref (am 32), .ref (am 33), .ref (am 34), .int zss, .int zsy, .int zpy, .int zfs, .int zls, .int (nI an), .ref (am 41), .ref (am 42), .ref (am 43), .ref (am 44), .ref (am 45), .ref (am 46), .ref (am 47), .ref (am 48), .ref (am 49), .ref (am 50), .int (nI w), .ref (am 52), .ref (am 53)])), (am 4, .inl (cy 3, 600, .inl (mTape tb))), (am 52, .inl (cy 0, 40, .inl f))] H → va_D A [(am 0, .inr (12, [.ref (am 1), .ref (am 2), .ref (am 3), .ref (am 4), .int (nI tn), .int (nI zsz), .int (nI zfr), .int (nI zbe), .int zha, .int zva, .int fk, .int fp, .ref (am 13), .int (nI sn), .ref (am 15), .ref (am 16), .ref (am 17), .ref (am 18), .ref (am 19), .int (nI pn), .int (nI qn), .ref (am 22), .ref (am 23), .ref (am 24), .ref (am 25), .ref (am 26), .ref (am 27), .ref (am 28), .ref (am 29), .ref (am 30), .ref (am 31), .ref (am 32), .ref (am 33), .ref (am 34), .int zss, .int zsy, .int zpy, .int zfs, .int zls, .int (nI an), .ref (am 41), .ref (am 42), .ref (am 43), .ref (am 44), .ref (am 45), .ref (am 46), .ref (am 47), .ref (am 48), .ref (am 49), .ref (am 50), .int (nI w), .ref (am 52), .ref (am 53)])), (am 4, .inl (cy 3, 600, .inl (mTape tb))), (am 52, .inl (cy 0, 40, .inl f))] → va_S A ss.heap H locs → ∀ (ls : Array Slot), lv_has ls 4 [(0, .ref (am 0)), (1, .int (nI b)), (2, .int (nI i))] → W pp l ee { frames := 2, cells := 0, slots := 0, locals := 40 } ss mm (List.toArray [Value.ref (am 0)]) below meth cc0 H locs 0 0 Q (F0 mm 9 ls []) := by
    intro n9
    induction n9 with
    | zero => intro i b w f v hm9; exact absurd hm9 (Nat.not_lt_zero _)
    | succ n9 ih9 =>
      intro i b w f v hm9 hi hW hwR
      intro H locs hP hD hS
      intro ls hl
      obtain ⟨wb1, wb2, wb3, wb4⟩ := ws_b i b w v hW
      have hwc := wdt_b (tb i).toInt
      refine lv_iload_n hx hb dX12_takeWords_9 rfl (lv_at hl 2 rfl) ?_
      refine lv_aload_n hx hb dX12_takeWords_10 rfl (lv_at hl 0 rfl) ?_
      refine va_get (D := (dC, dI)) (ci := 12) (v := .int (nI zsz)) (C := RX12) (T := TX12) (N := 53) hx hb hts hiX12 hown hK hP 0 rfl rfl 5 (by decide) hL1 (fun _ h9 => h9) rfl dX12_takeWords_11 ?_
      refine bw_icmp_ge (tgt := 124) (a := ((i : Nat) : Int)) (b := ((zsz : Nat) : Int)) hx hb dX12_takeWords_14 (by decide) (nI_toInt (by omega)) (nI_toInt (by omega)) (fun c_1 => ?_) (fun c_1 => ?_)
      · skip
        refine lv_aload_n hx hb dX12_takeWords_124 rfl (lv_at hl 0 rfl) ?_
        refine va_get (D := (dC, dI)) (ci := 12) (v := .int (nI w)) (C := RX12) (T := TX12) (N := 53) hx hb hts hiX12 hown hK hP 0 rfl rfl 50 (by decide) hL0 (fun _ h9 => h9) rfl dX12_takeWords_125 ?_
        refine bw_if_le (tgt := 135) (a := ((w : Nat) : Int)) hx hb dX12_takeWords_128 (by decide) (nI_toInt (by omega)) (fun c_2 => ?_) (fun c_2 => ?_)
        · skip
          refine lv_iconst (v := 0) hx hb dX12_takeWords_135 (by decide) ?_
          refine bw_Qe hQ ?_
          have hP9 : va_P (dC, dI) vwCl [(am 0, .inr (12, [.ref (am 1), .ref (am 2), .ref (am 3), .ref (am 4), .int (nI tn), .int (nI zsz), .int (nI zfr), .int (nI zbe), .int zha, .int zva, .int fk, .int fp, .ref (am 13), .int (nI sn), .ref (am 15), .ref (am 16), .ref (am 17), .ref (am 18), .ref (am 19), .int (nI pn), .int (nI qn), .ref (am 22), .ref (am 23), .ref (am 24), .ref (am 25), .ref (am 26), .ref (am 27), .ref (am 28), .ref (am 29), .ref (am 30), .ref (am 31), .ref (am 32), .ref (am 33), .ref (am 34), .int zss, .int zsy, .int zpy, .int zfs, .int zls, .int (nI an), .ref (am 41), .ref (am 42), .ref (am 43), .ref (am 44), .ref (am 45), .ref (am 46), .ref (am 47), .ref (am 48), .ref (am 49), .ref (am 50), .int (nI w), .ref (am 52), .ref (am 53)])), (am 4, .inl (cy 3, 600, .inl (mTape tb))), (am 52, .inl (cy 0, 40, .inl f))] H := hP.sub [0, 1, 2] rfl
          have hD9 : va_D A [(am 0, .inr (12, [.ref (am 1), .ref (am 2), .ref (am 3), .ref (am 4), .int (nI tn), .int (nI zsz), .int (nI zfr), .int (nI zbe), .int zha, .int zva, .int fk, .int fp, .ref (am 13), .int (nI sn), .ref (am 15), .ref (am 16), .ref (am 17), .ref (am 18), .ref (am 19), .int (nI pn), .int (nI qn), .ref (am 22), .ref (am 23), .ref (am 24), .ref (am 25), .ref (am 26), .ref (am 27), .ref (am 28), .ref (am 29), .ref (am 30), .ref (am 31), .ref (am 32), .ref (am 33), .ref (am 34), .int zss, .int zsy, .int zpy, .int zfs, .int zls, .int (nI an), .ref (am 41), .ref (am 42), .ref (am 43), .ref (am 44), .ref (am 45), .ref (am 46), .ref (am 47), .ref (am 48), .ref (am 49), .ref (am 50), .int (nI w), .ref (am 52), .ref (am 53)])), (am 4, .inl (cy 3, 600, .inl (mTape tb))), (am 52, .inl (cy 0, 40, .inl f))] := hD.sub [0, 1, 2] (by decide) rfl
          have hpost : wdP tb zsz (0 : Int32) w f := by
            have e9 : i = zsz := by omega
            rw [e9] at hW
            first
              | exact Or.inl ⟨b, v, hW, hwR, (pI_t (by omega)).symm⟩
              | exact Or.inl ⟨b, v, hW, hwR, (pI_f (by omega)).symm⟩
          exact W.zret (v := 0) hx hb hr (by rfl) (fun t9 ht hW => ⟨⟨0, (w, f), rfl, hpost, by rw [ht]; exact hP9, va_K.moved hW.alike hK, hD9⟩, hS.F ht⟩) hS.2.2 dX12_takeWords_136
        · skip
          refine lv_iconst (v := 1) hx hb dX12_takeWords_131 (by decide) ?_
          refine lv_goto (tgt := 136) hx hb dX12_takeWords_132 (by decide) ?_
          refine bw_Qe hQ ?_
          have hP9 : va_P (dC, dI) vwCl [(am 0, .inr (12, [.ref (am 1), .ref (am 2), .ref (am 3), .ref (am 4), .int (nI tn), .int (nI zsz), .int (nI zfr), .int (nI zbe), .int zha, .int zva, .int fk, .int fp, .ref (am 13), .int (nI sn), .ref (am 15), .ref (am 16), .ref (am 17), .ref (am 18), .ref (am 19), .int (nI pn), .int (nI qn), .ref (am 22), .ref (am 23), .ref (am 24), .ref (am 25), .ref (am 26), .ref (am 27), .ref (am 28), .ref (am 29), .ref (am 30), .ref (am 31), .ref (am 32), .ref (am 33), .ref (am 34), .int zss, .int zsy, .int zpy, .int zfs, .int zls, .int (nI an), .ref (am 41), .ref (am 42), .ref (am 43), .ref (am 44), .ref (am 45), .ref (am 46), .ref (am 47), .ref (am 48), .ref (am 49), .ref (am 50), .int (nI w), .ref (am 52), .ref (am 53)])), (am 4, .inl (cy 3, 600, .inl (mTape tb))), (am 52, .inl (cy 0, 40, .inl f))] H := hP.sub [0, 1, 2] rfl
          have hD9 : va_D A [(am 0, .inr (12, [.ref (am 1), .ref (am 2), .ref (am 3), .ref (am 4), .int (nI tn), .int (nI zsz), .int (nI zfr), .int (nI zbe), .int zha, .int zva, .int fk, .int fp, .ref (am 13), .int (nI sn), .ref (am 15), .ref (am 16), .ref (am 17), .ref (am 18), .ref (am 19), .int (nI pn), .int (nI qn), .ref (am 22), .ref (am 23), .ref (am 24), .ref (am 25), .ref (am 26), .ref (am 27), .ref (am 28), .ref (am 29), .ref (am 30), .ref (am 31), .ref (am 32), .ref (am 33), .ref (am 34), .int zss, .int zsy, .int zpy, .int zfs, .int zls, .int (nI an), .ref (am 41), .ref (am 42), .ref (am 43), .ref (am 44), .ref (am 45), .ref (am 46), .ref (am 47), .ref (am 48), .ref (am 49), .ref (am 50), .int (nI w), .ref (am 52), .ref (am 53)])), (am 4, .inl (cy 3, 600, .inl (mTape tb))), (am 52, .inl (cy 0, 40, .inl f))] := hD.sub [0, 1, 2] (by decide) rfl
          have hpost : wdP tb zsz (1 : Int32) w f := by
            have e9 : i = zsz := by omega
            rw [e9] at hW
            first
              | exact Or.inl ⟨b, v, hW, hwR, (pI_t (by omega)).symm⟩
              | exact Or.inl ⟨b, v, hW, hwR, (pI_f (by omega)).symm⟩
          exact W.zret (v := 1) hx hb hr (by rfl) (fun t9 ht hW => ⟨⟨1, (w, f), rfl, hpost, by rw [ht]; exact hP9, va_K.moved hW.alike hK, hD9⟩, hS.F ht⟩) hS.2.2 dX12_takeWords_136
      · skip
        refine lv_aload_n hx hb dX12_takeWords_17 rfl (lv_at hl 0 rfl) ?_
        refine lv_iload_n hx hb dX12_takeWords_18 rfl (lv_at hl 2 rfl) ?_
        have hPc : va_P (dC, dI) vwCl [(am 0, .inr (12, [.ref (am 1), .ref (am 2), .ref (am 3), .ref (am 4), .int (nI tn), .int (nI zsz), .int (nI zfr), .int (nI zbe), .int zha, .int zva, .int fk, .int fp, .ref (am 13), .int (nI sn), .ref (am 15), .ref (am 16), .ref (am 17), .ref (am 18), .ref (am 19), .int (nI pn), .int (nI qn), .ref (am 22), .ref (am 23), .ref (am 24), .ref (am 25), .ref (am 26), .ref (am 27), .ref (am 28), .ref (am 29), .ref (am 30), .ref (am 31), .ref (am 32), .ref (am 33), .ref (am 34), .int zss, .int zsy, .int zpy, .int zfs, .int zls, .int (nI an), .ref (am 41), .ref (am 42), .ref (am 43), .ref (am 44), .ref (am 45), .ref (am 46), .ref (am 47), .ref (am 48), .ref (am 49), .ref (am 50), .int (nI w), .ref (am 52), .ref (am 53)])), (am 4, .inl (cy 3, 600, .inl (mTape tb)))] H := hP.sub [0, 1] rfl
        refine vp_callSi (va_Run.run (va_runV (As := [.int (nI i)]) (rest := []) ⟨hx, hb, hml, hown, hts⟩ (c_X12_byteAt l dC dI cy am tn zsz zfr zbe zha zva fk fp sn pn qn zss zsy zpy zfs zls an w tb i (by first | assumption | omega) (by first | assumption | omega) (by first | assumption | omega)) (cwV 1 hts gX12_takeWords_X12_byteAt rfl rfl rfl (by decide +kernel) ⟨Nat.le_of_ble_eq_true rfl, Nat.le_of_ble_eq_true rfl⟩) ⟨fun a U g mk q => by obtain ⟨q0, qP, qK⟩ := q; exact ⟨q0, qP, va_K.moved (u := U) (U := U.calling g mk a) (Vm.Alike.refl U.vm) qK⟩, va_recv hK hPc (ci := 12) (q0 := 0) rfl rfl, fun U hU hW => ⟨rfl, by rw [hU]; exact hPc, va_K.moved hW.alike hK⟩⟩ rfl rfl hl.1 rfl (lv_room (Nat.le_of_ble_eq_true rfl)) dX12_takeWords_19 ⟨Nat.le_of_ble_eq_true rfl, Nat.le_of_ble_eq_true rfl⟩)) (fun r_3 hr_3 => ?_)
        rw [hr_3]
        refine bw_re (show (bAt tb zsz i) = tb i from bAt_in (by omega)) ?_
        refine lv_istore_n (lv' := [(3, .int (tb i)), (0, .ref (am 0)), (1, .int (nI b)), (2, .int (nI i))]) hx hb dX12_takeWords_22 rfl hl (by decide) rfl (fun ls hl => ?_)
        refine lv_iload_n hx hb dX12_takeWords_23 rfl (lv_at hl 0 rfl) ?_
        refine lv_bipush (v := 32) hx hb dX12_takeWords_24 (by decide) ?_
        refine bw_icmp_eq (tgt := 35) (a := (tb i).toInt) (b := 32) hx hb dX12_takeWords_26 (by decide) rfl rfl (fun c_4 => ?_) (fun c_4 => ?_)
        · skip
          refine lv_iconst (v := 0) hx hb dX12_takeWords_35 (by decide) ?_
          refine lv_istore_n (lv' := [(1, .int 0), (3, .int (tb i)), (0, .ref (am 0)), (2, .int (nI i))]) hx hb dX12_takeWords_36 rfl hl (by decide) rfl (fun ls hl => ?_)
          refine lv_goto (tgt := 118) hx hb dX12_takeWords_37 (by decide) ?_
          refine lv_iinc (v := nI (i + 1)) (lv' := [(2, .int (nI (i + 1))), (1, .int 0), (3, .int (tb i)), (0, .ref (am 0))]) hx hb dX12_takeWords_118 hl (k := 3) rfl (show nI i + Int32.ofInt 1 = nI (i + 1) from nI_add i 1) (by decide) rfl (fun ls hl => ?_)
          refine lv_goto (tgt := 9) hx hb dX12_takeWords_121 (by decide) ?_
          have hI_hW : wdS tb (i + 1) = some (0, w, v) := by
            first
              | exact ws_bl hW (by unfold wBl; omega)
              | (have q := ws_ok hW (fun q => by unfold wBl at q; omega) (fun q => by unfold wBad at q; omega)
                 first
                   | (rw [if_pos (by omega)] at q; exact q)
                   | (rw [if_neg (by omega)] at q; exact q))
          have hI_hwR : wR f w v := by
            first
              | exact wR_s hwR (by omega)
              | exact wR_0 hwR (by omega)
              | exact hwR
          exact ih9 (i + 1) 0 w f v (by omega) (by first | assumption | omega) hI_hW hI_hwR H locs hP hD hS ls (lv_sub hl [3, 1, 0] rfl)
        · skip
          refine lv_iload_n hx hb dX12_takeWords_29 rfl (lv_at hl 0 rfl) ?_
          refine lv_bipush (v := 10) hx hb dX12_takeWords_30 (by decide) ?_
          refine bw_icmp_ne (tgt := 40) (a := (tb i).toInt) (b := 10) hx hb dX12_takeWords_32 (by decide) rfl rfl (fun c_5 => ?_) (fun c_5 => ?_)
          · skip
            refine lv_iload_n hx hb dX12_takeWords_40 rfl (lv_at hl 0 rfl) ?_
            refine lv_bipush (v := 33) hx hb dX12_takeWords_41 (by decide) ?_
            refine bw_icmp_lt (tgt := 71) (a := (tb i).toInt) (b := 33) hx hb dX12_takeWords_43 (by decide) rfl rfl (fun c_6 => ?_) (fun c_6 => ?_)
            · skip
              refine lv_iconst (v := 0) hx hb dX12_takeWords_71 (by decide) ?_
              refine bw_Qe hQ ?_
              have hP9 : va_P (dC, dI) vwCl [(am 0, .inr (12, [.ref (am 1), .ref (am 2), .ref (am 3), .ref (am 4), .int (nI tn), .int (nI zsz), .int (nI zfr), .int (nI zbe), .int zha, .int zva, .int fk, .int fp, .ref (am 13), .int (nI sn), .ref (am 15), .ref (am 16), .ref (am 17), .ref (am 18), .ref (am 19), .int (nI pn), .int (nI qn), .ref (am 22), .ref (am 23), .ref (am 24), .ref (am 25), .ref (am 26), .ref (am 27), .ref (am 28), .ref (am 29), .ref (am 30), .ref (am 31), .ref (am 32), .ref (am 33), .ref (am 34), .int zss, .int zsy, .int zpy, .int zfs, .int zls, .int (nI an), .ref (am 41), .ref (am 42), .ref (am 43), .ref (am 44), .ref (am 45), .ref (am 46), .ref (am 47), .ref (am 48), .ref (am 49), .ref (am 50), .int (nI w), .ref (am 52), .ref (am 53)])), (am 4, .inl (cy 3, 600, .inl (mTape tb))), (am 52, .inl (cy 0, 40, .inl f))] H := hP.sub [0, 1, 2] rfl
              have hD9 : va_D A [(am 0, .inr (12, [.ref (am 1), .ref (am 2), .ref (am 3), .ref (am 4), .int (nI tn), .int (nI zsz), .int (nI zfr), .int (nI zbe), .int zha, .int zva, .int fk, .int fp, .ref (am 13), .int (nI sn), .ref (am 15), .ref (am 16), .ref (am 17), .ref (am 18), .ref (am 19), .int (nI pn), .int (nI qn), .ref (am 22), .ref (am 23), .ref (am 24), .ref (am 25), .ref (am 26), .ref (am 27), .ref (am 28), .ref (am 29), .ref (am 30), .ref (am 31), .ref (am 32), .ref (am 33), .ref (am 34), .int zss, .int zsy, .int zpy, .int zfs, .int zls, .int (nI an), .ref (am 41), .ref (am 42), .ref (am 43), .ref (am 44), .ref (am 45), .ref (am 46), .ref (am 47), .ref (am 48), .ref (am 49), .ref (am 50), .int (nI w), .ref (am 52), .ref (am 53)])), (am 4, .inl (cy 3, 600, .inl (mTape tb))), (am 52, .inl (cy 0, 40, .inl f))] := hD.sub [0, 1, 2] (by decide) rfl
              have hpost : wdP tb zsz (0 : Int32) w f := by
                exact Or.inr ⟨ws_no hW (fun q => by unfold wBl at q; omega) (by unfold wBad; omega) (by omega), rfl⟩
              exact W.zret (v := 0) hx hb hr (by rfl) (fun t9 ht hW => ⟨⟨0, (w, f), rfl, hpost, by rw [ht]; exact hP9, va_K.moved hW.alike hK, hD9⟩, hS.F ht⟩) hS.2.2 dX12_takeWords_72
            · skip
              refine lv_iload_n hx hb dX12_takeWords_46 rfl (lv_at hl 0 rfl) ?_
              refine lv_bipush (v := 126) hx hb dX12_takeWords_47 (by decide) ?_
              refine bw_icmp_gt (tgt := 71) (a := (tb i).toInt) (b := 126) hx hb dX12_takeWords_49 (by decide) rfl rfl (fun c_7 => ?_) (fun c_7 => ?_)
              · skip
                refine lv_iconst (v := 0) hx hb dX12_takeWords_71 (by decide) ?_
                refine bw_Qe hQ ?_
                have hP9 : va_P (dC, dI) vwCl [(am 0, .inr (12, [.ref (am 1), .ref (am 2), .ref (am 3), .ref (am 4), .int (nI tn), .int (nI zsz), .int (nI zfr), .int (nI zbe), .int zha, .int zva, .int fk, .int fp, .ref (am 13), .int (nI sn), .ref (am 15), .ref (am 16), .ref (am 17), .ref (am 18), .ref (am 19), .int (nI pn), .int (nI qn), .ref (am 22), .ref (am 23), .ref (am 24), .ref (am 25), .ref (am 26), .ref (am 27), .ref (am 28), .ref (am 29), .ref (am 30), .ref (am 31), .ref (am 32), .ref (am 33), .ref (am 34), .int zss, .int zsy, .int zpy, .int zfs, .int zls, .int (nI an), .ref (am 41), .ref (am 42), .ref (am 43), .ref (am 44), .ref (am 45), .ref (am 46), .ref (am 47), .ref (am 48), .ref (am 49), .ref (am 50), .int (nI w), .ref (am 52), .ref (am 53)])), (am 4, .inl (cy 3, 600, .inl (mTape tb))), (am 52, .inl (cy 0, 40, .inl f))] H := hP.sub [0, 1, 2] rfl
                have hD9 : va_D A [(am 0, .inr (12, [.ref (am 1), .ref (am 2), .ref (am 3), .ref (am 4), .int (nI tn), .int (nI zsz), .int (nI zfr), .int (nI zbe), .int zha, .int zva, .int fk, .int fp, .ref (am 13), .int (nI sn), .ref (am 15), .ref (am 16), .ref (am 17), .ref (am 18), .ref (am 19), .int (nI pn), .int (nI qn), .ref (am 22), .ref (am 23), .ref (am 24), .ref (am 25), .ref (am 26), .ref (am 27), .ref (am 28), .ref (am 29), .ref (am 30), .ref (am 31), .ref (am 32), .ref (am 33), .ref (am 34), .int zss, .int zsy, .int zpy, .int zfs, .int zls, .int (nI an), .ref (am 41), .ref (am 42), .ref (am 43), .ref (am 44), .ref (am 45), .ref (am 46), .ref (am 47), .ref (am 48), .ref (am 49), .ref (am 50), .int (nI w), .ref (am 52), .ref (am 53)])), (am 4, .inl (cy 3, 600, .inl (mTape tb))), (am 52, .inl (cy 0, 40, .inl f))] := hD.sub [0, 1, 2] (by decide) rfl
                have hpost : wdP tb zsz (0 : Int32) w f := by
                  exact Or.inr ⟨ws_no hW (fun q => by unfold wBl at q; omega) (by unfold wBad; omega) (by omega), rfl⟩
                exact W.zret (v := 0) hx hb hr (by rfl) (fun t9 ht hW => ⟨⟨0, (w, f), rfl, hpost, by rw [ht]; exact hP9, va_K.moved hW.alike hK, hD9⟩, hS.F ht⟩) hS.2.2 dX12_takeWords_72
              · skip
                refine lv_iload_n hx hb dX12_takeWords_52 rfl (lv_at hl 2 rfl) ?_
                refine lv_bipush (v := 24) hx hb dX12_takeWords_53 (by decide) ?_
                refine bw_icmp_eq (tgt := 71) (a := ((b : Nat) : Int)) (b := 24) hx hb dX12_takeWords_55 (by decide) (nI_toInt (by omega)) rfl (fun c_8 => ?_) (fun c_8 => ?_)
                · skip
                  refine lv_iconst (v := 0) hx hb dX12_takeWords_71 (by decide) ?_
                  refine bw_Qe hQ ?_
                  have hP9 : va_P (dC, dI) vwCl [(am 0, .inr (12, [.ref (am 1), .ref (am 2), .ref (am 3), .ref (am 4), .int (nI tn), .int (nI zsz), .int (nI zfr), .int (nI zbe), .int zha, .int zva, .int fk, .int fp, .ref (am 13), .int (nI sn), .ref (am 15), .ref (am 16), .ref (am 17), .ref (am 18), .ref (am 19), .int (nI pn), .int (nI qn), .ref (am 22), .ref (am 23), .ref (am 24), .ref (am 25), .ref (am 26), .ref (am 27), .ref (am 28), .ref (am 29), .ref (am 30), .ref (am 31), .ref (am 32), .ref (am 33), .ref (am 34), .int zss, .int zsy, .int zpy, .int zfs, .int zls, .int (nI an), .ref (am 41), .ref (am 42), .ref (am 43), .ref (am 44), .ref (am 45), .ref (am 46), .ref (am 47), .ref (am 48), .ref (am 49), .ref (am 50), .int (nI w), .ref (am 52), .ref (am 53)])), (am 4, .inl (cy 3, 600, .inl (mTape tb))), (am 52, .inl (cy 0, 40, .inl f))] H := hP.sub [0, 1, 2] rfl
                  have hD9 : va_D A [(am 0, .inr (12, [.ref (am 1), .ref (am 2), .ref (am 3), .ref (am 4), .int (nI tn), .int (nI zsz), .int (nI zfr), .int (nI zbe), .int zha, .int zva, .int fk, .int fp, .ref (am 13), .int (nI sn), .ref (am 15), .ref (am 16), .ref (am 17), .ref (am 18), .ref (am 19), .int (nI pn), .int (nI qn), .ref (am 22), .ref (am 23), .ref (am 24), .ref (am 25), .ref (am 26), .ref (am 27), .ref (am 28), .ref (am 29), .ref (am 30), .ref (am 31), .ref (am 32), .ref (am 33), .ref (am 34), .int zss, .int zsy, .int zpy, .int zfs, .int zls, .int (nI an), .ref (am 41), .ref (am 42), .ref (am 43), .ref (am 44), .ref (am 45), .ref (am 46), .ref (am 47), .ref (am 48), .ref (am 49), .ref (am 50), .int (nI w), .ref (am 52), .ref (am 53)])), (am 4, .inl (cy 3, 600, .inl (mTape tb))), (am 52, .inl (cy 0, 40, .inl f))] := hD.sub [0, 1, 2] (by decide) rfl
                  have hpost : wdP tb zsz (0 : Int32) w f := by
                    exact Or.inr ⟨ws_no hW (fun q => by unfold wBl at q; omega) (by unfold wBad; omega) (by omega), rfl⟩
                  exact W.zret (v := 0) hx hb hr (by rfl) (fun t9 ht hW => ⟨⟨0, (w, f), rfl, hpost, by rw [ht]; exact hP9, va_K.moved hW.alike hK, hD9⟩, hS.F ht⟩) hS.2.2 dX12_takeWords_72
                · skip
                  refine lv_iload_n hx hb dX12_takeWords_58 rfl (lv_at hl 2 rfl) ?_
                  refine bw_if_ne (tgt := 73) (a := ((b : Nat) : Int)) hx hb dX12_takeWords_59 (by decide) (nI_toInt (by omega)) (fun c_9 => ?_) (fun c_9 => ?_)
                  · skip
                    refine lv_iload_n hx hb dX12_takeWords_73 rfl (lv_at hl 2 rfl) ?_
                    refine bw_if_ne (tgt := 97) (a := ((b : Nat) : Int)) hx hb dX12_takeWords_74 (by decide) (nI_toInt (by omega)) (fun c_10 => ?_) (fun c_10 => ?_)
                    · skip
                      refine lv_aload_n hx hb dX12_takeWords_97 rfl (lv_at hl 1 rfl) ?_
                      refine va_get (D := (dC, dI)) (ci := 12) (v := .ref (am 52)) (C := RX12) (T := TX12) (N := 53) hx hb hts hiX12 hown hK hP 0 rfl rfl 51 (by decide) hL2 (fun _ h9 => h9) rfl dX12_takeWords_98 ?_
                      refine lv_aload_n hx hb dX12_takeWords_101 rfl (lv_at hl 1 rfl) ?_
                      refine va_get (D := (dC, dI)) (ci := 12) (v := .int (nI w)) (C := RX12) (T := TX12) (N := 53) hx hb hts hiX12 hown hK hP 0 rfl rfl 50 (by decide) hL0 (fun _ h9 => h9) rfl dX12_takeWords_102 ?_
                      refine lv_iconst (v := 1) hx hb dX12_takeWords_105 (by decide) ?_
                      refine lv_isub hx hb dX12_takeWords_106 ?_
                      refine bw_re (show (nI w) - 1 = nI (w - 1) from pk_sub (a := w) (b := 1) (by omega)) ?_
                      refine lv_dup2_11 hx hb dX12_takeWords_107 rfl rfl ?_
                      refine bw_iald hx hb hK hP 2 0 rfl rfl (j := (w - 1)) (nI_toInt (by omega)) (by omega) dX12_takeWords_108 ?_
                      refine bw_re (show f (w - 1) = nI (v (w - 1)) from hwR _ (by omega)) ?_
                      refine lv_iload_n hx hb dX12_takeWords_109 rfl (lv_at hl 0 rfl) ?_
                      refine vp_callSi (va_Run.run (va_runS (As := [.int (tb i)]) (rest := [.int (nI (v (w - 1))), .int (nI (w - 1)), .ref (am 52)]) ⟨hx, hb, hml, hown, hts⟩ (c_X12_widthOf l dC dI cy (tb i)) (va_cwS 1 hts gX12_takeWords_X12_widthOf rfl rfl rfl (by decide +kernel) ⟨Nat.le_of_ble_eq_true rfl, Nat.le_of_ble_eq_true rfl⟩) ⟨fun a U g mk q => q, fun U hU hW => ⟨rfl, trivial⟩⟩ rfl rfl hl.1 rfl (lv_room (Nat.le_of_ble_eq_true rfl)) dX12_takeWords_110 ⟨Nat.le_of_ble_eq_true rfl, Nat.le_of_ble_eq_true rfl⟩)) (fun r_11 hr_11 => ?_)
                      rw [hr_11]
                      refine lv_iadd hx hb dX12_takeWords_113 ?_
                      refine bw_re (show (nI (v (w - 1))) + (nI (wdt (tb i).toInt)) = nI (v (w - 1) + (wdt (tb i).toInt)) from nI_add (v (w - 1)) (wdt (tb i).toInt)) ?_
                      refine bw_iast hx hb hK hP hD hS 2 0 rfl rfl (j := (w - 1)) (nI_toInt (by omega)) (by omega) dX12_takeWords_114 (fun H locs hP hD hS => ?_)
                      have hP : va_P (dC, dI) vwCl [(am 0, .inr (12, [.ref (am 1), .ref (am 2), .ref (am 3), .ref (am 4), .int (nI tn), .int (nI zsz), .int (nI zfr), .int (nI zbe), .int zha, .int zva, .int fk, .int fp, .ref (am 13), .int (nI sn), .ref (am 15), .ref (am 16), .ref (am 17), .ref (am 18), .ref (am 19), .int (nI pn), .int (nI qn), .ref (am 22), .ref (am 23), .ref (am 24), .ref (am 25), .ref (am 26), .ref (am 27), .ref (am 28), .ref (am 29), .ref (am 30), .ref (am 31), .ref (am 32), .ref (am 33), .ref (am 34), .int zss, .int zsy, .int zpy, .int zfs, .int zls, .int (nI an), .ref (am 41), .ref (am 42), .ref (am 43), .ref (am 44), .ref (am 45), .ref (am 46), .ref (am 47), .ref (am 48), .ref (am 49), .ref (am 50), .int (nI w), .ref (am 52), .ref (am 53)])), (am 4, .inl (cy 3, 600, .inl (mTape tb))), (am 52, .inl (cy 0, 40, .inl (upd f (w - 1) (nI (v (w - 1) + (wdt (tb i).toInt))))))] H := hP
                      have hD : va_D A [(am 0, .inr (12, [.ref (am 1), .ref (am 2), .ref (am 3), .ref (am 4), .int (nI tn), .int (nI zsz), .int (nI zfr), .int (nI zbe), .int zha, .int zva, .int fk, .int fp, .ref (am 13), .int (nI sn), .ref (am 15), .ref (am 16), .ref (am 17), .ref (am 18), .ref (am 19), .int (nI pn), .int (nI qn), .ref (am 22), .ref (am 23), .ref (am 24), .ref (am 25), .ref (am 26), .ref (am 27), .ref (am 28), .ref (am 29), .ref (am 30), .ref (am 31), .ref (am 32), .ref (am 33), .ref (am 34), .int zss, .int zsy, .int zpy, .int zfs, .int zls, .int (nI an), .ref (am 41), .ref (am 42), .ref (am 43), .ref (am 44), .ref (am 45), .ref (am 46), .ref (am 47), .ref (am 48), .ref (am 49), .ref (am 50), .int (nI w), .ref (am 52), .ref (am 53)])), (am 4, .inl (cy 3, 600, .inl (mTape tb))), (am 52, .inl (cy 0, 40, .inl (upd f (w - 1) (nI (v (w - 1) + (wdt (tb i).toInt))))))] := hD
                      refine lv_iinc (v := nI (b + 1)) (lv' := [(1, .int (nI (b + 1))), (3, .int (tb i)), (0, .ref (am 0)), (2, .int (nI i))]) hx hb dX12_takeWords_115 hl (k := 2) rfl (show nI b + Int32.ofInt 1 = nI (b + 1) from nI_add b 1) (by decide) rfl (fun ls hl => ?_)
                      refine lv_iinc (v := nI (i + 1)) (lv' := [(2, .int (nI (i + 1))), (1, .int (nI (b + 1))), (3, .int (tb i)), (0, .ref (am 0))]) hx hb dX12_takeWords_118 hl (k := 3) rfl (show nI i + Int32.ofInt 1 = nI (i + 1) from nI_add i 1) (by decide) rfl (fun ls hl => ?_)
                      refine lv_goto (tgt := 9) hx hb dX12_takeWords_121 (by decide) ?_
                      have hI_hW : wdS tb (i + 1) = some ((b + 1), w, (wAdd v b w (wdt (tb i).toInt))) := by
                        first
                          | exact ws_bl hW (by unfold wBl; omega)
                          | (have q := ws_ok hW (fun q => by unfold wBl at q; omega) (fun q => by unfold wBad at q; omega)
                             first
                               | (rw [if_pos (by omega)] at q; exact q)
                               | (rw [if_neg (by omega)] at q; exact q))
                      have hI_hwR : wR (upd f (w - 1) (nI (v (w - 1) + (wdt (tb i).toInt)))) w (wAdd v b w (wdt (tb i).toInt)) := by
                        first
                          | exact wR_s hwR (by omega)
                          | exact wR_0 hwR (by omega)
                          | exact hwR
                      exact ih9 (i + 1) (b + 1) w (upd f (w - 1) (nI (v (w - 1) + (wdt (tb i).toInt)))) (wAdd v b w (wdt (tb i).toInt)) (by omega) (by first | assumption | omega) hI_hW hI_hwR H locs hP hD hS ls (lv_sub hl [3, 1, 0] rfl)
                    · skip
                      refine lv_aload_n hx hb dX12_takeWords_77 rfl (lv_at hl 1 rfl) ?_
                      refine va_get (D := (dC, dI)) (ci := 12) (v := .ref (am 52)) (C := RX12) (T := TX12) (N := 53) hx hb hts hiX12 hown hK hP 0 rfl rfl 51 (by decide) hL2 (fun _ h9 => h9) rfl dX12_takeWords_78 ?_
                      refine lv_aload_n hx hb dX12_takeWords_81 rfl (lv_at hl 1 rfl) ?_
                      refine va_get (D := (dC, dI)) (ci := 12) (v := .int (nI w)) (C := RX12) (T := TX12) (N := 53) hx hb hts hiX12 hown hK hP 0 rfl rfl 50 (by decide) hL0 (fun _ h9 => h9) rfl dX12_takeWords_82 ?_
                      refine lv_iconst (v := 0) hx hb dX12_takeWords_85 (by decide) ?_
                      refine bw_iast hx hb hK hP hD hS 2 0 rfl rfl (j := w) (nI_toInt (by omega)) (by omega) dX12_takeWords_86 (fun H locs hP hD hS => ?_)
                      have hP : va_P (dC, dI) vwCl [(am 0, .inr (12, [.ref (am 1), .ref (am 2), .ref (am 3), .ref (am 4), .int (nI tn), .int (nI zsz), .int (nI zfr), .int (nI zbe), .int zha, .int zva, .int fk, .int fp, .ref (am 13), .int (nI sn), .ref (am 15), .ref (am 16), .ref (am 17), .ref (am 18), .ref (am 19), .int (nI pn), .int (nI qn), .ref (am 22), .ref (am 23), .ref (am 24), .ref (am 25), .ref (am 26), .ref (am 27), .ref (am 28), .ref (am 29), .ref (am 30), .ref (am 31), .ref (am 32), .ref (am 33), .ref (am 34), .int zss, .int zsy, .int zpy, .int zfs, .int zls, .int (nI an), .ref (am 41), .ref (am 42), .ref (am 43), .ref (am 44), .ref (am 45), .ref (am 46), .ref (am 47), .ref (am 48), .ref (am 49), .ref (am 50), .int (nI w), .ref (am 52), .ref (am 53)])), (am 4, .inl (cy 3, 600, .inl (mTape tb))), (am 52, .inl (cy 0, 40, .inl (upd f w 0)))] H := hP
                      have hD : va_D A [(am 0, .inr (12, [.ref (am 1), .ref (am 2), .ref (am 3), .ref (am 4), .int (nI tn), .int (nI zsz), .int (nI zfr), .int (nI zbe), .int zha, .int zva, .int fk, .int fp, .ref (am 13), .int (nI sn), .ref (am 15), .ref (am 16), .ref (am 17), .ref (am 18), .ref (am 19), .int (nI pn), .int (nI qn), .ref (am 22), .ref (am 23), .ref (am 24), .ref (am 25), .ref (am 26), .ref (am 27), .ref (am 28), .ref (am 29), .ref (am 30), .ref (am 31), .ref (am 32), .ref (am 33), .ref (am 34), .int zss, .int zsy, .int zpy, .int zfs, .int zls, .int (nI an), .ref (am 41), .ref (am 42), .ref (am 43), .ref (am 44), .ref (am 45), .ref (am 46), .ref (am 47), .ref (am 48), .ref (am 49), .ref (am 50), .int (nI w), .ref (am 52), .ref (am 53)])), (am 4, .inl (cy 3, 600, .inl (mTape tb))), (am 52, .inl (cy 0, 40, .inl (upd f w 0)))] := hD
                      refine lv_aload_n hx hb dX12_takeWords_87 rfl (lv_at hl 1 rfl) ?_
                      refine lv_dup hx hb dX12_takeWords_88 rfl ?_
                      refine va_get (D := (dC, dI)) (ci := 12) (v := .int (nI w)) (C := RX12) (T := TX12) (N := 53) hx hb hts hiX12 hown hK hP 0 rfl rfl 50 (by decide) hL0 (fun _ h9 => h9) rfl dX12_takeWords_89 ?_
                      refine lv_iconst (v := 1) hx hb dX12_takeWords_92 (by decide) ?_
                      refine lv_iadd hx hb dX12_takeWords_93 ?_
                      refine bw_re (show (nI w) + 1 = nI (w + 1) from nI_add (w) (1)) ?_
                      refine va_put (D := (dC, dI)) (ci := 12) (v := .int (nI (w + 1))) (ty := (tyX12 50)) (C := RX12) (T := TX12) (N := 53) hx hb hts hiX12 tyX12 tyX12_ok nmX12 hown hK hP hD hS 0 rfl rfl 50 (by decide) hL0 (fun _ h9 => h9) rfl (by decide +kernel) rfl rfl (Nat.le_of_ble_eq_true rfl) dX12_takeWords_94 (fun H locs hP hD hS => ?_)
                      have hP : va_P (dC, dI) vwCl [(am 0, .inr (12, [.ref (am 1), .ref (am 2), .ref (am 3), .ref (am 4), .int (nI tn), .int (nI zsz), .int (nI zfr), .int (nI zbe), .int zha, .int zva, .int fk, .int fp, .ref (am 13), .int (nI sn), .ref (am 15), .ref (am 16), .ref (am 17), .ref (am 18), .ref (am 19), .int (nI pn), .int (nI qn), .ref (am 22), .ref (am 23), .ref (am 24), .ref (am 25), .ref (am 26), .ref (am 27), .ref (am 28), .ref (am 29), .ref (am 30), .ref (am 31), .ref (am 32), .ref (am 33), .ref (am 34), .int zss, .int zsy, .int zpy, .int zfs, .int zls, .int (nI an), .ref (am 41), .ref (am 42), .ref (am 43), .ref (am 44), .ref (am 45), .ref (am 46), .ref (am 47), .ref (am 48), .ref (am 49), .ref (am 50), .int (nI (w + 1)), .ref (am 52), .ref (am 53)])), (am 4, .inl (cy 3, 600, .inl (mTape tb))), (am 52, .inl (cy 0, 40, .inl (upd f w 0)))] H := hP
                      have hD : va_D A [(am 0, .inr (12, [.ref (am 1), .ref (am 2), .ref (am 3), .ref (am 4), .int (nI tn), .int (nI zsz), .int (nI zfr), .int (nI zbe), .int zha, .int zva, .int fk, .int fp, .ref (am 13), .int (nI sn), .ref (am 15), .ref (am 16), .ref (am 17), .ref (am 18), .ref (am 19), .int (nI pn), .int (nI qn), .ref (am 22), .ref (am 23), .ref (am 24), .ref (am 25), .ref (am 26), .ref (am 27), .ref (am 28), .ref (am 29), .ref (am 30), .ref (am 31), .ref (am 32), .ref (am 33), .ref (am 34), .int zss, .int zsy, .int zpy, .int zfs, .int zls, .int (nI an), .ref (am 41), .ref (am 42), .ref (am 43), .ref (am 44), .ref (am 45), .ref (am 46), .ref (am 47), .ref (am 48), .ref (am 49), .ref (am 50), .int (nI (w + 1)), .ref (am 52), .ref (am 53)])), (am 4, .inl (cy 3, 600, .inl (mTape tb))), (am 52, .inl (cy 0, 40, .inl (upd f w 0)))] := hD
                      refine lv_aload_n hx hb dX12_takeWords_97 rfl (lv_at hl 1 rfl) ?_
                      refine va_get (D := (dC, dI)) (ci := 12) (v := .ref (am 52)) (C := RX12) (T := TX12) (N := 53) hx hb hts hiX12 hown hK hP 0 rfl rfl 51 (by decide) hL2 (fun _ h9 => h9) rfl dX12_takeWords_98 ?_
                      refine lv_aload_n hx hb dX12_takeWords_101 rfl (lv_at hl 1 rfl) ?_
                      refine va_get (D := (dC, dI)) (ci := 12) (v := .int (nI (w + 1))) (C := RX12) (T := TX12) (N := 53) hx hb hts hiX12 hown hK hP 0 rfl rfl 50 (by decide) hL0 (fun _ h9 => h9) rfl dX12_takeWords_102 ?_
                      refine lv_iconst (v := 1) hx hb dX12_takeWords_105 (by decide) ?_
                      refine lv_isub hx hb dX12_takeWords_106 ?_
                      refine bw_re (show (nI (w + 1)) - 1 = nI ((w + 1) - 1) from pk_sub (a := w + 1) (b := 1) (by omega)) ?_
                      refine lv_dup2_11 hx hb dX12_takeWords_107 rfl rfl ?_
                      refine bw_iald hx hb hK hP 2 0 rfl rfl (j := ((w + 1) - 1)) (nI_toInt (by omega)) (by omega) dX12_takeWords_108 ?_
                      refine bw_re (show (upd f w 0) ((w + 1) - 1) = nI 0 from (by rw [show w + 1 - 1 = w by omega]; exact pk_us)) ?_
                      refine lv_iload_n hx hb dX12_takeWords_109 rfl (lv_at hl 0 rfl) ?_
                      refine vp_callSi (va_Run.run (va_runS (As := [.int (tb i)]) (rest := [.int (nI 0), .int (nI ((w + 1) - 1)), .ref (am 52)]) ⟨hx, hb, hml, hown, hts⟩ (c_X12_widthOf l dC dI cy (tb i)) (va_cwS 1 hts gX12_takeWords_X12_widthOf rfl rfl rfl (by decide +kernel) ⟨Nat.le_of_ble_eq_true rfl, Nat.le_of_ble_eq_true rfl⟩) ⟨fun a U g mk q => q, fun U hU hW => ⟨rfl, trivial⟩⟩ rfl rfl hl.1 rfl (lv_room (Nat.le_of_ble_eq_true rfl)) dX12_takeWords_110 ⟨Nat.le_of_ble_eq_true rfl, Nat.le_of_ble_eq_true rfl⟩)) (fun r_12 hr_12 => ?_)
                      rw [hr_12]
                      refine lv_iadd hx hb dX12_takeWords_113 ?_
                      refine bw_re (show (nI 0) + (nI (wdt (tb i).toInt)) = nI (0 + (wdt (tb i).toInt)) from nI_add (0) (wdt (tb i).toInt)) ?_
                      refine bw_iast hx hb hK hP hD hS 2 0 rfl rfl (j := ((w + 1) - 1)) (nI_toInt (by omega)) (by omega) dX12_takeWords_114 (fun H locs hP hD hS => ?_)
                      have hP : va_P (dC, dI) vwCl [(am 0, .inr (12, [.ref (am 1), .ref (am 2), .ref (am 3), .ref (am 4), .int (nI tn), .int (nI zsz), .int (nI zfr), .int (nI zbe), .int zha, .int zva, .int fk, .int fp, .ref (am 13), .int (nI sn), .ref (am 15), .ref (am 16), .ref (am 17), .ref (am 18), .ref (am 19), .int (nI pn), .int (nI qn), .ref (am 22), .ref (am 23), .ref (am 24), .ref (am 25), .ref (am 26), .ref (am 27), .ref (am 28), .ref (am 29), .ref (am 30), .ref (am 31), .ref (am 32), .ref (am 33), .ref (am 34), .int zss, .int zsy, .int zpy, .int zfs, .int zls, .int (nI an), .ref (am 41), .ref (am 42), .ref (am 43), .ref (am 44), .ref (am 45), .ref (am 46), .ref (am 47), .ref (am 48), .ref (am 49), .ref (am 50), .int (nI (w + 1)), .ref (am 52), .ref (am 53)])), (am 4, .inl (cy 3, 600, .inl (mTape tb))), (am 52, .inl (cy 0, 40, .inl (upd (upd f w 0) ((w + 1) - 1) (nI (0 + (wdt (tb i).toInt))))))] H := hP
                      have hD : va_D A [(am 0, .inr (12, [.ref (am 1), .ref (am 2), .ref (am 3), .ref (am 4), .int (nI tn), .int (nI zsz), .int (nI zfr), .int (nI zbe), .int zha, .int zva, .int fk, .int fp, .ref (am 13), .int (nI sn), .ref (am 15), .ref (am 16), .ref (am 17), .ref (am 18), .ref (am 19), .int (nI pn), .int (nI qn), .ref (am 22), .ref (am 23), .ref (am 24), .ref (am 25), .ref (am 26), .ref (am 27), .ref (am 28), .ref (am 29), .ref (am 30), .ref (am 31), .ref (am 32), .ref (am 33), .ref (am 34), .int zss, .int zsy, .int zpy, .int zfs, .int zls, .int (nI an), .ref (am 41), .ref (am 42), .ref (am 43), .ref (am 44), .ref (am 45), .ref (am 46), .ref (am 47), .ref (am 48), .ref (am 49), .ref (am 50), .int (nI (w + 1)), .ref (am 52), .ref (am 53)])), (am 4, .inl (cy 3, 600, .inl (mTape tb))), (am 52, .inl (cy 0, 40, .inl (upd (upd f w 0) ((w + 1) - 1) (nI (0 + (wdt (tb i).toInt))))))] := hD
                      refine lv_iinc (v := nI (b + 1)) (lv' := [(1, .int (nI (b + 1))), (3, .int (tb i)), (0, .ref (am 0)), (2, .int (nI i))]) hx hb dX12_takeWords_115 hl (k := 2) rfl (show nI b + Int32.ofInt 1 = nI (b + 1) from nI_add b 1) (by decide) rfl (fun ls hl => ?_)
                      refine lv_iinc (v := nI (i + 1)) (lv' := [(2, .int (nI (i + 1))), (1, .int (nI (b + 1))), (3, .int (tb i)), (0, .ref (am 0))]) hx hb dX12_takeWords_118 hl (k := 3) rfl (show nI i + Int32.ofInt 1 = nI (i + 1) from nI_add i 1) (by decide) rfl (fun ls hl => ?_)
                      refine lv_goto (tgt := 9) hx hb dX12_takeWords_121 (by decide) ?_
                      have hI_hW : wdS tb (i + 1) = some ((b + 1), (w + 1), (wAdd v b w (wdt (tb i).toInt))) := by
                        first
                          | exact ws_bl hW (by unfold wBl; omega)
                          | (have q := ws_ok hW (fun q => by unfold wBl at q; omega) (fun q => by unfold wBad at q; omega)
                             first
                               | (rw [if_pos (by omega)] at q; exact q)
                               | (rw [if_neg (by omega)] at q; exact q))
                      have hI_hwR : wR (upd (upd f w 0) ((w + 1) - 1) (nI (0 + (wdt (tb i).toInt)))) (w + 1) (wAdd v b w (wdt (tb i).toInt)) := by
                        first
                          | exact wR_s hwR (by omega)
                          | exact wR_0 hwR (by omega)
                          | exact hwR
                      exact ih9 (i + 1) (b + 1) (w + 1) (upd (upd f w 0) ((w + 1) - 1) (nI (0 + (wdt (tb i).toInt)))) (wAdd v b w (wdt (tb i).toInt)) (by omega) (by first | assumption | omega) hI_hW hI_hwR H locs hP hD hS ls (lv_sub hl [3, 1, 0] rfl)
                  · skip
                    refine lv_aload_n hx hb dX12_takeWords_62 rfl (lv_at hl 1 rfl) ?_
                    refine va_get (D := (dC, dI)) (ci := 12) (v := .int (nI w)) (C := RX12) (T := TX12) (N := 53) hx hb hts hiX12 hown hK hP 0 rfl rfl 50 (by decide) hL0 (fun _ h9 => h9) rfl dX12_takeWords_63 ?_
                    refine lv_bipush (v := 40) hx hb dX12_takeWords_66 (by decide) ?_
                    refine bw_icmp_ne (tgt := 73) (a := ((w : Nat) : Int)) (b := 40) hx hb dX12_takeWords_68 (by decide) (nI_toInt (by omega)) rfl (fun c_13 => ?_) (fun c_13 => ?_)
                    · skip
                      refine lv_iload_n hx hb dX12_takeWords_73 rfl (lv_at hl 2 rfl) ?_
                      refine bw_if_ne (tgt := 97) (a := ((b : Nat) : Int)) hx hb dX12_takeWords_74 (by decide) (nI_toInt (by omega)) (fun c_14 => ?_) (fun c_14 => ?_)
                      · skip
                        refine lv_aload_n hx hb dX12_takeWords_97 rfl (lv_at hl 1 rfl) ?_
                        refine va_get (D := (dC, dI)) (ci := 12) (v := .ref (am 52)) (C := RX12) (T := TX12) (N := 53) hx hb hts hiX12 hown hK hP 0 rfl rfl 51 (by decide) hL2 (fun _ h9 => h9) rfl dX12_takeWords_98 ?_
                        refine lv_aload_n hx hb dX12_takeWords_101 rfl (lv_at hl 1 rfl) ?_
                        refine va_get (D := (dC, dI)) (ci := 12) (v := .int (nI w)) (C := RX12) (T := TX12) (N := 53) hx hb hts hiX12 hown hK hP 0 rfl rfl 50 (by decide) hL0 (fun _ h9 => h9) rfl dX12_takeWords_102 ?_
                        refine lv_iconst (v := 1) hx hb dX12_takeWords_105 (by decide) ?_
                        refine lv_isub hx hb dX12_takeWords_106 ?_
                        refine bw_re (show (nI w) - 1 = nI (w - 1) from pk_sub (a := w) (b := 1) (by omega)) ?_
                        refine lv_dup2_11 hx hb dX12_takeWords_107 rfl rfl ?_
                        refine bw_iald hx hb hK hP 2 0 rfl rfl (j := (w - 1)) (nI_toInt (by omega)) (by omega) dX12_takeWords_108 ?_
                        refine bw_re (show f (w - 1) = nI (v (w - 1)) from hwR _ (by omega)) ?_
                        refine lv_iload_n hx hb dX12_takeWords_109 rfl (lv_at hl 0 rfl) ?_
                        refine vp_callSi (va_Run.run (va_runS (As := [.int (tb i)]) (rest := [.int (nI (v (w - 1))), .int (nI (w - 1)), .ref (am 52)]) ⟨hx, hb, hml, hown, hts⟩ (c_X12_widthOf l dC dI cy (tb i)) (va_cwS 1 hts gX12_takeWords_X12_widthOf rfl rfl rfl (by decide +kernel) ⟨Nat.le_of_ble_eq_true rfl, Nat.le_of_ble_eq_true rfl⟩) ⟨fun a U g mk q => q, fun U hU hW => ⟨rfl, trivial⟩⟩ rfl rfl hl.1 rfl (lv_room (Nat.le_of_ble_eq_true rfl)) dX12_takeWords_110 ⟨Nat.le_of_ble_eq_true rfl, Nat.le_of_ble_eq_true rfl⟩)) (fun r_15 hr_15 => ?_)
                        rw [hr_15]
                        refine lv_iadd hx hb dX12_takeWords_113 ?_
                        refine bw_re (show (nI (v (w - 1))) + (nI (wdt (tb i).toInt)) = nI (v (w - 1) + (wdt (tb i).toInt)) from nI_add (v (w - 1)) (wdt (tb i).toInt)) ?_
                        refine bw_iast hx hb hK hP hD hS 2 0 rfl rfl (j := (w - 1)) (nI_toInt (by omega)) (by omega) dX12_takeWords_114 (fun H locs hP hD hS => ?_)
                        have hP : va_P (dC, dI) vwCl [(am 0, .inr (12, [.ref (am 1), .ref (am 2), .ref (am 3), .ref (am 4), .int (nI tn), .int (nI zsz), .int (nI zfr), .int (nI zbe), .int zha, .int zva, .int fk, .int fp, .ref (am 13), .int (nI sn), .ref (am 15), .ref (am 16), .ref (am 17), .ref (am 18), .ref (am 19), .int (nI pn), .int (nI qn), .ref (am 22), .ref (am 23), .ref (am 24), .ref (am 25), .ref (am 26), .ref (am 27), .ref (am 28), .ref (am 29), .ref (am 30), .ref (am 31), .ref (am 32), .ref (am 33), .ref (am 34), .int zss, .int zsy, .int zpy, .int zfs, .int zls, .int (nI an), .ref (am 41), .ref (am 42), .ref (am 43), .ref (am 44), .ref (am 45), .ref (am 46), .ref (am 47), .ref (am 48), .ref (am 49), .ref (am 50), .int (nI w), .ref (am 52), .ref (am 53)])), (am 4, .inl (cy 3, 600, .inl (mTape tb))), (am 52, .inl (cy 0, 40, .inl (upd f (w - 1) (nI (v (w - 1) + (wdt (tb i).toInt))))))] H := hP
                        have hD : va_D A [(am 0, .inr (12, [.ref (am 1), .ref (am 2), .ref (am 3), .ref (am 4), .int (nI tn), .int (nI zsz), .int (nI zfr), .int (nI zbe), .int zha, .int zva, .int fk, .int fp, .ref (am 13), .int (nI sn), .ref (am 15), .ref (am 16), .ref (am 17), .ref (am 18), .ref (am 19), .int (nI pn), .int (nI qn), .ref (am 22), .ref (am 23), .ref (am 24), .ref (am 25), .ref (am 26), .ref (am 27), .ref (am 28), .ref (am 29), .ref (am 30), .ref (am 31), .ref (am 32), .ref (am 33), .ref (am 34), .int zss, .int zsy, .int zpy, .int zfs, .int zls, .int (nI an), .ref (am 41), .ref (am 42), .ref (am 43), .ref (am 44), .ref (am 45), .ref (am 46), .ref (am 47), .ref (am 48), .ref (am 49), .ref (am 50), .int (nI w), .ref (am 52), .ref (am 53)])), (am 4, .inl (cy 3, 600, .inl (mTape tb))), (am 52, .inl (cy 0, 40, .inl (upd f (w - 1) (nI (v (w - 1) + (wdt (tb i).toInt))))))] := hD
                        refine lv_iinc (v := nI (b + 1)) (lv' := [(1, .int (nI (b + 1))), (3, .int (tb i)), (0, .ref (am 0)), (2, .int (nI i))]) hx hb dX12_takeWords_115 hl (k := 2) rfl (show nI b + Int32.ofInt 1 = nI (b + 1) from nI_add b 1) (by decide) rfl (fun ls hl => ?_)
                        refine lv_iinc (v := nI (i + 1)) (lv' := [(2, .int (nI (i + 1))), (1, .int (nI (b + 1))), (3, .int (tb i)), (0, .ref (am 0))]) hx hb dX12_takeWords_118 hl (k := 3) rfl (show nI i + Int32.ofInt 1 = nI (i + 1) from nI_add i 1) (by decide) rfl (fun ls hl => ?_)
                        refine lv_goto (tgt := 9) hx hb dX12_takeWords_121 (by decide) ?_
                        have hI_hW : wdS tb (i + 1) = some ((b + 1), w, (wAdd v b w (wdt (tb i).toInt))) := by
                          first
                            | exact ws_bl hW (by unfold wBl; omega)
                            | (have q := ws_ok hW (fun q => by unfold wBl at q; omega) (fun q => by unfold wBad at q; omega)
                               first
                                 | (rw [if_pos (by omega)] at q; exact q)
                                 | (rw [if_neg (by omega)] at q; exact q))
                        have hI_hwR : wR (upd f (w - 1) (nI (v (w - 1) + (wdt (tb i).toInt)))) w (wAdd v b w (wdt (tb i).toInt)) := by
                          first
                            | exact wR_s hwR (by omega)
                            | exact wR_0 hwR (by omega)
                            | exact hwR
                        exact ih9 (i + 1) (b + 1) w (upd f (w - 1) (nI (v (w - 1) + (wdt (tb i).toInt)))) (wAdd v b w (wdt (tb i).toInt)) (by omega) (by first | assumption | omega) hI_hW hI_hwR H locs hP hD hS ls (lv_sub hl [3, 1, 0] rfl)
                      · skip
                        refine lv_aload_n hx hb dX12_takeWords_77 rfl (lv_at hl 1 rfl) ?_
                        refine va_get (D := (dC, dI)) (ci := 12) (v := .ref (am 52)) (C := RX12) (T := TX12) (N := 53) hx hb hts hiX12 hown hK hP 0 rfl rfl 51 (by decide) hL2 (fun _ h9 => h9) rfl dX12_takeWords_78 ?_
                        refine lv_aload_n hx hb dX12_takeWords_81 rfl (lv_at hl 1 rfl) ?_
                        refine va_get (D := (dC, dI)) (ci := 12) (v := .int (nI w)) (C := RX12) (T := TX12) (N := 53) hx hb hts hiX12 hown hK hP 0 rfl rfl 50 (by decide) hL0 (fun _ h9 => h9) rfl dX12_takeWords_82 ?_
                        refine lv_iconst (v := 0) hx hb dX12_takeWords_85 (by decide) ?_
                        refine bw_iast hx hb hK hP hD hS 2 0 rfl rfl (j := w) (nI_toInt (by omega)) (by omega) dX12_takeWords_86 (fun H locs hP hD hS => ?_)
                        have hP : va_P (dC, dI) vwCl [(am 0, .inr (12, [.ref (am 1), .ref (am 2), .ref (am 3), .ref (am 4), .int (nI tn), .int (nI zsz), .int (nI zfr), .int (nI zbe), .int zha, .int zva, .int fk, .int fp, .ref (am 13), .int (nI sn), .ref (am 15), .ref (am 16), .ref (am 17), .ref (am 18), .ref (am 19), .int (nI pn), .int (nI qn), .ref (am 22), .ref (am 23), .ref (am 24), .ref (am 25), .ref (am 26), .ref (am 27), .ref (am 28), .ref (am 29), .ref (am 30), .ref (am 31), .ref (am 32), .ref (am 33), .ref (am 34), .int zss, .int zsy, .int zpy, .int zfs, .int zls, .int (nI an), .ref (am 41), .ref (am 42), .ref (am 43), .ref (am 44), .ref (am 45), .ref (am 46), .ref (am 47), .ref (am 48), .ref (am 49), .ref (am 50), .int (nI w), .ref (am 52), .ref (am 53)])), (am 4, .inl (cy 3, 600, .inl (mTape tb))), (am 52, .inl (cy 0, 40, .inl (upd f w 0)))] H := hP
                        have hD : va_D A [(am 0, .inr (12, [.ref (am 1), .ref (am 2), .ref (am 3), .ref (am 4), .int (nI tn), .int (nI zsz), .int (nI zfr), .int (nI zbe), .int zha, .int zva, .int fk, .int fp, .ref (am 13), .int (nI sn), .ref (am 15), .ref (am 16), .ref (am 17), .ref (am 18), .ref (am 19), .int (nI pn), .int (nI qn), .ref (am 22), .ref (am 23), .ref (am 24), .ref (am 25), .ref (am 26), .ref (am 27), .ref (am 28), .ref (am 29), .ref (am 30), .ref (am 31), .ref (am 32), .ref (am 33), .ref (am 34), .int zss, .int zsy, .int zpy, .int zfs, .int zls, .int (nI an), .ref (am 41), .ref (am 42), .ref (am 43), .ref (am 44), .ref (am 45), .ref (am 46), .ref (am 47), .ref (am 48), .ref (am 49), .ref (am 50), .int (nI w), .ref (am 52), .ref (am 53)])), (am 4, .inl (cy 3, 600, .inl (mTape tb))), (am 52, .inl (cy 0, 40, .inl (upd f w 0)))] := hD
                        refine lv_aload_n hx hb dX12_takeWords_87 rfl (lv_at hl 1 rfl) ?_
                        refine lv_dup hx hb dX12_takeWords_88 rfl ?_
                        refine va_get (D := (dC, dI)) (ci := 12) (v := .int (nI w)) (C := RX12) (T := TX12) (N := 53) hx hb hts hiX12 hown hK hP 0 rfl rfl 50 (by decide) hL0 (fun _ h9 => h9) rfl dX12_takeWords_89 ?_
                        refine lv_iconst (v := 1) hx hb dX12_takeWords_92 (by decide) ?_
                        refine lv_iadd hx hb dX12_takeWords_93 ?_
                        refine bw_re (show (nI w) + 1 = nI (w + 1) from nI_add (w) (1)) ?_
                        refine va_put (D := (dC, dI)) (ci := 12) (v := .int (nI (w + 1))) (ty := (tyX12 50)) (C := RX12) (T := TX12) (N := 53) hx hb hts hiX12 tyX12 tyX12_ok nmX12 hown hK hP hD hS 0 rfl rfl 50 (by decide) hL0 (fun _ h9 => h9) rfl (by decide +kernel) rfl rfl (Nat.le_of_ble_eq_true rfl) dX12_takeWords_94 (fun H locs hP hD hS => ?_)
                        have hP : va_P (dC, dI) vwCl [(am 0, .inr (12, [.ref (am 1), .ref (am 2), .ref (am 3), .ref (am 4), .int (nI tn), .int (nI zsz), .int (nI zfr), .int (nI zbe), .int zha, .int zva, .int fk, .int fp, .ref (am 13), .int (nI sn), .ref (am 15), .ref (am 16), .ref (am 17), .ref (am 18), .ref (am 19), .int (nI pn), .int (nI qn), .ref (am 22), .ref (am 23), .ref (am 24), .ref (am 25), .ref (am 26), .ref (am 27), .ref (am 28), .ref (am 29), .ref (am 30), .ref (am 31), .ref (am 32), .ref (am 33), .ref (am 34), .int zss, .int zsy, .int zpy, .int zfs, .int zls, .int (nI an), .ref (am 41), .ref (am 42), .ref (am 43), .ref (am 44), .ref (am 45), .ref (am 46), .ref (am 47), .ref (am 48), .ref (am 49), .ref (am 50), .int (nI (w + 1)), .ref (am 52), .ref (am 53)])), (am 4, .inl (cy 3, 600, .inl (mTape tb))), (am 52, .inl (cy 0, 40, .inl (upd f w 0)))] H := hP
                        have hD : va_D A [(am 0, .inr (12, [.ref (am 1), .ref (am 2), .ref (am 3), .ref (am 4), .int (nI tn), .int (nI zsz), .int (nI zfr), .int (nI zbe), .int zha, .int zva, .int fk, .int fp, .ref (am 13), .int (nI sn), .ref (am 15), .ref (am 16), .ref (am 17), .ref (am 18), .ref (am 19), .int (nI pn), .int (nI qn), .ref (am 22), .ref (am 23), .ref (am 24), .ref (am 25), .ref (am 26), .ref (am 27), .ref (am 28), .ref (am 29), .ref (am 30), .ref (am 31), .ref (am 32), .ref (am 33), .ref (am 34), .int zss, .int zsy, .int zpy, .int zfs, .int zls, .int (nI an), .ref (am 41), .ref (am 42), .ref (am 43), .ref (am 44), .ref (am 45), .ref (am 46), .ref (am 47), .ref (am 48), .ref (am 49), .ref (am 50), .int (nI (w + 1)), .ref (am 52), .ref (am 53)])), (am 4, .inl (cy 3, 600, .inl (mTape tb))), (am 52, .inl (cy 0, 40, .inl (upd f w 0)))] := hD
                        refine lv_aload_n hx hb dX12_takeWords_97 rfl (lv_at hl 1 rfl) ?_
                        refine va_get (D := (dC, dI)) (ci := 12) (v := .ref (am 52)) (C := RX12) (T := TX12) (N := 53) hx hb hts hiX12 hown hK hP 0 rfl rfl 51 (by decide) hL2 (fun _ h9 => h9) rfl dX12_takeWords_98 ?_
                        refine lv_aload_n hx hb dX12_takeWords_101 rfl (lv_at hl 1 rfl) ?_
                        refine va_get (D := (dC, dI)) (ci := 12) (v := .int (nI (w + 1))) (C := RX12) (T := TX12) (N := 53) hx hb hts hiX12 hown hK hP 0 rfl rfl 50 (by decide) hL0 (fun _ h9 => h9) rfl dX12_takeWords_102 ?_
                        refine lv_iconst (v := 1) hx hb dX12_takeWords_105 (by decide) ?_
                        refine lv_isub hx hb dX12_takeWords_106 ?_
                        refine bw_re (show (nI (w + 1)) - 1 = nI ((w + 1) - 1) from pk_sub (a := w + 1) (b := 1) (by omega)) ?_
                        refine lv_dup2_11 hx hb dX12_takeWords_107 rfl rfl ?_
                        refine bw_iald hx hb hK hP 2 0 rfl rfl (j := ((w + 1) - 1)) (nI_toInt (by omega)) (by omega) dX12_takeWords_108 ?_
                        refine bw_re (show (upd f w 0) ((w + 1) - 1) = nI 0 from (by rw [show w + 1 - 1 = w by omega]; exact pk_us)) ?_
                        refine lv_iload_n hx hb dX12_takeWords_109 rfl (lv_at hl 0 rfl) ?_
                        refine vp_callSi (va_Run.run (va_runS (As := [.int (tb i)]) (rest := [.int (nI 0), .int (nI ((w + 1) - 1)), .ref (am 52)]) ⟨hx, hb, hml, hown, hts⟩ (c_X12_widthOf l dC dI cy (tb i)) (va_cwS 1 hts gX12_takeWords_X12_widthOf rfl rfl rfl (by decide +kernel) ⟨Nat.le_of_ble_eq_true rfl, Nat.le_of_ble_eq_true rfl⟩) ⟨fun a U g mk q => q, fun U hU hW => ⟨rfl, trivial⟩⟩ rfl rfl hl.1 rfl (lv_room (Nat.le_of_ble_eq_true rfl)) dX12_takeWords_110 ⟨Nat.le_of_ble_eq_true rfl, Nat.le_of_ble_eq_true rfl⟩)) (fun r_16 hr_16 => ?_)
                        rw [hr_16]
                        refine lv_iadd hx hb dX12_takeWords_113 ?_
                        refine bw_re (show (nI 0) + (nI (wdt (tb i).toInt)) = nI (0 + (wdt (tb i).toInt)) from nI_add (0) (wdt (tb i).toInt)) ?_
                        refine bw_iast hx hb hK hP hD hS 2 0 rfl rfl (j := ((w + 1) - 1)) (nI_toInt (by omega)) (by omega) dX12_takeWords_114 (fun H locs hP hD hS => ?_)
                        have hP : va_P (dC, dI) vwCl [(am 0, .inr (12, [.ref (am 1), .ref (am 2), .ref (am 3), .ref (am 4), .int (nI tn), .int (nI zsz), .int (nI zfr), .int (nI zbe), .int zha, .int zva, .int fk, .int fp, .ref (am 13), .int (nI sn), .ref (am 15), .ref (am 16), .ref (am 17), .ref (am 18), .ref (am 19), .int (nI pn), .int (nI qn), .ref (am 22), .ref (am 23), .ref (am 24), .ref (am 25), .ref (am 26), .ref (am 27), .ref (am 28), .ref (am 29), .ref (am 30), .ref (am 31), .ref (am 32), .ref (am 33), .ref (am 34), .int zss, .int zsy, .int zpy, .int zfs, .int zls, .int (nI an), .ref (am 41), .ref (am 42), .ref (am 43), .ref (am 44), .ref (am 45), .ref (am 46), .ref (am 47), .ref (am 48), .ref (am 49), .ref (am 50), .int (nI (w + 1)), .ref (am 52), .ref (am 53)])), (am 4, .inl (cy 3, 600, .inl (mTape tb))), (am 52, .inl (cy 0, 40, .inl (upd (upd f w 0) ((w + 1) - 1) (nI (0 + (wdt (tb i).toInt))))))] H := hP
                        have hD : va_D A [(am 0, .inr (12, [.ref (am 1), .ref (am 2), .ref (am 3), .ref (am 4), .int (nI tn), .int (nI zsz), .int (nI zfr), .int (nI zbe), .int zha, .int zva, .int fk, .int fp, .ref (am 13), .int (nI sn), .ref (am 15), .ref (am 16), .ref (am 17), .ref (am 18), .ref (am 19), .int (nI pn), .int (nI qn), .ref (am 22), .ref (am 23), .ref (am 24), .ref (am 25), .ref (am 26), .ref (am 27), .ref (am 28), .ref (am 29), .ref (am 30), .ref (am 31), .ref (am 32), .ref (am 33), .ref (am 34), .int zss, .int zsy, .int zpy, .int zfs, .int zls, .int (nI an), .ref (am 41), .ref (am 42), .ref (am 43), .ref (am 44), .ref (am 45), .ref (am 46), .ref (am 47), .ref (am 48), .ref (am 49), .ref (am 50), .int (nI (w + 1)), .ref (am 52), .ref (am 53)])), (am 4, .inl (cy 3, 600, .inl (mTape tb))), (am 52, .inl (cy 0, 40, .inl (upd (upd f w 0) ((w + 1) - 1) (nI (0 + (wdt (tb i).toInt))))))] := hD
                        refine lv_iinc (v := nI (b + 1)) (lv' := [(1, .int (nI (b + 1))), (3, .int (tb i)), (0, .ref (am 0)), (2, .int (nI i))]) hx hb dX12_takeWords_115 hl (k := 2) rfl (show nI b + Int32.ofInt 1 = nI (b + 1) from nI_add b 1) (by decide) rfl (fun ls hl => ?_)
                        refine lv_iinc (v := nI (i + 1)) (lv' := [(2, .int (nI (i + 1))), (1, .int (nI (b + 1))), (3, .int (tb i)), (0, .ref (am 0))]) hx hb dX12_takeWords_118 hl (k := 3) rfl (show nI i + Int32.ofInt 1 = nI (i + 1) from nI_add i 1) (by decide) rfl (fun ls hl => ?_)
                        refine lv_goto (tgt := 9) hx hb dX12_takeWords_121 (by decide) ?_
                        have hI_hW : wdS tb (i + 1) = some ((b + 1), (w + 1), (wAdd v b w (wdt (tb i).toInt))) := by
                          first
                            | exact ws_bl hW (by unfold wBl; omega)
                            | (have q := ws_ok hW (fun q => by unfold wBl at q; omega) (fun q => by unfold wBad at q; omega)
                               first
                                 | (rw [if_pos (by omega)] at q; exact q)
                                 | (rw [if_neg (by omega)] at q; exact q))
                        have hI_hwR : wR (upd (upd f w 0) ((w + 1) - 1) (nI (0 + (wdt (tb i).toInt)))) (w + 1) (wAdd v b w (wdt (tb i).toInt)) := by
                          first
                            | exact wR_s hwR (by omega)
                            | exact wR_0 hwR (by omega)
                            | exact hwR
                        exact ih9 (i + 1) (b + 1) (w + 1) (upd (upd f w 0) ((w + 1) - 1) (nI (0 + (wdt (tb i).toInt)))) (wAdd v b w (wdt (tb i).toInt)) (by omega) (by first | assumption | omega) hI_hW hI_hwR H locs hP hD hS ls (lv_sub hl [3, 1, 0] rfl)
                    · skip
                      refine lv_iconst (v := 0) hx hb dX12_takeWords_71 (by decide) ?_
                      refine bw_Qe hQ ?_
                      have hP9 : va_P (dC, dI) vwCl [(am 0, .inr (12, [.ref (am 1), .ref (am 2), .ref (am 3), .ref (am 4), .int (nI tn), .int (nI zsz), .int (nI zfr), .int (nI zbe), .int zha, .int zva, .int fk, .int fp, .ref (am 13), .int (nI sn), .ref (am 15), .ref (am 16), .ref (am 17), .ref (am 18), .ref (am 19), .int (nI pn), .int (nI qn), .ref (am 22), .ref (am 23), .ref (am 24), .ref (am 25), .ref (am 26), .ref (am 27), .ref (am 28), .ref (am 29), .ref (am 30), .ref (am 31), .ref (am 32), .ref (am 33), .ref (am 34), .int zss, .int zsy, .int zpy, .int zfs, .int zls, .int (nI an), .ref (am 41), .ref (am 42), .ref (am 43), .ref (am 44), .ref (am 45), .ref (am 46), .ref (am 47), .ref (am 48), .ref (am 49), .ref (am 50), .int (nI w), .ref (am 52), .ref (am 53)])), (am 4, .inl (cy 3, 600, .inl (mTape tb))), (am 52, .inl (cy 0, 40, .inl f))] H := hP.sub [0, 1, 2] rfl
                      have hD9 : va_D A [(am 0, .inr (12, [.ref (am 1), .ref (am 2), .ref (am 3), .ref (am 4), .int (nI tn), .int (nI zsz), .int (nI zfr), .int (nI zbe), .int zha, .int zva, .int fk, .int fp, .ref (am 13), .int (nI sn), .ref (am 15), .ref (am 16), .ref (am 17), .ref (am 18), .ref (am 19), .int (nI pn), .int (nI qn), .ref (am 22), .ref (am 23), .ref (am 24), .ref (am 25), .ref (am 26), .ref (am 27), .ref (am 28), .ref (am 29), .ref (am 30), .ref (am 31), .ref (am 32), .ref (am 33), .ref (am 34), .int zss, .int zsy, .int zpy, .int zfs, .int zls, .int (nI an), .ref (am 41), .ref (am 42), .ref (am 43), .ref (am 44), .ref (am 45), .ref (am 46), .ref (am 47), .ref (am 48), .ref (am 49), .ref (am 50), .int (nI w), .ref (am 52), .ref (am 53)])), (am 4, .inl (cy 3, 600, .inl (mTape tb))), (am 52, .inl (cy 0, 40, .inl f))] := hD.sub [0, 1, 2] (by decide) rfl
                      have hpost : wdP tb zsz (0 : Int32) w f := by
                        exact Or.inr ⟨ws_no hW (fun q => by unfold wBl at q; omega) (by unfold wBad; omega) (by omega), rfl⟩
                      exact W.zret (v := 0) hx hb hr (by rfl) (fun t9 ht hW => ⟨⟨0, (w, f), rfl, hpost, by rw [ht]; exact hP9, va_K.moved hW.alike hK, hD9⟩, hS.F ht⟩) hS.2.2 dX12_takeWords_72
          · skip
            refine lv_iconst (v := 0) hx hb dX12_takeWords_35 (by decide) ?_
            refine lv_istore_n (lv' := [(1, .int 0), (3, .int (tb i)), (0, .ref (am 0)), (2, .int (nI i))]) hx hb dX12_takeWords_36 rfl hl (by decide) rfl (fun ls hl => ?_)
            refine lv_goto (tgt := 118) hx hb dX12_takeWords_37 (by decide) ?_
            refine lv_iinc (v := nI (i + 1)) (lv' := [(2, .int (nI (i + 1))), (1, .int 0), (3, .int (tb i)), (0, .ref (am 0))]) hx hb dX12_takeWords_118 hl (k := 3) rfl (show nI i + Int32.ofInt 1 = nI (i + 1) from nI_add i 1) (by decide) rfl (fun ls hl => ?_)
            refine lv_goto (tgt := 9) hx hb dX12_takeWords_121 (by decide) ?_
            have hI_hW : wdS tb (i + 1) = some (0, w, v) := by
              first
                | exact ws_bl hW (by unfold wBl; omega)
                | (have q := ws_ok hW (fun q => by unfold wBl at q; omega) (fun q => by unfold wBad at q; omega)
                   first
                     | (rw [if_pos (by omega)] at q; exact q)
                     | (rw [if_neg (by omega)] at q; exact q))
            have hI_hwR : wR f w v := by
              first
                | exact wR_s hwR (by omega)
                | exact wR_0 hwR (by omega)
                | exact hwR
            exact ih9 (i + 1) 0 w f v (by omega) (by first | assumption | omega) hI_hW hI_hwR H locs hP hD hS ls (lv_sub hl [3, 1, 0] rfl)
  have hI_hW : wdS tb 0 = some (0, 0, (fun _ => 0)) := by
    rfl
  have hI_hwR : wR zwd 0 (fun _ => 0) := by
    exact fun k hk => absurd hk (Nat.not_lt_zero _)
  exact L_9 ((zsz - 0) + 1) 0 0 0 zwd (fun _ => 0) (by omega) (by first | assumption | omega) hI_hW hI_hwR H locs hP hD hS ls (lv_sub hl [2, 1, 0] rfl)

set_option maxHeartbeats 4000000 in
set_option maxRecDepth 100000 in
theorem c_X12_areSure (l : Launch) (dC : Nat → ClassId) (dI : Nat → Nat → Nat) (cy : Nat → ClassId) (am : Nat → Nat) (tn : Nat) (zsz : Nat) (zfr : Nat) (zbe : Nat) (zha : Int32) (zva : Int32) (fk : Int32) (fp : Int32) (sn : Nat) (pn : Nat) (qn : Nat) (zss : Int32) (zsy : Int32) (zpy : Int32) (zfs : Int32) (zls : Int32) (an : Nat) (zw : Nat) (tb : Nat → Int32) (nb : Nat → Int32) (fr : Nat → Int32) (tt : Nat → Int32) (st : Nat → Int32) (nu : Nat → Int32) (mk : Nat → Int32) (qp : Nat → Int32) (qs : Nat → Int32) (qt : Nat → Int32) (qm : Nat → Int32) (qf : Nat → Int32) (ql : Nat → Int32) (qx : Nat → Int32) (zsi : Nat → Int32) (zpi : Nat → Int32) (bo : Nat → Int32) (di : Nat → Int32) (ap : Nat → Int32) (as_ : Nat → Int32) (a1 : Nat) (sz : Nat) (hall : sOK nb fr tt sn) (hq : qOK qp qs qf ql qx qn pn) (ha1 : a1 < 40) (hax : (0 ≤ (ap a1).toInt ∧ (ap a1).toInt < ((pn : Nat) : Int)) ∧ 0 ≤ (as_ a1).toInt ∧ (as_ a1).toInt < ((sn : Nat) : Int)) (hby : byOK tb) (hsz : zsz ≤ 600) : Met l yX12_areSure wsX12_areSure ({ frames := 5, cells := 0, slots := 0, locals := 124 }) (va_Pc [.ref (am 0), .int (nI a1)] (fun U => U.heap.size = sz ∧ va_P (dC, dI) vwCl [(am 0, .inr (12, [.ref (am 1), .ref (am 2), .ref (am 3), .ref (am 4), .int (nI tn), .int (nI zsz), .int (nI zfr), .int (nI zbe), .int zha, .int zva, .int fk, .int fp, .ref (am 13), .int (nI sn), .ref (am 15), .ref (am 16), .ref (am 17), .ref (am 18), .ref (am 19), .int (nI pn), .int (nI qn), .ref (am 22), .ref (am 23), .ref (am 24), .ref (am 25), .ref (am 26), .ref (am 27), .ref (am 28), .ref (am 29), .ref (am 30), .ref (am 31), .ref (am 32), .ref (am 33), .ref (am 34), .int zss, .int zsy, .int zpy, .int zfs, .int zls, .int (nI an), .ref (am 41), .ref (am 42), .ref (am 43), .ref (am 44), .ref (am 45), .ref (am 46), .ref (am 47), .ref (am 48), .ref (am 49), .ref (am 50), .int (nI zw), .ref (am 52), .ref (am 53)])), (am 4, .inl (cy 3, 600, .inl (mTape tb))), (am 15, .inl (cy 0, 40, .inl nb)), (am 16, .inl (cy 0, 320, .inl fr)), (am 17, .inl (cy 0, 320, .inl tt)), (am 18, .inl (cy 0, 320, .inl st)), (am 19, .inl (cy 0, 320, .inl nu)), (am 25, .inl (cy 0, 30, .inl mk)), (am 26, .inl (cy 0, 100, .inl qp)), (am 27, .inl (cy 0, 100, .inl qs)), (am 28, .inl (cy 0, 100, .inl qt)), (am 29, .inl (cy 0, 100, .inl qm)), (am 30, .inl (cy 0, 100, .inl qf)), (am 31, .inl (cy 0, 100, .inl ql)), (am 32, .inl (cy 2, 100, .inl qx)), (am 33, .inl (cy 2, 601, .inl zsi)), (am 34, .inl (cy 2, 601, .inl zpi)), (am 22, .inl (cy 0, 30, .inl bo)), (am 23, .inl (cy 0, 30, .inl di)), (am 41, .inl (cy 0, 40, .inl ap)), (am 42, .inl (cy 0, 40, .inl as_))] U.heap ∧ va_K (dC, dI) vwCl (tyL cy) U ∧ va_D (fun _ => True) [(am 0, .inr (12, [.ref (am 1), .ref (am 2), .ref (am 3), .ref (am 4), .int (nI tn), .int (nI zsz), .int (nI zfr), .int (nI zbe), .int zha, .int zva, .int fk, .int fp, .ref (am 13), .int (nI sn), .ref (am 15), .ref (am 16), .ref (am 17), .ref (am 18), .ref (am 19), .int (nI pn), .int (nI qn), .ref (am 22), .ref (am 23), .ref (am 24), .ref (am 25), .ref (am 26), .ref (am 27), .ref (am 28), .ref (am 29), .ref (am 30), .ref (am 31), .ref (am 32), .ref (am 33), .ref (am 34), .int zss, .int zsy, .int zpy, .int zfs, .int zls, .int (nI an), .ref (am 41), .ref (am 42), .ref (am 43), .ref (am 44), .ref (am 45), .ref (am 46), .ref (am 47), .ref (am 48), .ref (am 49), .ref (am 50), .int (nI zw), .ref (am 52), .ref (am 53)])), (am 4, .inl (cy 3, 600, .inl (mTape tb))), (am 15, .inl (cy 0, 40, .inl nb)), (am 16, .inl (cy 0, 320, .inl fr)), (am 17, .inl (cy 0, 320, .inl tt)), (am 18, .inl (cy 0, 320, .inl st)), (am 19, .inl (cy 0, 320, .inl nu)), (am 25, .inl (cy 0, 30, .inl mk)), (am 26, .inl (cy 0, 100, .inl qp)), (am 27, .inl (cy 0, 100, .inl qs)), (am 28, .inl (cy 0, 100, .inl qt)), (am 29, .inl (cy 0, 100, .inl qm)), (am 30, .inl (cy 0, 100, .inl qf)), (am 31, .inl (cy 0, 100, .inl ql)), (am 32, .inl (cy 2, 100, .inl qx)), (am 33, .inl (cy 2, 601, .inl zsi)), (am 34, .inl (cy 2, 601, .inl zpi)), (am 22, .inl (cy 0, 30, .inl bo)), (am 23, .inl (cy 0, 30, .inl di)), (am 41, .inl (cy 0, 40, .inl ap)), (am 42, .inl (cy 0, 40, .inl as_))])) (va_Qi (S := Int32 × Int32 × Int32 × Int32 × Int32 × (Nat → Int32) × (Nat → Int32)) (fun r => fun u => match u with | (zss2, zsy2, zpy2, zfs2, zls2, zsi2, zpi2) => r = pI (aSure tb zsz (sureY bo di (lvB (liv qp qt qm qf ql qx mk (fun t9 m9 y9 => sOnly nb fr tt st nu sn ((as_ a1).toInt.toNat) t9 m9 y9) qn ((ap a1).toInt.toNat))) ((ap a1).toInt.toNat)))) (fun u => match u with | (zss2, zsy2, zpy2, zfs2, zls2, zsi2, zpi2) => fun t => va_P (dC, dI) vwCl [(am 0, .inr (12, [.ref (am 1), .ref (am 2), .ref (am 3), .ref (am 4), .int (nI tn), .int (nI zsz), .int (nI zfr), .int (nI zbe), .int zha, .int zva, .int fk, .int fp, .ref (am 13), .int (nI sn), .ref (am 15), .ref (am 16), .ref (am 17), .ref (am 18), .ref (am 19), .int (nI pn), .int (nI qn), .ref (am 22), .ref (am 23), .ref (am 24), .ref (am 25), .ref (am 26), .ref (am 27), .ref (am 28), .ref (am 29), .ref (am 30), .ref (am 31), .ref (am 32), .ref (am 33), .ref (am 34), .int zss2, .int zsy2, .int zpy2, .int zfs2, .int zls2, .int (nI an), .ref (am 41), .ref (am 42), .ref (am 43), .ref (am 44), .ref (am 45), .ref (am 46), .ref (am 47), .ref (am 48), .ref (am 49), .ref (am 50), .int (nI zw), .ref (am 52), .ref (am 53)])), (am 4, .inl (cy 3, 600, .inl (mTape tb))), (am 15, .inl (cy 0, 40, .inl nb)), (am 16, .inl (cy 0, 320, .inl fr)), (am 17, .inl (cy 0, 320, .inl tt)), (am 18, .inl (cy 0, 320, .inl st)), (am 19, .inl (cy 0, 320, .inl nu)), (am 25, .inl (cy 0, 30, .inl mk)), (am 26, .inl (cy 0, 100, .inl qp)), (am 27, .inl (cy 0, 100, .inl qs)), (am 28, .inl (cy 0, 100, .inl qt)), (am 29, .inl (cy 0, 100, .inl qm)), (am 30, .inl (cy 0, 100, .inl qf)), (am 31, .inl (cy 0, 100, .inl ql)), (am 32, .inl (cy 2, 100, .inl qx)), (am 33, .inl (cy 2, 601, .inl zsi2)), (am 34, .inl (cy 2, 601, .inl zpi2)), (am 22, .inl (cy 0, 30, .inl bo)), (am 23, .inl (cy 0, 30, .inl di)), (am 41, .inl (cy 0, 40, .inl ap)), (am 42, .inl (cy 0, 40, .inl as_))] t.heap ∧ va_K (dC, dI) vwCl (tyL cy) t ∧ va_D (va_A [(am 0, .inr (12, [.ref (am 1), .ref (am 2), .ref (am 3), .ref (am 4), .int (nI tn), .int (nI zsz), .int (nI zfr), .int (nI zbe), .int zha, .int zva, .int fk, .int fp, .ref (am 13), .int (nI sn), .ref (am 15), .ref (am 16), .ref (am 17), .ref (am 18), .ref (am 19), .int (nI pn), .int (nI qn), .ref (am 22), .ref (am 23), .ref (am 24), .ref (am 25), .ref (am 26), .ref (am 27), .ref (am 28), .ref (am 29), .ref (am 30), .ref (am 31), .ref (am 32), .ref (am 33), .ref (am 34), .int zss, .int zsy, .int zpy, .int zfs, .int zls, .int (nI an), .ref (am 41), .ref (am 42), .ref (am 43), .ref (am 44), .ref (am 45), .ref (am 46), .ref (am 47), .ref (am 48), .ref (am 49), .ref (am 50), .int (nI zw), .ref (am 52), .ref (am 53)])), (am 4, .inl (cy 3, 600, .inl (mTape tb))), (am 15, .inl (cy 0, 40, .inl nb)), (am 16, .inl (cy 0, 320, .inl fr)), (am 17, .inl (cy 0, 320, .inl tt)), (am 18, .inl (cy 0, 320, .inl st)), (am 19, .inl (cy 0, 320, .inl nu)), (am 25, .inl (cy 0, 30, .inl mk)), (am 26, .inl (cy 0, 100, .inl qp)), (am 27, .inl (cy 0, 100, .inl qs)), (am 28, .inl (cy 0, 100, .inl qt)), (am 29, .inl (cy 0, 100, .inl qm)), (am 30, .inl (cy 0, 100, .inl qf)), (am 31, .inl (cy 0, 100, .inl ql)), (am 32, .inl (cy 2, 100, .inl qx)), (am 33, .inl (cy 2, 601, .inl zsi)), (am 34, .inl (cy 2, 601, .inl zpi)), (am 22, .inl (cy 0, 30, .inl bo)), (am 23, .inl (cy 0, 30, .inl di)), (am 41, .inl (cy 0, 40, .inl ap)), (am 42, .inl (cy 0, 40, .inl as_))] sz) [(am 0, .inr (12, [.ref (am 1), .ref (am 2), .ref (am 3), .ref (am 4), .int (nI tn), .int (nI zsz), .int (nI zfr), .int (nI zbe), .int zha, .int zva, .int fk, .int fp, .ref (am 13), .int (nI sn), .ref (am 15), .ref (am 16), .ref (am 17), .ref (am 18), .ref (am 19), .int (nI pn), .int (nI qn), .ref (am 22), .ref (am 23), .ref (am 24), .ref (am 25), .ref (am 26), .ref (am 27), .ref (am 28), .ref (am 29), .ref (am 30), .ref (am 31), .ref (am 32), .ref (am 33), .ref (am 34), .int zss2, .int zsy2, .int zpy2, .int zfs2, .int zls2, .int (nI an), .ref (am 41), .ref (am 42), .ref (am 43), .ref (am 44), .ref (am 45), .ref (am 46), .ref (am 47), .ref (am 48), .ref (am 49), .ref (am 50), .int (nI zw), .ref (am 52), .ref (am 53)])), (am 4, .inl (cy 3, 600, .inl (mTape tb))), (am 15, .inl (cy 0, 40, .inl nb)), (am 16, .inl (cy 0, 320, .inl fr)), (am 17, .inl (cy 0, 320, .inl tt)), (am 18, .inl (cy 0, 320, .inl st)), (am 19, .inl (cy 0, 320, .inl nu)), (am 25, .inl (cy 0, 30, .inl mk)), (am 26, .inl (cy 0, 100, .inl qp)), (am 27, .inl (cy 0, 100, .inl qs)), (am 28, .inl (cy 0, 100, .inl qt)), (am 29, .inl (cy 0, 100, .inl qm)), (am 30, .inl (cy 0, 100, .inl qf)), (am 31, .inl (cy 0, 100, .inl ql)), (am 32, .inl (cy 2, 100, .inl qx)), (am 33, .inl (cy 2, 601, .inl zsi2)), (am 34, .inl (cy 2, 601, .inl zpi2)), (am 22, .inl (cy 0, 30, .inl bo)), (am 23, .inl (cy 0, 30, .inl di)), (am 41, .inl (cy 0, 40, .inl ap)), (am 42, .inl (cy 0, 40, .inl as_))]) (va_A [(am 0, .inr (12, [.ref (am 1), .ref (am 2), .ref (am 3), .ref (am 4), .int (nI tn), .int (nI zsz), .int (nI zfr), .int (nI zbe), .int zha, .int zva, .int fk, .int fp, .ref (am 13), .int (nI sn), .ref (am 15), .ref (am 16), .ref (am 17), .ref (am 18), .ref (am 19), .int (nI pn), .int (nI qn), .ref (am 22), .ref (am 23), .ref (am 24), .ref (am 25), .ref (am 26), .ref (am 27), .ref (am 28), .ref (am 29), .ref (am 30), .ref (am 31), .ref (am 32), .ref (am 33), .ref (am 34), .int zss, .int zsy, .int zpy, .int zfs, .int zls, .int (nI an), .ref (am 41), .ref (am 42), .ref (am 43), .ref (am 44), .ref (am 45), .ref (am 46), .ref (am 47), .ref (am 48), .ref (am 49), .ref (am 50), .int (nI zw), .ref (am 52), .ref (am 53)])), (am 4, .inl (cy 3, 600, .inl (mTape tb))), (am 15, .inl (cy 0, 40, .inl nb)), (am 16, .inl (cy 0, 320, .inl fr)), (am 17, .inl (cy 0, 320, .inl tt)), (am 18, .inl (cy 0, 320, .inl st)), (am 19, .inl (cy 0, 320, .inl nu)), (am 25, .inl (cy 0, 30, .inl mk)), (am 26, .inl (cy 0, 100, .inl qp)), (am 27, .inl (cy 0, 100, .inl qs)), (am 28, .inl (cy 0, 100, .inl qt)), (am 29, .inl (cy 0, 100, .inl qm)), (am 30, .inl (cy 0, 100, .inl qf)), (am 31, .inl (cy 0, 100, .inl ql)), (am 32, .inl (cy 2, 100, .inl qx)), (am 33, .inl (cy 2, 601, .inl zsi)), (am 34, .inl (cy 2, 601, .inl zpi)), (am 22, .inl (cy 0, 30, .inl bo)), (am 23, .inl (cy 0, 30, .inl di)), (am 41, .inl (cy 0, 40, .inl ap)), (am 42, .inl (cy 0, 40, .inl as_))] sz)) 0 0 (va_A [(am 0, .inr (12, [.ref (am 1), .ref (am 2), .ref (am 3), .ref (am 4), .int (nI tn), .int (nI zsz), .int (nI zfr), .int (nI zbe), .int zha, .int zva, .int fk, .int fp, .ref (am 13), .int (nI sn), .ref (am 15), .ref (am 16), .ref (am 17), .ref (am 18), .ref (am 19), .int (nI pn), .int (nI qn), .ref (am 22), .ref (am 23), .ref (am 24), .ref (am 25), .ref (am 26), .ref (am 27), .ref (am 28), .ref (am 29), .ref (am 30), .ref (am 31), .ref (am 32), .ref (am 33), .ref (am 34), .int zss, .int zsy, .int zpy, .int zfs, .int zls, .int (nI an), .ref (am 41), .ref (am 42), .ref (am 43), .ref (am 44), .ref (am 45), .ref (am 46), .ref (am 47), .ref (am 48), .ref (am 49), .ref (am 50), .int (nI zw), .ref (am 52), .ref (am 53)])), (am 4, .inl (cy 3, 600, .inl (mTape tb))), (am 15, .inl (cy 0, 40, .inl nb)), (am 16, .inl (cy 0, 320, .inl fr)), (am 17, .inl (cy 0, 320, .inl tt)), (am 18, .inl (cy 0, 320, .inl st)), (am 19, .inl (cy 0, 320, .inl nu)), (am 25, .inl (cy 0, 30, .inl mk)), (am 26, .inl (cy 0, 100, .inl qp)), (am 27, .inl (cy 0, 100, .inl qs)), (am 28, .inl (cy 0, 100, .inl qt)), (am 29, .inl (cy 0, 100, .inl qm)), (am 30, .inl (cy 0, 100, .inl qf)), (am 31, .inl (cy 0, 100, .inl ql)), (am 32, .inl (cy 2, 100, .inl qx)), (am 33, .inl (cy 2, 601, .inl zsi)), (am 34, .inl (cy 2, 601, .inl zpi)), (am 22, .inl (cy 0, 30, .inl bo)), (am 23, .inl (cy 0, 30, .inl di)), (am 41, .inl (cy 0, 40, .inl ap)), (am 42, .inl (cy 0, 40, .inl as_))] sz) := by
  refine Met.ofW (cc := cX12_areSure) (maxL := 6) (ret := (some .boolean)) (by decide) rfl ?_
  intro pp ee ss mm args below meth cc0 s₁ B hml hv
  obtain ⟨rfl, hsz, hP, hK, hD0⟩ := hv
  have hx := B.exec
  have hb := B.bytes
  have hr := B.returns
  have hts := atoms_spec (ws := wsX12_areSure) B.pre
  have hown : ss.vm.findClass RX12 = some mm.cls := findClass_of_methodNamed B.named
  have hlocks := B.notSynchronized
  have hL0 := hts (.fieldLink RX12 181 "HereLivedModel" "asked" "[I") (by decide +kernel)
  have hL1 := hts (.fieldLink RX12 184 "HereLivedModel" "askedSite" "[I") (by decide +kernel)
  have hL2 := hts (.fieldLink RX12 25 "HereLivedModel" "size" "I") (by decide +kernel)
  have hL3 := hts (.fieldLink RX12 144 "HereLivedModel" "born" "[I") (by decide +kernel)
  have hL4 := hts (.fieldLink RX12 147 "HereLivedModel" "died" "[I") (by decide +kernel)
  have hL5 := hts (.fieldLink RX12 175 "HereLivedModel" "surelyIn" "[Z") (by decide +kernel)
  have hiX12 : ∀ w ∈ wsX120, w ∈ wsX12_areSure := by decide +kernel
  subst hsz
  have hD := hD0.self (sz := ss.heap.size)
  generalize hAe : va_A [(am 0, .inr (12, [.ref (am 1), .ref (am 2), .ref (am 3), .ref (am 4), .int (nI tn), .int (nI zsz), .int (nI zfr), .int (nI zbe), .int zha, .int zva, .int fk, .int fp, .ref (am 13), .int (nI sn), .ref (am 15), .ref (am 16), .ref (am 17), .ref (am 18), .ref (am 19), .int (nI pn), .int (nI qn), .ref (am 22), .ref (am 23), .ref (am 24), .ref (am 25), .ref (am 26), .ref (am 27), .ref (am 28), .ref (am 29), .ref (am 30), .ref (am 31), .ref (am 32), .ref (am 33), .ref (am 34), .int zss, .int zsy, .int zpy, .int zfs, .int zls, .int (nI an), .ref (am 41), .ref (am 42), .ref (am 43), .ref (am 44), .ref (am 45), .ref (am 46), .ref (am 47), .ref (am 48), .ref (am 49), .ref (am 50), .int (nI zw), .ref (am 52), .ref (am 53)])), (am 4, .inl (cy 3, 600, .inl (mTape tb))), (am 15, .inl (cy 0, 40, .inl nb)), (am 16, .inl (cy 0, 320, .inl fr)), (am 17, .inl (cy 0, 320, .inl tt)), (am 18, .inl (cy 0, 320, .inl st)), (am 19, .inl (cy 0, 320, .inl nu)), (am 25, .inl (cy 0, 30, .inl mk)), (am 26, .inl (cy 0, 100, .inl qp)), (am 27, .inl (cy 0, 100, .inl qs)), (am 28, .inl (cy 0, 100, .inl qt)), (am 29, .inl (cy 0, 100, .inl qm)), (am 30, .inl (cy 0, 100, .inl qf)), (am 31, .inl (cy 0, 100, .inl ql)), (am 32, .inl (cy 2, 100, .inl qx)), (am 33, .inl (cy 2, 601, .inl zsi)), (am 34, .inl (cy 2, 601, .inl zpi)), (am 22, .inl (cy 0, 30, .inl bo)), (am 23, .inl (cy 0, 30, .inl di)), (am 41, .inl (cy 0, 40, .inl ap)), (am 42, .inl (cy 0, 40, .inl as_))] ss.heap.size = A at hD ⊢
  have hA : ∀ q : Nat, ss.heap.size ≤ q → A q := fun q h => by rw [← hAe]; exact Or.inr h
  have hS : va_S A ss.heap ss.heap [] := va_S.rf
  have hP : va_P (dC, dI) vwCl [(am 0, .inr (12, [.ref (am 1), .ref (am 2), .ref (am 3), .ref (am 4), .int (nI tn), .int (nI zsz), .int (nI zfr), .int (nI zbe), .int zha, .int zva, .int fk, .int fp, .ref (am 13), .int (nI sn), .ref (am 15), .ref (am 16), .ref (am 17), .ref (am 18), .ref (am 19), .int (nI pn), .int (nI qn), .ref (am 22), .ref (am 23), .ref (am 24), .ref (am 25), .ref (am 26), .ref (am 27), .ref (am 28), .ref (am 29), .ref (am 30), .ref (am 31), .ref (am 32), .ref (am 33), .ref (am 34), .int zss, .int zsy, .int zpy, .int zfs, .int zls, .int (nI an), .ref (am 41), .ref (am 42), .ref (am 43), .ref (am 44), .ref (am 45), .ref (am 46), .ref (am 47), .ref (am 48), .ref (am 49), .ref (am 50), .int (nI zw), .ref (am 52), .ref (am 53)])), (am 4, .inl (cy 3, 600, .inl (mTape tb))), (am 15, .inl (cy 0, 40, .inl nb)), (am 16, .inl (cy 0, 320, .inl fr)), (am 17, .inl (cy 0, 320, .inl tt)), (am 18, .inl (cy 0, 320, .inl st)), (am 19, .inl (cy 0, 320, .inl nu)), (am 25, .inl (cy 0, 30, .inl mk)), (am 26, .inl (cy 0, 100, .inl qp)), (am 27, .inl (cy 0, 100, .inl qs)), (am 28, .inl (cy 0, 100, .inl qt)), (am 29, .inl (cy 0, 100, .inl qm)), (am 30, .inl (cy 0, 100, .inl qf)), (am 31, .inl (cy 0, 100, .inl ql)), (am 32, .inl (cy 2, 100, .inl qx)), (am 33, .inl (cy 2, 601, .inl zsi)), (am 34, .inl (cy 2, 601, .inl zpi)), (am 22, .inl (cy 0, 30, .inl bo)), (am 23, .inl (cy 0, 30, .inl di)), (am 41, .inl (cy 0, 40, .inl ap)), (am 42, .inl (cy 0, 40, .inl as_))] ss.heap := hP
  have hl := lv_entry ([.ref (am 0), .int (nI a1)]) (n := 6) (Nat.le_of_ble_eq_true rfl)
  rw [lg_entry_eq]
  generalize (lg_sl ([.ref (am 0), .int (nI a1)]) ++ List.replicate (6 - (lg_sl ([.ref (am 0), .int (nI a1)])).length) Slot.unset).toArray = ls at hl ⊢
  have hl : lv_has ls 6 [(0, .ref (am 0)), (1, .int (nI a1))] := hl
  refine bw_Q (fun Q hQ => ?_)
  refine bw_H0 (fun H locs eH eL => ?_)
  have hS : va_S A ss.heap H locs := by rw [eH, eL]; exact hS
  have hP : va_P (dC, dI) vwCl [(am 0, .inr (12, [.ref (am 1), .ref (am 2), .ref (am 3), .ref (am 4), .int (nI tn), .int (nI zsz), .int (nI zfr), .int (nI zbe), .int zha, .int zva, .int fk, .int fp, .ref (am 13), .int (nI sn), .ref (am 15), .ref (am 16), .ref (am 17), .ref (am 18), .ref (am 19), .int (nI pn), .int (nI qn), .ref (am 22), .ref (am 23), .ref (am 24), .ref (am 25), .ref (am 26), .ref (am 27), .ref (am 28), .ref (am 29), .ref (am 30), .ref (am 31), .ref (am 32), .ref (am 33), .ref (am 34), .int zss, .int zsy, .int zpy, .int zfs, .int zls, .int (nI an), .ref (am 41), .ref (am 42), .ref (am 43), .ref (am 44), .ref (am 45), .ref (am 46), .ref (am 47), .ref (am 48), .ref (am 49), .ref (am 50), .int (nI zw), .ref (am 52), .ref (am 53)])), (am 4, .inl (cy 3, 600, .inl (mTape tb))), (am 15, .inl (cy 0, 40, .inl nb)), (am 16, .inl (cy 0, 320, .inl fr)), (am 17, .inl (cy 0, 320, .inl tt)), (am 18, .inl (cy 0, 320, .inl st)), (am 19, .inl (cy 0, 320, .inl nu)), (am 25, .inl (cy 0, 30, .inl mk)), (am 26, .inl (cy 0, 100, .inl qp)), (am 27, .inl (cy 0, 100, .inl qs)), (am 28, .inl (cy 0, 100, .inl qt)), (am 29, .inl (cy 0, 100, .inl qm)), (am 30, .inl (cy 0, 100, .inl qf)), (am 31, .inl (cy 0, 100, .inl ql)), (am 32, .inl (cy 2, 100, .inl qx)), (am 33, .inl (cy 2, 601, .inl zsi)), (am 34, .inl (cy 2, 601, .inl zpi)), (am 22, .inl (cy 0, 30, .inl bo)), (am 23, .inl (cy 0, 30, .inl di)), (am 41, .inl (cy 0, 40, .inl ap)), (am 42, .inl (cy 0, 40, .inl as_))] H := by rw [eH]; exact hP
  change W pp l ee { frames := 5, cells := 0, slots := 0, locals := 124 } ss mm _ below meth cc0 H locs 0 0 Q (F0 mm 0 ls [])
  have hpn := hq.2.1
  have h40 := hall.1
  refine lv_aload_n hx hb dX12_areSure_0 rfl (lv_at hl 0 rfl) ?_
  refine lv_aload_n hx hb dX12_areSure_1 rfl (lv_at hl 0 rfl) ?_
  refine va_get (D := (dC, dI)) (ci := 12) (v := .ref (am 41)) (C := RX12) (T := TX12) (N := 53) hx hb hts hiX12 hown hK hP 0 rfl rfl 40 (by decide) hL0 (fun _ h9 => h9) rfl dX12_areSure_2 ?_
  refine lv_iload_n hx hb dX12_areSure_5 rfl (lv_at hl 1 rfl) ?_
  refine bw_iald hx hb hK hP 19 0 rfl rfl (j := a1) (nI_toInt (by omega)) (by omega) dX12_areSure_6 ?_
  refine bw_re (show (ap a1) = nI ((ap a1).toInt.toNat) from nI_back (by omega)) ?_
  refine lv_aload_n hx hb dX12_areSure_7 rfl (lv_at hl 0 rfl) ?_
  refine va_get (D := (dC, dI)) (ci := 12) (v := .ref (am 42)) (C := RX12) (T := TX12) (N := 53) hx hb hts hiX12 hown hK hP 0 rfl rfl 41 (by decide) hL1 (fun _ h9 => h9) rfl dX12_areSure_8 ?_
  refine lv_iload_n hx hb dX12_areSure_11 rfl (lv_at hl 1 rfl) ?_
  refine bw_iald hx hb hK hP 20 0 rfl rfl (j := a1) (nI_toInt (by omega)) (by omega) dX12_areSure_12 ?_
  refine bw_re (show (as_ a1) = nI ((as_ a1).toInt.toNat) from nI_back (by omega)) ?_
  have hPc : va_P (dC, dI) vwCl [(am 0, .inr (12, [.ref (am 1), .ref (am 2), .ref (am 3), .ref (am 4), .int (nI tn), .int (nI zsz), .int (nI zfr), .int (nI zbe), .int zha, .int zva, .int fk, .int fp, .ref (am 13), .int (nI sn), .ref (am 15), .ref (am 16), .ref (am 17), .ref (am 18), .ref (am 19), .int (nI pn), .int (nI qn), .ref (am 22), .ref (am 23), .ref (am 24), .ref (am 25), .ref (am 26), .ref (am 27), .ref (am 28), .ref (am 29), .ref (am 30), .ref (am 31), .ref (am 32), .ref (am 33), .ref (am 34), .int zss, .int zsy, .int zpy, .int zfs, .int zls, .int (nI an), .ref (am 41), .ref (am 42), .ref (am 43), .ref (am 44), .ref (am 45), .ref (am 46), .ref (am 47), .ref (am 48), .ref (am 49), .ref (am 50), .int (nI zw), .ref (am 52), .ref (am 53)])), (am 15, .inl (cy 0, 40, .inl nb)), (am 16, .inl (cy 0, 320, .inl fr)), (am 17, .inl (cy 0, 320, .inl tt)), (am 18, .inl (cy 0, 320, .inl st)), (am 19, .inl (cy 0, 320, .inl nu)), (am 25, .inl (cy 0, 30, .inl mk)), (am 26, .inl (cy 0, 100, .inl qp)), (am 27, .inl (cy 0, 100, .inl qs)), (am 28, .inl (cy 0, 100, .inl qt)), (am 29, .inl (cy 0, 100, .inl qm)), (am 30, .inl (cy 0, 100, .inl qf)), (am 31, .inl (cy 0, 100, .inl ql)), (am 32, .inl (cy 2, 100, .inl qx)), (am 33, .inl (cy 2, 601, .inl zsi)), (am 34, .inl (cy 2, 601, .inl zpi))] H := hP.sub [0, 2, 3, 4, 5, 6, 7, 8, 9, 10, 11, 12, 13, 14, 15, 16] rfl
  have hDc : va_D A [(am 0, .inr (12, [.ref (am 1), .ref (am 2), .ref (am 3), .ref (am 4), .int (nI tn), .int (nI zsz), .int (nI zfr), .int (nI zbe), .int zha, .int zva, .int fk, .int fp, .ref (am 13), .int (nI sn), .ref (am 15), .ref (am 16), .ref (am 17), .ref (am 18), .ref (am 19), .int (nI pn), .int (nI qn), .ref (am 22), .ref (am 23), .ref (am 24), .ref (am 25), .ref (am 26), .ref (am 27), .ref (am 28), .ref (am 29), .ref (am 30), .ref (am 31), .ref (am 32), .ref (am 33), .ref (am 34), .int zss, .int zsy, .int zpy, .int zfs, .int zls, .int (nI an), .ref (am 41), .ref (am 42), .ref (am 43), .ref (am 44), .ref (am 45), .ref (am 46), .ref (am 47), .ref (am 48), .ref (am 49), .ref (am 50), .int (nI zw), .ref (am 52), .ref (am 53)])), (am 15, .inl (cy 0, 40, .inl nb)), (am 16, .inl (cy 0, 320, .inl fr)), (am 17, .inl (cy 0, 320, .inl tt)), (am 18, .inl (cy 0, 320, .inl st)), (am 19, .inl (cy 0, 320, .inl nu)), (am 25, .inl (cy 0, 30, .inl mk)), (am 26, .inl (cy 0, 100, .inl qp)), (am 27, .inl (cy 0, 100, .inl qs)), (am 28, .inl (cy 0, 100, .inl qt)), (am 29, .inl (cy 0, 100, .inl qm)), (am 30, .inl (cy 0, 100, .inl qf)), (am 31, .inl (cy 0, 100, .inl ql)), (am 32, .inl (cy 2, 100, .inl qx)), (am 33, .inl (cy 2, 601, .inl zsi)), (am 34, .inl (cy 2, 601, .inl zpi))] := hD.sub [0, 2, 3, 4, 5, 6, 7, 8, 9, 10, 11, 12, 13, 14, 15, 16] (by decide) rfl
  have hFc := va_free (wc := [(am 0, .inr (12, [.ref (am 1), .ref (am 2), .ref (am 3), .ref (am 4), .int (nI tn), .int (nI zsz), .int (nI zfr), .int (nI zbe), .int zha, .int zva, .int fk, .int fp, .ref (am 13), .int (nI sn), .ref (am 15), .ref (am 16), .ref (am 17), .ref (am 18), .ref (am 19), .int (nI pn), .int (nI qn), .ref (am 22), .ref (am 23), .ref (am 24), .ref (am 25), .ref (am 26), .ref (am 27), .ref (am 28), .ref (am 29), .ref (am 30), .ref (am 31), .ref (am 32), .ref (am 33), .ref (am 34), .int zss, .int zsy, .int zpy, .int zfs, .int zls, .int (nI an), .ref (am 41), .ref (am 42), .ref (am 43), .ref (am 44), .ref (am 45), .ref (am 46), .ref (am 47), .ref (am 48), .ref (am 49), .ref (am 50), .int (nI zw), .ref (am 52), .ref (am 53)])), (am 15, .inl (cy 0, 40, .inl nb)), (am 16, .inl (cy 0, 320, .inl fr)), (am 17, .inl (cy 0, 320, .inl tt)), (am 18, .inl (cy 0, 320, .inl st)), (am 19, .inl (cy 0, 320, .inl nu)), (am 25, .inl (cy 0, 30, .inl mk)), (am 26, .inl (cy 0, 100, .inl qp)), (am 27, .inl (cy 0, 100, .inl qs)), (am 28, .inl (cy 0, 100, .inl qt)), (am 29, .inl (cy 0, 100, .inl qm)), (am 30, .inl (cy 0, 100, .inl qf)), (am 31, .inl (cy 0, 100, .inl ql)), (am 32, .inl (cy 2, 100, .inl qx)), (am 33, .inl (cy 2, 601, .inl zsi)), (am 34, .inl (cy 2, 601, .inl zpi))]) hD hS hA [0, 2, 3, 4, 5, 6, 7, 8, 9, 10, 11, 12, 13, 14, 15, 16] rfl
  refine va_callv (va_runV (As := [.int (nI ((ap a1).toInt.toNat)), .int (nI ((as_ a1).toInt.toNat))]) (rest := []) ⟨hx, hb, hml, hown, hts⟩ (c_X12_live l dC dI cy am tn zsz zfr zbe zha zva fk fp sn pn qn zss zsy zpy zfs zls an zw nb fr tt st nu mk qp qs qt qm qf ql qx zsi zpi ((ap a1).toInt.toNat) ((as_ a1).toInt.toNat) H.size (by first | assumption | omega) (by first | assumption | omega) (by first | assumption | omega) (by first | assumption | omega)) (cwV 2 hts gX12_areSure_X12_live rfl rfl rfl (by decide +kernel) ⟨Nat.le_of_ble_eq_true rfl, Nat.le_of_ble_eq_true rfl⟩) ⟨fun a U g mk q => by obtain ⟨q0, q1, qP, qK, qD⟩ := q; exact ⟨q0, q1, qP, va_K.moved (u := U) (U := U.calling g mk a) (Vm.Alike.refl U.vm) qK, qD⟩, va_recv hK hPc (ci := 12) (q0 := 0) rfl rfl, fun U hU hW => ⟨rfl, by rw [hU], by rw [hU]; exact hPc, va_K.moved hW.alike hK, hDc.weaken (fun _ _ _ _ => trivial)⟩⟩ rfl rfl hl.1 rfl (lv_room (Nat.le_of_ble_eq_true rfl)) dX12_areSure_13 ⟨Nat.le_of_ble_eq_true rfl, Nat.le_of_ble_eq_true rfl⟩) hS (fun q _ h => hFc q h) hFc (fun u t9 H1 locs ht hvm hw hB hz1 hk1 hS => ?_)
  obtain ⟨zss2_1, zsy2_2, zpy2_3, zfs2_4, zls2_5, zsi2_6, zpi2_7⟩ := u
  have hsy := hw
  try dsimp only at hsy
  obtain ⟨hP1, hK1, hD1⟩ := hB
  rw [ht] at hP1
  obtain ⟨hP, hD⟩ := va_join (wr := [(am 4, .inl (cy 3, 600, .inl (mTape tb))), (am 22, .inl (cy 0, 30, .inl bo)), (am 23, .inl (cy 0, 30, .inl di)), (am 41, .inl (cy 0, 40, .inl ap)), (am 42, .inl (cy 0, 40, .inl as_))]) (w1 := [(am 0, .inr (12, [.ref (am 1), .ref (am 2), .ref (am 3), .ref (am 4), .int (nI tn), .int (nI zsz), .int (nI zfr), .int (nI zbe), .int zha, .int zva, .int fk, .int fp, .ref (am 13), .int (nI sn), .ref (am 15), .ref (am 16), .ref (am 17), .ref (am 18), .ref (am 19), .int (nI pn), .int (nI qn), .ref (am 22), .ref (am 23), .ref (am 24), .ref (am 25), .ref (am 26), .ref (am 27), .ref (am 28), .ref (am 29), .ref (am 30), .ref (am 31), .ref (am 32), .ref (am 33), .ref (am 34), .int zss2_1, .int zsy2_2, .int zpy2_3, .int zfs2_4, .int zls2_5, .int (nI an), .ref (am 41), .ref (am 42), .ref (am 43), .ref (am 44), .ref (am 45), .ref (am 46), .ref (am 47), .ref (am 48), .ref (am 49), .ref (am 50), .int (nI zw), .ref (am 52), .ref (am 53)])), (am 15, .inl (cy 0, 40, .inl nb)), (am 16, .inl (cy 0, 320, .inl fr)), (am 17, .inl (cy 0, 320, .inl tt)), (am 18, .inl (cy 0, 320, .inl st)), (am 19, .inl (cy 0, 320, .inl nu)), (am 25, .inl (cy 0, 30, .inl mk)), (am 26, .inl (cy 0, 100, .inl qp)), (am 27, .inl (cy 0, 100, .inl qs)), (am 28, .inl (cy 0, 100, .inl qt)), (am 29, .inl (cy 0, 100, .inl qm)), (am 30, .inl (cy 0, 100, .inl qf)), (am 31, .inl (cy 0, 100, .inl ql)), (am 32, .inl (cy 2, 100, .inl qx)), (am 33, .inl (cy 2, 601, .inl zsi2_6)), (am 34, .inl (cy 2, 601, .inl zpi2_7))]) hP hD [0, 2, 3, 4, 5, 6, 7, 8, 9, 10, 11, 12, 13, 14, 15, 16] [1, 17, 18, 19, 20] rfl rfl (by decide) (by decide) hk1 hFc hP1 hD1
  generalize H1 = H at hP hS ⊢
  have hP : va_P (dC, dI) vwCl [(am 0, .inr (12, [.ref (am 1), .ref (am 2), .ref (am 3), .ref (am 4), .int (nI tn), .int (nI zsz), .int (nI zfr), .int (nI zbe), .int zha, .int zva, .int fk, .int fp, .ref (am 13), .int (nI sn), .ref (am 15), .ref (am 16), .ref (am 17), .ref (am 18), .ref (am 19), .int (nI pn), .int (nI qn), .ref (am 22), .ref (am 23), .ref (am 24), .ref (am 25), .ref (am 26), .ref (am 27), .ref (am 28), .ref (am 29), .ref (am 30), .ref (am 31), .ref (am 32), .ref (am 33), .ref (am 34), .int zss2_1, .int zsy2_2, .int zpy2_3, .int zfs2_4, .int zls2_5, .int (nI an), .ref (am 41), .ref (am 42), .ref (am 43), .ref (am 44), .ref (am 45), .ref (am 46), .ref (am 47), .ref (am 48), .ref (am 49), .ref (am 50), .int (nI zw), .ref (am 52), .ref (am 53)])), (am 4, .inl (cy 3, 600, .inl (mTape tb))), (am 15, .inl (cy 0, 40, .inl nb)), (am 16, .inl (cy 0, 320, .inl fr)), (am 17, .inl (cy 0, 320, .inl tt)), (am 18, .inl (cy 0, 320, .inl st)), (am 19, .inl (cy 0, 320, .inl nu)), (am 25, .inl (cy 0, 30, .inl mk)), (am 26, .inl (cy 0, 100, .inl qp)), (am 27, .inl (cy 0, 100, .inl qs)), (am 28, .inl (cy 0, 100, .inl qt)), (am 29, .inl (cy 0, 100, .inl qm)), (am 30, .inl (cy 0, 100, .inl qf)), (am 31, .inl (cy 0, 100, .inl ql)), (am 32, .inl (cy 2, 100, .inl qx)), (am 33, .inl (cy 2, 601, .inl zsi2_6)), (am 34, .inl (cy 2, 601, .inl zpi2_7)), (am 22, .inl (cy 0, 30, .inl bo)), (am 23, .inl (cy 0, 30, .inl di)), (am 41, .inl (cy 0, 40, .inl ap)), (am 42, .inl (cy 0, 40, .inl as_))] H := hP.sub [5, 0, 6, 7, 8, 9, 10, 11, 12, 13, 14, 15, 16, 17, 18, 19, 20, 1, 2, 3, 4] rfl
  have hD : va_D A [(am 0, .inr (12, [.ref (am 1), .ref (am 2), .ref (am 3), .ref (am 4), .int (nI tn), .int (nI zsz), .int (nI zfr), .int (nI zbe), .int zha, .int zva, .int fk, .int fp, .ref (am 13), .int (nI sn), .ref (am 15), .ref (am 16), .ref (am 17), .ref (am 18), .ref (am 19), .int (nI pn), .int (nI qn), .ref (am 22), .ref (am 23), .ref (am 24), .ref (am 25), .ref (am 26), .ref (am 27), .ref (am 28), .ref (am 29), .ref (am 30), .ref (am 31), .ref (am 32), .ref (am 33), .ref (am 34), .int zss2_1, .int zsy2_2, .int zpy2_3, .int zfs2_4, .int zls2_5, .int (nI an), .ref (am 41), .ref (am 42), .ref (am 43), .ref (am 44), .ref (am 45), .ref (am 46), .ref (am 47), .ref (am 48), .ref (am 49), .ref (am 50), .int (nI zw), .ref (am 52), .ref (am 53)])), (am 4, .inl (cy 3, 600, .inl (mTape tb))), (am 15, .inl (cy 0, 40, .inl nb)), (am 16, .inl (cy 0, 320, .inl fr)), (am 17, .inl (cy 0, 320, .inl tt)), (am 18, .inl (cy 0, 320, .inl st)), (am 19, .inl (cy 0, 320, .inl nu)), (am 25, .inl (cy 0, 30, .inl mk)), (am 26, .inl (cy 0, 100, .inl qp)), (am 27, .inl (cy 0, 100, .inl qs)), (am 28, .inl (cy 0, 100, .inl qt)), (am 29, .inl (cy 0, 100, .inl qm)), (am 30, .inl (cy 0, 100, .inl qf)), (am 31, .inl (cy 0, 100, .inl ql)), (am 32, .inl (cy 2, 100, .inl qx)), (am 33, .inl (cy 2, 601, .inl zsi2_6)), (am 34, .inl (cy 2, 601, .inl zpi2_7)), (am 22, .inl (cy 0, 30, .inl bo)), (am 23, .inl (cy 0, 30, .inl di)), (am 41, .inl (cy 0, 40, .inl ap)), (am 42, .inl (cy 0, 40, .inl as_))] := hD.sub [5, 0, 6, 7, 8, 9, 10, 11, 12, 13, 14, 15, 16, 17, 18, 19, 20, 1, 2, 3, 4] (by decide) rfl
  obtain ⟨v1, v2, v3, v4, v5, v6⟩ := hsy
  clear v1 v2 v3 v4 v5
  refine lv_iconst (v := 0) hx hb dX12_areSure_16 (by decide) ?_
  refine lv_istore_n (lv' := [(2, .int 0), (0, .ref (am 0)), (1, .int (nI a1))]) hx hb dX12_areSure_17 rfl hl (by decide) rfl (fun ls hl => ?_)
  have L_18 : ∀ (n9 : Nat), ∀ (k : Nat), (zsz + 1 - k) < n9 → (k ≤ zsz + 1) → (k = 0 ∨ ¬ bDg tb zsz (k - 1)) → (okTo tb zsz (sureY bo di (lvB (liv qp qt qm qf ql qx mk (fun t9 m9 y9 => sOnly nb fr tt st nu sn ((as_ a1).toInt.toNat) t9 m9 y9) qn ((ap a1).toInt.toNat))) ((ap a1).toInt.toNat)) k) → ∀ (H : Heap) (locs : List Loc), va_P (dC, dI) vwCl [(am 0, .inr (12, [.ref (am 1), .ref (am 2), .ref (am 3), .ref (am 4), .int (nI tn), .int (nI zsz), .int (nI zfr), .int (nI zbe), .int zha, .int zva, .int fk, .int fp, .ref (am 13), .int (nI sn), .ref (am 15), .ref (am 16), .ref (am 17), .ref (am 18), .ref (am 19), .int (nI pn), .int (nI qn), .ref (am 22), .ref (am 23), .ref (am 24), .ref (am 25), .ref (am 26), .ref (am 27), .ref (am 28), .ref (am 29), .ref (am 30), .ref (am 31), .ref (am 32), .ref (am 33), .ref (am 34), .int zss2_1, .int zsy2_2, .int zpy2_3, .int zfs2_4, .int zls2_5, .int (nI an), .ref (am 41), .ref (am 42), .ref (am 43), .ref (am 44), .ref (am 45), .ref (am 46), .ref (am 47), .ref (am 48), .ref (am 49), .ref (am 50), .int (nI zw), .ref (am 52), .ref (am 53)])), (am 4, .inl (cy 3, 600, .inl (mTape tb))), (am 15, .inl (cy 0, 40, .inl nb)), (am 16, .inl (cy 0, 320, .inl fr)), (am 17, .inl (cy 0, 320, .inl tt)), (am 18, .inl (cy 0, 320, .inl st)), (am 19, .inl (cy 0, 320, .inl nu)), (am 25, .inl (cy 0, 30, .inl mk)), (am 26, .inl (cy 0, 100, .inl qp)), (am 27, .inl (cy 0, 100, .inl qs)), (am 28, .inl (cy 0, 100, .inl qt)), (am 29, .inl (cy 0, 100, .inl qm)), (am 30, .inl (cy 0, 100, .inl qf)), (am 31, .inl (cy 0, 100, .inl ql)), (am 32, .inl (cy 2, 100, .inl qx)), (am 33, .inl (cy 2, 601, .inl zsi2_6)), (am 34, .inl (cy 2, 601, .inl zpi2_7)), (am 22, .inl (cy 0, 30, .inl bo)), (am 23, .inl (cy 0, 30, .inl di)), (am 41, .inl (cy 0, 40, .inl ap)), (am 42, .inl (cy 0, 40, .inl as_))] H → va_D A [(am 0, .inr (12, [.ref (am 1), .ref (am 2), .ref (am 3), .ref (am 4), .int (nI tn), .int (nI zsz), .int (nI zfr), .int (nI zbe), .int zha, .int zva, .int fk, .int fp, .ref (am 13), .int (nI sn), .ref (am 15), .ref (am 16), .ref (am 17), .ref (am 18), .ref (am 19), .int (nI pn), .int (nI qn), .ref (am 22), .ref (am 23), .ref (am 24), .ref (am 25), .ref (am 26), .ref (am 27), .ref (am 28), .ref (am 29), .ref (am 30), .ref (am 31), .ref (am 32), .ref (am 33), .ref (am 34), .int zss2_1, .int zsy2_2, .int zpy2_3, .int zfs2_4, .int zls2_5, .int (nI an), .ref (am 41), .ref (am 42), .ref (am 43), .ref (am 44), .ref (am 45), .ref (am 46), .ref (am 47), .ref (am 48), .ref (am 49), .ref (am 50), .int (nI zw), .ref (am 52), .ref (am 53)])), (am 4, .inl (cy 3, 600, .inl (mTape tb))), (am 15, .inl (cy 0, 40, .inl nb)), (am 16, .inl (cy 0, 320, .inl fr)), (am 17, .inl (cy 0, 320, .inl tt)), (am 18, .inl (cy 0, 320, .inl st)), (am 19, .inl (cy 0, 320, .inl nu)), (am 25, .inl (cy 0, 30, .inl mk)), (am 26, .inl (cy 0, 100, .inl qp)), (am 27, .inl (cy 0, 100, .inl qs)), (am 28, .inl (cy 0, 100, .inl qt)), (am 29, .inl (cy 0, 100, .inl qm)), (am 30, .inl (cy 0, 100, .inl qf)), (am 31, .inl (cy 0, 100, .inl ql)), (am 32, .inl (cy 2, 100, .inl qx)), (am 33, .inl (cy 2, 601, .inl zsi2_6)), (am 34, .inl (cy 2, 601, .inl zpi2_7)), (am 22, .inl (cy 0, 30, .inl bo)), (am 23, .inl (cy 0, 30, .inl di)), (am 41, .inl (cy 0, 40, .inl ap)), (am 42, .inl (cy 0, 40, .inl as_))] → va_S A ss.heap H locs → ∀ (ls : Array Slot), lv_has ls 6 [(0, .ref (am 0)), (1, .int (nI a1)), (2, .int (nI k))] → W pp l ee { frames := 5, cells := 0, slots := 0, locals := 124 } ss mm (List.toArray [Value.ref (am 0), Value.int (nI a1)]) below meth cc0 H locs 0 0 Q (F0 mm 18 ls []) := by
    intro n9
    induction n9 with
    | zero => intro k hm9; exact absurd hm9 (Nat.not_lt_zero _)
    | succ n9 ih18 =>
      intro k hm18 hk hk0 hok
      intro H locs hP hD hS
      intro ls hl
      refine lv_iload_n hx hb dX12_areSure_18 rfl (lv_at hl 2 rfl) ?_
      refine lv_aload_n hx hb dX12_areSure_19 rfl (lv_at hl 0 rfl) ?_
      refine va_get (D := (dC, dI)) (ci := 12) (v := .int (nI zsz)) (C := RX12) (T := TX12) (N := 53) hx hb hts hiX12 hown hK hP 0 rfl rfl 5 (by decide) hL2 (fun _ h9 => h9) rfl dX12_areSure_20 ?_
      refine bw_icmp_ge (tgt := 173) (a := ((k : Nat) : Int)) (b := ((zsz : Nat) : Int)) hx hb dX12_areSure_23 (by decide) (nI_toInt (by omega)) (nI_toInt (by omega)) (fun c_8 => ?_) (fun c_8 => ?_)
      · skip
        refine lv_iconst (v := 1) hx hb dX12_areSure_173 (by decide) ?_
        refine bw_Qe hQ ?_
        have hP9 : va_P (dC, dI) vwCl [(am 0, .inr (12, [.ref (am 1), .ref (am 2), .ref (am 3), .ref (am 4), .int (nI tn), .int (nI zsz), .int (nI zfr), .int (nI zbe), .int zha, .int zva, .int fk, .int fp, .ref (am 13), .int (nI sn), .ref (am 15), .ref (am 16), .ref (am 17), .ref (am 18), .ref (am 19), .int (nI pn), .int (nI qn), .ref (am 22), .ref (am 23), .ref (am 24), .ref (am 25), .ref (am 26), .ref (am 27), .ref (am 28), .ref (am 29), .ref (am 30), .ref (am 31), .ref (am 32), .ref (am 33), .ref (am 34), .int zss2_1, .int zsy2_2, .int zpy2_3, .int zfs2_4, .int zls2_5, .int (nI an), .ref (am 41), .ref (am 42), .ref (am 43), .ref (am 44), .ref (am 45), .ref (am 46), .ref (am 47), .ref (am 48), .ref (am 49), .ref (am 50), .int (nI zw), .ref (am 52), .ref (am 53)])), (am 4, .inl (cy 3, 600, .inl (mTape tb))), (am 15, .inl (cy 0, 40, .inl nb)), (am 16, .inl (cy 0, 320, .inl fr)), (am 17, .inl (cy 0, 320, .inl tt)), (am 18, .inl (cy 0, 320, .inl st)), (am 19, .inl (cy 0, 320, .inl nu)), (am 25, .inl (cy 0, 30, .inl mk)), (am 26, .inl (cy 0, 100, .inl qp)), (am 27, .inl (cy 0, 100, .inl qs)), (am 28, .inl (cy 0, 100, .inl qt)), (am 29, .inl (cy 0, 100, .inl qm)), (am 30, .inl (cy 0, 100, .inl qf)), (am 31, .inl (cy 0, 100, .inl ql)), (am 32, .inl (cy 2, 100, .inl qx)), (am 33, .inl (cy 2, 601, .inl zsi2_6)), (am 34, .inl (cy 2, 601, .inl zpi2_7)), (am 22, .inl (cy 0, 30, .inl bo)), (am 23, .inl (cy 0, 30, .inl di)), (am 41, .inl (cy 0, 40, .inl ap)), (am 42, .inl (cy 0, 40, .inl as_))] H := hP.sub [0, 1, 2, 3, 4, 5, 6, 7, 8, 9, 10, 11, 12, 13, 14, 15, 16, 17, 18, 19, 20] rfl
        have hD9 : va_D A [(am 0, .inr (12, [.ref (am 1), .ref (am 2), .ref (am 3), .ref (am 4), .int (nI tn), .int (nI zsz), .int (nI zfr), .int (nI zbe), .int zha, .int zva, .int fk, .int fp, .ref (am 13), .int (nI sn), .ref (am 15), .ref (am 16), .ref (am 17), .ref (am 18), .ref (am 19), .int (nI pn), .int (nI qn), .ref (am 22), .ref (am 23), .ref (am 24), .ref (am 25), .ref (am 26), .ref (am 27), .ref (am 28), .ref (am 29), .ref (am 30), .ref (am 31), .ref (am 32), .ref (am 33), .ref (am 34), .int zss2_1, .int zsy2_2, .int zpy2_3, .int zfs2_4, .int zls2_5, .int (nI an), .ref (am 41), .ref (am 42), .ref (am 43), .ref (am 44), .ref (am 45), .ref (am 46), .ref (am 47), .ref (am 48), .ref (am 49), .ref (am 50), .int (nI zw), .ref (am 52), .ref (am 53)])), (am 4, .inl (cy 3, 600, .inl (mTape tb))), (am 15, .inl (cy 0, 40, .inl nb)), (am 16, .inl (cy 0, 320, .inl fr)), (am 17, .inl (cy 0, 320, .inl tt)), (am 18, .inl (cy 0, 320, .inl st)), (am 19, .inl (cy 0, 320, .inl nu)), (am 25, .inl (cy 0, 30, .inl mk)), (am 26, .inl (cy 0, 100, .inl qp)), (am 27, .inl (cy 0, 100, .inl qs)), (am 28, .inl (cy 0, 100, .inl qt)), (am 29, .inl (cy 0, 100, .inl qm)), (am 30, .inl (cy 0, 100, .inl qf)), (am 31, .inl (cy 0, 100, .inl ql)), (am 32, .inl (cy 2, 100, .inl qx)), (am 33, .inl (cy 2, 601, .inl zsi2_6)), (am 34, .inl (cy 2, 601, .inl zpi2_7)), (am 22, .inl (cy 0, 30, .inl bo)), (am 23, .inl (cy 0, 30, .inl di)), (am 41, .inl (cy 0, 40, .inl ap)), (am 42, .inl (cy 0, 40, .inl as_))] := hD.sub [0, 1, 2, 3, 4, 5, 6, 7, 8, 9, 10, 11, 12, 13, 14, 15, 16, 17, 18, 19, 20] (by decide) rfl
        have hpost : (1 : Int32) = pI (aSure tb zsz (sureY bo di (lvB (liv qp qt qm qf ql qx mk (fun t9 m9 y9 => sOnly nb fr tt st nu sn ((as_ a1).toInt.toNat) t9 m9 y9) qn ((ap a1).toInt.toNat))) ((ap a1).toInt.toNat))) := by
          exact (pI_t (ok_end hok hk0 (by omega))).symm
        exact W.zret (v := 1) hx hb hr (by rfl) (fun t9 ht hW => ⟨⟨1, (zss2_1, zsy2_2, zpy2_3, zfs2_4, zls2_5, zsi2_6, zpi2_7), rfl, hpost, by rw [ht]; exact hP9, va_K.moved hW.alike hK, hD9⟩, hS.F ht⟩) hS.2.2 dX12_areSure_174
      · skip
        refine lv_iload_n hx hb dX12_areSure_26 rfl (lv_at hl 2 rfl) ?_
        refine lv_istore_n (lv' := [(3, .int (nI k)), (0, .ref (am 0)), (1, .int (nI a1)), (2, .int (nI k))]) hx hb dX12_areSure_27 rfl hl (by decide) rfl (fun ls hl => ?_)
        refine lv_iconst (v := 0) hx hb dX12_areSure_28 (by decide) ?_
        refine lv_istore (lv' := [(4, .int 0), (3, .int (nI k)), (0, .ref (am 0)), (1, .int (nI a1)), (2, .int (nI k))]) hx hb dX12_areSure_29 hl (by decide) rfl (fun ls hl => ?_)
        have L_31 : ∀ (n9 : Nat), ∀ (j : Nat) (z : Int32), (zsz - j) < n9 → (j ≤ zsz) → (toRun (bDg tb zsz) k j) → (j ≤ k + 4 → z.toInt = vN tb k (j - k)) → (0 ≤ z.toInt ∧ z.toInt ≤ 9999) → ∀ (H : Heap) (locs : List Loc), va_P (dC, dI) vwCl [(am 0, .inr (12, [.ref (am 1), .ref (am 2), .ref (am 3), .ref (am 4), .int (nI tn), .int (nI zsz), .int (nI zfr), .int (nI zbe), .int zha, .int zva, .int fk, .int fp, .ref (am 13), .int (nI sn), .ref (am 15), .ref (am 16), .ref (am 17), .ref (am 18), .ref (am 19), .int (nI pn), .int (nI qn), .ref (am 22), .ref (am 23), .ref (am 24), .ref (am 25), .ref (am 26), .ref (am 27), .ref (am 28), .ref (am 29), .ref (am 30), .ref (am 31), .ref (am 32), .ref (am 33), .ref (am 34), .int zss2_1, .int zsy2_2, .int zpy2_3, .int zfs2_4, .int zls2_5, .int (nI an), .ref (am 41), .ref (am 42), .ref (am 43), .ref (am 44), .ref (am 45), .ref (am 46), .ref (am 47), .ref (am 48), .ref (am 49), .ref (am 50), .int (nI zw), .ref (am 52), .ref (am 53)])), (am 4, .inl (cy 3, 600, .inl (mTape tb))), (am 15, .inl (cy 0, 40, .inl nb)), (am 16, .inl (cy 0, 320, .inl fr)), (am 17, .inl (cy 0, 320, .inl tt)), (am 18, .inl (cy 0, 320, .inl st)), (am 19, .inl (cy 0, 320, .inl nu)), (am 25, .inl (cy 0, 30, .inl mk)), (am 26, .inl (cy 0, 100, .inl qp)), (am 27, .inl (cy 0, 100, .inl qs)), (am 28, .inl (cy 0, 100, .inl qt)), (am 29, .inl (cy 0, 100, .inl qm)), (am 30, .inl (cy 0, 100, .inl qf)), (am 31, .inl (cy 0, 100, .inl ql)), (am 32, .inl (cy 2, 100, .inl qx)), (am 33, .inl (cy 2, 601, .inl zsi2_6)), (am 34, .inl (cy 2, 601, .inl zpi2_7)), (am 22, .inl (cy 0, 30, .inl bo)), (am 23, .inl (cy 0, 30, .inl di)), (am 41, .inl (cy 0, 40, .inl ap)), (am 42, .inl (cy 0, 40, .inl as_))] H → va_D A [(am 0, .inr (12, [.ref (am 1), .ref (am 2), .ref (am 3), .ref (am 4), .int (nI tn), .int (nI zsz), .int (nI zfr), .int (nI zbe), .int zha, .int zva, .int fk, .int fp, .ref (am 13), .int (nI sn), .ref (am 15), .ref (am 16), .ref (am 17), .ref (am 18), .ref (am 19), .int (nI pn), .int (nI qn), .ref (am 22), .ref (am 23), .ref (am 24), .ref (am 25), .ref (am 26), .ref (am 27), .ref (am 28), .ref (am 29), .ref (am 30), .ref (am 31), .ref (am 32), .ref (am 33), .ref (am 34), .int zss2_1, .int zsy2_2, .int zpy2_3, .int zfs2_4, .int zls2_5, .int (nI an), .ref (am 41), .ref (am 42), .ref (am 43), .ref (am 44), .ref (am 45), .ref (am 46), .ref (am 47), .ref (am 48), .ref (am 49), .ref (am 50), .int (nI zw), .ref (am 52), .ref (am 53)])), (am 4, .inl (cy 3, 600, .inl (mTape tb))), (am 15, .inl (cy 0, 40, .inl nb)), (am 16, .inl (cy 0, 320, .inl fr)), (am 17, .inl (cy 0, 320, .inl tt)), (am 18, .inl (cy 0, 320, .inl st)), (am 19, .inl (cy 0, 320, .inl nu)), (am 25, .inl (cy 0, 30, .inl mk)), (am 26, .inl (cy 0, 100, .inl qp)), (am 27, .inl (cy 0, 100, .inl qs)), (am 28, .inl (cy 0, 100, .inl qt)), (am 29, .inl (cy 0, 100, .inl qm)), (am 30, .inl (cy 0, 100, .inl qf)), (am 31, .inl (cy 0, 100, .inl ql)), (am 32, .inl (cy 2, 100, .inl qx)), (am 33, .inl (cy 2, 601, .inl zsi2_6)), (am 34, .inl (cy 2, 601, .inl zpi2_7)), (am 22, .inl (cy 0, 30, .inl bo)), (am 23, .inl (cy 0, 30, .inl di)), (am 41, .inl (cy 0, 40, .inl ap)), (am 42, .inl (cy 0, 40, .inl as_))] → va_S A ss.heap H locs → ∀ (ls : Array Slot), lv_has ls 6 [(0, .ref (am 0)), (1, .int (nI a1)), (2, .int (nI k)), (3, .int (nI j)), (4, .int z)] → W pp l ee { frames := 5, cells := 0, slots := 0, locals := 124 } ss mm (List.toArray [Value.ref (am 0), Value.int (nI a1)]) below meth cc0 H locs 0 0 Q (F0 mm 31 ls []) := by
          intro n9
          induction n9 with
          | zero => intro j z hm9; exact absurd hm9 (Nat.not_lt_zero _)
          | succ n9 ih31 =>
            intro j z hm31 hj hr3 hz hz0
            intro H locs hP hD hS
            intro ls hl
            have hj0 := hr3.1
            refine lv_aload_n hx hb dX12_areSure_31 rfl (lv_at hl 0 rfl) ?_
            refine lv_iload_n hx hb dX12_areSure_32 rfl (lv_at hl 3 rfl) ?_
            have hPc : va_P (dC, dI) vwCl [(am 0, .inr (12, [.ref (am 1), .ref (am 2), .ref (am 3), .ref (am 4), .int (nI tn), .int (nI zsz), .int (nI zfr), .int (nI zbe), .int zha, .int zva, .int fk, .int fp, .ref (am 13), .int (nI sn), .ref (am 15), .ref (am 16), .ref (am 17), .ref (am 18), .ref (am 19), .int (nI pn), .int (nI qn), .ref (am 22), .ref (am 23), .ref (am 24), .ref (am 25), .ref (am 26), .ref (am 27), .ref (am 28), .ref (am 29), .ref (am 30), .ref (am 31), .ref (am 32), .ref (am 33), .ref (am 34), .int zss2_1, .int zsy2_2, .int zpy2_3, .int zfs2_4, .int zls2_5, .int (nI an), .ref (am 41), .ref (am 42), .ref (am 43), .ref (am 44), .ref (am 45), .ref (am 46), .ref (am 47), .ref (am 48), .ref (am 49), .ref (am 50), .int (nI zw), .ref (am 52), .ref (am 53)])), (am 4, .inl (cy 3, 600, .inl (mTape tb)))] H := hP.sub [0, 1] rfl
            refine vp_callSi (va_Run.run (va_runV (As := [.int (nI j)]) (rest := []) ⟨hx, hb, hml, hown, hts⟩ (c_X12_byteAt l dC dI cy am tn zsz zfr zbe zha zva fk fp sn pn qn zss2_1 zsy2_2 zpy2_3 zfs2_4 zls2_5 an zw tb j (by first | assumption | omega) (by first | assumption | omega) (by first | assumption | omega)) (cwV 1 hts gX12_areSure_X12_byteAt rfl rfl rfl (by decide +kernel) ⟨Nat.le_of_ble_eq_true rfl, Nat.le_of_ble_eq_true rfl⟩) ⟨fun a U g mk q => by obtain ⟨q0, qP, qK⟩ := q; exact ⟨q0, qP, va_K.moved (u := U) (U := U.calling g mk a) (Vm.Alike.refl U.vm) qK⟩, va_recv hK hPc (ci := 12) (q0 := 0) rfl rfl, fun U hU hW => ⟨rfl, by rw [hU]; exact hPc, va_K.moved hW.alike hK⟩⟩ rfl rfl hl.1 rfl (lv_room (Nat.le_of_ble_eq_true rfl)) dX12_areSure_33 ⟨Nat.le_of_ble_eq_true rfl, Nat.le_of_ble_eq_true rfl⟩)) (fun r_9 hr_9 => ?_)
            rw [hr_9]
            refine vp_callSi (va_Run.run (va_runS (As := [.int (bAt tb zsz j)]) (rest := []) ⟨hx, hb, hml, hown, hts⟩ (c_X12_isDigit l dC dI cy (bAt tb zsz j)) (va_cwS 1 hts gX12_areSure_X12_isDigit rfl rfl rfl (by decide +kernel) ⟨Nat.le_of_ble_eq_true rfl, Nat.le_of_ble_eq_true rfl⟩) ⟨fun a U g mk q => q, fun U hU hW => ⟨rfl, trivial⟩⟩ rfl rfl hl.1 rfl (lv_room (Nat.le_of_ble_eq_true rfl)) dX12_areSure_36 ⟨Nat.le_of_ble_eq_true rfl, Nat.le_of_ble_eq_true rfl⟩)) (fun r_10 hr_10 => ?_)
            refine bw_ifeqB (tgt := 76) hx hb dX12_areSure_39 (by decide) hr_10 (fun q_d => ?_) (fun q_d => ?_)
            · skip
              have hne : ¬ bDg tb zsz j := fun q => q_d (bAt_dg.mpr q)
              refine lv_iload hx hb dX12_areSure_76 (lv_at hl 4 rfl) ?_
              refine lv_aload_n hx hb dX12_areSure_78 rfl (lv_at hl 0 rfl) ?_
              refine va_get (D := (dC, dI)) (ci := 12) (v := .ref (am 22)) (C := RX12) (T := TX12) (N := 53) hx hb hts hiX12 hown hK hP 0 rfl rfl 21 (by decide) hL3 (fun _ h9 => h9) rfl dX12_areSure_79 ?_
              refine lv_aload_n hx hb dX12_areSure_82 rfl (lv_at hl 0 rfl) ?_
              refine va_get (D := (dC, dI)) (ci := 12) (v := .ref (am 41)) (C := RX12) (T := TX12) (N := 53) hx hb hts hiX12 hown hK hP 0 rfl rfl 40 (by decide) hL0 (fun _ h9 => h9) rfl dX12_areSure_83 ?_
              refine lv_iload_n hx hb dX12_areSure_86 rfl (lv_at hl 1 rfl) ?_
              refine bw_iald hx hb hK hP 19 0 rfl rfl (j := a1) (nI_toInt (by omega)) (by omega) dX12_areSure_87 ?_
              refine bw_re (show (ap a1) = nI ((ap a1).toInt.toNat) from nI_back (by omega)) ?_
              refine bw_iald hx hb hK hP 17 0 rfl rfl (j := ((ap a1).toInt.toNat)) (nI_toInt (by omega)) (by omega) dX12_areSure_88 ?_
              refine bw_icmp_eq (tgt := 145) (a := z.toInt) (b := (bo ((ap a1).toInt.toNat)).toInt) hx hb dX12_areSure_89 (by decide) rfl rfl (fun c_b => ?_) (fun c_b => ?_)
              · skip
                refine lv_iconst (v := 1) hx hb dX12_areSure_145 (by decide) ?_
                refine lv_goto (tgt := 150) hx hb dX12_areSure_146 (by decide) ?_
                refine lv_istore (lv' := [(5, .int 1), (0, .ref (am 0)), (1, .int (nI a1)), (2, .int (nI k)), (3, .int (nI j)), (4, .int z)]) hx hb dX12_areSure_150 hl (by decide) rfl (fun ls hl => ?_)
                refine lv_iload_n hx hb dX12_areSure_152 rfl (lv_at hl 4 rfl) ?_
                refine lv_iload_n hx hb dX12_areSure_153 rfl (lv_at hl 3 rfl) ?_
                refine lv_isub hx hb dX12_areSure_154 ?_
                refine bw_re (show (nI j) - (nI k) = nI (j - k) from pk_sub (a := j) (b := k) (by omega)) ?_
                refine lv_iconst (v := 4) hx hb dX12_areSure_155 (by decide) ?_
                refine bw_icmp_ne (tgt := 166) (a := ((j - k : Nat) : Int)) (b := 4) hx hb dX12_areSure_156 (by decide) (nI_toInt (by omega)) rfl (fun c_11 => ?_) (fun c_11 => ?_)
                · skip
                  refine lv_iload_n hx hb dX12_areSure_166 rfl (lv_at hl 4 rfl) ?_
                  refine lv_iconst (v := 1) hx hb dX12_areSure_167 (by decide) ?_
                  refine lv_iadd hx hb dX12_areSure_168 ?_
                  refine bw_re (show (nI j) + 1 = nI (j + 1) from nI_add (j) (1)) ?_
                  refine lv_istore_n (lv' := [(2, .int (nI (j + 1))), (5, .int 1), (0, .ref (am 0)), (1, .int (nI a1)), (3, .int (nI j)), (4, .int z)]) hx hb dX12_areSure_169 rfl hl (by decide) rfl (fun ls hl => ?_)
                  refine lv_goto (tgt := 18) hx hb dX12_areSure_170 (by decide) ?_
                  have hI_hk0 : (j + 1) = 0 ∨ ¬ bDg tb zsz ((j + 1) - 1) := by
                    exact Or.inr (by rw [show j + 1 - 1 = j by omega]; exact hne)
                  have hI_hok : okTo tb zsz (sureY bo di (lvB (liv qp qt qm qf ql qx mk (fun t9 m9 y9 => sOnly nb fr tt st nu sn ((as_ a1).toInt.toNat) t9 m9 y9) qn ((ap a1).toInt.toNat))) ((ap a1).toInt.toNat)) (j + 1) := by
                    refine ok_r hok hk0 (toRun_e hr3 hne) (fun q => ?_)
                    first
                      | (exfalso; omega)
                      | (have hsu : sureY bo di (lvB (liv qp qt qm qf ql qx mk (fun t9 m9 y9 => sOnly nb fr tt st nu sn ((as_ a1).toInt.toNat) t9 m9 y9) qn ((ap a1).toInt.toNat))) ((ap a1).toInt.toNat) z.toInt := by
                           first
                             | exact Or.inl c_b
                             | exact Or.inr (Or.inl c_d)
                             | (refine Or.inr (Or.inr ⟨c_y, ?_⟩)
                                have c_s2 := c_s
                                rw [v6 _ (by omega)] at c_s2
                                exact pI_ne.mp c_s2)
                         have e9 := hz (by omega)
                         rw [show j - k = 4 by omega] at e9
                         rw [← e9]; exact hsu)
                  exact ih18 (j + 1) (by omega) (by first | assumption | omega) hI_hk0 hI_hok H locs hP hD hS ls (lv_sub hl [2, 3, 0] rfl)
                · skip
                  refine lv_iload hx hb dX12_areSure_159 (lv_at hl 0 rfl) ?_
                  refine bw_if_ne (tgt := 166) (a := 1) hx hb dX12_areSure_161 (by decide) rfl (fun c_12 => ?_) (fun c_12 => ?_)
                  · skip
                    refine lv_iload_n hx hb dX12_areSure_166 rfl (lv_at hl 4 rfl) ?_
                    refine lv_iconst (v := 1) hx hb dX12_areSure_167 (by decide) ?_
                    refine lv_iadd hx hb dX12_areSure_168 ?_
                    refine bw_re (show (nI j) + 1 = nI (j + 1) from nI_add (j) (1)) ?_
                    refine lv_istore_n (lv' := [(2, .int (nI (j + 1))), (5, .int 1), (0, .ref (am 0)), (1, .int (nI a1)), (3, .int (nI j)), (4, .int z)]) hx hb dX12_areSure_169 rfl hl (by decide) rfl (fun ls hl => ?_)
                    refine lv_goto (tgt := 18) hx hb dX12_areSure_170 (by decide) ?_
                    have hI_hk0 : (j + 1) = 0 ∨ ¬ bDg tb zsz ((j + 1) - 1) := by
                      exact Or.inr (by rw [show j + 1 - 1 = j by omega]; exact hne)
                    have hI_hok : okTo tb zsz (sureY bo di (lvB (liv qp qt qm qf ql qx mk (fun t9 m9 y9 => sOnly nb fr tt st nu sn ((as_ a1).toInt.toNat) t9 m9 y9) qn ((ap a1).toInt.toNat))) ((ap a1).toInt.toNat)) (j + 1) := by
                      refine ok_r hok hk0 (toRun_e hr3 hne) (fun q => ?_)
                      first
                        | (exfalso; omega)
                        | (have hsu : sureY bo di (lvB (liv qp qt qm qf ql qx mk (fun t9 m9 y9 => sOnly nb fr tt st nu sn ((as_ a1).toInt.toNat) t9 m9 y9) qn ((ap a1).toInt.toNat))) ((ap a1).toInt.toNat) z.toInt := by
                             first
                               | exact Or.inl c_b
                               | exact Or.inr (Or.inl c_d)
                               | (refine Or.inr (Or.inr ⟨c_y, ?_⟩)
                                  have c_s2 := c_s
                                  rw [v6 _ (by omega)] at c_s2
                                  exact pI_ne.mp c_s2)
                           have e9 := hz (by omega)
                           rw [show j - k = 4 by omega] at e9
                           rw [← e9]; exact hsu)
                    exact ih18 (j + 1) (by omega) (by first | assumption | omega) hI_hk0 hI_hok H locs hP hD hS ls (lv_sub hl [2, 3, 0] rfl)
                  · exact absurd c_12 (by decide)
              · skip
                refine lv_aload_n hx hb dX12_areSure_92 rfl (lv_at hl 0 rfl) ?_
                refine va_get (D := (dC, dI)) (ci := 12) (v := .ref (am 23)) (C := RX12) (T := TX12) (N := 53) hx hb hts hiX12 hown hK hP 0 rfl rfl 22 (by decide) hL4 (fun _ h9 => h9) rfl dX12_areSure_93 ?_
                refine lv_aload_n hx hb dX12_areSure_96 rfl (lv_at hl 0 rfl) ?_
                refine va_get (D := (dC, dI)) (ci := 12) (v := .ref (am 41)) (C := RX12) (T := TX12) (N := 53) hx hb hts hiX12 hown hK hP 0 rfl rfl 40 (by decide) hL0 (fun _ h9 => h9) rfl dX12_areSure_97 ?_
                refine lv_iload_n hx hb dX12_areSure_100 rfl (lv_at hl 1 rfl) ?_
                refine bw_iald hx hb hK hP 19 0 rfl rfl (j := a1) (nI_toInt (by omega)) (by omega) dX12_areSure_101 ?_
                refine bw_re (show (ap a1) = nI ((ap a1).toInt.toNat) from nI_back (by omega)) ?_
                refine bw_iald hx hb hK hP 18 0 rfl rfl (j := ((ap a1).toInt.toNat)) (nI_toInt (by omega)) (by omega) dX12_areSure_102 ?_
                refine lv_iconst (v := (-1)) hx hb dX12_areSure_103 (by decide) ?_
                refine bw_icmp_eq (tgt := 123) (a := (di ((ap a1).toInt.toNat)).toInt) (b := (-1)) hx hb dX12_areSure_104 (by decide) rfl rfl (fun c_n => ?_) (fun c_n => ?_)
                · skip
                  refine lv_iload hx hb dX12_areSure_123 (lv_at hl 4 rfl) ?_
                  refine vp_callSi (va_Run.run (va_runS (As := [.int z]) (rest := []) ⟨hx, hb, hml, hown, hts⟩ (c_X12_isYear l dC dI cy z) (va_cwS 1 hts gX12_areSure_X12_isYear rfl rfl rfl (by decide +kernel) ⟨Nat.le_of_ble_eq_true rfl, Nat.le_of_ble_eq_true rfl⟩) ⟨fun a U g mk q => q, fun U hU hW => ⟨rfl, trivial⟩⟩ rfl rfl hl.1 rfl (lv_room (Nat.le_of_ble_eq_true rfl)) dX12_areSure_125 ⟨Nat.le_of_ble_eq_true rfl, Nat.le_of_ble_eq_true rfl⟩)) (fun r_13 hr_13 => ?_)
                  refine bw_ifeqB (tgt := 149) hx hb dX12_areSure_128 (by decide) hr_13 (fun c_y => ?_) (fun c_y => ?_)
                  · skip
                    refine lv_iconst (v := 0) hx hb dX12_areSure_149 (by decide) ?_
                    refine lv_istore (lv' := [(5, .int 0), (0, .ref (am 0)), (1, .int (nI a1)), (2, .int (nI k)), (3, .int (nI j)), (4, .int z)]) hx hb dX12_areSure_150 hl (by decide) rfl (fun ls hl => ?_)
                    refine lv_iload_n hx hb dX12_areSure_152 rfl (lv_at hl 4 rfl) ?_
                    refine lv_iload_n hx hb dX12_areSure_153 rfl (lv_at hl 3 rfl) ?_
                    refine lv_isub hx hb dX12_areSure_154 ?_
                    refine bw_re (show (nI j) - (nI k) = nI (j - k) from pk_sub (a := j) (b := k) (by omega)) ?_
                    refine lv_iconst (v := 4) hx hb dX12_areSure_155 (by decide) ?_
                    refine bw_icmp_ne (tgt := 166) (a := ((j - k : Nat) : Int)) (b := 4) hx hb dX12_areSure_156 (by decide) (nI_toInt (by omega)) rfl (fun c_14 => ?_) (fun c_14 => ?_)
                    · skip
                      refine lv_iload_n hx hb dX12_areSure_166 rfl (lv_at hl 4 rfl) ?_
                      refine lv_iconst (v := 1) hx hb dX12_areSure_167 (by decide) ?_
                      refine lv_iadd hx hb dX12_areSure_168 ?_
                      refine bw_re (show (nI j) + 1 = nI (j + 1) from nI_add (j) (1)) ?_
                      refine lv_istore_n (lv' := [(2, .int (nI (j + 1))), (5, .int 0), (0, .ref (am 0)), (1, .int (nI a1)), (3, .int (nI j)), (4, .int z)]) hx hb dX12_areSure_169 rfl hl (by decide) rfl (fun ls hl => ?_)
                      refine lv_goto (tgt := 18) hx hb dX12_areSure_170 (by decide) ?_
                      have hI_hk0 : (j + 1) = 0 ∨ ¬ bDg tb zsz ((j + 1) - 1) := by
                        exact Or.inr (by rw [show j + 1 - 1 = j by omega]; exact hne)
                      have hI_hok : okTo tb zsz (sureY bo di (lvB (liv qp qt qm qf ql qx mk (fun t9 m9 y9 => sOnly nb fr tt st nu sn ((as_ a1).toInt.toNat) t9 m9 y9) qn ((ap a1).toInt.toNat))) ((ap a1).toInt.toNat)) (j + 1) := by
                        refine ok_r hok hk0 (toRun_e hr3 hne) (fun q => ?_)
                        first
                          | (exfalso; omega)
                          | (have hsu : sureY bo di (lvB (liv qp qt qm qf ql qx mk (fun t9 m9 y9 => sOnly nb fr tt st nu sn ((as_ a1).toInt.toNat) t9 m9 y9) qn ((ap a1).toInt.toNat))) ((ap a1).toInt.toNat) z.toInt := by
                               first
                                 | exact Or.inl c_b
                                 | exact Or.inr (Or.inl c_d)
                                 | (refine Or.inr (Or.inr ⟨c_y, ?_⟩)
                                    have c_s2 := c_s
                                    rw [v6 _ (by omega)] at c_s2
                                    exact pI_ne.mp c_s2)
                             have e9 := hz (by omega)
                             rw [show j - k = 4 by omega] at e9
                             rw [← e9]; exact hsu)
                      exact ih18 (j + 1) (by omega) (by first | assumption | omega) hI_hk0 hI_hok H locs hP hD hS ls (lv_sub hl [2, 3, 0] rfl)
                    · skip
                      refine lv_iload hx hb dX12_areSure_159 (lv_at hl 0 rfl) ?_
                      refine bw_if_ne (tgt := 166) (a := 0) hx hb dX12_areSure_161 (by decide) rfl (fun c_15 => ?_) (fun c_15 => ?_)
                      · exact absurd c_15 (by decide)
                      · skip
                        refine lv_iconst (v := 0) hx hb dX12_areSure_164 (by decide) ?_
                        refine bw_Qe hQ ?_
                        have hP9 : va_P (dC, dI) vwCl [(am 0, .inr (12, [.ref (am 1), .ref (am 2), .ref (am 3), .ref (am 4), .int (nI tn), .int (nI zsz), .int (nI zfr), .int (nI zbe), .int zha, .int zva, .int fk, .int fp, .ref (am 13), .int (nI sn), .ref (am 15), .ref (am 16), .ref (am 17), .ref (am 18), .ref (am 19), .int (nI pn), .int (nI qn), .ref (am 22), .ref (am 23), .ref (am 24), .ref (am 25), .ref (am 26), .ref (am 27), .ref (am 28), .ref (am 29), .ref (am 30), .ref (am 31), .ref (am 32), .ref (am 33), .ref (am 34), .int zss2_1, .int zsy2_2, .int zpy2_3, .int zfs2_4, .int zls2_5, .int (nI an), .ref (am 41), .ref (am 42), .ref (am 43), .ref (am 44), .ref (am 45), .ref (am 46), .ref (am 47), .ref (am 48), .ref (am 49), .ref (am 50), .int (nI zw), .ref (am 52), .ref (am 53)])), (am 4, .inl (cy 3, 600, .inl (mTape tb))), (am 15, .inl (cy 0, 40, .inl nb)), (am 16, .inl (cy 0, 320, .inl fr)), (am 17, .inl (cy 0, 320, .inl tt)), (am 18, .inl (cy 0, 320, .inl st)), (am 19, .inl (cy 0, 320, .inl nu)), (am 25, .inl (cy 0, 30, .inl mk)), (am 26, .inl (cy 0, 100, .inl qp)), (am 27, .inl (cy 0, 100, .inl qs)), (am 28, .inl (cy 0, 100, .inl qt)), (am 29, .inl (cy 0, 100, .inl qm)), (am 30, .inl (cy 0, 100, .inl qf)), (am 31, .inl (cy 0, 100, .inl ql)), (am 32, .inl (cy 2, 100, .inl qx)), (am 33, .inl (cy 2, 601, .inl zsi2_6)), (am 34, .inl (cy 2, 601, .inl zpi2_7)), (am 22, .inl (cy 0, 30, .inl bo)), (am 23, .inl (cy 0, 30, .inl di)), (am 41, .inl (cy 0, 40, .inl ap)), (am 42, .inl (cy 0, 40, .inl as_))] H := hP.sub [0, 1, 2, 3, 4, 5, 6, 7, 8, 9, 10, 11, 12, 13, 14, 15, 16, 17, 18, 19, 20] rfl
                        have hD9 : va_D A [(am 0, .inr (12, [.ref (am 1), .ref (am 2), .ref (am 3), .ref (am 4), .int (nI tn), .int (nI zsz), .int (nI zfr), .int (nI zbe), .int zha, .int zva, .int fk, .int fp, .ref (am 13), .int (nI sn), .ref (am 15), .ref (am 16), .ref (am 17), .ref (am 18), .ref (am 19), .int (nI pn), .int (nI qn), .ref (am 22), .ref (am 23), .ref (am 24), .ref (am 25), .ref (am 26), .ref (am 27), .ref (am 28), .ref (am 29), .ref (am 30), .ref (am 31), .ref (am 32), .ref (am 33), .ref (am 34), .int zss2_1, .int zsy2_2, .int zpy2_3, .int zfs2_4, .int zls2_5, .int (nI an), .ref (am 41), .ref (am 42), .ref (am 43), .ref (am 44), .ref (am 45), .ref (am 46), .ref (am 47), .ref (am 48), .ref (am 49), .ref (am 50), .int (nI zw), .ref (am 52), .ref (am 53)])), (am 4, .inl (cy 3, 600, .inl (mTape tb))), (am 15, .inl (cy 0, 40, .inl nb)), (am 16, .inl (cy 0, 320, .inl fr)), (am 17, .inl (cy 0, 320, .inl tt)), (am 18, .inl (cy 0, 320, .inl st)), (am 19, .inl (cy 0, 320, .inl nu)), (am 25, .inl (cy 0, 30, .inl mk)), (am 26, .inl (cy 0, 100, .inl qp)), (am 27, .inl (cy 0, 100, .inl qs)), (am 28, .inl (cy 0, 100, .inl qt)), (am 29, .inl (cy 0, 100, .inl qm)), (am 30, .inl (cy 0, 100, .inl qf)), (am 31, .inl (cy 0, 100, .inl ql)), (am 32, .inl (cy 2, 100, .inl qx)), (am 33, .inl (cy 2, 601, .inl zsi2_6)), (am 34, .inl (cy 2, 601, .inl zpi2_7)), (am 22, .inl (cy 0, 30, .inl bo)), (am 23, .inl (cy 0, 30, .inl di)), (am 41, .inl (cy 0, 40, .inl ap)), (am 42, .inl (cy 0, 40, .inl as_))] := hD.sub [0, 1, 2, 3, 4, 5, 6, 7, 8, 9, 10, 11, 12, 13, 14, 15, 16, 17, 18, 19, 20] (by decide) rfl
                        have hpost : (0 : Int32) = pI (aSure tb zsz (sureY bo di (lvB (liv qp qt qm qf ql qx mk (fun t9 m9 y9 => sOnly nb fr tt st nu sn ((as_ a1).toInt.toNat) t9 m9 y9) qn ((ap a1).toInt.toNat))) ((ap a1).toInt.toNat))) := by
                          refine (pI_f (fun q => ?_)).symm
                          have hns : ¬ sureY bo di (lvB (liv qp qt qm qf ql qx mk (fun t9 m9 y9 => sOnly nb fr tt st nu sn ((as_ a1).toInt.toNat) t9 m9 y9) qn ((ap a1).toInt.toNat))) ((ap a1).toInt.toNat) z.toInt := by
                            intro q
                            rcases q with q | q | q
                            · exact c_b q
                            · first
                                | exact c_d q
                                | omega
                            · first
                                | exact c_y q.1
                                | (have c_s2 := c_s
                                   rw [v6 _ (by omega)] at c_s2
                                   exact pI_e0.mp c_s2 q.2)
                          have e9 := hz (by omega)
                          rw [show j - k = 4 by omega] at e9
                          rw [e9] at hns
                          have hrun := toRun_e hr3 hne
                          rw [show j = k + 4 by omega] at hrun
                          exact hns (q k ⟨hk0, hrun⟩)
                        exact W.zret (v := 0) hx hb hr (by rfl) (fun t9 ht hW => ⟨⟨0, (zss2_1, zsy2_2, zpy2_3, zfs2_4, zls2_5, zsi2_6, zpi2_7), rfl, hpost, by rw [ht]; exact hP9, va_K.moved hW.alike hK, hD9⟩, hS.F ht⟩) hS.2.2 dX12_areSure_165
                  · skip
                    refine lv_aload_n hx hb dX12_areSure_131 rfl (lv_at hl 0 rfl) ?_
                    refine va_get (D := (dC, dI)) (ci := 12) (v := .ref (am 33)) (C := RX12) (T := TX12) (N := 53) hx hb hts hiX12 hown hK hP 0 rfl rfl 32 (by decide) hL5 (fun _ h9 => h9) rfl dX12_areSure_132 ?_
                    refine lv_iload hx hb dX12_areSure_135 (lv_at hl 4 rfl) ?_
                    refine lv_sipush (v := 1500) hx hb dX12_areSure_137 (by decide) ?_
                    refine lv_isub hx hb dX12_areSure_140 ?_
                    refine bw_nm (a := (z.toInt - 1500)) (tI_sub rfl rfl (by omega) (by omega)) (fun z_16 ez_16 tz_16 => ?_)
                    refine bw_zald hx hb hK hP 15 2 rfl rfl (j := ((z.toInt - 1500)).toNat) (tz_16.trans (by omega)) (by omega) dX12_areSure_141 ?_
                    refine bw_if_eq (tgt := 149) (a := (zsi2_6 (((z.toInt - 1500)).toNat)).toInt) hx hb dX12_areSure_142 (by decide) rfl (fun c_s => ?_) (fun c_s => ?_)
                    · skip
                      refine lv_iconst (v := 0) hx hb dX12_areSure_149 (by decide) ?_
                      refine lv_istore (lv' := [(5, .int 0), (0, .ref (am 0)), (1, .int (nI a1)), (2, .int (nI k)), (3, .int (nI j)), (4, .int z)]) hx hb dX12_areSure_150 hl (by decide) rfl (fun ls hl => ?_)
                      refine lv_iload_n hx hb dX12_areSure_152 rfl (lv_at hl 4 rfl) ?_
                      refine lv_iload_n hx hb dX12_areSure_153 rfl (lv_at hl 3 rfl) ?_
                      refine lv_isub hx hb dX12_areSure_154 ?_
                      refine bw_re (show (nI j) - (nI k) = nI (j - k) from pk_sub (a := j) (b := k) (by omega)) ?_
                      refine lv_iconst (v := 4) hx hb dX12_areSure_155 (by decide) ?_
                      refine bw_icmp_ne (tgt := 166) (a := ((j - k : Nat) : Int)) (b := 4) hx hb dX12_areSure_156 (by decide) (nI_toInt (by omega)) rfl (fun c_17 => ?_) (fun c_17 => ?_)
                      · skip
                        refine lv_iload_n hx hb dX12_areSure_166 rfl (lv_at hl 4 rfl) ?_
                        refine lv_iconst (v := 1) hx hb dX12_areSure_167 (by decide) ?_
                        refine lv_iadd hx hb dX12_areSure_168 ?_
                        refine bw_re (show (nI j) + 1 = nI (j + 1) from nI_add (j) (1)) ?_
                        refine lv_istore_n (lv' := [(2, .int (nI (j + 1))), (5, .int 0), (0, .ref (am 0)), (1, .int (nI a1)), (3, .int (nI j)), (4, .int z)]) hx hb dX12_areSure_169 rfl hl (by decide) rfl (fun ls hl => ?_)
                        refine lv_goto (tgt := 18) hx hb dX12_areSure_170 (by decide) ?_
                        have hI_hk0 : (j + 1) = 0 ∨ ¬ bDg tb zsz ((j + 1) - 1) := by
                          exact Or.inr (by rw [show j + 1 - 1 = j by omega]; exact hne)
                        have hI_hok : okTo tb zsz (sureY bo di (lvB (liv qp qt qm qf ql qx mk (fun t9 m9 y9 => sOnly nb fr tt st nu sn ((as_ a1).toInt.toNat) t9 m9 y9) qn ((ap a1).toInt.toNat))) ((ap a1).toInt.toNat)) (j + 1) := by
                          refine ok_r hok hk0 (toRun_e hr3 hne) (fun q => ?_)
                          first
                            | (exfalso; omega)
                            | (have hsu : sureY bo di (lvB (liv qp qt qm qf ql qx mk (fun t9 m9 y9 => sOnly nb fr tt st nu sn ((as_ a1).toInt.toNat) t9 m9 y9) qn ((ap a1).toInt.toNat))) ((ap a1).toInt.toNat) z.toInt := by
                                 first
                                   | exact Or.inl c_b
                                   | exact Or.inr (Or.inl c_d)
                                   | (refine Or.inr (Or.inr ⟨c_y, ?_⟩)
                                      have c_s2 := c_s
                                      rw [v6 _ (by omega)] at c_s2
                                      exact pI_ne.mp c_s2)
                               have e9 := hz (by omega)
                               rw [show j - k = 4 by omega] at e9
                               rw [← e9]; exact hsu)
                        exact ih18 (j + 1) (by omega) (by first | assumption | omega) hI_hk0 hI_hok H locs hP hD hS ls (lv_sub hl [2, 3, 0] rfl)
                      · skip
                        refine lv_iload hx hb dX12_areSure_159 (lv_at hl 0 rfl) ?_
                        refine bw_if_ne (tgt := 166) (a := 0) hx hb dX12_areSure_161 (by decide) rfl (fun c_18 => ?_) (fun c_18 => ?_)
                        · exact absurd c_18 (by decide)
                        · skip
                          refine lv_iconst (v := 0) hx hb dX12_areSure_164 (by decide) ?_
                          refine bw_Qe hQ ?_
                          have hP9 : va_P (dC, dI) vwCl [(am 0, .inr (12, [.ref (am 1), .ref (am 2), .ref (am 3), .ref (am 4), .int (nI tn), .int (nI zsz), .int (nI zfr), .int (nI zbe), .int zha, .int zva, .int fk, .int fp, .ref (am 13), .int (nI sn), .ref (am 15), .ref (am 16), .ref (am 17), .ref (am 18), .ref (am 19), .int (nI pn), .int (nI qn), .ref (am 22), .ref (am 23), .ref (am 24), .ref (am 25), .ref (am 26), .ref (am 27), .ref (am 28), .ref (am 29), .ref (am 30), .ref (am 31), .ref (am 32), .ref (am 33), .ref (am 34), .int zss2_1, .int zsy2_2, .int zpy2_3, .int zfs2_4, .int zls2_5, .int (nI an), .ref (am 41), .ref (am 42), .ref (am 43), .ref (am 44), .ref (am 45), .ref (am 46), .ref (am 47), .ref (am 48), .ref (am 49), .ref (am 50), .int (nI zw), .ref (am 52), .ref (am 53)])), (am 4, .inl (cy 3, 600, .inl (mTape tb))), (am 15, .inl (cy 0, 40, .inl nb)), (am 16, .inl (cy 0, 320, .inl fr)), (am 17, .inl (cy 0, 320, .inl tt)), (am 18, .inl (cy 0, 320, .inl st)), (am 19, .inl (cy 0, 320, .inl nu)), (am 25, .inl (cy 0, 30, .inl mk)), (am 26, .inl (cy 0, 100, .inl qp)), (am 27, .inl (cy 0, 100, .inl qs)), (am 28, .inl (cy 0, 100, .inl qt)), (am 29, .inl (cy 0, 100, .inl qm)), (am 30, .inl (cy 0, 100, .inl qf)), (am 31, .inl (cy 0, 100, .inl ql)), (am 32, .inl (cy 2, 100, .inl qx)), (am 33, .inl (cy 2, 601, .inl zsi2_6)), (am 34, .inl (cy 2, 601, .inl zpi2_7)), (am 22, .inl (cy 0, 30, .inl bo)), (am 23, .inl (cy 0, 30, .inl di)), (am 41, .inl (cy 0, 40, .inl ap)), (am 42, .inl (cy 0, 40, .inl as_))] H := hP.sub [0, 1, 2, 3, 4, 5, 6, 7, 8, 9, 10, 11, 12, 13, 14, 15, 16, 17, 18, 19, 20] rfl
                          have hD9 : va_D A [(am 0, .inr (12, [.ref (am 1), .ref (am 2), .ref (am 3), .ref (am 4), .int (nI tn), .int (nI zsz), .int (nI zfr), .int (nI zbe), .int zha, .int zva, .int fk, .int fp, .ref (am 13), .int (nI sn), .ref (am 15), .ref (am 16), .ref (am 17), .ref (am 18), .ref (am 19), .int (nI pn), .int (nI qn), .ref (am 22), .ref (am 23), .ref (am 24), .ref (am 25), .ref (am 26), .ref (am 27), .ref (am 28), .ref (am 29), .ref (am 30), .ref (am 31), .ref (am 32), .ref (am 33), .ref (am 34), .int zss2_1, .int zsy2_2, .int zpy2_3, .int zfs2_4, .int zls2_5, .int (nI an), .ref (am 41), .ref (am 42), .ref (am 43), .ref (am 44), .ref (am 45), .ref (am 46), .ref (am 47), .ref (am 48), .ref (am 49), .ref (am 50), .int (nI zw), .ref (am 52), .ref (am 53)])), (am 4, .inl (cy 3, 600, .inl (mTape tb))), (am 15, .inl (cy 0, 40, .inl nb)), (am 16, .inl (cy 0, 320, .inl fr)), (am 17, .inl (cy 0, 320, .inl tt)), (am 18, .inl (cy 0, 320, .inl st)), (am 19, .inl (cy 0, 320, .inl nu)), (am 25, .inl (cy 0, 30, .inl mk)), (am 26, .inl (cy 0, 100, .inl qp)), (am 27, .inl (cy 0, 100, .inl qs)), (am 28, .inl (cy 0, 100, .inl qt)), (am 29, .inl (cy 0, 100, .inl qm)), (am 30, .inl (cy 0, 100, .inl qf)), (am 31, .inl (cy 0, 100, .inl ql)), (am 32, .inl (cy 2, 100, .inl qx)), (am 33, .inl (cy 2, 601, .inl zsi2_6)), (am 34, .inl (cy 2, 601, .inl zpi2_7)), (am 22, .inl (cy 0, 30, .inl bo)), (am 23, .inl (cy 0, 30, .inl di)), (am 41, .inl (cy 0, 40, .inl ap)), (am 42, .inl (cy 0, 40, .inl as_))] := hD.sub [0, 1, 2, 3, 4, 5, 6, 7, 8, 9, 10, 11, 12, 13, 14, 15, 16, 17, 18, 19, 20] (by decide) rfl
                          have hpost : (0 : Int32) = pI (aSure tb zsz (sureY bo di (lvB (liv qp qt qm qf ql qx mk (fun t9 m9 y9 => sOnly nb fr tt st nu sn ((as_ a1).toInt.toNat) t9 m9 y9) qn ((ap a1).toInt.toNat))) ((ap a1).toInt.toNat))) := by
                            refine (pI_f (fun q => ?_)).symm
                            have hns : ¬ sureY bo di (lvB (liv qp qt qm qf ql qx mk (fun t9 m9 y9 => sOnly nb fr tt st nu sn ((as_ a1).toInt.toNat) t9 m9 y9) qn ((ap a1).toInt.toNat))) ((ap a1).toInt.toNat) z.toInt := by
                              intro q
                              rcases q with q | q | q
                              · exact c_b q
                              · first
                                  | exact c_d q
                                  | omega
                              · first
                                  | exact c_y q.1
                                  | (have c_s2 := c_s
                                     rw [v6 _ (by omega)] at c_s2
                                     exact pI_e0.mp c_s2 q.2)
                            have e9 := hz (by omega)
                            rw [show j - k = 4 by omega] at e9
                            rw [e9] at hns
                            have hrun := toRun_e hr3 hne
                            rw [show j = k + 4 by omega] at hrun
                            exact hns (q k ⟨hk0, hrun⟩)
                          exact W.zret (v := 0) hx hb hr (by rfl) (fun t9 ht hW => ⟨⟨0, (zss2_1, zsy2_2, zpy2_3, zfs2_4, zls2_5, zsi2_6, zpi2_7), rfl, hpost, by rw [ht]; exact hP9, va_K.moved hW.alike hK, hD9⟩, hS.F ht⟩) hS.2.2 dX12_areSure_165
                    · skip
                      refine lv_iconst (v := 1) hx hb dX12_areSure_145 (by decide) ?_
                      refine lv_goto (tgt := 150) hx hb dX12_areSure_146 (by decide) ?_
                      refine lv_istore (lv' := [(5, .int 1), (0, .ref (am 0)), (1, .int (nI a1)), (2, .int (nI k)), (3, .int (nI j)), (4, .int z)]) hx hb dX12_areSure_150 hl (by decide) rfl (fun ls hl => ?_)
                      refine lv_iload_n hx hb dX12_areSure_152 rfl (lv_at hl 4 rfl) ?_
                      refine lv_iload_n hx hb dX12_areSure_153 rfl (lv_at hl 3 rfl) ?_
                      refine lv_isub hx hb dX12_areSure_154 ?_
                      refine bw_re (show (nI j) - (nI k) = nI (j - k) from pk_sub (a := j) (b := k) (by omega)) ?_
                      refine lv_iconst (v := 4) hx hb dX12_areSure_155 (by decide) ?_
                      refine bw_icmp_ne (tgt := 166) (a := ((j - k : Nat) : Int)) (b := 4) hx hb dX12_areSure_156 (by decide) (nI_toInt (by omega)) rfl (fun c_19 => ?_) (fun c_19 => ?_)
                      · skip
                        refine lv_iload_n hx hb dX12_areSure_166 rfl (lv_at hl 4 rfl) ?_
                        refine lv_iconst (v := 1) hx hb dX12_areSure_167 (by decide) ?_
                        refine lv_iadd hx hb dX12_areSure_168 ?_
                        refine bw_re (show (nI j) + 1 = nI (j + 1) from nI_add (j) (1)) ?_
                        refine lv_istore_n (lv' := [(2, .int (nI (j + 1))), (5, .int 1), (0, .ref (am 0)), (1, .int (nI a1)), (3, .int (nI j)), (4, .int z)]) hx hb dX12_areSure_169 rfl hl (by decide) rfl (fun ls hl => ?_)
                        refine lv_goto (tgt := 18) hx hb dX12_areSure_170 (by decide) ?_
                        have hI_hk0 : (j + 1) = 0 ∨ ¬ bDg tb zsz ((j + 1) - 1) := by
                          exact Or.inr (by rw [show j + 1 - 1 = j by omega]; exact hne)
                        have hI_hok : okTo tb zsz (sureY bo di (lvB (liv qp qt qm qf ql qx mk (fun t9 m9 y9 => sOnly nb fr tt st nu sn ((as_ a1).toInt.toNat) t9 m9 y9) qn ((ap a1).toInt.toNat))) ((ap a1).toInt.toNat)) (j + 1) := by
                          refine ok_r hok hk0 (toRun_e hr3 hne) (fun q => ?_)
                          first
                            | (exfalso; omega)
                            | (have hsu : sureY bo di (lvB (liv qp qt qm qf ql qx mk (fun t9 m9 y9 => sOnly nb fr tt st nu sn ((as_ a1).toInt.toNat) t9 m9 y9) qn ((ap a1).toInt.toNat))) ((ap a1).toInt.toNat) z.toInt := by
                                 first
                                   | exact Or.inl c_b
                                   | exact Or.inr (Or.inl c_d)
                                   | (refine Or.inr (Or.inr ⟨c_y, ?_⟩)
                                      have c_s2 := c_s
                                      rw [v6 _ (by omega)] at c_s2
                                      exact pI_ne.mp c_s2)
                               have e9 := hz (by omega)
                               rw [show j - k = 4 by omega] at e9
                               rw [← e9]; exact hsu)
                        exact ih18 (j + 1) (by omega) (by first | assumption | omega) hI_hk0 hI_hok H locs hP hD hS ls (lv_sub hl [2, 3, 0] rfl)
                      · skip
                        refine lv_iload hx hb dX12_areSure_159 (lv_at hl 0 rfl) ?_
                        refine bw_if_ne (tgt := 166) (a := 1) hx hb dX12_areSure_161 (by decide) rfl (fun c_20 => ?_) (fun c_20 => ?_)
                        · skip
                          refine lv_iload_n hx hb dX12_areSure_166 rfl (lv_at hl 4 rfl) ?_
                          refine lv_iconst (v := 1) hx hb dX12_areSure_167 (by decide) ?_
                          refine lv_iadd hx hb dX12_areSure_168 ?_
                          refine bw_re (show (nI j) + 1 = nI (j + 1) from nI_add (j) (1)) ?_
                          refine lv_istore_n (lv' := [(2, .int (nI (j + 1))), (5, .int 1), (0, .ref (am 0)), (1, .int (nI a1)), (3, .int (nI j)), (4, .int z)]) hx hb dX12_areSure_169 rfl hl (by decide) rfl (fun ls hl => ?_)
                          refine lv_goto (tgt := 18) hx hb dX12_areSure_170 (by decide) ?_
                          have hI_hk0 : (j + 1) = 0 ∨ ¬ bDg tb zsz ((j + 1) - 1) := by
                            exact Or.inr (by rw [show j + 1 - 1 = j by omega]; exact hne)
                          have hI_hok : okTo tb zsz (sureY bo di (lvB (liv qp qt qm qf ql qx mk (fun t9 m9 y9 => sOnly nb fr tt st nu sn ((as_ a1).toInt.toNat) t9 m9 y9) qn ((ap a1).toInt.toNat))) ((ap a1).toInt.toNat)) (j + 1) := by
                            refine ok_r hok hk0 (toRun_e hr3 hne) (fun q => ?_)
                            first
                              | (exfalso; omega)
                              | (have hsu : sureY bo di (lvB (liv qp qt qm qf ql qx mk (fun t9 m9 y9 => sOnly nb fr tt st nu sn ((as_ a1).toInt.toNat) t9 m9 y9) qn ((ap a1).toInt.toNat))) ((ap a1).toInt.toNat) z.toInt := by
                                   first
                                     | exact Or.inl c_b
                                     | exact Or.inr (Or.inl c_d)
                                     | (refine Or.inr (Or.inr ⟨c_y, ?_⟩)
                                        have c_s2 := c_s
                                        rw [v6 _ (by omega)] at c_s2
                                        exact pI_ne.mp c_s2)
                                 have e9 := hz (by omega)
                                 rw [show j - k = 4 by omega] at e9
                                 rw [← e9]; exact hsu)
                          exact ih18 (j + 1) (by omega) (by first | assumption | omega) hI_hk0 hI_hok H locs hP hD hS ls (lv_sub hl [2, 3, 0] rfl)
                        · exact absurd c_20 (by decide)
                · skip
                  refine lv_iload hx hb dX12_areSure_107 (lv_at hl 4 rfl) ?_
                  refine lv_aload_n hx hb dX12_areSure_109 rfl (lv_at hl 0 rfl) ?_
                  refine va_get (D := (dC, dI)) (ci := 12) (v := .ref (am 23)) (C := RX12) (T := TX12) (N := 53) hx hb hts hiX12 hown hK hP 0 rfl rfl 22 (by decide) hL4 (fun _ h9 => h9) rfl dX12_areSure_110 ?_
                  refine lv_aload_n hx hb dX12_areSure_113 rfl (lv_at hl 0 rfl) ?_
                  refine va_get (D := (dC, dI)) (ci := 12) (v := .ref (am 41)) (C := RX12) (T := TX12) (N := 53) hx hb hts hiX12 hown hK hP 0 rfl rfl 40 (by decide) hL0 (fun _ h9 => h9) rfl dX12_areSure_114 ?_
                  refine lv_iload_n hx hb dX12_areSure_117 rfl (lv_at hl 1 rfl) ?_
                  refine bw_iald hx hb hK hP 19 0 rfl rfl (j := a1) (nI_toInt (by omega)) (by omega) dX12_areSure_118 ?_
                  refine bw_re (show (ap a1) = nI ((ap a1).toInt.toNat) from nI_back (by omega)) ?_
                  refine bw_iald hx hb hK hP 18 0 rfl rfl (j := ((ap a1).toInt.toNat)) (nI_toInt (by omega)) (by omega) dX12_areSure_119 ?_
                  refine bw_icmp_eq (tgt := 145) (a := z.toInt) (b := (di ((ap a1).toInt.toNat)).toInt) hx hb dX12_areSure_120 (by decide) rfl rfl (fun c_d => ?_) (fun c_d => ?_)
                  · skip
                    refine lv_iconst (v := 1) hx hb dX12_areSure_145 (by decide) ?_
                    refine lv_goto (tgt := 150) hx hb dX12_areSure_146 (by decide) ?_
                    refine lv_istore (lv' := [(5, .int 1), (0, .ref (am 0)), (1, .int (nI a1)), (2, .int (nI k)), (3, .int (nI j)), (4, .int z)]) hx hb dX12_areSure_150 hl (by decide) rfl (fun ls hl => ?_)
                    refine lv_iload_n hx hb dX12_areSure_152 rfl (lv_at hl 4 rfl) ?_
                    refine lv_iload_n hx hb dX12_areSure_153 rfl (lv_at hl 3 rfl) ?_
                    refine lv_isub hx hb dX12_areSure_154 ?_
                    refine bw_re (show (nI j) - (nI k) = nI (j - k) from pk_sub (a := j) (b := k) (by omega)) ?_
                    refine lv_iconst (v := 4) hx hb dX12_areSure_155 (by decide) ?_
                    refine bw_icmp_ne (tgt := 166) (a := ((j - k : Nat) : Int)) (b := 4) hx hb dX12_areSure_156 (by decide) (nI_toInt (by omega)) rfl (fun c_21 => ?_) (fun c_21 => ?_)
                    · skip
                      refine lv_iload_n hx hb dX12_areSure_166 rfl (lv_at hl 4 rfl) ?_
                      refine lv_iconst (v := 1) hx hb dX12_areSure_167 (by decide) ?_
                      refine lv_iadd hx hb dX12_areSure_168 ?_
                      refine bw_re (show (nI j) + 1 = nI (j + 1) from nI_add (j) (1)) ?_
                      refine lv_istore_n (lv' := [(2, .int (nI (j + 1))), (5, .int 1), (0, .ref (am 0)), (1, .int (nI a1)), (3, .int (nI j)), (4, .int z)]) hx hb dX12_areSure_169 rfl hl (by decide) rfl (fun ls hl => ?_)
                      refine lv_goto (tgt := 18) hx hb dX12_areSure_170 (by decide) ?_
                      have hI_hk0 : (j + 1) = 0 ∨ ¬ bDg tb zsz ((j + 1) - 1) := by
                        exact Or.inr (by rw [show j + 1 - 1 = j by omega]; exact hne)
                      have hI_hok : okTo tb zsz (sureY bo di (lvB (liv qp qt qm qf ql qx mk (fun t9 m9 y9 => sOnly nb fr tt st nu sn ((as_ a1).toInt.toNat) t9 m9 y9) qn ((ap a1).toInt.toNat))) ((ap a1).toInt.toNat)) (j + 1) := by
                        refine ok_r hok hk0 (toRun_e hr3 hne) (fun q => ?_)
                        first
                          | (exfalso; omega)
                          | (have hsu : sureY bo di (lvB (liv qp qt qm qf ql qx mk (fun t9 m9 y9 => sOnly nb fr tt st nu sn ((as_ a1).toInt.toNat) t9 m9 y9) qn ((ap a1).toInt.toNat))) ((ap a1).toInt.toNat) z.toInt := by
                               first
                                 | exact Or.inl c_b
                                 | exact Or.inr (Or.inl c_d)
                                 | (refine Or.inr (Or.inr ⟨c_y, ?_⟩)
                                    have c_s2 := c_s
                                    rw [v6 _ (by omega)] at c_s2
                                    exact pI_ne.mp c_s2)
                             have e9 := hz (by omega)
                             rw [show j - k = 4 by omega] at e9
                             rw [← e9]; exact hsu)
                      exact ih18 (j + 1) (by omega) (by first | assumption | omega) hI_hk0 hI_hok H locs hP hD hS ls (lv_sub hl [2, 3, 0] rfl)
                    · skip
                      refine lv_iload hx hb dX12_areSure_159 (lv_at hl 0 rfl) ?_
                      refine bw_if_ne (tgt := 166) (a := 1) hx hb dX12_areSure_161 (by decide) rfl (fun c_22 => ?_) (fun c_22 => ?_)
                      · skip
                        refine lv_iload_n hx hb dX12_areSure_166 rfl (lv_at hl 4 rfl) ?_
                        refine lv_iconst (v := 1) hx hb dX12_areSure_167 (by decide) ?_
                        refine lv_iadd hx hb dX12_areSure_168 ?_
                        refine bw_re (show (nI j) + 1 = nI (j + 1) from nI_add (j) (1)) ?_
                        refine lv_istore_n (lv' := [(2, .int (nI (j + 1))), (5, .int 1), (0, .ref (am 0)), (1, .int (nI a1)), (3, .int (nI j)), (4, .int z)]) hx hb dX12_areSure_169 rfl hl (by decide) rfl (fun ls hl => ?_)
                        refine lv_goto (tgt := 18) hx hb dX12_areSure_170 (by decide) ?_
                        have hI_hk0 : (j + 1) = 0 ∨ ¬ bDg tb zsz ((j + 1) - 1) := by
                          exact Or.inr (by rw [show j + 1 - 1 = j by omega]; exact hne)
                        have hI_hok : okTo tb zsz (sureY bo di (lvB (liv qp qt qm qf ql qx mk (fun t9 m9 y9 => sOnly nb fr tt st nu sn ((as_ a1).toInt.toNat) t9 m9 y9) qn ((ap a1).toInt.toNat))) ((ap a1).toInt.toNat)) (j + 1) := by
                          refine ok_r hok hk0 (toRun_e hr3 hne) (fun q => ?_)
                          first
                            | (exfalso; omega)
                            | (have hsu : sureY bo di (lvB (liv qp qt qm qf ql qx mk (fun t9 m9 y9 => sOnly nb fr tt st nu sn ((as_ a1).toInt.toNat) t9 m9 y9) qn ((ap a1).toInt.toNat))) ((ap a1).toInt.toNat) z.toInt := by
                                 first
                                   | exact Or.inl c_b
                                   | exact Or.inr (Or.inl c_d)
                                   | (refine Or.inr (Or.inr ⟨c_y, ?_⟩)
                                      have c_s2 := c_s
                                      rw [v6 _ (by omega)] at c_s2
                                      exact pI_ne.mp c_s2)
                               have e9 := hz (by omega)
                               rw [show j - k = 4 by omega] at e9
                               rw [← e9]; exact hsu)
                        exact ih18 (j + 1) (by omega) (by first | assumption | omega) hI_hk0 hI_hok H locs hP hD hS ls (lv_sub hl [2, 3, 0] rfl)
                      · exact absurd c_22 (by decide)
                  · skip
                    refine lv_iload hx hb dX12_areSure_123 (lv_at hl 4 rfl) ?_
                    refine vp_callSi (va_Run.run (va_runS (As := [.int z]) (rest := []) ⟨hx, hb, hml, hown, hts⟩ (c_X12_isYear l dC dI cy z) (va_cwS 1 hts gX12_areSure_X12_isYear rfl rfl rfl (by decide +kernel) ⟨Nat.le_of_ble_eq_true rfl, Nat.le_of_ble_eq_true rfl⟩) ⟨fun a U g mk q => q, fun U hU hW => ⟨rfl, trivial⟩⟩ rfl rfl hl.1 rfl (lv_room (Nat.le_of_ble_eq_true rfl)) dX12_areSure_125 ⟨Nat.le_of_ble_eq_true rfl, Nat.le_of_ble_eq_true rfl⟩)) (fun r_23 hr_23 => ?_)
                    refine bw_ifeqB (tgt := 149) hx hb dX12_areSure_128 (by decide) hr_23 (fun c_y => ?_) (fun c_y => ?_)
                    · skip
                      refine lv_iconst (v := 0) hx hb dX12_areSure_149 (by decide) ?_
                      refine lv_istore (lv' := [(5, .int 0), (0, .ref (am 0)), (1, .int (nI a1)), (2, .int (nI k)), (3, .int (nI j)), (4, .int z)]) hx hb dX12_areSure_150 hl (by decide) rfl (fun ls hl => ?_)
                      refine lv_iload_n hx hb dX12_areSure_152 rfl (lv_at hl 4 rfl) ?_
                      refine lv_iload_n hx hb dX12_areSure_153 rfl (lv_at hl 3 rfl) ?_
                      refine lv_isub hx hb dX12_areSure_154 ?_
                      refine bw_re (show (nI j) - (nI k) = nI (j - k) from pk_sub (a := j) (b := k) (by omega)) ?_
                      refine lv_iconst (v := 4) hx hb dX12_areSure_155 (by decide) ?_
                      refine bw_icmp_ne (tgt := 166) (a := ((j - k : Nat) : Int)) (b := 4) hx hb dX12_areSure_156 (by decide) (nI_toInt (by omega)) rfl (fun c_24 => ?_) (fun c_24 => ?_)
                      · skip
                        refine lv_iload_n hx hb dX12_areSure_166 rfl (lv_at hl 4 rfl) ?_
                        refine lv_iconst (v := 1) hx hb dX12_areSure_167 (by decide) ?_
                        refine lv_iadd hx hb dX12_areSure_168 ?_
                        refine bw_re (show (nI j) + 1 = nI (j + 1) from nI_add (j) (1)) ?_
                        refine lv_istore_n (lv' := [(2, .int (nI (j + 1))), (5, .int 0), (0, .ref (am 0)), (1, .int (nI a1)), (3, .int (nI j)), (4, .int z)]) hx hb dX12_areSure_169 rfl hl (by decide) rfl (fun ls hl => ?_)
                        refine lv_goto (tgt := 18) hx hb dX12_areSure_170 (by decide) ?_
                        have hI_hk0 : (j + 1) = 0 ∨ ¬ bDg tb zsz ((j + 1) - 1) := by
                          exact Or.inr (by rw [show j + 1 - 1 = j by omega]; exact hne)
                        have hI_hok : okTo tb zsz (sureY bo di (lvB (liv qp qt qm qf ql qx mk (fun t9 m9 y9 => sOnly nb fr tt st nu sn ((as_ a1).toInt.toNat) t9 m9 y9) qn ((ap a1).toInt.toNat))) ((ap a1).toInt.toNat)) (j + 1) := by
                          refine ok_r hok hk0 (toRun_e hr3 hne) (fun q => ?_)
                          first
                            | (exfalso; omega)
                            | (have hsu : sureY bo di (lvB (liv qp qt qm qf ql qx mk (fun t9 m9 y9 => sOnly nb fr tt st nu sn ((as_ a1).toInt.toNat) t9 m9 y9) qn ((ap a1).toInt.toNat))) ((ap a1).toInt.toNat) z.toInt := by
                                 first
                                   | exact Or.inl c_b
                                   | exact Or.inr (Or.inl c_d)
                                   | (refine Or.inr (Or.inr ⟨c_y, ?_⟩)
                                      have c_s2 := c_s
                                      rw [v6 _ (by omega)] at c_s2
                                      exact pI_ne.mp c_s2)
                               have e9 := hz (by omega)
                               rw [show j - k = 4 by omega] at e9
                               rw [← e9]; exact hsu)
                        exact ih18 (j + 1) (by omega) (by first | assumption | omega) hI_hk0 hI_hok H locs hP hD hS ls (lv_sub hl [2, 3, 0] rfl)
                      · skip
                        refine lv_iload hx hb dX12_areSure_159 (lv_at hl 0 rfl) ?_
                        refine bw_if_ne (tgt := 166) (a := 0) hx hb dX12_areSure_161 (by decide) rfl (fun c_25 => ?_) (fun c_25 => ?_)
                        · exact absurd c_25 (by decide)
                        · skip
                          refine lv_iconst (v := 0) hx hb dX12_areSure_164 (by decide) ?_
                          refine bw_Qe hQ ?_
                          have hP9 : va_P (dC, dI) vwCl [(am 0, .inr (12, [.ref (am 1), .ref (am 2), .ref (am 3), .ref (am 4), .int (nI tn), .int (nI zsz), .int (nI zfr), .int (nI zbe), .int zha, .int zva, .int fk, .int fp, .ref (am 13), .int (nI sn), .ref (am 15), .ref (am 16), .ref (am 17), .ref (am 18), .ref (am 19), .int (nI pn), .int (nI qn), .ref (am 22), .ref (am 23), .ref (am 24), .ref (am 25), .ref (am 26), .ref (am 27), .ref (am 28), .ref (am 29), .ref (am 30), .ref (am 31), .ref (am 32), .ref (am 33), .ref (am 34), .int zss2_1, .int zsy2_2, .int zpy2_3, .int zfs2_4, .int zls2_5, .int (nI an), .ref (am 41), .ref (am 42), .ref (am 43), .ref (am 44), .ref (am 45), .ref (am 46), .ref (am 47), .ref (am 48), .ref (am 49), .ref (am 50), .int (nI zw), .ref (am 52), .ref (am 53)])), (am 4, .inl (cy 3, 600, .inl (mTape tb))), (am 15, .inl (cy 0, 40, .inl nb)), (am 16, .inl (cy 0, 320, .inl fr)), (am 17, .inl (cy 0, 320, .inl tt)), (am 18, .inl (cy 0, 320, .inl st)), (am 19, .inl (cy 0, 320, .inl nu)), (am 25, .inl (cy 0, 30, .inl mk)), (am 26, .inl (cy 0, 100, .inl qp)), (am 27, .inl (cy 0, 100, .inl qs)), (am 28, .inl (cy 0, 100, .inl qt)), (am 29, .inl (cy 0, 100, .inl qm)), (am 30, .inl (cy 0, 100, .inl qf)), (am 31, .inl (cy 0, 100, .inl ql)), (am 32, .inl (cy 2, 100, .inl qx)), (am 33, .inl (cy 2, 601, .inl zsi2_6)), (am 34, .inl (cy 2, 601, .inl zpi2_7)), (am 22, .inl (cy 0, 30, .inl bo)), (am 23, .inl (cy 0, 30, .inl di)), (am 41, .inl (cy 0, 40, .inl ap)), (am 42, .inl (cy 0, 40, .inl as_))] H := hP.sub [0, 1, 2, 3, 4, 5, 6, 7, 8, 9, 10, 11, 12, 13, 14, 15, 16, 17, 18, 19, 20] rfl
                          have hD9 : va_D A [(am 0, .inr (12, [.ref (am 1), .ref (am 2), .ref (am 3), .ref (am 4), .int (nI tn), .int (nI zsz), .int (nI zfr), .int (nI zbe), .int zha, .int zva, .int fk, .int fp, .ref (am 13), .int (nI sn), .ref (am 15), .ref (am 16), .ref (am 17), .ref (am 18), .ref (am 19), .int (nI pn), .int (nI qn), .ref (am 22), .ref (am 23), .ref (am 24), .ref (am 25), .ref (am 26), .ref (am 27), .ref (am 28), .ref (am 29), .ref (am 30), .ref (am 31), .ref (am 32), .ref (am 33), .ref (am 34), .int zss2_1, .int zsy2_2, .int zpy2_3, .int zfs2_4, .int zls2_5, .int (nI an), .ref (am 41), .ref (am 42), .ref (am 43), .ref (am 44), .ref (am 45), .ref (am 46), .ref (am 47), .ref (am 48), .ref (am 49), .ref (am 50), .int (nI zw), .ref (am 52), .ref (am 53)])), (am 4, .inl (cy 3, 600, .inl (mTape tb))), (am 15, .inl (cy 0, 40, .inl nb)), (am 16, .inl (cy 0, 320, .inl fr)), (am 17, .inl (cy 0, 320, .inl tt)), (am 18, .inl (cy 0, 320, .inl st)), (am 19, .inl (cy 0, 320, .inl nu)), (am 25, .inl (cy 0, 30, .inl mk)), (am 26, .inl (cy 0, 100, .inl qp)), (am 27, .inl (cy 0, 100, .inl qs)), (am 28, .inl (cy 0, 100, .inl qt)), (am 29, .inl (cy 0, 100, .inl qm)), (am 30, .inl (cy 0, 100, .inl qf)), (am 31, .inl (cy 0, 100, .inl ql)), (am 32, .inl (cy 2, 100, .inl qx)), (am 33, .inl (cy 2, 601, .inl zsi2_6)), (am 34, .inl (cy 2, 601, .inl zpi2_7)), (am 22, .inl (cy 0, 30, .inl bo)), (am 23, .inl (cy 0, 30, .inl di)), (am 41, .inl (cy 0, 40, .inl ap)), (am 42, .inl (cy 0, 40, .inl as_))] := hD.sub [0, 1, 2, 3, 4, 5, 6, 7, 8, 9, 10, 11, 12, 13, 14, 15, 16, 17, 18, 19, 20] (by decide) rfl
                          have hpost : (0 : Int32) = pI (aSure tb zsz (sureY bo di (lvB (liv qp qt qm qf ql qx mk (fun t9 m9 y9 => sOnly nb fr tt st nu sn ((as_ a1).toInt.toNat) t9 m9 y9) qn ((ap a1).toInt.toNat))) ((ap a1).toInt.toNat))) := by
                            refine (pI_f (fun q => ?_)).symm
                            have hns : ¬ sureY bo di (lvB (liv qp qt qm qf ql qx mk (fun t9 m9 y9 => sOnly nb fr tt st nu sn ((as_ a1).toInt.toNat) t9 m9 y9) qn ((ap a1).toInt.toNat))) ((ap a1).toInt.toNat) z.toInt := by
                              intro q
                              rcases q with q | q | q
                              · exact c_b q
                              · first
                                  | exact c_d q
                                  | omega
                              · first
                                  | exact c_y q.1
                                  | (have c_s2 := c_s
                                     rw [v6 _ (by omega)] at c_s2
                                     exact pI_e0.mp c_s2 q.2)
                            have e9 := hz (by omega)
                            rw [show j - k = 4 by omega] at e9
                            rw [e9] at hns
                            have hrun := toRun_e hr3 hne
                            rw [show j = k + 4 by omega] at hrun
                            exact hns (q k ⟨hk0, hrun⟩)
                          exact W.zret (v := 0) hx hb hr (by rfl) (fun t9 ht hW => ⟨⟨0, (zss2_1, zsy2_2, zpy2_3, zfs2_4, zls2_5, zsi2_6, zpi2_7), rfl, hpost, by rw [ht]; exact hP9, va_K.moved hW.alike hK, hD9⟩, hS.F ht⟩) hS.2.2 dX12_areSure_165
                    · skip
                      refine lv_aload_n hx hb dX12_areSure_131 rfl (lv_at hl 0 rfl) ?_
                      refine va_get (D := (dC, dI)) (ci := 12) (v := .ref (am 33)) (C := RX12) (T := TX12) (N := 53) hx hb hts hiX12 hown hK hP 0 rfl rfl 32 (by decide) hL5 (fun _ h9 => h9) rfl dX12_areSure_132 ?_
                      refine lv_iload hx hb dX12_areSure_135 (lv_at hl 4 rfl) ?_
                      refine lv_sipush (v := 1500) hx hb dX12_areSure_137 (by decide) ?_
                      refine lv_isub hx hb dX12_areSure_140 ?_
                      refine bw_nm (a := (z.toInt - 1500)) (tI_sub rfl rfl (by omega) (by omega)) (fun z_26 ez_26 tz_26 => ?_)
                      refine bw_zald hx hb hK hP 15 2 rfl rfl (j := ((z.toInt - 1500)).toNat) (tz_26.trans (by omega)) (by omega) dX12_areSure_141 ?_
                      refine bw_if_eq (tgt := 149) (a := (zsi2_6 (((z.toInt - 1500)).toNat)).toInt) hx hb dX12_areSure_142 (by decide) rfl (fun c_s => ?_) (fun c_s => ?_)
                      · skip
                        refine lv_iconst (v := 0) hx hb dX12_areSure_149 (by decide) ?_
                        refine lv_istore (lv' := [(5, .int 0), (0, .ref (am 0)), (1, .int (nI a1)), (2, .int (nI k)), (3, .int (nI j)), (4, .int z)]) hx hb dX12_areSure_150 hl (by decide) rfl (fun ls hl => ?_)
                        refine lv_iload_n hx hb dX12_areSure_152 rfl (lv_at hl 4 rfl) ?_
                        refine lv_iload_n hx hb dX12_areSure_153 rfl (lv_at hl 3 rfl) ?_
                        refine lv_isub hx hb dX12_areSure_154 ?_
                        refine bw_re (show (nI j) - (nI k) = nI (j - k) from pk_sub (a := j) (b := k) (by omega)) ?_
                        refine lv_iconst (v := 4) hx hb dX12_areSure_155 (by decide) ?_
                        refine bw_icmp_ne (tgt := 166) (a := ((j - k : Nat) : Int)) (b := 4) hx hb dX12_areSure_156 (by decide) (nI_toInt (by omega)) rfl (fun c_27 => ?_) (fun c_27 => ?_)
                        · skip
                          refine lv_iload_n hx hb dX12_areSure_166 rfl (lv_at hl 4 rfl) ?_
                          refine lv_iconst (v := 1) hx hb dX12_areSure_167 (by decide) ?_
                          refine lv_iadd hx hb dX12_areSure_168 ?_
                          refine bw_re (show (nI j) + 1 = nI (j + 1) from nI_add (j) (1)) ?_
                          refine lv_istore_n (lv' := [(2, .int (nI (j + 1))), (5, .int 0), (0, .ref (am 0)), (1, .int (nI a1)), (3, .int (nI j)), (4, .int z)]) hx hb dX12_areSure_169 rfl hl (by decide) rfl (fun ls hl => ?_)
                          refine lv_goto (tgt := 18) hx hb dX12_areSure_170 (by decide) ?_
                          have hI_hk0 : (j + 1) = 0 ∨ ¬ bDg tb zsz ((j + 1) - 1) := by
                            exact Or.inr (by rw [show j + 1 - 1 = j by omega]; exact hne)
                          have hI_hok : okTo tb zsz (sureY bo di (lvB (liv qp qt qm qf ql qx mk (fun t9 m9 y9 => sOnly nb fr tt st nu sn ((as_ a1).toInt.toNat) t9 m9 y9) qn ((ap a1).toInt.toNat))) ((ap a1).toInt.toNat)) (j + 1) := by
                            refine ok_r hok hk0 (toRun_e hr3 hne) (fun q => ?_)
                            first
                              | (exfalso; omega)
                              | (have hsu : sureY bo di (lvB (liv qp qt qm qf ql qx mk (fun t9 m9 y9 => sOnly nb fr tt st nu sn ((as_ a1).toInt.toNat) t9 m9 y9) qn ((ap a1).toInt.toNat))) ((ap a1).toInt.toNat) z.toInt := by
                                   first
                                     | exact Or.inl c_b
                                     | exact Or.inr (Or.inl c_d)
                                     | (refine Or.inr (Or.inr ⟨c_y, ?_⟩)
                                        have c_s2 := c_s
                                        rw [v6 _ (by omega)] at c_s2
                                        exact pI_ne.mp c_s2)
                                 have e9 := hz (by omega)
                                 rw [show j - k = 4 by omega] at e9
                                 rw [← e9]; exact hsu)
                          exact ih18 (j + 1) (by omega) (by first | assumption | omega) hI_hk0 hI_hok H locs hP hD hS ls (lv_sub hl [2, 3, 0] rfl)
                        · skip
                          refine lv_iload hx hb dX12_areSure_159 (lv_at hl 0 rfl) ?_
                          refine bw_if_ne (tgt := 166) (a := 0) hx hb dX12_areSure_161 (by decide) rfl (fun c_28 => ?_) (fun c_28 => ?_)
                          · exact absurd c_28 (by decide)
                          · skip
                            refine lv_iconst (v := 0) hx hb dX12_areSure_164 (by decide) ?_
                            refine bw_Qe hQ ?_
                            have hP9 : va_P (dC, dI) vwCl [(am 0, .inr (12, [.ref (am 1), .ref (am 2), .ref (am 3), .ref (am 4), .int (nI tn), .int (nI zsz), .int (nI zfr), .int (nI zbe), .int zha, .int zva, .int fk, .int fp, .ref (am 13), .int (nI sn), .ref (am 15), .ref (am 16), .ref (am 17), .ref (am 18), .ref (am 19), .int (nI pn), .int (nI qn), .ref (am 22), .ref (am 23), .ref (am 24), .ref (am 25), .ref (am 26), .ref (am 27), .ref (am 28), .ref (am 29), .ref (am 30), .ref (am 31), .ref (am 32), .ref (am 33), .ref (am 34), .int zss2_1, .int zsy2_2, .int zpy2_3, .int zfs2_4, .int zls2_5, .int (nI an), .ref (am 41), .ref (am 42), .ref (am 43), .ref (am 44), .ref (am 45), .ref (am 46), .ref (am 47), .ref (am 48), .ref (am 49), .ref (am 50), .int (nI zw), .ref (am 52), .ref (am 53)])), (am 4, .inl (cy 3, 600, .inl (mTape tb))), (am 15, .inl (cy 0, 40, .inl nb)), (am 16, .inl (cy 0, 320, .inl fr)), (am 17, .inl (cy 0, 320, .inl tt)), (am 18, .inl (cy 0, 320, .inl st)), (am 19, .inl (cy 0, 320, .inl nu)), (am 25, .inl (cy 0, 30, .inl mk)), (am 26, .inl (cy 0, 100, .inl qp)), (am 27, .inl (cy 0, 100, .inl qs)), (am 28, .inl (cy 0, 100, .inl qt)), (am 29, .inl (cy 0, 100, .inl qm)), (am 30, .inl (cy 0, 100, .inl qf)), (am 31, .inl (cy 0, 100, .inl ql)), (am 32, .inl (cy 2, 100, .inl qx)), (am 33, .inl (cy 2, 601, .inl zsi2_6)), (am 34, .inl (cy 2, 601, .inl zpi2_7)), (am 22, .inl (cy 0, 30, .inl bo)), (am 23, .inl (cy 0, 30, .inl di)), (am 41, .inl (cy 0, 40, .inl ap)), (am 42, .inl (cy 0, 40, .inl as_))] H := hP.sub [0, 1, 2, 3, 4, 5, 6, 7, 8, 9, 10, 11, 12, 13, 14, 15, 16, 17, 18, 19, 20] rfl
                            have hD9 : va_D A [(am 0, .inr (12, [.ref (am 1), .ref (am 2), .ref (am 3), .ref (am 4), .int (nI tn), .int (nI zsz), .int (nI zfr), .int (nI zbe), .int zha, .int zva, .int fk, .int fp, .ref (am 13), .int (nI sn), .ref (am 15), .ref (am 16), .ref (am 17), .ref (am 18), .ref (am 19), .int (nI pn), .int (nI qn), .ref (am 22), .ref (am 23), .ref (am 24), .ref (am 25), .ref (am 26), .ref (am 27), .ref (am 28), .ref (am 29), .ref (am 30), .ref (am 31), .ref (am 32), .ref (am 33), .ref (am 34), .int zss2_1, .int zsy2_2, .int zpy2_3, .int zfs2_4, .int zls2_5, .int (nI an), .ref (am 41), .ref (am 42), .ref (am 43), .ref (am 44), .ref (am 45), .ref (am 46), .ref (am 47), .ref (am 48), .ref (am 49), .ref (am 50), .int (nI zw), .ref (am 52), .ref (am 53)])), (am 4, .inl (cy 3, 600, .inl (mTape tb))), (am 15, .inl (cy 0, 40, .inl nb)), (am 16, .inl (cy 0, 320, .inl fr)), (am 17, .inl (cy 0, 320, .inl tt)), (am 18, .inl (cy 0, 320, .inl st)), (am 19, .inl (cy 0, 320, .inl nu)), (am 25, .inl (cy 0, 30, .inl mk)), (am 26, .inl (cy 0, 100, .inl qp)), (am 27, .inl (cy 0, 100, .inl qs)), (am 28, .inl (cy 0, 100, .inl qt)), (am 29, .inl (cy 0, 100, .inl qm)), (am 30, .inl (cy 0, 100, .inl qf)), (am 31, .inl (cy 0, 100, .inl ql)), (am 32, .inl (cy 2, 100, .inl qx)), (am 33, .inl (cy 2, 601, .inl zsi2_6)), (am 34, .inl (cy 2, 601, .inl zpi2_7)), (am 22, .inl (cy 0, 30, .inl bo)), (am 23, .inl (cy 0, 30, .inl di)), (am 41, .inl (cy 0, 40, .inl ap)), (am 42, .inl (cy 0, 40, .inl as_))] := hD.sub [0, 1, 2, 3, 4, 5, 6, 7, 8, 9, 10, 11, 12, 13, 14, 15, 16, 17, 18, 19, 20] (by decide) rfl
                            have hpost : (0 : Int32) = pI (aSure tb zsz (sureY bo di (lvB (liv qp qt qm qf ql qx mk (fun t9 m9 y9 => sOnly nb fr tt st nu sn ((as_ a1).toInt.toNat) t9 m9 y9) qn ((ap a1).toInt.toNat))) ((ap a1).toInt.toNat))) := by
                              refine (pI_f (fun q => ?_)).symm
                              have hns : ¬ sureY bo di (lvB (liv qp qt qm qf ql qx mk (fun t9 m9 y9 => sOnly nb fr tt st nu sn ((as_ a1).toInt.toNat) t9 m9 y9) qn ((ap a1).toInt.toNat))) ((ap a1).toInt.toNat) z.toInt := by
                                intro q
                                rcases q with q | q | q
                                · exact c_b q
                                · first
                                    | exact c_d q
                                    | omega
                                · first
                                    | exact c_y q.1
                                    | (have c_s2 := c_s
                                       rw [v6 _ (by omega)] at c_s2
                                       exact pI_e0.mp c_s2 q.2)
                              have e9 := hz (by omega)
                              rw [show j - k = 4 by omega] at e9
                              rw [e9] at hns
                              have hrun := toRun_e hr3 hne
                              rw [show j = k + 4 by omega] at hrun
                              exact hns (q k ⟨hk0, hrun⟩)
                            exact W.zret (v := 0) hx hb hr (by rfl) (fun t9 ht hW => ⟨⟨0, (zss2_1, zsy2_2, zpy2_3, zfs2_4, zls2_5, zsi2_6, zpi2_7), rfl, hpost, by rw [ht]; exact hP9, va_K.moved hW.alike hK, hD9⟩, hS.F ht⟩) hS.2.2 dX12_areSure_165
                      · skip
                        refine lv_iconst (v := 1) hx hb dX12_areSure_145 (by decide) ?_
                        refine lv_goto (tgt := 150) hx hb dX12_areSure_146 (by decide) ?_
                        refine lv_istore (lv' := [(5, .int 1), (0, .ref (am 0)), (1, .int (nI a1)), (2, .int (nI k)), (3, .int (nI j)), (4, .int z)]) hx hb dX12_areSure_150 hl (by decide) rfl (fun ls hl => ?_)
                        refine lv_iload_n hx hb dX12_areSure_152 rfl (lv_at hl 4 rfl) ?_
                        refine lv_iload_n hx hb dX12_areSure_153 rfl (lv_at hl 3 rfl) ?_
                        refine lv_isub hx hb dX12_areSure_154 ?_
                        refine bw_re (show (nI j) - (nI k) = nI (j - k) from pk_sub (a := j) (b := k) (by omega)) ?_
                        refine lv_iconst (v := 4) hx hb dX12_areSure_155 (by decide) ?_
                        refine bw_icmp_ne (tgt := 166) (a := ((j - k : Nat) : Int)) (b := 4) hx hb dX12_areSure_156 (by decide) (nI_toInt (by omega)) rfl (fun c_29 => ?_) (fun c_29 => ?_)
                        · skip
                          refine lv_iload_n hx hb dX12_areSure_166 rfl (lv_at hl 4 rfl) ?_
                          refine lv_iconst (v := 1) hx hb dX12_areSure_167 (by decide) ?_
                          refine lv_iadd hx hb dX12_areSure_168 ?_
                          refine bw_re (show (nI j) + 1 = nI (j + 1) from nI_add (j) (1)) ?_
                          refine lv_istore_n (lv' := [(2, .int (nI (j + 1))), (5, .int 1), (0, .ref (am 0)), (1, .int (nI a1)), (3, .int (nI j)), (4, .int z)]) hx hb dX12_areSure_169 rfl hl (by decide) rfl (fun ls hl => ?_)
                          refine lv_goto (tgt := 18) hx hb dX12_areSure_170 (by decide) ?_
                          have hI_hk0 : (j + 1) = 0 ∨ ¬ bDg tb zsz ((j + 1) - 1) := by
                            exact Or.inr (by rw [show j + 1 - 1 = j by omega]; exact hne)
                          have hI_hok : okTo tb zsz (sureY bo di (lvB (liv qp qt qm qf ql qx mk (fun t9 m9 y9 => sOnly nb fr tt st nu sn ((as_ a1).toInt.toNat) t9 m9 y9) qn ((ap a1).toInt.toNat))) ((ap a1).toInt.toNat)) (j + 1) := by
                            refine ok_r hok hk0 (toRun_e hr3 hne) (fun q => ?_)
                            first
                              | (exfalso; omega)
                              | (have hsu : sureY bo di (lvB (liv qp qt qm qf ql qx mk (fun t9 m9 y9 => sOnly nb fr tt st nu sn ((as_ a1).toInt.toNat) t9 m9 y9) qn ((ap a1).toInt.toNat))) ((ap a1).toInt.toNat) z.toInt := by
                                   first
                                     | exact Or.inl c_b
                                     | exact Or.inr (Or.inl c_d)
                                     | (refine Or.inr (Or.inr ⟨c_y, ?_⟩)
                                        have c_s2 := c_s
                                        rw [v6 _ (by omega)] at c_s2
                                        exact pI_ne.mp c_s2)
                                 have e9 := hz (by omega)
                                 rw [show j - k = 4 by omega] at e9
                                 rw [← e9]; exact hsu)
                          exact ih18 (j + 1) (by omega) (by first | assumption | omega) hI_hk0 hI_hok H locs hP hD hS ls (lv_sub hl [2, 3, 0] rfl)
                        · skip
                          refine lv_iload hx hb dX12_areSure_159 (lv_at hl 0 rfl) ?_
                          refine bw_if_ne (tgt := 166) (a := 1) hx hb dX12_areSure_161 (by decide) rfl (fun c_30 => ?_) (fun c_30 => ?_)
                          · skip
                            refine lv_iload_n hx hb dX12_areSure_166 rfl (lv_at hl 4 rfl) ?_
                            refine lv_iconst (v := 1) hx hb dX12_areSure_167 (by decide) ?_
                            refine lv_iadd hx hb dX12_areSure_168 ?_
                            refine bw_re (show (nI j) + 1 = nI (j + 1) from nI_add (j) (1)) ?_
                            refine lv_istore_n (lv' := [(2, .int (nI (j + 1))), (5, .int 1), (0, .ref (am 0)), (1, .int (nI a1)), (3, .int (nI j)), (4, .int z)]) hx hb dX12_areSure_169 rfl hl (by decide) rfl (fun ls hl => ?_)
                            refine lv_goto (tgt := 18) hx hb dX12_areSure_170 (by decide) ?_
                            have hI_hk0 : (j + 1) = 0 ∨ ¬ bDg tb zsz ((j + 1) - 1) := by
                              exact Or.inr (by rw [show j + 1 - 1 = j by omega]; exact hne)
                            have hI_hok : okTo tb zsz (sureY bo di (lvB (liv qp qt qm qf ql qx mk (fun t9 m9 y9 => sOnly nb fr tt st nu sn ((as_ a1).toInt.toNat) t9 m9 y9) qn ((ap a1).toInt.toNat))) ((ap a1).toInt.toNat)) (j + 1) := by
                              refine ok_r hok hk0 (toRun_e hr3 hne) (fun q => ?_)
                              first
                                | (exfalso; omega)
                                | (have hsu : sureY bo di (lvB (liv qp qt qm qf ql qx mk (fun t9 m9 y9 => sOnly nb fr tt st nu sn ((as_ a1).toInt.toNat) t9 m9 y9) qn ((ap a1).toInt.toNat))) ((ap a1).toInt.toNat) z.toInt := by
                                     first
                                       | exact Or.inl c_b
                                       | exact Or.inr (Or.inl c_d)
                                       | (refine Or.inr (Or.inr ⟨c_y, ?_⟩)
                                          have c_s2 := c_s
                                          rw [v6 _ (by omega)] at c_s2
                                          exact pI_ne.mp c_s2)
                                   have e9 := hz (by omega)
                                   rw [show j - k = 4 by omega] at e9
                                   rw [← e9]; exact hsu)
                            exact ih18 (j + 1) (by omega) (by first | assumption | omega) hI_hk0 hI_hok H locs hP hD hS ls (lv_sub hl [2, 3, 0] rfl)
                          · exact absurd c_30 (by decide)
            · skip
              have hsj := bAt_dg.mp q_d
              have hjl := hsj.1
              have hjd := hsj.2
              have hbj := bAt_in (tb := tb) hjl
              refine lv_iload_n hx hb dX12_areSure_42 rfl (lv_at hl 3 rfl) ?_
              refine lv_iload_n hx hb dX12_areSure_43 rfl (lv_at hl 2 rfl) ?_
              refine lv_isub hx hb dX12_areSure_44 ?_
              refine bw_re (show (nI j) - (nI k) = nI (j - k) from pk_sub (a := j) (b := k) (by omega)) ?_
              refine lv_iconst (v := 4) hx hb dX12_areSure_45 (by decide) ?_
              refine bw_icmp_ge (tgt := 66) (a := ((j - k : Nat) : Int)) (b := 4) hx hb dX12_areSure_46 (by decide) (nI_toInt (by omega)) rfl (fun c_31 => ?_) (fun c_31 => ?_)
              · skip
                refine lv_iload hx hb dX12_areSure_66 (lv_at hl 4 rfl) ?_
                refine lv_istore (lv' := [(4, .int z), (0, .ref (am 0)), (1, .int (nI a1)), (2, .int (nI k)), (3, .int (nI j))]) hx hb dX12_areSure_68 hl (by decide) rfl (fun ls hl => ?_)
                refine lv_iinc (v := nI (j + 1)) (lv' := [(3, .int (nI (j + 1))), (4, .int z), (0, .ref (am 0)), (1, .int (nI a1)), (2, .int (nI k))]) hx hb dX12_areSure_70 hl (k := 4) rfl (show nI j + Int32.ofInt 1 = nI (j + 1) from nI_add j 1) (by decide) rfl (fun ls hl => ?_)
                refine lv_goto (tgt := 31) hx hb dX12_areSure_73 (by decide) ?_
                have hI_hr3 : toRun (bDg tb zsz) k (j + 1) := by
                  exact toRun_s hr3 hsj
                have hI_hz : (j + 1) ≤ k + 4 → z.toInt = vN tb k ((j + 1) - k) := by
                  intro q9
                  first
                    | (rw [vN_s hj0, ← hz (by omega), tzn]; omega)
                    | (exfalso; omega)
                have hI_hz0 : 0 ≤ z.toInt ∧ z.toInt ≤ 9999 := by
                  first
                    | (have q := vN_4 (tb := tb) (ts := k) (m := j + 1 - k) (by omega) (fun i hi => ((toRun_s hr3 hsj).2 (k + i) (by omega) (by omega)).2)
                       rw [vN_s hj0, ← hz (by omega)] at q
                       omega)
                    | exact hz0
                exact ih31 (j + 1) z (by omega) (by first | assumption | omega) hI_hr3 hI_hz hI_hz0 H locs hP hD hS ls (lv_sub hl [2, 3, 4, 0, 1] rfl)
              · skip
                refine lv_bipush (v := 10) hx hb dX12_areSure_49 (by decide) ?_
                refine lv_iload hx hb dX12_areSure_51 (lv_at hl 4 rfl) ?_
                refine lv_imul hx hb dX12_areSure_53 ?_
                refine bw_nm (a := (10 * z.toInt)) (tI_mul rfl rfl (by omega) (by omega)) (fun z_32 ez_32 tz_32 => ?_)
                refine lv_aload_n hx hb dX12_areSure_54 rfl (lv_at hl 0 rfl) ?_
                refine lv_iload_n hx hb dX12_areSure_55 rfl (lv_at hl 3 rfl) ?_
                have hPc : va_P (dC, dI) vwCl [(am 0, .inr (12, [.ref (am 1), .ref (am 2), .ref (am 3), .ref (am 4), .int (nI tn), .int (nI zsz), .int (nI zfr), .int (nI zbe), .int zha, .int zva, .int fk, .int fp, .ref (am 13), .int (nI sn), .ref (am 15), .ref (am 16), .ref (am 17), .ref (am 18), .ref (am 19), .int (nI pn), .int (nI qn), .ref (am 22), .ref (am 23), .ref (am 24), .ref (am 25), .ref (am 26), .ref (am 27), .ref (am 28), .ref (am 29), .ref (am 30), .ref (am 31), .ref (am 32), .ref (am 33), .ref (am 34), .int zss2_1, .int zsy2_2, .int zpy2_3, .int zfs2_4, .int zls2_5, .int (nI an), .ref (am 41), .ref (am 42), .ref (am 43), .ref (am 44), .ref (am 45), .ref (am 46), .ref (am 47), .ref (am 48), .ref (am 49), .ref (am 50), .int (nI zw), .ref (am 52), .ref (am 53)])), (am 4, .inl (cy 3, 600, .inl (mTape tb)))] H := hP.sub [0, 1] rfl
                refine vp_callSi (va_Run.run (va_runV (As := [.int (nI j)]) (rest := [.int z_32]) ⟨hx, hb, hml, hown, hts⟩ (c_X12_byteAt l dC dI cy am tn zsz zfr zbe zha zva fk fp sn pn qn zss2_1 zsy2_2 zpy2_3 zfs2_4 zls2_5 an zw tb j (by first | assumption | omega) (by first | assumption | omega) (by first | assumption | omega)) (cwV 1 hts gX12_areSure_X12_byteAt rfl rfl rfl (by decide +kernel) ⟨Nat.le_of_ble_eq_true rfl, Nat.le_of_ble_eq_true rfl⟩) ⟨fun a U g mk q => by obtain ⟨q0, qP, qK⟩ := q; exact ⟨q0, qP, va_K.moved (u := U) (U := U.calling g mk a) (Vm.Alike.refl U.vm) qK⟩, va_recv hK hPc (ci := 12) (q0 := 0) rfl rfl, fun U hU hW => ⟨rfl, by rw [hU]; exact hPc, va_K.moved hW.alike hK⟩⟩ rfl rfl hl.1 rfl (lv_room (Nat.le_of_ble_eq_true rfl)) dX12_areSure_56 ⟨Nat.le_of_ble_eq_true rfl, Nat.le_of_ble_eq_true rfl⟩)) (fun r_33 hr_33 => ?_)
                rw [hr_33]
                refine bw_re (show (bAt tb zsz j) = tb j from hbj) ?_
                refine lv_iadd hx hb dX12_areSure_59 ?_
                refine bw_nm (a := ((10 * z.toInt) + (tb j).toInt)) (tI_add tz_32 rfl (by omega) (by omega)) (fun z_34 ez_34 tz_34 => ?_)
                refine lv_bipush (v := 48) hx hb dX12_areSure_60 (by decide) ?_
                refine lv_isub hx hb dX12_areSure_62 ?_
                refine bw_nm (a := (((10 * z.toInt) + (tb j).toInt) - 48)) (tI_sub tz_34 rfl (by omega) (by omega)) (fun zn ezn tzn => ?_)
                refine lv_goto (tgt := 68) hx hb dX12_areSure_63 (by decide) ?_
                refine lv_istore (lv' := [(4, .int zn), (0, .ref (am 0)), (1, .int (nI a1)), (2, .int (nI k)), (3, .int (nI j))]) hx hb dX12_areSure_68 hl (by decide) rfl (fun ls hl => ?_)
                refine lv_iinc (v := nI (j + 1)) (lv' := [(3, .int (nI (j + 1))), (4, .int zn), (0, .ref (am 0)), (1, .int (nI a1)), (2, .int (nI k))]) hx hb dX12_areSure_70 hl (k := 4) rfl (show nI j + Int32.ofInt 1 = nI (j + 1) from nI_add j 1) (by decide) rfl (fun ls hl => ?_)
                refine lv_goto (tgt := 31) hx hb dX12_areSure_73 (by decide) ?_
                have hI_hr3 : toRun (bDg tb zsz) k (j + 1) := by
                  exact toRun_s hr3 hsj
                have hI_hz : (j + 1) ≤ k + 4 → zn.toInt = vN tb k ((j + 1) - k) := by
                  intro q9
                  first
                    | (rw [vN_s hj0, ← hz (by omega), tzn]; omega)
                    | (exfalso; omega)
                have hI_hz0 : 0 ≤ zn.toInt ∧ zn.toInt ≤ 9999 := by
                  first
                    | (have q := vN_4 (tb := tb) (ts := k) (m := j + 1 - k) (by omega) (fun i hi => ((toRun_s hr3 hsj).2 (k + i) (by omega) (by omega)).2)
                       rw [vN_s hj0, ← hz (by omega)] at q
                       omega)
                    | exact hz0
                exact ih31 (j + 1) zn (by omega) (by first | assumption | omega) hI_hr3 hI_hz hI_hz0 H locs hP hD hS ls (lv_sub hl [2, 3, 4, 0, 1] rfl)
        have hI_hr3 : toRun (bDg tb zsz) k k := by
          exact toRun_0
        have hI_hz : k ≤ k + 4 → (0 : Int32).toInt = vN tb k (k - k) := by
          intro _
          rw [show k - k = 0 by omega]; rfl
        have hI_hz0 : 0 ≤ (0 : Int32).toInt ∧ (0 : Int32).toInt ≤ 9999 := by
          decide
        exact L_31 ((zsz - k) + 1) k 0 (by omega) (by first | assumption | omega) hI_hr3 hI_hz hI_hz0 H locs hP hD hS ls (lv_sub hl [2, 3, 4, 1, 0] rfl)
  have hI_hk0 : 0 = 0 ∨ ¬ bDg tb zsz (0 - 1) := by
    exact Or.inl rfl
  have hI_hok : okTo tb zsz (sureY bo di (lvB (liv qp qt qm qf ql qx mk (fun t9 m9 y9 => sOnly nb fr tt st nu sn ((as_ a1).toInt.toNat) t9 m9 y9) qn ((ap a1).toInt.toNat))) ((ap a1).toInt.toNat)) 0 := by
    exact ok_0
  exact L_18 ((zsz + 1 - 0) + 1) 0 (by omega) (by first | assumption | omega) hI_hk0 hI_hok H locs hP hD hS ls (lv_sub hl [1, 2, 0] rfl)

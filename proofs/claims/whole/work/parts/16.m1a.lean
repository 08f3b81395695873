/-! the reference's tape -/
def mTape (tb : Nat → Int32) : Nat → Int32 := fun k => (tb k).toInt8.toInt32
theorem mTape_upd {tb : Nat → Int32} {n : Nat} {z x : Int32} (h : z.toInt8 = x.toInt8) : upd (mTape tb) n z.toInt8.toInt32 = mTape (upd tb n x) := by
  funext k
  by_cases hk : k = n
  · subst hk; unfold mTape; rw [pk_us, pk_us, h]
  · unfold mTape; rw [pk_un hk, pk_un hk]
theorem i8_ext {z x : Int32} (h : ∀ i, i < 8 → bt z i = bt x i) : z.toInt8 = x.toInt8 := by
  apply Int8.toBitVec_inj.mp
  show z.toBitVec.signExtend 8 = x.toBitVec.signExtend 8
  apply BitVec.eq_of_getLsbD_eq
  intro i hi
  have h2 := h i hi
  unfold bt at h2
  rw [BitVec.getLsbD_signExtend, BitVec.getLsbD_signExtend, if_pos (by omega), if_pos (by omega), h2]
theorem tB_lo (v : Int32) (n : Nat) (hn : n ≤ 24) : (v >>> (nI n &&& 31)).toInt8 = (tB v (nI n)).toInt8 := by
  apply i8_ext
  intro i hi
  unfold tB
  rw [b_and, b_255, b_ushr n (by omega), b_sshr n (by omega) v (by omega), if_pos (by omega), decide_eq_true hi, Bool.and_true]
theorem tB_lo24 (v : Int32) : (v >>> ((24 : Int32) &&& 31)).toInt8 = (tB v 24).toInt8 := tB_lo v 24 (by omega)
theorem tB_lo16 (v : Int32) : (v >>> ((16 : Int32) &&& 31)).toInt8 = (tB v 16).toInt8 := tB_lo v 16 (by omega)
theorem tB_lo8 (v : Int32) : (v >>> ((8 : Int32) &&& 31)).toInt8 = (tB v 8).toInt8 := tB_lo v 8 (by omega)
theorem tB_lo0 (v : Int32) : (v >>> ((0 : Int32) &&& 31)).toInt8 = (tB v 0).toInt8 := tB_lo v 0 (by omega)
set_option maxHeartbeats 4000000 in
set_option maxRecDepth 100000 in
theorem c_X12_in (l : Launch) (dC : Nat → ClassId) (dI : Nat → Nat → Nat) (cy : Nat → ClassId) (v : Int64) (lo : Int64) (hi : Int64) (va : Int) (loa : Int) (hia : Int) (i_v : v.toInt = va) (i_lo : lo.toInt = loa) (i_hi : hi.toInt = hia) : Met l yX12_in wsX12_in ({ frames := 0, cells := 0, slots := 0, locals := 0 }) (va_Pc [.long v, .long lo, .long hi] (fun _ => True)) (vp_Si (fun r => r = if loa ≤ va ∧ va ≤ hia then 1 else 0)) 0 0 (fun _ => False) := by
  refine Met.ofW (cc := cX12_in) (maxL := 6) (ret := (some .boolean)) (by decide) rfl ?_
  intro pp ee ss mm args below meth cc0 s₁ B hml hv
  obtain ⟨rfl, -⟩ := hv
  have hx := B.exec
  have hb := B.bytes
  have hr := B.returns
  have hts := atoms_spec (ws := wsX12_in) B.pre
  have hown : ss.vm.findClass RX12 = some mm.cls := findClass_of_methodNamed B.named
  have hlocks := B.notSynchronized
  have hl := lv_entry ([.long v, .long lo, .long hi]) (n := 6) (Nat.le_of_ble_eq_true rfl)
  rw [lg_entry_eq]
  generalize (lg_sl ([.long v, .long lo, .long hi]) ++ List.replicate (6 - (lg_sl ([.long v, .long lo, .long hi])).length) Slot.unset).toArray = ls at hl ⊢
  have hl : lv_has ls 6 [(0, .long v), (2, .long lo), (4, .long hi)] := hl
  refine bw_Q (fun Q hQ => ?_)
  change W pp l ee { frames := 0, cells := 0, slots := 0, locals := 0 } ss mm _ below meth cc0 ss.heap [] 0 0 Q (F0 mm 0 ls [])
  refine lv_lload_n hx hb dX12_in_0 rfl (lv_at hl 0 rfl) ?_
  refine lv_lload_n hx hb dX12_in_1 rfl (lv_at hl 1 rfl) ?_
  refine bw_lcmp (a := va) (b := loa) hx hb dX12_in_2 i_v i_lo (fun z_1 tz_1 => ?_)
  refine bw_if_lt (tgt := 17) (a := z_1.toInt) hx hb dX12_in_3 (by decide) rfl (fun c_2 => ?_) (fun c_2 => ?_)
  · skip
    refine lv_iconst (v := 0) hx hb dX12_in_17 (by decide) ?_
    subst hQ
    have hpost : (0 : Int32) = if loa ≤ va ∧ va ≤ hia then 1 else 0 := by
      first | rw [if_pos (by omega)] | rw [if_neg (by omega)]
    exact W.zret (v := 0) hx hb hr (by rfl) (fun t9 ht hW => ⟨_, rfl, hpost, by rw [ht]⟩) (fun q h => by cases h) dX12_in_18
  · skip
    refine lv_lload_n hx hb dX12_in_6 rfl (lv_at hl 0 rfl) ?_
    refine lv_lload hx hb dX12_in_7 (lv_at hl 2 rfl) ?_
    refine bw_lcmp (a := va) (b := hia) hx hb dX12_in_9 i_v i_hi (fun z_3 tz_3 => ?_)
    refine bw_if_gt (tgt := 17) (a := z_3.toInt) hx hb dX12_in_10 (by decide) rfl (fun c_4 => ?_) (fun c_4 => ?_)
    · skip
      refine lv_iconst (v := 0) hx hb dX12_in_17 (by decide) ?_
      subst hQ
      have hpost : (0 : Int32) = if loa ≤ va ∧ va ≤ hia then 1 else 0 := by
        first | rw [if_pos (by omega)] | rw [if_neg (by omega)]
      exact W.zret (v := 0) hx hb hr (by rfl) (fun t9 ht hW => ⟨_, rfl, hpost, by rw [ht]⟩) (fun q h => by cases h) dX12_in_18
    · skip
      refine lv_iconst (v := 1) hx hb dX12_in_13 (by decide) ?_
      refine lv_goto (tgt := 18) hx hb dX12_in_14 (by decide) ?_
      subst hQ
      have hpost : (1 : Int32) = if loa ≤ va ∧ va ≤ hia then 1 else 0 := by
        first | rw [if_pos (by omega)] | rw [if_neg (by omega)]
      exact W.zret (v := 1) hx hb hr (by rfl) (fun t9 ht hW => ⟨_, rfl, hpost, by rw [ht]⟩) (fun q h => by cases h) dX12_in_18

set_option maxHeartbeats 4000000 in
set_option maxRecDepth 100000 in
theorem c_X12_isYear (l : Launch) (dC : Nat → ClassId) (dI : Nat → Nat → Nat) (cy : Nat → ClassId) (y : Int32)  : Met l yX12_isYear wsX12_isYear ({ frames := 1, cells := 0, slots := 0, locals := 25 }) (va_Pc [.int y] (fun _ => True)) (vp_Si (fun r => r = if 1500 ≤ y.toInt ∧ y.toInt ≤ 2100 then 1 else 0)) 0 0 (fun _ => False) := by
  refine Met.ofW (cc := cX12_isYear) (maxL := 1) (ret := (some .boolean)) (by decide) rfl ?_
  intro pp ee ss mm args below meth cc0 s₁ B hml hv
  obtain ⟨rfl, -⟩ := hv
  have hx := B.exec
  have hb := B.bytes
  have hr := B.returns
  have hts := atoms_spec (ws := wsX12_isYear) B.pre
  have hown : ss.vm.findClass RX12 = some mm.cls := findClass_of_methodNamed B.named
  have hlocks := B.notSynchronized
  have hL0 := hts (.constantLong RX12 3 (1500)) (by decide +kernel)
  have hL1 := hts (.constantLong RX12 5 (2100)) (by decide +kernel)
  have hl := lv_entry ([.int y]) (n := 1) (Nat.le_of_ble_eq_true rfl)
  rw [lg_entry_eq]
  generalize (lg_sl ([.int y]) ++ List.replicate (1 - (lg_sl ([.int y])).length) Slot.unset).toArray = ls at hl ⊢
  have hl : lv_has ls 1 [(0, .int y)] := hl
  refine bw_Q (fun Q hQ => ?_)
  change W pp l ee { frames := 1, cells := 0, slots := 0, locals := 25 } ss mm _ below meth cc0 ss.heap [] 0 0 Q (F0 mm 0 ls [])
  refine lv_iload_n hx hb dX12_isYear_0 rfl (lv_at hl 0 rfl) ?_
  refine lv_i2l hx hb dX12_isYear_1 rfl ?_
  refine bw_nmL (a := y.toInt) (tI_i2l rfl) (fun w_1 ew_1 tw_1 => ?_)
  refine lv_ldc2 hx hb hown hL0 dX12_isYear_2 ?_
  refine lv_ldc2 hx hb hown hL1 dX12_isYear_5 ?_
  refine vp_callSi (va_Run.run (va_runS (As := [.long w_1, .long 1500, .long 2100]) (rest := []) ⟨hx, hb, hml, hown, hts⟩ (c_X12_in l dC dI cy w_1 1500 2100 y.toInt 1500 2100 (tw_1) (rfl) (rfl)) (va_cwS 3 hts gX12_isYear_X12_in rfl rfl rfl (by decide +kernel) ⟨Nat.le_of_ble_eq_true rfl, Nat.le_of_ble_eq_true rfl⟩) ⟨fun a U g mk q => q, fun U hU hW => ⟨rfl, trivial⟩⟩ rfl rfl hl.1 rfl (lv_room (Nat.le_of_ble_eq_true rfl)) dX12_isYear_8 ⟨Nat.le_of_ble_eq_true rfl, Nat.le_of_ble_eq_true rfl⟩)) (fun r_2 hr_2 => ?_)
  subst hQ
  have hpost : r_2 = if 1500 ≤ y.toInt ∧ y.toInt ≤ 2100 then 1 else 0 := by
    exact hr_2
  exact W.zret (v := r_2) hx hb hr (by rw [hr_2]; first | (split <;> rfl) | (unfold pI; split <;> rfl)) (fun t9 ht hW => ⟨_, rfl, hpost, by rw [ht]⟩) (fun q h => by cases h) dX12_isYear_11

set_option maxHeartbeats 4000000 in
set_option maxRecDepth 100000 in
theorem c_X12_isStreet (l : Launch) (dC : Nat → ClassId) (dI : Nat → Nat → Nat) (cy : Nat → ClassId) (y : Int32)  : Met l yX12_isStreet wsX12_isStreet ({ frames := 1, cells := 0, slots := 0, locals := 25 }) (va_Pc [.int y] (fun _ => True)) (vp_Si (fun r => r = if 0 ≤ y.toInt ∧ y.toInt ≤ 9 then 1 else 0)) 0 0 (fun _ => False) := by
  refine Met.ofW (cc := cX12_isStreet) (maxL := 1) (ret := (some .boolean)) (by decide) rfl ?_
  intro pp ee ss mm args below meth cc0 s₁ B hml hv
  obtain ⟨rfl, -⟩ := hv
  have hx := B.exec
  have hb := B.bytes
  have hr := B.returns
  have hts := atoms_spec (ws := wsX12_isStreet) B.pre
  have hown : ss.vm.findClass RX12 = some mm.cls := findClass_of_methodNamed B.named
  have hlocks := B.notSynchronized
  have hL0 := hts (.constantLong RX12 230 (9)) (by decide +kernel)
  have hl := lv_entry ([.int y]) (n := 1) (Nat.le_of_ble_eq_true rfl)
  rw [lg_entry_eq]
  generalize (lg_sl ([.int y]) ++ List.replicate (1 - (lg_sl ([.int y])).length) Slot.unset).toArray = ls at hl ⊢
  have hl : lv_has ls 1 [(0, .int y)] := hl
  refine bw_Q (fun Q hQ => ?_)
  change W pp l ee { frames := 1, cells := 0, slots := 0, locals := 25 } ss mm _ below meth cc0 ss.heap [] 0 0 Q (F0 mm 0 ls [])
  refine lv_iload_n hx hb dX12_isStreet_0 rfl (lv_at hl 0 rfl) ?_
  refine lv_i2l hx hb dX12_isStreet_1 rfl ?_
  refine bw_nmL (a := y.toInt) (tI_i2l rfl) (fun w_1 ew_1 tw_1 => ?_)
  refine lv_lconst (v := 0) hx hb dX12_isStreet_2 (by decide) ?_
  refine lv_ldc2 hx hb hown hL0 dX12_isStreet_3 ?_
  refine vp_callSi (va_Run.run (va_runS (As := [.long w_1, .long 0, .long 9]) (rest := []) ⟨hx, hb, hml, hown, hts⟩ (c_X12_in l dC dI cy w_1 0 9 y.toInt 0 9 (tw_1) (rfl) (rfl)) (va_cwS 3 hts gX12_isStreet_X12_in rfl rfl rfl (by decide +kernel) ⟨Nat.le_of_ble_eq_true rfl, Nat.le_of_ble_eq_true rfl⟩) ⟨fun a U g mk q => q, fun U hU hW => ⟨rfl, trivial⟩⟩ rfl rfl hl.1 rfl (lv_room (Nat.le_of_ble_eq_true rfl)) dX12_isStreet_6 ⟨Nat.le_of_ble_eq_true rfl, Nat.le_of_ble_eq_true rfl⟩)) (fun r_2 hr_2 => ?_)
  subst hQ
  have hpost : r_2 = if 0 ≤ y.toInt ∧ y.toInt ≤ 9 then 1 else 0 := by
    exact hr_2
  exact W.zret (v := r_2) hx hb hr (by rw [hr_2]; first | (split <;> rfl) | (unfold pI; split <;> rfl)) (fun t9 ht hW => ⟨_, rfl, hpost, by rw [ht]⟩) (fun q h => by cases h) dX12_isStreet_9

set_option maxHeartbeats 4000000 in
set_option maxRecDepth 100000 in
theorem c_X12_areYears (l : Launch) (dC : Nat → ClassId) (dI : Nat → Nat → Nat) (cy : Nat → ClassId) (f : Int32) (t : Int32)  : Met l yX12_areYears wsX12_areYears ({ frames := 2, cells := 0, slots := 0, locals := 45 }) (va_Pc [.int f, .int t] (fun _ => True)) (vp_Si (fun r => r = if 1500 ≤ f.toInt ∧ f.toInt ≤ t.toInt ∧ t.toInt ≤ 2100 then 1 else 0)) 0 0 (fun _ => False) := by
  refine Met.ofW (cc := cX12_areYears) (maxL := 2) (ret := (some .boolean)) (by decide) rfl ?_
  intro pp ee ss mm args below meth cc0 s₁ B hml hv
  obtain ⟨rfl, -⟩ := hv
  have hx := B.exec
  have hb := B.bytes
  have hr := B.returns
  have hts := atoms_spec (ws := wsX12_areYears) B.pre
  have hown : ss.vm.findClass RX12 = some mm.cls := findClass_of_methodNamed B.named
  have hlocks := B.notSynchronized
  have hL0 := hts (.constantLong RX12 5 (2100)) (by decide +kernel)
  have hl := lv_entry ([.int f, .int t]) (n := 2) (Nat.le_of_ble_eq_true rfl)
  rw [lg_entry_eq]
  generalize (lg_sl ([.int f, .int t]) ++ List.replicate (2 - (lg_sl ([.int f, .int t])).length) Slot.unset).toArray = ls at hl ⊢
  have hl : lv_has ls 2 [(0, .int f), (1, .int t)] := hl
  refine bw_Q (fun Q hQ => ?_)
  change W pp l ee { frames := 2, cells := 0, slots := 0, locals := 45 } ss mm _ below meth cc0 ss.heap [] 0 0 Q (F0 mm 0 ls [])
  refine lv_iload_n hx hb dX12_areYears_0 rfl (lv_at hl 0 rfl) ?_
  refine vp_callSi (va_Run.run (va_runS (As := [.int f]) (rest := []) ⟨hx, hb, hml, hown, hts⟩ (c_X12_isYear l dC dI cy f) (va_cwS 1 hts gX12_areYears_X12_isYear rfl rfl rfl (by decide +kernel) ⟨Nat.le_of_ble_eq_true rfl, Nat.le_of_ble_eq_true rfl⟩) ⟨fun a U g mk q => q, fun U hU hW => ⟨rfl, trivial⟩⟩ rfl rfl hl.1 rfl (lv_room (Nat.le_of_ble_eq_true rfl)) dX12_areYears_1 ⟨Nat.le_of_ble_eq_true rfl, Nat.le_of_ble_eq_true rfl⟩)) (fun r_1 hr_1 => ?_)
  refine bw_ifeqB (tgt := 24) hx hb dX12_areYears_4 (by decide) hr_1 (fun c_2 => ?_) (fun c_2 => ?_)
  · skip
    refine lv_iconst (v := 0) hx hb dX12_areYears_24 (by decide) ?_
    subst hQ
    have hpost : (0 : Int32) = if 1500 ≤ f.toInt ∧ f.toInt ≤ t.toInt ∧ t.toInt ≤ 2100 then 1 else 0 := by
      first | rw [if_pos (by omega)] | rw [if_neg (by omega)]
    exact W.zret (v := 0) hx hb hr (by rfl) (fun t9 ht hW => ⟨_, rfl, hpost, by rw [ht]⟩) (fun q h => by cases h) dX12_areYears_25
  · skip
    refine lv_iload_n hx hb dX12_areYears_7 rfl (lv_at hl 1 rfl) ?_
    refine lv_i2l hx hb dX12_areYears_8 rfl ?_
    refine bw_nmL (a := t.toInt) (tI_i2l rfl) (fun w_3 ew_3 tw_3 => ?_)
    refine lv_iload_n hx hb dX12_areYears_9 rfl (lv_at hl 0 rfl) ?_
    refine lv_i2l hx hb dX12_areYears_10 rfl ?_
    refine bw_nmL (a := f.toInt) (tI_i2l rfl) (fun w_4 ew_4 tw_4 => ?_)
    refine lv_ldc2 hx hb hown hL0 dX12_areYears_11 ?_
    refine vp_callSi (va_Run.run (va_runS (As := [.long w_3, .long w_4, .long 2100]) (rest := []) ⟨hx, hb, hml, hown, hts⟩ (c_X12_in l dC dI cy w_3 w_4 2100 t.toInt f.toInt 2100 (tw_3) (tw_4) (rfl)) (va_cwS 3 hts gX12_areYears_X12_in rfl rfl rfl (by decide +kernel) ⟨Nat.le_of_ble_eq_true rfl, Nat.le_of_ble_eq_true rfl⟩) ⟨fun a U g mk q => q, fun U hU hW => ⟨rfl, trivial⟩⟩ rfl rfl hl.1 rfl (lv_room (Nat.le_of_ble_eq_true rfl)) dX12_areYears_14 ⟨Nat.le_of_ble_eq_true rfl, Nat.le_of_ble_eq_true rfl⟩)) (fun r_5 hr_5 => ?_)
    refine bw_ifeqB (tgt := 24) hx hb dX12_areYears_17 (by decide) hr_5 (fun c_6 => ?_) (fun c_6 => ?_)
    · skip
      refine lv_iconst (v := 0) hx hb dX12_areYears_24 (by decide) ?_
      subst hQ
      have hpost : (0 : Int32) = if 1500 ≤ f.toInt ∧ f.toInt ≤ t.toInt ∧ t.toInt ≤ 2100 then 1 else 0 := by
        first | rw [if_pos (by omega)] | rw [if_neg (by omega)]
      exact W.zret (v := 0) hx hb hr (by rfl) (fun t9 ht hW => ⟨_, rfl, hpost, by rw [ht]⟩) (fun q h => by cases h) dX12_areYears_25
    · skip
      refine lv_iconst (v := 1) hx hb dX12_areYears_20 (by decide) ?_
      refine lv_goto (tgt := 25) hx hb dX12_areYears_21 (by decide) ?_
      subst hQ
      have hpost : (1 : Int32) = if 1500 ≤ f.toInt ∧ f.toInt ≤ t.toInt ∧ t.toInt ≤ 2100 then 1 else 0 := by
        first | rw [if_pos (by omega)] | rw [if_neg (by omega)]
      exact W.zret (v := 1) hx hb hr (by rfl) (fun t9 ht hW => ⟨_, rfl, hpost, by rw [ht]⟩) (fun q h => by cases h) dX12_areYears_25

set_option maxHeartbeats 4000000 in
set_option maxRecDepth 100000 in
theorem c_X12_isSmall (l : Launch) (dC : Nat → ClassId) (dI : Nat → Nat → Nat) (cy : Nat → ClassId) (x : Int32)  : Met l yX12_isSmall wsX12_isSmall ({ frames := 0, cells := 0, slots := 0, locals := 0 }) (va_Pc [.int x] (fun _ => True)) (vp_Si (fun r => r = if 97 ≤ x.toInt ∧ x.toInt ≤ 122 then 1 else 0)) 0 0 (fun _ => False) := by
  refine Met.ofW (cc := cX12_isSmall) (maxL := 1) (ret := (some .boolean)) (by decide) rfl ?_
  intro pp ee ss mm args below meth cc0 s₁ B hml hv
  obtain ⟨rfl, -⟩ := hv
  have hx := B.exec
  have hb := B.bytes
  have hr := B.returns
  have hts := atoms_spec (ws := wsX12_isSmall) B.pre
  have hown : ss.vm.findClass RX12 = some mm.cls := findClass_of_methodNamed B.named
  have hlocks := B.notSynchronized
  have hl := lv_entry ([.int x]) (n := 1) (Nat.le_of_ble_eq_true rfl)
  rw [lg_entry_eq]
  generalize (lg_sl ([.int x]) ++ List.replicate (1 - (lg_sl ([.int x])).length) Slot.unset).toArray = ls at hl ⊢
  have hl : lv_has ls 1 [(0, .int x)] := hl
  refine bw_Q (fun Q hQ => ?_)
  change W pp l ee { frames := 0, cells := 0, slots := 0, locals := 0 } ss mm _ below meth cc0 ss.heap [] 0 0 Q (F0 mm 0 ls [])
  refine lv_iload_n hx hb dX12_isSmall_0 rfl (lv_at hl 0 rfl) ?_
  refine lv_bipush (v := 97) hx hb dX12_isSmall_1 (by decide) ?_
  refine bw_icmp_lt (tgt := 16) (a := x.toInt) (b := 97) hx hb dX12_isSmall_3 (by decide) rfl rfl (fun c_1 => ?_) (fun c_1 => ?_)
  · skip
    refine lv_iconst (v := 0) hx hb dX12_isSmall_16 (by decide) ?_
    subst hQ
    have hpost : (0 : Int32) = if 97 ≤ x.toInt ∧ x.toInt ≤ 122 then 1 else 0 := by
      first | rw [if_pos (by omega)] | rw [if_neg (by omega)]
    exact W.zret (v := 0) hx hb hr (by rfl) (fun t9 ht hW => ⟨_, rfl, hpost, by rw [ht]⟩) (fun q h => by cases h) dX12_isSmall_17
  · skip
    refine lv_iload_n hx hb dX12_isSmall_6 rfl (lv_at hl 0 rfl) ?_
    refine lv_bipush (v := 122) hx hb dX12_isSmall_7 (by decide) ?_
    refine bw_icmp_gt (tgt := 16) (a := x.toInt) (b := 122) hx hb dX12_isSmall_9 (by decide) rfl rfl (fun c_2 => ?_) (fun c_2 => ?_)
    · skip
      refine lv_iconst (v := 0) hx hb dX12_isSmall_16 (by decide) ?_
      subst hQ
      have hpost : (0 : Int32) = if 97 ≤ x.toInt ∧ x.toInt ≤ 122 then 1 else 0 := by
        first | rw [if_pos (by omega)] | rw [if_neg (by omega)]
      exact W.zret (v := 0) hx hb hr (by rfl) (fun t9 ht hW => ⟨_, rfl, hpost, by rw [ht]⟩) (fun q h => by cases h) dX12_isSmall_17
    · skip
      refine lv_iconst (v := 1) hx hb dX12_isSmall_12 (by decide) ?_
      refine lv_goto (tgt := 17) hx hb dX12_isSmall_13 (by decide) ?_
      subst hQ
      have hpost : (1 : Int32) = if 97 ≤ x.toInt ∧ x.toInt ≤ 122 then 1 else 0 := by
        first | rw [if_pos (by omega)] | rw [if_neg (by omega)]
      exact W.zret (v := 1) hx hb hr (by rfl) (fun t9 ht hW => ⟨_, rfl, hpost, by rw [ht]⟩) (fun q h => by cases h) dX12_isSmall_17

set_option maxHeartbeats 4000000 in
set_option maxRecDepth 100000 in
theorem c_X12_isDigit (l : Launch) (dC : Nat → ClassId) (dI : Nat → Nat → Nat) (cy : Nat → ClassId) (x : Int32)  : Met l yX12_isDigit wsX12_isDigit ({ frames := 0, cells := 0, slots := 0, locals := 0 }) (va_Pc [.int x] (fun _ => True)) (vp_Si (fun r => r = if 48 ≤ x.toInt ∧ x.toInt ≤ 57 then 1 else 0)) 0 0 (fun _ => False) := by
  refine Met.ofW (cc := cX12_isDigit) (maxL := 1) (ret := (some .boolean)) (by decide) rfl ?_
  intro pp ee ss mm args below meth cc0 s₁ B hml hv
  obtain ⟨rfl, -⟩ := hv
  have hx := B.exec
  have hb := B.bytes
  have hr := B.returns
  have hts := atoms_spec (ws := wsX12_isDigit) B.pre
  have hown : ss.vm.findClass RX12 = some mm.cls := findClass_of_methodNamed B.named
  have hlocks := B.notSynchronized
  have hl := lv_entry ([.int x]) (n := 1) (Nat.le_of_ble_eq_true rfl)
  rw [lg_entry_eq]
  generalize (lg_sl ([.int x]) ++ List.replicate (1 - (lg_sl ([.int x])).length) Slot.unset).toArray = ls at hl ⊢
  have hl : lv_has ls 1 [(0, .int x)] := hl
  refine bw_Q (fun Q hQ => ?_)
  change W pp l ee { frames := 0, cells := 0, slots := 0, locals := 0 } ss mm _ below meth cc0 ss.heap [] 0 0 Q (F0 mm 0 ls [])
  refine lv_iload_n hx hb dX12_isDigit_0 rfl (lv_at hl 0 rfl) ?_
  refine lv_bipush (v := 48) hx hb dX12_isDigit_1 (by decide) ?_
  refine bw_icmp_lt (tgt := 16) (a := x.toInt) (b := 48) hx hb dX12_isDigit_3 (by decide) rfl rfl (fun c_1 => ?_) (fun c_1 => ?_)
  · skip
    refine lv_iconst (v := 0) hx hb dX12_isDigit_16 (by decide) ?_
    subst hQ
    have hpost : (0 : Int32) = if 48 ≤ x.toInt ∧ x.toInt ≤ 57 then 1 else 0 := by
      first | rw [if_pos (by omega)] | rw [if_neg (by omega)]
    exact W.zret (v := 0) hx hb hr (by rfl) (fun t9 ht hW => ⟨_, rfl, hpost, by rw [ht]⟩) (fun q h => by cases h) dX12_isDigit_17
  · skip
    refine lv_iload_n hx hb dX12_isDigit_6 rfl (lv_at hl 0 rfl) ?_
    refine lv_bipush (v := 57) hx hb dX12_isDigit_7 (by decide) ?_
    refine bw_icmp_gt (tgt := 16) (a := x.toInt) (b := 57) hx hb dX12_isDigit_9 (by decide) rfl rfl (fun c_2 => ?_) (fun c_2 => ?_)
    · skip
      refine lv_iconst (v := 0) hx hb dX12_isDigit_16 (by decide) ?_
      subst hQ
      have hpost : (0 : Int32) = if 48 ≤ x.toInt ∧ x.toInt ≤ 57 then 1 else 0 := by
        first | rw [if_pos (by omega)] | rw [if_neg (by omega)]
      exact W.zret (v := 0) hx hb hr (by rfl) (fun t9 ht hW => ⟨_, rfl, hpost, by rw [ht]⟩) (fun q h => by cases h) dX12_isDigit_17
    · skip
      refine lv_iconst (v := 1) hx hb dX12_isDigit_12 (by decide) ?_
      refine lv_goto (tgt := 17) hx hb dX12_isDigit_13 (by decide) ?_
      subst hQ
      have hpost : (1 : Int32) = if 48 ≤ x.toInt ∧ x.toInt ≤ 57 then 1 else 0 := by
        first | rw [if_pos (by omega)] | rw [if_neg (by omega)]
      exact W.zret (v := 1) hx hb hr (by rfl) (fun t9 ht hW => ⟨_, rfl, hpost, by rw [ht]⟩) (fun q h => by cases h) dX12_isDigit_17

set_option maxHeartbeats 4000000 in
set_option maxRecDepth 100000 in
theorem c_X12_isSite (l : Launch) (dC : Nat → ClassId) (dI : Nat → Nat → Nat) (cy : Nat → ClassId) (am : Nat → Nat) (tn : Nat) (zsz : Nat) (zfr : Nat) (zbe : Nat) (zha : Int32) (zva : Int32) (fk : Int32) (fp : Int32) (sn : Nat) (pn : Nat) (qn : Nat) (zss : Int32) (zsy : Int32) (zpy : Int32) (zfs : Int32) (zls : Int32) (an : Nat) (zw : Nat) (x : Int32) (hsn : sn ≤ 40) : Met l yX12_isSite wsX12_isSite ({ frames := 1, cells := 0, slots := 0, locals := 25 }) (va_Pc [.ref (am 0), .int x] (fun U => va_P (dC, dI) vwCl [(am 0, .inr (12, [.ref (am 1), .ref (am 2), .ref (am 3), .ref (am 4), .int (nI tn), .int (nI zsz), .int (nI zfr), .int (nI zbe), .int zha, .int zva, .int fk, .int fp, .ref (am 13), .int (nI sn), .ref (am 15), .ref (am 16), .ref (am 17), .ref (am 18), .ref (am 19), .int (nI pn), .int (nI qn), .ref (am 22), .ref (am 23), .ref (am 24), .ref (am 25), .ref (am 26), .ref (am 27), .ref (am 28), .ref (am 29), .ref (am 30), .ref (am 31), .ref (am 32), .ref (am 33), .ref (am 34), .int zss, .int zsy, .int zpy, .int zfs, .int zls, .int (nI an), .ref (am 41), .ref (am 42), .ref (am 43), .ref (am 44), .ref (am 45), .ref (am 46), .ref (am 47), .ref (am 48), .ref (am 49), .ref (am 50), .int (nI zw), .ref (am 52), .ref (am 53)]))] U.heap ∧ va_K (dC, dI) vwCl (tyL cy) U)) (vp_Si (fun r => r = if 0 ≤ x.toInt ∧ x.toInt < ((sn : Nat) : Int) then 1 else 0)) 0 0 (fun _ => False) := by
  refine Met.ofW (cc := cX12_isSite) (maxL := 2) (ret := (some .boolean)) (by decide) rfl ?_
  intro pp ee ss mm args below meth cc0 s₁ B hml hv
  obtain ⟨rfl, hP, hK⟩ := hv
  have hx := B.exec
  have hb := B.bytes
  have hr := B.returns
  have hts := atoms_spec (ws := wsX12_isSite) B.pre
  have hown : ss.vm.findClass RX12 = some mm.cls := findClass_of_methodNamed B.named
  have hlocks := B.notSynchronized
  have hL0 := hts (.fieldLink RX12 244 "HereLivedModel" "sites" "I") (by decide +kernel)
  have hiX12 : ∀ w ∈ wsX120, w ∈ wsX12_isSite := by decide +kernel
  have hl := lv_entry ([.ref (am 0), .int x]) (n := 2) (Nat.le_of_ble_eq_true rfl)
  rw [lg_entry_eq]
  generalize (lg_sl ([.ref (am 0), .int x]) ++ List.replicate (2 - (lg_sl ([.ref (am 0), .int x])).length) Slot.unset).toArray = ls at hl ⊢
  have hl : lv_has ls 2 [(0, .ref (am 0)), (1, .int x)] := hl
  refine bw_Q (fun Q hQ => ?_)
  change W pp l ee { frames := 1, cells := 0, slots := 0, locals := 25 } ss mm _ below meth cc0 ss.heap [] 0 0 Q (F0 mm 0 ls [])
  refine lv_iload_n hx hb dX12_isSite_0 rfl (lv_at hl 1 rfl) ?_
  refine lv_i2l hx hb dX12_isSite_1 rfl ?_
  refine bw_nmL (a := x.toInt) (tI_i2l rfl) (fun w_1 ew_1 tw_1 => ?_)
  refine lv_lconst (v := 0) hx hb dX12_isSite_2 (by decide) ?_
  refine lv_aload_n hx hb dX12_isSite_3 rfl (lv_at hl 0 rfl) ?_
  refine va_get (D := (dC, dI)) (ci := 12) (v := .int (nI sn)) (C := RX12) (T := TX12) (N := 53) hx hb hts hiX12 hown hK hP 0 rfl rfl 13 (by decide) hL0 (fun _ h9 => h9) rfl dX12_isSite_4 ?_
  refine lv_i2l hx hb dX12_isSite_7 rfl ?_
  refine bw_nmL (a := ((sn : Nat) : Int)) (tI_i2l (nI_toInt (by omega))) (fun w_2 ew_2 tw_2 => ?_)
  refine lv_lconst (v := 1) hx hb dX12_isSite_8 (by decide) ?_
  refine lv_lsub hx hb dX12_isSite_9 ?_
  refine bw_nmL (a := (((sn : Nat) : Int) - 1)) (tL_sub tw_2 rfl (by omega) (by omega)) (fun w_3 ew_3 tw_3 => ?_)
  refine vp_callSi (va_Run.run (va_runS (As := [.long w_1, .long 0, .long w_3]) (rest := []) ⟨hx, hb, hml, hown, hts⟩ (c_X12_in l dC dI cy w_1 0 w_3 x.toInt 0 (((sn : Nat) : Int) - 1) (tw_1) (rfl) (tw_3)) (va_cwS 3 hts gX12_isSite_X12_in rfl rfl rfl (by decide +kernel) ⟨Nat.le_of_ble_eq_true rfl, Nat.le_of_ble_eq_true rfl⟩) ⟨fun a U g mk q => q, fun U hU hW => ⟨rfl, trivial⟩⟩ rfl rfl hl.1 rfl (lv_room (Nat.le_of_ble_eq_true rfl)) dX12_isSite_10 ⟨Nat.le_of_ble_eq_true rfl, Nat.le_of_ble_eq_true rfl⟩)) (fun r_4 hr_4 => ?_)
  subst hQ
  have hpost : r_4 = if 0 ≤ x.toInt ∧ x.toInt < ((sn : Nat) : Int) then 1 else 0 := by
    rw [hr_4]
    by_cases q9 : 0 ≤ x.toInt ∧ x.toInt < ((sn : Nat) : Int)
    · rw [if_pos q9, if_pos (by omega)]
    · rw [if_neg q9, if_neg (by omega)]
  exact W.zret (v := r_4) hx hb hr (by rw [hr_4]; first | (split <;> rfl) | (unfold pI; split <;> rfl)) (fun t9 ht hW => ⟨_, rfl, hpost, by rw [ht]⟩) (fun q h => by cases h) dX12_isSite_13

set_option maxHeartbeats 4000000 in
set_option maxRecDepth 100000 in
theorem c_X12_isPerson (l : Launch) (dC : Nat → ClassId) (dI : Nat → Nat → Nat) (cy : Nat → ClassId) (am : Nat → Nat) (tn : Nat) (zsz : Nat) (zfr : Nat) (zbe : Nat) (zha : Int32) (zva : Int32) (fk : Int32) (fp : Int32) (sn : Nat) (pn : Nat) (qn : Nat) (zss : Int32) (zsy : Int32) (zpy : Int32) (zfs : Int32) (zls : Int32) (an : Nat) (zw : Nat) (x : Int32) (hpn : pn ≤ 30) : Met l yX12_isPerson wsX12_isPerson ({ frames := 1, cells := 0, slots := 0, locals := 25 }) (va_Pc [.ref (am 0), .int x] (fun U => va_P (dC, dI) vwCl [(am 0, .inr (12, [.ref (am 1), .ref (am 2), .ref (am 3), .ref (am 4), .int (nI tn), .int (nI zsz), .int (nI zfr), .int (nI zbe), .int zha, .int zva, .int fk, .int fp, .ref (am 13), .int (nI sn), .ref (am 15), .ref (am 16), .ref (am 17), .ref (am 18), .ref (am 19), .int (nI pn), .int (nI qn), .ref (am 22), .ref (am 23), .ref (am 24), .ref (am 25), .ref (am 26), .ref (am 27), .ref (am 28), .ref (am 29), .ref (am 30), .ref (am 31), .ref (am 32), .ref (am 33), .ref (am 34), .int zss, .int zsy, .int zpy, .int zfs, .int zls, .int (nI an), .ref (am 41), .ref (am 42), .ref (am 43), .ref (am 44), .ref (am 45), .ref (am 46), .ref (am 47), .ref (am 48), .ref (am 49), .ref (am 50), .int (nI zw), .ref (am 52), .ref (am 53)]))] U.heap ∧ va_K (dC, dI) vwCl (tyL cy) U)) (vp_Si (fun r => r = if 0 ≤ x.toInt ∧ x.toInt < ((pn : Nat) : Int) then 1 else 0)) 0 0 (fun _ => False) := by
  refine Met.ofW (cc := cX12_isPerson) (maxL := 2) (ret := (some .boolean)) (by decide) rfl ?_
  intro pp ee ss mm args below meth cc0 s₁ B hml hv
  obtain ⟨rfl, hP, hK⟩ := hv
  have hx := B.exec
  have hb := B.bytes
  have hr := B.returns
  have hts := atoms_spec (ws := wsX12_isPerson) B.pre
  have hown : ss.vm.findClass RX12 = some mm.cls := findClass_of_methodNamed B.named
  have hlocks := B.notSynchronized
  have hL0 := hts (.fieldLink RX12 274 "HereLivedModel" "people" "I") (by decide +kernel)
  have hiX12 : ∀ w ∈ wsX120, w ∈ wsX12_isPerson := by decide +kernel
  have hl := lv_entry ([.ref (am 0), .int x]) (n := 2) (Nat.le_of_ble_eq_true rfl)
  rw [lg_entry_eq]
  generalize (lg_sl ([.ref (am 0), .int x]) ++ List.replicate (2 - (lg_sl ([.ref (am 0), .int x])).length) Slot.unset).toArray = ls at hl ⊢
  have hl : lv_has ls 2 [(0, .ref (am 0)), (1, .int x)] := hl
  refine bw_Q (fun Q hQ => ?_)
  change W pp l ee { frames := 1, cells := 0, slots := 0, locals := 25 } ss mm _ below meth cc0 ss.heap [] 0 0 Q (F0 mm 0 ls [])
  refine lv_iload_n hx hb dX12_isPerson_0 rfl (lv_at hl 1 rfl) ?_
  refine lv_i2l hx hb dX12_isPerson_1 rfl ?_
  refine bw_nmL (a := x.toInt) (tI_i2l rfl) (fun w_1 ew_1 tw_1 => ?_)
  refine lv_lconst (v := 0) hx hb dX12_isPerson_2 (by decide) ?_
  refine lv_aload_n hx hb dX12_isPerson_3 rfl (lv_at hl 0 rfl) ?_
  refine va_get (D := (dC, dI)) (ci := 12) (v := .int (nI pn)) (C := RX12) (T := TX12) (N := 53) hx hb hts hiX12 hown hK hP 0 rfl rfl 19 (by decide) hL0 (fun _ h9 => h9) rfl dX12_isPerson_4 ?_
  refine lv_i2l hx hb dX12_isPerson_7 rfl ?_
  refine bw_nmL (a := ((pn : Nat) : Int)) (tI_i2l (nI_toInt (by omega))) (fun w_2 ew_2 tw_2 => ?_)
  refine lv_lconst (v := 1) hx hb dX12_isPerson_8 (by decide) ?_
  refine lv_lsub hx hb dX12_isPerson_9 ?_
  refine bw_nmL (a := (((pn : Nat) : Int) - 1)) (tL_sub tw_2 rfl (by omega) (by omega)) (fun w_3 ew_3 tw_3 => ?_)
  refine vp_callSi (va_Run.run (va_runS (As := [.long w_1, .long 0, .long w_3]) (rest := []) ⟨hx, hb, hml, hown, hts⟩ (c_X12_in l dC dI cy w_1 0 w_3 x.toInt 0 (((pn : Nat) : Int) - 1) (tw_1) (rfl) (tw_3)) (va_cwS 3 hts gX12_isPerson_X12_in rfl rfl rfl (by decide +kernel) ⟨Nat.le_of_ble_eq_true rfl, Nat.le_of_ble_eq_true rfl⟩) ⟨fun a U g mk q => q, fun U hU hW => ⟨rfl, trivial⟩⟩ rfl rfl hl.1 rfl (lv_room (Nat.le_of_ble_eq_true rfl)) dX12_isPerson_10 ⟨Nat.le_of_ble_eq_true rfl, Nat.le_of_ble_eq_true rfl⟩)) (fun r_4 hr_4 => ?_)
  subst hQ
  have hpost : r_4 = if 0 ≤ x.toInt ∧ x.toInt < ((pn : Nat) : Int) then 1 else 0 := by
    rw [hr_4]
    by_cases q9 : 0 ≤ x.toInt ∧ x.toInt < ((pn : Nat) : Int)
    · rw [if_pos q9, if_pos (by omega)]
    · rw [if_neg q9, if_neg (by omega)]
  exact W.zret (v := r_4) hx hb hr (by rw [hr_4]; first | (split <;> rfl) | (unfold pI; split <;> rfl)) (fun t9 ht hW => ⟨_, rfl, hpost, by rw [ht]⟩) (fun q h => by cases h) dX12_isPerson_13

set_option maxHeartbeats 4000000 in
set_option maxRecDepth 100000 in
theorem c_X12_isAsking (l : Launch) (dC : Nat → ClassId) (dI : Nat → Nat → Nat) (cy : Nat → ClassId) (am : Nat → Nat) (tn : Nat) (zsz : Nat) (zfr : Nat) (zbe : Nat) (zha : Int32) (zva : Int32) (fk : Int32) (fp : Int32) (sn : Nat) (pn : Nat) (qn : Nat) (zss : Int32) (zsy : Int32) (zpy : Int32) (zfs : Int32) (zls : Int32) (an : Nat) (zw : Nat) (x : Int32) (han : an ≤ 40) : Met l yX12_isAsking wsX12_isAsking ({ frames := 1, cells := 0, slots := 0, locals := 25 }) (va_Pc [.ref (am 0), .int x] (fun U => va_P (dC, dI) vwCl [(am 0, .inr (12, [.ref (am 1), .ref (am 2), .ref (am 3), .ref (am 4), .int (nI tn), .int (nI zsz), .int (nI zfr), .int (nI zbe), .int zha, .int zva, .int fk, .int fp, .ref (am 13), .int (nI sn), .ref (am 15), .ref (am 16), .ref (am 17), .ref (am 18), .ref (am 19), .int (nI pn), .int (nI qn), .ref (am 22), .ref (am 23), .ref (am 24), .ref (am 25), .ref (am 26), .ref (am 27), .ref (am 28), .ref (am 29), .ref (am 30), .ref (am 31), .ref (am 32), .ref (am 33), .ref (am 34), .int zss, .int zsy, .int zpy, .int zfs, .int zls, .int (nI an), .ref (am 41), .ref (am 42), .ref (am 43), .ref (am 44), .ref (am 45), .ref (am 46), .ref (am 47), .ref (am 48), .ref (am 49), .ref (am 50), .int (nI zw), .ref (am 52), .ref (am 53)]))] U.heap ∧ va_K (dC, dI) vwCl (tyL cy) U)) (vp_Si (fun r => r = if 0 ≤ x.toInt ∧ x.toInt < ((an : Nat) : Int) then 1 else 0)) 0 0 (fun _ => False) := by
  refine Met.ofW (cc := cX12_isAsking) (maxL := 2) (ret := (some .boolean)) (by decide) rfl ?_
  intro pp ee ss mm args below meth cc0 s₁ B hml hv
  obtain ⟨rfl, hP, hK⟩ := hv
  have hx := B.exec
  have hb := B.bytes
  have hr := B.returns
  have hts := atoms_spec (ws := wsX12_isAsking) B.pre
  have hown : ss.vm.findClass RX12 = some mm.cls := findClass_of_methodNamed B.named
  have hlocks := B.notSynchronized
  have hL0 := hts (.fieldLink RX12 310 "HereLivedModel" "askings" "I") (by decide +kernel)
  have hiX12 : ∀ w ∈ wsX120, w ∈ wsX12_isAsking := by decide +kernel
  have hl := lv_entry ([.ref (am 0), .int x]) (n := 2) (Nat.le_of_ble_eq_true rfl)
  rw [lg_entry_eq]
  generalize (lg_sl ([.ref (am 0), .int x]) ++ List.replicate (2 - (lg_sl ([.ref (am 0), .int x])).length) Slot.unset).toArray = ls at hl ⊢
  have hl : lv_has ls 2 [(0, .ref (am 0)), (1, .int x)] := hl
  refine bw_Q (fun Q hQ => ?_)
  change W pp l ee { frames := 1, cells := 0, slots := 0, locals := 25 } ss mm _ below meth cc0 ss.heap [] 0 0 Q (F0 mm 0 ls [])
  refine lv_iload_n hx hb dX12_isAsking_0 rfl (lv_at hl 1 rfl) ?_
  refine lv_i2l hx hb dX12_isAsking_1 rfl ?_
  refine bw_nmL (a := x.toInt) (tI_i2l rfl) (fun w_1 ew_1 tw_1 => ?_)
  refine lv_lconst (v := 0) hx hb dX12_isAsking_2 (by decide) ?_
  refine lv_aload_n hx hb dX12_isAsking_3 rfl (lv_at hl 0 rfl) ?_
  refine va_get (D := (dC, dI)) (ci := 12) (v := .int (nI an)) (C := RX12) (T := TX12) (N := 53) hx hb hts hiX12 hown hK hP 0 rfl rfl 39 (by decide) hL0 (fun _ h9 => h9) rfl dX12_isAsking_4 ?_
  refine lv_i2l hx hb dX12_isAsking_7 rfl ?_
  refine bw_nmL (a := ((an : Nat) : Int)) (tI_i2l (nI_toInt (by omega))) (fun w_2 ew_2 tw_2 => ?_)
  refine lv_lconst (v := 1) hx hb dX12_isAsking_8 (by decide) ?_
  refine lv_lsub hx hb dX12_isAsking_9 ?_
  refine bw_nmL (a := (((an : Nat) : Int) - 1)) (tL_sub tw_2 rfl (by omega) (by omega)) (fun w_3 ew_3 tw_3 => ?_)
  refine vp_callSi (va_Run.run (va_runS (As := [.long w_1, .long 0, .long w_3]) (rest := []) ⟨hx, hb, hml, hown, hts⟩ (c_X12_in l dC dI cy w_1 0 w_3 x.toInt 0 (((an : Nat) : Int) - 1) (tw_1) (rfl) (tw_3)) (va_cwS 3 hts gX12_isAsking_X12_in rfl rfl rfl (by decide +kernel) ⟨Nat.le_of_ble_eq_true rfl, Nat.le_of_ble_eq_true rfl⟩) ⟨fun a U g mk q => q, fun U hU hW => ⟨rfl, trivial⟩⟩ rfl rfl hl.1 rfl (lv_room (Nat.le_of_ble_eq_true rfl)) dX12_isAsking_10 ⟨Nat.le_of_ble_eq_true rfl, Nat.le_of_ble_eq_true rfl⟩)) (fun r_4 hr_4 => ?_)
  subst hQ
  have hpost : r_4 = if 0 ≤ x.toInt ∧ x.toInt < ((an : Nat) : Int) then 1 else 0 := by
    rw [hr_4]
    by_cases q9 : 0 ≤ x.toInt ∧ x.toInt < ((an : Nat) : Int)
    · rw [if_pos q9, if_pos (by omega)]
    · rw [if_neg q9, if_neg (by omega)]
  exact W.zret (v := r_4) hx hb hr (by rw [hr_4]; first | (split <;> rfl) | (unfold pI; split <;> rfl)) (fun t9 ht hW => ⟨_, rfl, hpost, by rw [ht]⟩) (fun q h => by cases h) dX12_isAsking_13

set_option maxHeartbeats 4000000 in
set_option maxRecDepth 100000 in
theorem c_X12_end (l : Launch) (dC : Nat → ClassId) (dI : Nat → Nat → Nat) (cy : Nat → ClassId) (am : Nat → Nat) (tn : Nat) (zsz : Nat) (zfr : Nat) (zbe : Nat) (zha : Int32) (zva : Int32) (fk : Int32) (fp : Int32) (sn : Nat) (pn : Nat) (qn : Nat) (zss : Int32) (zsy : Int32) (zpy : Int32) (zfs : Int32) (zls : Int32) (an : Nat) (zw : Nat) (n1 : Int32) (sz : Nat) (htn : tn ≤ 600) : Met l yX12_end wsX12_end ({ frames := 1, cells := 0, slots := 0, locals := 25 }) (va_Pc [.ref (am 0), .int n1] (fun U => U.heap.size = sz ∧ va_P (dC, dI) vwCl [(am 0, .inr (12, [.ref (am 1), .ref (am 2), .ref (am 3), .ref (am 4), .int (nI tn), .int (nI zsz), .int (nI zfr), .int (nI zbe), .int zha, .int zva, .int fk, .int fp, .ref (am 13), .int (nI sn), .ref (am 15), .ref (am 16), .ref (am 17), .ref (am 18), .ref (am 19), .int (nI pn), .int (nI qn), .ref (am 22), .ref (am 23), .ref (am 24), .ref (am 25), .ref (am 26), .ref (am 27), .ref (am 28), .ref (am 29), .ref (am 30), .ref (am 31), .ref (am 32), .ref (am 33), .ref (am 34), .int zss, .int zsy, .int zpy, .int zfs, .int zls, .int (nI an), .ref (am 41), .ref (am 42), .ref (am 43), .ref (am 44), .ref (am 45), .ref (am 46), .ref (am 47), .ref (am 48), .ref (am 49), .ref (am 50), .int (nI zw), .ref (am 52), .ref (am 53)]))] U.heap ∧ va_K (dC, dI) vwCl (tyL cy) U ∧ va_D (fun _ => True) [(am 0, .inr (12, [.ref (am 1), .ref (am 2), .ref (am 3), .ref (am 4), .int (nI tn), .int (nI zsz), .int (nI zfr), .int (nI zbe), .int zha, .int zva, .int fk, .int fp, .ref (am 13), .int (nI sn), .ref (am 15), .ref (am 16), .ref (am 17), .ref (am 18), .ref (am 19), .int (nI pn), .int (nI qn), .ref (am 22), .ref (am 23), .ref (am 24), .ref (am 25), .ref (am 26), .ref (am 27), .ref (am 28), .ref (am 29), .ref (am 30), .ref (am 31), .ref (am 32), .ref (am 33), .ref (am 34), .int zss, .int zsy, .int zpy, .int zfs, .int zls, .int (nI an), .ref (am 41), .ref (am 42), .ref (am 43), .ref (am 44), .ref (am 45), .ref (am 46), .ref (am 47), .ref (am 48), .ref (am 49), .ref (am 50), .int (nI zw), .ref (am 52), .ref (am 53)]))])) (va_Qi (S := Nat) (fun r => fun tn2 => ((n1.toInt < 0 ∨ ((tn : Nat) : Int) < n1.toInt) → r = -1 ∧ tn2 = tn) ∧ ((0 ≤ n1.toInt ∧ n1.toInt ≤ ((tn : Nat) : Int)) → r = n1 ∧ tn2 = n1.toInt.toNat)) (fun tn2 => fun t => va_P (dC, dI) vwCl [(am 0, .inr (12, [.ref (am 1), .ref (am 2), .ref (am 3), .ref (am 4), .int (nI tn2), .int (nI zsz), .int (nI zfr), .int (nI zbe), .int zha, .int zva, .int fk, .int fp, .ref (am 13), .int (nI sn), .ref (am 15), .ref (am 16), .ref (am 17), .ref (am 18), .ref (am 19), .int (nI pn), .int (nI qn), .ref (am 22), .ref (am 23), .ref (am 24), .ref (am 25), .ref (am 26), .ref (am 27), .ref (am 28), .ref (am 29), .ref (am 30), .ref (am 31), .ref (am 32), .ref (am 33), .ref (am 34), .int zss, .int zsy, .int zpy, .int zfs, .int zls, .int (nI an), .ref (am 41), .ref (am 42), .ref (am 43), .ref (am 44), .ref (am 45), .ref (am 46), .ref (am 47), .ref (am 48), .ref (am 49), .ref (am 50), .int (nI zw), .ref (am 52), .ref (am 53)]))] t.heap ∧ va_K (dC, dI) vwCl (tyL cy) t ∧ va_D (va_A [(am 0, .inr (12, [.ref (am 1), .ref (am 2), .ref (am 3), .ref (am 4), .int (nI tn), .int (nI zsz), .int (nI zfr), .int (nI zbe), .int zha, .int zva, .int fk, .int fp, .ref (am 13), .int (nI sn), .ref (am 15), .ref (am 16), .ref (am 17), .ref (am 18), .ref (am 19), .int (nI pn), .int (nI qn), .ref (am 22), .ref (am 23), .ref (am 24), .ref (am 25), .ref (am 26), .ref (am 27), .ref (am 28), .ref (am 29), .ref (am 30), .ref (am 31), .ref (am 32), .ref (am 33), .ref (am 34), .int zss, .int zsy, .int zpy, .int zfs, .int zls, .int (nI an), .ref (am 41), .ref (am 42), .ref (am 43), .ref (am 44), .ref (am 45), .ref (am 46), .ref (am 47), .ref (am 48), .ref (am 49), .ref (am 50), .int (nI zw), .ref (am 52), .ref (am 53)]))] sz) [(am 0, .inr (12, [.ref (am 1), .ref (am 2), .ref (am 3), .ref (am 4), .int (nI tn2), .int (nI zsz), .int (nI zfr), .int (nI zbe), .int zha, .int zva, .int fk, .int fp, .ref (am 13), .int (nI sn), .ref (am 15), .ref (am 16), .ref (am 17), .ref (am 18), .ref (am 19), .int (nI pn), .int (nI qn), .ref (am 22), .ref (am 23), .ref (am 24), .ref (am 25), .ref (am 26), .ref (am 27), .ref (am 28), .ref (am 29), .ref (am 30), .ref (am 31), .ref (am 32), .ref (am 33), .ref (am 34), .int zss, .int zsy, .int zpy, .int zfs, .int zls, .int (nI an), .ref (am 41), .ref (am 42), .ref (am 43), .ref (am 44), .ref (am 45), .ref (am 46), .ref (am 47), .ref (am 48), .ref (am 49), .ref (am 50), .int (nI zw), .ref (am 52), .ref (am 53)]))]) (va_A [(am 0, .inr (12, [.ref (am 1), .ref (am 2), .ref (am 3), .ref (am 4), .int (nI tn), .int (nI zsz), .int (nI zfr), .int (nI zbe), .int zha, .int zva, .int fk, .int fp, .ref (am 13), .int (nI sn), .ref (am 15), .ref (am 16), .ref (am 17), .ref (am 18), .ref (am 19), .int (nI pn), .int (nI qn), .ref (am 22), .ref (am 23), .ref (am 24), .ref (am 25), .ref (am 26), .ref (am 27), .ref (am 28), .ref (am 29), .ref (am 30), .ref (am 31), .ref (am 32), .ref (am 33), .ref (am 34), .int zss, .int zsy, .int zpy, .int zfs, .int zls, .int (nI an), .ref (am 41), .ref (am 42), .ref (am 43), .ref (am 44), .ref (am 45), .ref (am 46), .ref (am 47), .ref (am 48), .ref (am 49), .ref (am 50), .int (nI zw), .ref (am 52), .ref (am 53)]))] sz)) 0 0 (va_A [(am 0, .inr (12, [.ref (am 1), .ref (am 2), .ref (am 3), .ref (am 4), .int (nI tn), .int (nI zsz), .int (nI zfr), .int (nI zbe), .int zha, .int zva, .int fk, .int fp, .ref (am 13), .int (nI sn), .ref (am 15), .ref (am 16), .ref (am 17), .ref (am 18), .ref (am 19), .int (nI pn), .int (nI qn), .ref (am 22), .ref (am 23), .ref (am 24), .ref (am 25), .ref (am 26), .ref (am 27), .ref (am 28), .ref (am 29), .ref (am 30), .ref (am 31), .ref (am 32), .ref (am 33), .ref (am 34), .int zss, .int zsy, .int zpy, .int zfs, .int zls, .int (nI an), .ref (am 41), .ref (am 42), .ref (am 43), .ref (am 44), .ref (am 45), .ref (am 46), .ref (am 47), .ref (am 48), .ref (am 49), .ref (am 50), .int (nI zw), .ref (am 52), .ref (am 53)]))] sz) := by
  refine Met.ofW (cc := cX12_end) (maxL := 2) (ret := (some .int)) (by decide) rfl ?_
  intro pp ee ss mm args below meth cc0 s₁ B hml hv
  obtain ⟨rfl, hsz, hP, hK, hD0⟩ := hv
  have hx := B.exec
  have hb := B.bytes
  have hr := B.returns
  have hts := atoms_spec (ws := wsX12_end) B.pre
  have hown : ss.vm.findClass RX12 = some mm.cls := findClass_of_methodNamed B.named
  have hlocks := B.notSynchronized
  have hL0 := hts (.fieldLink RX12 116 "HereLivedModel" "taped" "I") (by decide +kernel)
  have hiX12 : ∀ w ∈ wsX120, w ∈ wsX12_end := by decide +kernel
  subst hsz
  have hD := hD0.self (sz := ss.heap.size)
  generalize hAe : va_A [(am 0, .inr (12, [.ref (am 1), .ref (am 2), .ref (am 3), .ref (am 4), .int (nI tn), .int (nI zsz), .int (nI zfr), .int (nI zbe), .int zha, .int zva, .int fk, .int fp, .ref (am 13), .int (nI sn), .ref (am 15), .ref (am 16), .ref (am 17), .ref (am 18), .ref (am 19), .int (nI pn), .int (nI qn), .ref (am 22), .ref (am 23), .ref (am 24), .ref (am 25), .ref (am 26), .ref (am 27), .ref (am 28), .ref (am 29), .ref (am 30), .ref (am 31), .ref (am 32), .ref (am 33), .ref (am 34), .int zss, .int zsy, .int zpy, .int zfs, .int zls, .int (nI an), .ref (am 41), .ref (am 42), .ref (am 43), .ref (am 44), .ref (am 45), .ref (am 46), .ref (am 47), .ref (am 48), .ref (am 49), .ref (am 50), .int (nI zw), .ref (am 52), .ref (am 53)]))] ss.heap.size = A at hD ⊢
  have hA : ∀ q : Nat, ss.heap.size ≤ q → A q := fun q h => by rw [← hAe]; exact Or.inr h
  have hS : va_S A ss.heap ss.heap [] := va_S.rf
  have hP : va_P (dC, dI) vwCl [(am 0, .inr (12, [.ref (am 1), .ref (am 2), .ref (am 3), .ref (am 4), .int (nI tn), .int (nI zsz), .int (nI zfr), .int (nI zbe), .int zha, .int zva, .int fk, .int fp, .ref (am 13), .int (nI sn), .ref (am 15), .ref (am 16), .ref (am 17), .ref (am 18), .ref (am 19), .int (nI pn), .int (nI qn), .ref (am 22), .ref (am 23), .ref (am 24), .ref (am 25), .ref (am 26), .ref (am 27), .ref (am 28), .ref (am 29), .ref (am 30), .ref (am 31), .ref (am 32), .ref (am 33), .ref (am 34), .int zss, .int zsy, .int zpy, .int zfs, .int zls, .int (nI an), .ref (am 41), .ref (am 42), .ref (am 43), .ref (am 44), .ref (am 45), .ref (am 46), .ref (am 47), .ref (am 48), .ref (am 49), .ref (am 50), .int (nI zw), .ref (am 52), .ref (am 53)]))] ss.heap := hP
  have hl := lv_entry ([.ref (am 0), .int n1]) (n := 2) (Nat.le_of_ble_eq_true rfl)
  rw [lg_entry_eq]
  generalize (lg_sl ([.ref (am 0), .int n1]) ++ List.replicate (2 - (lg_sl ([.ref (am 0), .int n1])).length) Slot.unset).toArray = ls at hl ⊢
  have hl : lv_has ls 2 [(0, .ref (am 0)), (1, .int n1)] := hl
  refine bw_Q (fun Q hQ => ?_)
  refine bw_H0 (fun H locs eH eL => ?_)
  have hS : va_S A ss.heap H locs := by rw [eH, eL]; exact hS
  have hP : va_P (dC, dI) vwCl [(am 0, .inr (12, [.ref (am 1), .ref (am 2), .ref (am 3), .ref (am 4), .int (nI tn), .int (nI zsz), .int (nI zfr), .int (nI zbe), .int zha, .int zva, .int fk, .int fp, .ref (am 13), .int (nI sn), .ref (am 15), .ref (am 16), .ref (am 17), .ref (am 18), .ref (am 19), .int (nI pn), .int (nI qn), .ref (am 22), .ref (am 23), .ref (am 24), .ref (am 25), .ref (am 26), .ref (am 27), .ref (am 28), .ref (am 29), .ref (am 30), .ref (am 31), .ref (am 32), .ref (am 33), .ref (am 34), .int zss, .int zsy, .int zpy, .int zfs, .int zls, .int (nI an), .ref (am 41), .ref (am 42), .ref (am 43), .ref (am 44), .ref (am 45), .ref (am 46), .ref (am 47), .ref (am 48), .ref (am 49), .ref (am 50), .int (nI zw), .ref (am 52), .ref (am 53)]))] H := by rw [eH]; exact hP
  change W pp l ee { frames := 1, cells := 0, slots := 0, locals := 25 } ss mm _ below meth cc0 H locs 0 0 Q (F0 mm 0 ls [])
  refine lv_iload_n hx hb dX12_end_0 rfl (lv_at hl 1 rfl) ?_
  refine lv_i2l hx hb dX12_end_1 rfl ?_
  refine bw_nmL (a := n1.toInt) (tI_i2l rfl) (fun w_1 ew_1 tw_1 => ?_)
  refine lv_lconst (v := 0) hx hb dX12_end_2 (by decide) ?_
  refine lv_aload_n hx hb dX12_end_3 rfl (lv_at hl 0 rfl) ?_
  refine va_get (D := (dC, dI)) (ci := 12) (v := .int (nI tn)) (C := RX12) (T := TX12) (N := 53) hx hb hts hiX12 hown hK hP 0 rfl rfl 4 (by decide) hL0 (fun _ h9 => h9) rfl dX12_end_4 ?_
  refine lv_i2l hx hb dX12_end_7 rfl ?_
  refine bw_nmL (a := ((tn : Nat) : Int)) (tI_i2l (nI_toInt (by omega))) (fun w_2 ew_2 tw_2 => ?_)
  refine vp_callSi (va_Run.run (va_runS (As := [.long w_1, .long 0, .long w_2]) (rest := []) ⟨hx, hb, hml, hown, hts⟩ (c_X12_in l dC dI cy w_1 0 w_2 n1.toInt 0 ((tn : Nat) : Int) (tw_1) (rfl) (tw_2)) (va_cwS 3 hts gX12_end_X12_in rfl rfl rfl (by decide +kernel) ⟨Nat.le_of_ble_eq_true rfl, Nat.le_of_ble_eq_true rfl⟩) ⟨fun a U g mk q => q, fun U hU hW => ⟨rfl, trivial⟩⟩ rfl rfl hl.1 rfl (lv_room (Nat.le_of_ble_eq_true rfl)) dX12_end_8 ⟨Nat.le_of_ble_eq_true rfl, Nat.le_of_ble_eq_true rfl⟩)) (fun r_3 hr_3 => ?_)
  refine bw_ifneB (tgt := 16) hx hb dX12_end_11 (by decide) hr_3 (fun c_4 => ?_) (fun c_4 => ?_)
  · skip
    refine lv_aload_n hx hb dX12_end_16 rfl (lv_at hl 0 rfl) ?_
    refine lv_iload_n hx hb dX12_end_17 rfl (lv_at hl 1 rfl) ?_
    refine bw_re (show n1 = nI n1.toInt.toNat from nI_back (by omega)) ?_
    refine va_put (D := (dC, dI)) (ci := 12) (v := .int (nI n1.toInt.toNat)) (ty := (tyX12 4)) (C := RX12) (T := TX12) (N := 53) hx hb hts hiX12 tyX12 tyX12_ok nmX12 hown hK hP hD hS 0 rfl rfl 4 (by decide) hL0 (fun _ h9 => h9) rfl (by decide +kernel) rfl rfl (Nat.le_of_ble_eq_true rfl) dX12_end_18 (fun H locs hP hD hS => ?_)
    have hP : va_P (dC, dI) vwCl [(am 0, .inr (12, [.ref (am 1), .ref (am 2), .ref (am 3), .ref (am 4), .int (nI n1.toInt.toNat), .int (nI zsz), .int (nI zfr), .int (nI zbe), .int zha, .int zva, .int fk, .int fp, .ref (am 13), .int (nI sn), .ref (am 15), .ref (am 16), .ref (am 17), .ref (am 18), .ref (am 19), .int (nI pn), .int (nI qn), .ref (am 22), .ref (am 23), .ref (am 24), .ref (am 25), .ref (am 26), .ref (am 27), .ref (am 28), .ref (am 29), .ref (am 30), .ref (am 31), .ref (am 32), .ref (am 33), .ref (am 34), .int zss, .int zsy, .int zpy, .int zfs, .int zls, .int (nI an), .ref (am 41), .ref (am 42), .ref (am 43), .ref (am 44), .ref (am 45), .ref (am 46), .ref (am 47), .ref (am 48), .ref (am 49), .ref (am 50), .int (nI zw), .ref (am 52), .ref (am 53)]))] H := hP
    have hD : va_D A [(am 0, .inr (12, [.ref (am 1), .ref (am 2), .ref (am 3), .ref (am 4), .int (nI n1.toInt.toNat), .int (nI zsz), .int (nI zfr), .int (nI zbe), .int zha, .int zva, .int fk, .int fp, .ref (am 13), .int (nI sn), .ref (am 15), .ref (am 16), .ref (am 17), .ref (am 18), .ref (am 19), .int (nI pn), .int (nI qn), .ref (am 22), .ref (am 23), .ref (am 24), .ref (am 25), .ref (am 26), .ref (am 27), .ref (am 28), .ref (am 29), .ref (am 30), .ref (am 31), .ref (am 32), .ref (am 33), .ref (am 34), .int zss, .int zsy, .int zpy, .int zfs, .int zls, .int (nI an), .ref (am 41), .ref (am 42), .ref (am 43), .ref (am 44), .ref (am 45), .ref (am 46), .ref (am 47), .ref (am 48), .ref (am 49), .ref (am 50), .int (nI zw), .ref (am 52), .ref (am 53)]))] := hD
    refine lv_iload_n hx hb dX12_end_21 rfl (lv_at hl 1 rfl) ?_
    subst hQ
    have hP9 : va_P (dC, dI) vwCl [(am 0, .inr (12, [.ref (am 1), .ref (am 2), .ref (am 3), .ref (am 4), .int (nI n1.toInt.toNat), .int (nI zsz), .int (nI zfr), .int (nI zbe), .int zha, .int zva, .int fk, .int fp, .ref (am 13), .int (nI sn), .ref (am 15), .ref (am 16), .ref (am 17), .ref (am 18), .ref (am 19), .int (nI pn), .int (nI qn), .ref (am 22), .ref (am 23), .ref (am 24), .ref (am 25), .ref (am 26), .ref (am 27), .ref (am 28), .ref (am 29), .ref (am 30), .ref (am 31), .ref (am 32), .ref (am 33), .ref (am 34), .int zss, .int zsy, .int zpy, .int zfs, .int zls, .int (nI an), .ref (am 41), .ref (am 42), .ref (am 43), .ref (am 44), .ref (am 45), .ref (am 46), .ref (am 47), .ref (am 48), .ref (am 49), .ref (am 50), .int (nI zw), .ref (am 52), .ref (am 53)]))] H := hP.sub [0] rfl
    have hD9 : va_D A [(am 0, .inr (12, [.ref (am 1), .ref (am 2), .ref (am 3), .ref (am 4), .int (nI n1.toInt.toNat), .int (nI zsz), .int (nI zfr), .int (nI zbe), .int zha, .int zva, .int fk, .int fp, .ref (am 13), .int (nI sn), .ref (am 15), .ref (am 16), .ref (am 17), .ref (am 18), .ref (am 19), .int (nI pn), .int (nI qn), .ref (am 22), .ref (am 23), .ref (am 24), .ref (am 25), .ref (am 26), .ref (am 27), .ref (am 28), .ref (am 29), .ref (am 30), .ref (am 31), .ref (am 32), .ref (am 33), .ref (am 34), .int zss, .int zsy, .int zpy, .int zfs, .int zls, .int (nI an), .ref (am 41), .ref (am 42), .ref (am 43), .ref (am 44), .ref (am 45), .ref (am 46), .ref (am 47), .ref (am 48), .ref (am 49), .ref (am 50), .int (nI zw), .ref (am 52), .ref (am 53)]))] := hD.sub [0] (by decide) rfl
    have hpost : ((n1.toInt < 0 ∨ ((tn : Nat) : Int) < n1.toInt) → (n1 : Int32) = -1 ∧ n1.toInt.toNat = tn) ∧ ((0 ≤ n1.toInt ∧ n1.toInt ≤ ((tn : Nat) : Int)) → (n1 : Int32) = n1 ∧ n1.toInt.toNat = n1.toInt.toNat) := by
      refine ⟨fun h9 => ?_, fun h9 => ?_⟩ <;> first | (exfalso; omega) | (refine ⟨?_, ?_⟩ <;> first | assumption | rfl)
    exact W.iret (v := n1) hx hb hr (fun t9 ht hW => ⟨⟨n1, n1.toInt.toNat, rfl, hpost, by rw [ht]; exact hP9, va_K.moved hW.alike hK, hD9⟩, hS.F ht⟩) hS.2.2 dX12_end_22
  · skip
    refine lv_iconst (v := (-1)) hx hb dX12_end_14 (by decide) ?_
    subst hQ
    have hP9 : va_P (dC, dI) vwCl [(am 0, .inr (12, [.ref (am 1), .ref (am 2), .ref (am 3), .ref (am 4), .int (nI tn), .int (nI zsz), .int (nI zfr), .int (nI zbe), .int zha, .int zva, .int fk, .int fp, .ref (am 13), .int (nI sn), .ref (am 15), .ref (am 16), .ref (am 17), .ref (am 18), .ref (am 19), .int (nI pn), .int (nI qn), .ref (am 22), .ref (am 23), .ref (am 24), .ref (am 25), .ref (am 26), .ref (am 27), .ref (am 28), .ref (am 29), .ref (am 30), .ref (am 31), .ref (am 32), .ref (am 33), .ref (am 34), .int zss, .int zsy, .int zpy, .int zfs, .int zls, .int (nI an), .ref (am 41), .ref (am 42), .ref (am 43), .ref (am 44), .ref (am 45), .ref (am 46), .ref (am 47), .ref (am 48), .ref (am 49), .ref (am 50), .int (nI zw), .ref (am 52), .ref (am 53)]))] H := hP.sub [0] rfl
    have hD9 : va_D A [(am 0, .inr (12, [.ref (am 1), .ref (am 2), .ref (am 3), .ref (am 4), .int (nI tn), .int (nI zsz), .int (nI zfr), .int (nI zbe), .int zha, .int zva, .int fk, .int fp, .ref (am 13), .int (nI sn), .ref (am 15), .ref (am 16), .ref (am 17), .ref (am 18), .ref (am 19), .int (nI pn), .int (nI qn), .ref (am 22), .ref (am 23), .ref (am 24), .ref (am 25), .ref (am 26), .ref (am 27), .ref (am 28), .ref (am 29), .ref (am 30), .ref (am 31), .ref (am 32), .ref (am 33), .ref (am 34), .int zss, .int zsy, .int zpy, .int zfs, .int zls, .int (nI an), .ref (am 41), .ref (am 42), .ref (am 43), .ref (am 44), .ref (am 45), .ref (am 46), .ref (am 47), .ref (am 48), .ref (am 49), .ref (am 50), .int (nI zw), .ref (am 52), .ref (am 53)]))] := hD.sub [0] (by decide) rfl
    have hpost : ((n1.toInt < 0 ∨ ((tn : Nat) : Int) < n1.toInt) → ((-1) : Int32) = -1 ∧ tn = tn) ∧ ((0 ≤ n1.toInt ∧ n1.toInt ≤ ((tn : Nat) : Int)) → ((-1) : Int32) = n1 ∧ tn = n1.toInt.toNat) := by
      refine ⟨fun h9 => ?_, fun h9 => ?_⟩ <;> first | (exfalso; omega) | (refine ⟨?_, ?_⟩ <;> first | assumption | rfl)
    exact W.iret (v := (-1)) hx hb hr (fun t9 ht hW => ⟨⟨(-1), tn, rfl, hpost, by rw [ht]; exact hP9, va_K.moved hW.alike hK, hD9⟩, hS.F ht⟩) hS.2.2 dX12_end_15

set_option maxHeartbeats 4000000 in
set_option maxRecDepth 100000 in
theorem c_X12_fault (l : Launch) (dC : Nat → ClassId) (dI : Nat → Nat → Nat) (cy : Nat → ClassId) (am : Nat → Nat) (tn : Nat) (zsz : Nat) (zfr : Nat) (zbe : Nat) (zha : Int32) (zva : Int32) (fk : Int32) (fp : Int32) (sn : Nat) (pn : Nat) (qn : Nat) (zss : Int32) (zsy : Int32) (zpy : Int32) (zfs : Int32) (zls : Int32) (an : Nat) (zw : Nat) (x : Int32)  : Met l yX12_fault wsX12_fault ({ frames := 0, cells := 0, slots := 0, locals := 0 }) (va_Pc [.ref (am 0), .int x] (fun U => va_P (dC, dI) vwCl [(am 0, .inr (12, [.ref (am 1), .ref (am 2), .ref (am 3), .ref (am 4), .int (nI tn), .int (nI zsz), .int (nI zfr), .int (nI zbe), .int zha, .int zva, .int fk, .int fp, .ref (am 13), .int (nI sn), .ref (am 15), .ref (am 16), .ref (am 17), .ref (am 18), .ref (am 19), .int (nI pn), .int (nI qn), .ref (am 22), .ref (am 23), .ref (am 24), .ref (am 25), .ref (am 26), .ref (am 27), .ref (am 28), .ref (am 29), .ref (am 30), .ref (am 31), .ref (am 32), .ref (am 33), .ref (am 34), .int zss, .int zsy, .int zpy, .int zfs, .int zls, .int (nI an), .ref (am 41), .ref (am 42), .ref (am 43), .ref (am 44), .ref (am 45), .ref (am 46), .ref (am 47), .ref (am 48), .ref (am 49), .ref (am 50), .int (nI zw), .ref (am 52), .ref (am 53)]))] U.heap ∧ va_K (dC, dI) vwCl (tyL cy) U)) (vp_Si (fun r => ((x.toInt = 0) → r = fk) ∧ ((x.toInt = 1) → r = fp) ∧ ((x.toInt ≠ 0 ∧ x.toInt ≠ 1) → r = -1))) 0 0 (fun _ => False) := by
  refine Met.ofW (cc := cX12_fault) (maxL := 2) (ret := (some .int)) (by decide) rfl ?_
  intro pp ee ss mm args below meth cc0 s₁ B hml hv
  obtain ⟨rfl, hP, hK⟩ := hv
  have hx := B.exec
  have hb := B.bytes
  have hr := B.returns
  have hts := atoms_spec (ws := wsX12_fault) B.pre
  have hown : ss.vm.findClass RX12 = some mm.cls := findClass_of_methodNamed B.named
  have hlocks := B.notSynchronized
  have hL0 := hts (.fieldLink RX12 18 "HereLivedModel" "faultAt" "I") (by decide +kernel)
  have hL1 := hts (.fieldLink RX12 11 "HereLivedModel" "fault" "I") (by decide +kernel)
  have hiX12 : ∀ w ∈ wsX120, w ∈ wsX12_fault := by decide +kernel
  have hl := lv_entry ([.ref (am 0), .int x]) (n := 2) (Nat.le_of_ble_eq_true rfl)
  rw [lg_entry_eq]
  generalize (lg_sl ([.ref (am 0), .int x]) ++ List.replicate (2 - (lg_sl ([.ref (am 0), .int x])).length) Slot.unset).toArray = ls at hl ⊢
  have hl : lv_has ls 2 [(0, .ref (am 0)), (1, .int x)] := hl
  refine bw_Q (fun Q hQ => ?_)
  change W pp l ee { frames := 0, cells := 0, slots := 0, locals := 0 } ss mm _ below meth cc0 ss.heap [] 0 0 Q (F0 mm 0 ls [])
  refine lv_iload_n hx hb dX12_fault_0 rfl (lv_at hl 1 rfl) ?_
  refine bw_if_ne (tgt := 11) (a := x.toInt) hx hb dX12_fault_1 (by decide) rfl (fun c_1 => ?_) (fun c_1 => ?_)
  · skip
    refine lv_iload_n hx hb dX12_fault_11 rfl (lv_at hl 1 rfl) ?_
    refine lv_iconst (v := 1) hx hb dX12_fault_12 (by decide) ?_
    refine bw_icmp_ne (tgt := 23) (a := x.toInt) (b := 1) hx hb dX12_fault_13 (by decide) rfl rfl (fun c_2 => ?_) (fun c_2 => ?_)
    · skip
      refine lv_iconst (v := (-1)) hx hb dX12_fault_23 (by decide) ?_
      subst hQ
      have hpost : ((x.toInt = 0) → ((-1) : Int32) = fk) ∧ ((x.toInt = 1) → ((-1) : Int32) = fp) ∧ ((x.toInt ≠ 0 ∧ x.toInt ≠ 1) → ((-1) : Int32) = -1) := by
        refine ⟨fun h9 => ?_, fun h9 => ?_, fun h9 => ?_⟩ <;> first | (exfalso; omega) | (first | assumption | rfl)
      exact W.iret (v := (-1)) hx hb hr (fun t9 ht hW => ⟨_, rfl, hpost, by rw [ht]⟩) (fun q h => by cases h) dX12_fault_24
    · skip
      refine lv_aload_n hx hb dX12_fault_16 rfl (lv_at hl 0 rfl) ?_
      refine va_get (D := (dC, dI)) (ci := 12) (v := .int fp) (C := RX12) (T := TX12) (N := 53) hx hb hts hiX12 hown hK hP 0 rfl rfl 11 (by decide) hL0 (fun _ h9 => h9) rfl dX12_fault_17 ?_
      refine lv_goto (tgt := 24) hx hb dX12_fault_20 (by decide) ?_
      subst hQ
      have hpost : ((x.toInt = 0) → fp = fk) ∧ ((x.toInt = 1) → fp = fp) ∧ ((x.toInt ≠ 0 ∧ x.toInt ≠ 1) → fp = -1) := by
        refine ⟨fun h9 => ?_, fun h9 => ?_, fun h9 => ?_⟩ <;> first | (exfalso; omega) | (first | assumption | rfl)
      exact W.iret (v := fp) hx hb hr (fun t9 ht hW => ⟨_, rfl, hpost, by rw [ht]⟩) (fun q h => by cases h) dX12_fault_24
  · skip
    refine lv_aload_n hx hb dX12_fault_4 rfl (lv_at hl 0 rfl) ?_
    refine va_get (D := (dC, dI)) (ci := 12) (v := .int fk) (C := RX12) (T := TX12) (N := 53) hx hb hts hiX12 hown hK hP 0 rfl rfl 10 (by decide) hL1 (fun _ h9 => h9) rfl dX12_fault_5 ?_
    refine lv_goto (tgt := 24) hx hb dX12_fault_8 (by decide) ?_
    subst hQ
    have hpost : ((x.toInt = 0) → fk = fk) ∧ ((x.toInt = 1) → fk = fp) ∧ ((x.toInt ≠ 0 ∧ x.toInt ≠ 1) → fk = -1) := by
      refine ⟨fun h9 => ?_, fun h9 => ?_, fun h9 => ?_⟩ <;> first | (exfalso; omega) | (first | assumption | rfl)
    exact W.iret (v := fk) hx hb hr (fun t9 ht hW => ⟨_, rfl, hpost, by rw [ht]⟩) (fun q h => by cases h) dX12_fault_24

set_option maxHeartbeats 4000000 in
set_option maxRecDepth 100000 in
theorem c_X12_rule (l : Launch) (dC : Nat → ClassId) (dI : Nat → Nat → Nat) (cy : Nat → ClassId) (am : Nat → Nat) (tn : Nat) (zsz : Nat) (zfr : Nat) (zbe : Nat) (zha : Int32) (zva : Int32) (fk : Int32) (fp : Int32) (sn : Nat) (pn : Nat) (qn : Nat) (zss : Int32) (zsy : Int32) (zpy : Int32) (zfs : Int32) (zls : Int32) (an : Nat) (zw : Nat) (tl : Nat → Int32) (x : Int32)  : Met l yX12_rule wsX12_rule ({ frames := 1, cells := 0, slots := 0, locals := 25 }) (va_Pc [.ref (am 0), .int x] (fun U => va_P (dC, dI) vwCl [(am 0, .inr (12, [.ref (am 1), .ref (am 2), .ref (am 3), .ref (am 4), .int (nI tn), .int (nI zsz), .int (nI zfr), .int (nI zbe), .int zha, .int zva, .int fk, .int fp, .ref (am 13), .int (nI sn), .ref (am 15), .ref (am 16), .ref (am 17), .ref (am 18), .ref (am 19), .int (nI pn), .int (nI qn), .ref (am 22), .ref (am 23), .ref (am 24), .ref (am 25), .ref (am 26), .ref (am 27), .ref (am 28), .ref (am 29), .ref (am 30), .ref (am 31), .ref (am 32), .ref (am 33), .ref (am 34), .int zss, .int zsy, .int zpy, .int zfs, .int zls, .int (nI an), .ref (am 41), .ref (am 42), .ref (am 43), .ref (am 44), .ref (am 45), .ref (am 46), .ref (am 47), .ref (am 48), .ref (am 49), .ref (am 50), .int (nI zw), .ref (am 52), .ref (am 53)])), (am 1, .inl (cy 0, 18, .inl tl))] U.heap ∧ va_K (dC, dI) vwCl (tyL cy) U)) (vp_Si (fun r => (((0 ≤ x.toInt ∧ x.toInt ≤ 7) ∨ (10 ≤ x.toInt ∧ x.toInt ≤ 17)) → r = tl (x.toInt.toNat)) ∧ ((¬ ((0 ≤ x.toInt ∧ x.toInt ≤ 7) ∨ (10 ≤ x.toInt ∧ x.toInt ≤ 17))) → r = -9))) 0 0 (fun _ => False) := by
  refine Met.ofW (cc := cX12_rule) (maxL := 2) (ret := (some .int)) (by decide) rfl ?_
  intro pp ee ss mm args below meth cc0 s₁ B hml hv
  obtain ⟨rfl, hP, hK⟩ := hv
  have hx := B.exec
  have hb := B.bytes
  have hr := B.returns
  have hts := atoms_spec (ws := wsX12_rule) B.pre
  have hown : ss.vm.findClass RX12 = some mm.cls := findClass_of_methodNamed B.named
  have hlocks := B.notSynchronized
  have hL0 := hts (.constantLong RX12 224 (7)) (by decide +kernel)
  have hL1 := hts (.fieldLink RX12 124 "HereLivedModel" "rule" "[I") (by decide +kernel)
  have hL2 := hts (.constantLong RX12 226 (10)) (by decide +kernel)
  have hL3 := hts (.constantLong RX12 228 (17)) (by decide +kernel)
  have hiX12 : ∀ w ∈ wsX120, w ∈ wsX12_rule := by decide +kernel
  have hl := lv_entry ([.ref (am 0), .int x]) (n := 2) (Nat.le_of_ble_eq_true rfl)
  rw [lg_entry_eq]
  generalize (lg_sl ([.ref (am 0), .int x]) ++ List.replicate (2 - (lg_sl ([.ref (am 0), .int x])).length) Slot.unset).toArray = ls at hl ⊢
  have hl : lv_has ls 2 [(0, .ref (am 0)), (1, .int x)] := hl
  refine bw_Q (fun Q hQ => ?_)
  change W pp l ee { frames := 1, cells := 0, slots := 0, locals := 25 } ss mm _ below meth cc0 ss.heap [] 0 0 Q (F0 mm 0 ls [])
  refine lv_iload_n hx hb dX12_rule_0 rfl (lv_at hl 1 rfl) ?_
  refine lv_i2l hx hb dX12_rule_1 rfl ?_
  refine bw_nmL (a := x.toInt) (tI_i2l rfl) (fun w_1 ew_1 tw_1 => ?_)
  refine lv_lconst (v := 0) hx hb dX12_rule_2 (by decide) ?_
  refine lv_ldc2 hx hb hown hL0 dX12_rule_3 ?_
  refine vp_callSi (va_Run.run (va_runS (As := [.long w_1, .long 0, .long 7]) (rest := []) ⟨hx, hb, hml, hown, hts⟩ (c_X12_in l dC dI cy w_1 0 7 x.toInt 0 7 (tw_1) (rfl) (rfl)) (va_cwS 3 hts gX12_rule_X12_in rfl rfl rfl (by decide +kernel) ⟨Nat.le_of_ble_eq_true rfl, Nat.le_of_ble_eq_true rfl⟩) ⟨fun a U g mk q => q, fun U hU hW => ⟨rfl, trivial⟩⟩ rfl rfl hl.1 rfl (lv_room (Nat.le_of_ble_eq_true rfl)) dX12_rule_6 ⟨Nat.le_of_ble_eq_true rfl, Nat.le_of_ble_eq_true rfl⟩)) (fun r_2 hr_2 => ?_)
  refine bw_ifneB (tgt := 26) hx hb dX12_rule_9 (by decide) hr_2 (fun c_3 => ?_) (fun c_3 => ?_)
  · skip
    refine lv_aload_n hx hb dX12_rule_26 rfl (lv_at hl 0 rfl) ?_
    refine va_get (D := (dC, dI)) (ci := 12) (v := .ref (am 1)) (C := RX12) (T := TX12) (N := 53) hx hb hts hiX12 hown hK hP 0 rfl rfl 0 (by decide) hL1 (fun _ h9 => h9) rfl dX12_rule_27 ?_
    refine lv_iload_n hx hb dX12_rule_30 rfl (lv_at hl 1 rfl) ?_
    refine bw_iald hx hb hK hP 1 0 rfl rfl (j := (x.toInt).toNat) (by omega) (by omega) dX12_rule_31 ?_
    refine lv_goto (tgt := 37) hx hb dX12_rule_32 (by decide) ?_
    subst hQ
    have hpost : (((0 ≤ x.toInt ∧ x.toInt ≤ 7) ∨ (10 ≤ x.toInt ∧ x.toInt ≤ 17)) → (tl ((x.toInt).toNat)) = tl (x.toInt.toNat)) ∧ ((¬ ((0 ≤ x.toInt ∧ x.toInt ≤ 7) ∨ (10 ≤ x.toInt ∧ x.toInt ≤ 17))) → (tl ((x.toInt).toNat)) = -9) := by
      refine ⟨fun h9 => ?_, fun h9 => ?_⟩ <;> first | (exfalso; omega) | (first | assumption | rfl)
    exact W.iret (v := tl ((x.toInt).toNat)) hx hb hr (fun t9 ht hW => ⟨_, rfl, hpost, by rw [ht]⟩) (fun q h => by cases h) dX12_rule_37
  · skip
    refine lv_iload_n hx hb dX12_rule_12 rfl (lv_at hl 1 rfl) ?_
    refine lv_i2l hx hb dX12_rule_13 rfl ?_
    refine bw_nmL (a := x.toInt) (tI_i2l rfl) (fun w_4 ew_4 tw_4 => ?_)
    refine lv_ldc2 hx hb hown hL2 dX12_rule_14 ?_
    refine lv_ldc2 hx hb hown hL3 dX12_rule_17 ?_
    refine vp_callSi (va_Run.run (va_runS (As := [.long w_4, .long 10, .long 17]) (rest := []) ⟨hx, hb, hml, hown, hts⟩ (c_X12_in l dC dI cy w_4 10 17 x.toInt 10 17 (tw_4) (rfl) (rfl)) (va_cwS 3 hts gX12_rule_X12_in rfl rfl rfl (by decide +kernel) ⟨Nat.le_of_ble_eq_true rfl, Nat.le_of_ble_eq_true rfl⟩) ⟨fun a U g mk q => q, fun U hU hW => ⟨rfl, trivial⟩⟩ rfl rfl hl.1 rfl (lv_room (Nat.le_of_ble_eq_true rfl)) dX12_rule_20 ⟨Nat.le_of_ble_eq_true rfl, Nat.le_of_ble_eq_true rfl⟩)) (fun r_5 hr_5 => ?_)
    refine bw_ifeqB (tgt := 35) hx hb dX12_rule_23 (by decide) hr_5 (fun c_6 => ?_) (fun c_6 => ?_)
    · skip
      refine lv_bipush (v := (-9)) hx hb dX12_rule_35 (by decide) ?_
      subst hQ
      have hpost : (((0 ≤ x.toInt ∧ x.toInt ≤ 7) ∨ (10 ≤ x.toInt ∧ x.toInt ≤ 17)) → ((-9) : Int32) = tl (x.toInt.toNat)) ∧ ((¬ ((0 ≤ x.toInt ∧ x.toInt ≤ 7) ∨ (10 ≤ x.toInt ∧ x.toInt ≤ 17))) → ((-9) : Int32) = -9) := by
        refine ⟨fun h9 => ?_, fun h9 => ?_⟩ <;> first | (exfalso; omega) | (first | assumption | rfl)
      exact W.iret (v := (-9)) hx hb hr (fun t9 ht hW => ⟨_, rfl, hpost, by rw [ht]⟩) (fun q h => by cases h) dX12_rule_37
    · skip
      refine lv_aload_n hx hb dX12_rule_26 rfl (lv_at hl 0 rfl) ?_
      refine va_get (D := (dC, dI)) (ci := 12) (v := .ref (am 1)) (C := RX12) (T := TX12) (N := 53) hx hb hts hiX12 hown hK hP 0 rfl rfl 0 (by decide) hL1 (fun _ h9 => h9) rfl dX12_rule_27 ?_
      refine lv_iload_n hx hb dX12_rule_30 rfl (lv_at hl 1 rfl) ?_
      refine bw_iald hx hb hK hP 1 0 rfl rfl (j := (x.toInt).toNat) (by omega) (by omega) dX12_rule_31 ?_
      refine lv_goto (tgt := 37) hx hb dX12_rule_32 (by decide) ?_
      subst hQ
      have hpost : (((0 ≤ x.toInt ∧ x.toInt ≤ 7) ∨ (10 ≤ x.toInt ∧ x.toInt ≤ 17)) → (tl ((x.toInt).toNat)) = tl (x.toInt.toNat)) ∧ ((¬ ((0 ≤ x.toInt ∧ x.toInt ≤ 7) ∨ (10 ≤ x.toInt ∧ x.toInt ≤ 17))) → (tl ((x.toInt).toNat)) = -9) := by
        refine ⟨fun h9 => ?_, fun h9 => ?_⟩ <;> first | (exfalso; omega) | (first | assumption | rfl)
      exact W.iret (v := tl ((x.toInt).toNat)) hx hb hr (fun t9 ht hW => ⟨_, rfl, hpost, by rw [ht]⟩) (fun q h => by cases h) dX12_rule_37

set_option maxHeartbeats 4000000 in
set_option maxRecDepth 100000 in
theorem c_X12_vote (l : Launch) (dC : Nat → ClassId) (dI : Nat → Nat → Nat) (cy : Nat → ClassId) (am : Nat → Nat) (tn : Nat) (zsz : Nat) (zfr : Nat) (zbe : Nat) (zha : Int32) (zva : Int32) (fk : Int32) (fp : Int32) (sn : Nat) (pn : Nat) (qn : Nat) (zss : Int32) (zsy : Int32) (zpy : Int32) (zfs : Int32) (zls : Int32) (an : Nat) (zw : Nat) (ast : Nat → Int32) (ayes : Nat → Int32) (ano : Nat → Int32) (x : Int32) (y1 : Int32) (n1 : Int32) (sz : Nat) (han : an ≤ 40) : Met l yX12_vote wsX12_vote ({ frames := 2, cells := 0, slots := 0, locals := 46 }) (va_Pc [.ref (am 0), .int x, .int y1, .int n1] (fun U => U.heap.size = sz ∧ va_P (dC, dI) vwCl [(am 0, .inr (12, [.ref (am 1), .ref (am 2), .ref (am 3), .ref (am 4), .int (nI tn), .int (nI zsz), .int (nI zfr), .int (nI zbe), .int zha, .int zva, .int fk, .int fp, .ref (am 13), .int (nI sn), .ref (am 15), .ref (am 16), .ref (am 17), .ref (am 18), .ref (am 19), .int (nI pn), .int (nI qn), .ref (am 22), .ref (am 23), .ref (am 24), .ref (am 25), .ref (am 26), .ref (am 27), .ref (am 28), .ref (am 29), .ref (am 30), .ref (am 31), .ref (am 32), .ref (am 33), .ref (am 34), .int zss, .int zsy, .int zpy, .int zfs, .int zls, .int (nI an), .ref (am 41), .ref (am 42), .ref (am 43), .ref (am 44), .ref (am 45), .ref (am 46), .ref (am 47), .ref (am 48), .ref (am 49), .ref (am 50), .int (nI zw), .ref (am 52), .ref (am 53)])), (am 44, .inl (cy 0, 40, .inl ast)), (am 45, .inl (cy 0, 40, .inl ayes)), (am 46, .inl (cy 0, 40, .inl ano))] U.heap ∧ va_K (dC, dI) vwCl (tyL cy) U ∧ va_D (fun _ => True) [(am 0, .inr (12, [.ref (am 1), .ref (am 2), .ref (am 3), .ref (am 4), .int (nI tn), .int (nI zsz), .int (nI zfr), .int (nI zbe), .int zha, .int zva, .int fk, .int fp, .ref (am 13), .int (nI sn), .ref (am 15), .ref (am 16), .ref (am 17), .ref (am 18), .ref (am 19), .int (nI pn), .int (nI qn), .ref (am 22), .ref (am 23), .ref (am 24), .ref (am 25), .ref (am 26), .ref (am 27), .ref (am 28), .ref (am 29), .ref (am 30), .ref (am 31), .ref (am 32), .ref (am 33), .ref (am 34), .int zss, .int zsy, .int zpy, .int zfs, .int zls, .int (nI an), .ref (am 41), .ref (am 42), .ref (am 43), .ref (am 44), .ref (am 45), .ref (am 46), .ref (am 47), .ref (am 48), .ref (am 49), .ref (am 50), .int (nI zw), .ref (am 52), .ref (am 53)])), (am 44, .inl (cy 0, 40, .inl ast)), (am 45, .inl (cy 0, 40, .inl ayes)), (am 46, .inl (cy 0, 40, .inl ano))])) (va_Qi (S := (Nat → Int32) × (Nat → Int32)) (fun r => fun u => match u with | (ayes2, ano2) => ((¬ ((0 ≤ x.toInt ∧ x.toInt < ((an : Nat) : Int)) ∧ (0 ≤ y1.toInt ∧ y1.toInt ≤ 99) ∧ (0 ≤ n1.toInt ∧ n1.toInt ≤ 99))) → r = -2 ∧ ayes2 = ayes ∧ ano2 = ano) ∧ ((((0 ≤ x.toInt ∧ x.toInt < ((an : Nat) : Int)) ∧ (0 ≤ y1.toInt ∧ y1.toInt ≤ 99) ∧ (0 ≤ n1.toInt ∧ n1.toInt ≤ 99)) ∧ (ast (x.toInt.toNat)).toInt ≠ 0) → r = -4 ∧ ayes2 = ayes ∧ ano2 = ano) ∧ ((((0 ≤ x.toInt ∧ x.toInt < ((an : Nat) : Int)) ∧ (0 ≤ y1.toInt ∧ y1.toInt ≤ 99) ∧ (0 ≤ n1.toInt ∧ n1.toInt ≤ 99)) ∧ (ast (x.toInt.toNat)).toInt = 0) → r = 1 ∧ ayes2 = upd ayes (x.toInt.toNat) y1 ∧ ano2 = upd ano (x.toInt.toNat) n1)) (fun u => match u with | (ayes2, ano2) => fun t => va_P (dC, dI) vwCl [(am 0, .inr (12, [.ref (am 1), .ref (am 2), .ref (am 3), .ref (am 4), .int (nI tn), .int (nI zsz), .int (nI zfr), .int (nI zbe), .int zha, .int zva, .int fk, .int fp, .ref (am 13), .int (nI sn), .ref (am 15), .ref (am 16), .ref (am 17), .ref (am 18), .ref (am 19), .int (nI pn), .int (nI qn), .ref (am 22), .ref (am 23), .ref (am 24), .ref (am 25), .ref (am 26), .ref (am 27), .ref (am 28), .ref (am 29), .ref (am 30), .ref (am 31), .ref (am 32), .ref (am 33), .ref (am 34), .int zss, .int zsy, .int zpy, .int zfs, .int zls, .int (nI an), .ref (am 41), .ref (am 42), .ref (am 43), .ref (am 44), .ref (am 45), .ref (am 46), .ref (am 47), .ref (am 48), .ref (am 49), .ref (am 50), .int (nI zw), .ref (am 52), .ref (am 53)])), (am 44, .inl (cy 0, 40, .inl ast)), (am 45, .inl (cy 0, 40, .inl ayes2)), (am 46, .inl (cy 0, 40, .inl ano2))] t.heap ∧ va_K (dC, dI) vwCl (tyL cy) t ∧ va_D (va_A [(am 0, .inr (12, [.ref (am 1), .ref (am 2), .ref (am 3), .ref (am 4), .int (nI tn), .int (nI zsz), .int (nI zfr), .int (nI zbe), .int zha, .int zva, .int fk, .int fp, .ref (am 13), .int (nI sn), .ref (am 15), .ref (am 16), .ref (am 17), .ref (am 18), .ref (am 19), .int (nI pn), .int (nI qn), .ref (am 22), .ref (am 23), .ref (am 24), .ref (am 25), .ref (am 26), .ref (am 27), .ref (am 28), .ref (am 29), .ref (am 30), .ref (am 31), .ref (am 32), .ref (am 33), .ref (am 34), .int zss, .int zsy, .int zpy, .int zfs, .int zls, .int (nI an), .ref (am 41), .ref (am 42), .ref (am 43), .ref (am 44), .ref (am 45), .ref (am 46), .ref (am 47), .ref (am 48), .ref (am 49), .ref (am 50), .int (nI zw), .ref (am 52), .ref (am 53)])), (am 44, .inl (cy 0, 40, .inl ast)), (am 45, .inl (cy 0, 40, .inl ayes)), (am 46, .inl (cy 0, 40, .inl ano))] sz) [(am 0, .inr (12, [.ref (am 1), .ref (am 2), .ref (am 3), .ref (am 4), .int (nI tn), .int (nI zsz), .int (nI zfr), .int (nI zbe), .int zha, .int zva, .int fk, .int fp, .ref (am 13), .int (nI sn), .ref (am 15), .ref (am 16), .ref (am 17), .ref (am 18), .ref (am 19), .int (nI pn), .int (nI qn), .ref (am 22), .ref (am 23), .ref (am 24), .ref (am 25), .ref (am 26), .ref (am 27), .ref (am 28), .ref (am 29), .ref (am 30), .ref (am 31), .ref (am 32), .ref (am 33), .ref (am 34), .int zss, .int zsy, .int zpy, .int zfs, .int zls, .int (nI an), .ref (am 41), .ref (am 42), .ref (am 43), .ref (am 44), .ref (am 45), .ref (am 46), .ref (am 47), .ref (am 48), .ref (am 49), .ref (am 50), .int (nI zw), .ref (am 52), .ref (am 53)])), (am 44, .inl (cy 0, 40, .inl ast)), (am 45, .inl (cy 0, 40, .inl ayes2)), (am 46, .inl (cy 0, 40, .inl ano2))]) (va_A [(am 0, .inr (12, [.ref (am 1), .ref (am 2), .ref (am 3), .ref (am 4), .int (nI tn), .int (nI zsz), .int (nI zfr), .int (nI zbe), .int zha, .int zva, .int fk, .int fp, .ref (am 13), .int (nI sn), .ref (am 15), .ref (am 16), .ref (am 17), .ref (am 18), .ref (am 19), .int (nI pn), .int (nI qn), .ref (am 22), .ref (am 23), .ref (am 24), .ref (am 25), .ref (am 26), .ref (am 27), .ref (am 28), .ref (am 29), .ref (am 30), .ref (am 31), .ref (am 32), .ref (am 33), .ref (am 34), .int zss, .int zsy, .int zpy, .int zfs, .int zls, .int (nI an), .ref (am 41), .ref (am 42), .ref (am 43), .ref (am 44), .ref (am 45), .ref (am 46), .ref (am 47), .ref (am 48), .ref (am 49), .ref (am 50), .int (nI zw), .ref (am 52), .ref (am 53)])), (am 44, .inl (cy 0, 40, .inl ast)), (am 45, .inl (cy 0, 40, .inl ayes)), (am 46, .inl (cy 0, 40, .inl ano))] sz)) 0 0 (va_A [(am 0, .inr (12, [.ref (am 1), .ref (am 2), .ref (am 3), .ref (am 4), .int (nI tn), .int (nI zsz), .int (nI zfr), .int (nI zbe), .int zha, .int zva, .int fk, .int fp, .ref (am 13), .int (nI sn), .ref (am 15), .ref (am 16), .ref (am 17), .ref (am 18), .ref (am 19), .int (nI pn), .int (nI qn), .ref (am 22), .ref (am 23), .ref (am 24), .ref (am 25), .ref (am 26), .ref (am 27), .ref (am 28), .ref (am 29), .ref (am 30), .ref (am 31), .ref (am 32), .ref (am 33), .ref (am 34), .int zss, .int zsy, .int zpy, .int zfs, .int zls, .int (nI an), .ref (am 41), .ref (am 42), .ref (am 43), .ref (am 44), .ref (am 45), .ref (am 46), .ref (am 47), .ref (am 48), .ref (am 49), .ref (am 50), .int (nI zw), .ref (am 52), .ref (am 53)])), (am 44, .inl (cy 0, 40, .inl ast)), (am 45, .inl (cy 0, 40, .inl ayes)), (am 46, .inl (cy 0, 40, .inl ano))] sz) := by
  refine Met.ofW (cc := cX12_vote) (maxL := 4) (ret := (some .int)) (by decide) rfl ?_
  intro pp ee ss mm args below meth cc0 s₁ B hml hv
  obtain ⟨rfl, hsz, hP, hK, hD0⟩ := hv
  have hx := B.exec
  have hb := B.bytes
  have hr := B.returns
  have hts := atoms_spec (ws := wsX12_vote) B.pre
  have hown : ss.vm.findClass RX12 = some mm.cls := findClass_of_methodNamed B.named
  have hlocks := B.notSynchronized
  have hL0 := hts (.constantLong RX12 319 (99)) (by decide +kernel)
  have hL1 := hts (.fieldLink RX12 190 "HereLivedModel" "state" "[I") (by decide +kernel)
  have hL2 := hts (.fieldLink RX12 193 "HereLivedModel" "yes" "[I") (by decide +kernel)
  have hL3 := hts (.fieldLink RX12 195 "HereLivedModel" "no" "[I") (by decide +kernel)
  have hiX12 : ∀ w ∈ wsX120, w ∈ wsX12_vote := by decide +kernel
  subst hsz
  have hD := hD0.self (sz := ss.heap.size)
  generalize hAe : va_A [(am 0, .inr (12, [.ref (am 1), .ref (am 2), .ref (am 3), .ref (am 4), .int (nI tn), .int (nI zsz), .int (nI zfr), .int (nI zbe), .int zha, .int zva, .int fk, .int fp, .ref (am 13), .int (nI sn), .ref (am 15), .ref (am 16), .ref (am 17), .ref (am 18), .ref (am 19), .int (nI pn), .int (nI qn), .ref (am 22), .ref (am 23), .ref (am 24), .ref (am 25), .ref (am 26), .ref (am 27), .ref (am 28), .ref (am 29), .ref (am 30), .ref (am 31), .ref (am 32), .ref (am 33), .ref (am 34), .int zss, .int zsy, .int zpy, .int zfs, .int zls, .int (nI an), .ref (am 41), .ref (am 42), .ref (am 43), .ref (am 44), .ref (am 45), .ref (am 46), .ref (am 47), .ref (am 48), .ref (am 49), .ref (am 50), .int (nI zw), .ref (am 52), .ref (am 53)])), (am 44, .inl (cy 0, 40, .inl ast)), (am 45, .inl (cy 0, 40, .inl ayes)), (am 46, .inl (cy 0, 40, .inl ano))] ss.heap.size = A at hD ⊢
  have hA : ∀ q : Nat, ss.heap.size ≤ q → A q := fun q h => by rw [← hAe]; exact Or.inr h
  have hS : va_S A ss.heap ss.heap [] := va_S.rf
  have hP : va_P (dC, dI) vwCl [(am 0, .inr (12, [.ref (am 1), .ref (am 2), .ref (am 3), .ref (am 4), .int (nI tn), .int (nI zsz), .int (nI zfr), .int (nI zbe), .int zha, .int zva, .int fk, .int fp, .ref (am 13), .int (nI sn), .ref (am 15), .ref (am 16), .ref (am 17), .ref (am 18), .ref (am 19), .int (nI pn), .int (nI qn), .ref (am 22), .ref (am 23), .ref (am 24), .ref (am 25), .ref (am 26), .ref (am 27), .ref (am 28), .ref (am 29), .ref (am 30), .ref (am 31), .ref (am 32), .ref (am 33), .ref (am 34), .int zss, .int zsy, .int zpy, .int zfs, .int zls, .int (nI an), .ref (am 41), .ref (am 42), .ref (am 43), .ref (am 44), .ref (am 45), .ref (am 46), .ref (am 47), .ref (am 48), .ref (am 49), .ref (am 50), .int (nI zw), .ref (am 52), .ref (am 53)])), (am 44, .inl (cy 0, 40, .inl ast)), (am 45, .inl (cy 0, 40, .inl ayes)), (am 46, .inl (cy 0, 40, .inl ano))] ss.heap := hP
  have hl := lv_entry ([.ref (am 0), .int x, .int y1, .int n1]) (n := 4) (Nat.le_of_ble_eq_true rfl)
  rw [lg_entry_eq]
  generalize (lg_sl ([.ref (am 0), .int x, .int y1, .int n1]) ++ List.replicate (4 - (lg_sl ([.ref (am 0), .int x, .int y1, .int n1])).length) Slot.unset).toArray = ls at hl ⊢
  have hl : lv_has ls 4 [(0, .ref (am 0)), (1, .int x), (2, .int y1), (3, .int n1)] := hl
  refine bw_Q (fun Q hQ => ?_)
  refine bw_H0 (fun H locs eH eL => ?_)
  have hS : va_S A ss.heap H locs := by rw [eH, eL]; exact hS
  have hP : va_P (dC, dI) vwCl [(am 0, .inr (12, [.ref (am 1), .ref (am 2), .ref (am 3), .ref (am 4), .int (nI tn), .int (nI zsz), .int (nI zfr), .int (nI zbe), .int zha, .int zva, .int fk, .int fp, .ref (am 13), .int (nI sn), .ref (am 15), .ref (am 16), .ref (am 17), .ref (am 18), .ref (am 19), .int (nI pn), .int (nI qn), .ref (am 22), .ref (am 23), .ref (am 24), .ref (am 25), .ref (am 26), .ref (am 27), .ref (am 28), .ref (am 29), .ref (am 30), .ref (am 31), .ref (am 32), .ref (am 33), .ref (am 34), .int zss, .int zsy, .int zpy, .int zfs, .int zls, .int (nI an), .ref (am 41), .ref (am 42), .ref (am 43), .ref (am 44), .ref (am 45), .ref (am 46), .ref (am 47), .ref (am 48), .ref (am 49), .ref (am 50), .int (nI zw), .ref (am 52), .ref (am 53)])), (am 44, .inl (cy 0, 40, .inl ast)), (am 45, .inl (cy 0, 40, .inl ayes)), (am 46, .inl (cy 0, 40, .inl ano))] H := by rw [eH]; exact hP
  change W pp l ee { frames := 2, cells := 0, slots := 0, locals := 46 } ss mm _ below meth cc0 H locs 0 0 Q (F0 mm 0 ls [])
  refine lv_aload_n hx hb dX12_vote_0 rfl (lv_at hl 0 rfl) ?_
  refine lv_iload_n hx hb dX12_vote_1 rfl (lv_at hl 1 rfl) ?_
  have hPc : va_P (dC, dI) vwCl [(am 0, .inr (12, [.ref (am 1), .ref (am 2), .ref (am 3), .ref (am 4), .int (nI tn), .int (nI zsz), .int (nI zfr), .int (nI zbe), .int zha, .int zva, .int fk, .int fp, .ref (am 13), .int (nI sn), .ref (am 15), .ref (am 16), .ref (am 17), .ref (am 18), .ref (am 19), .int (nI pn), .int (nI qn), .ref (am 22), .ref (am 23), .ref (am 24), .ref (am 25), .ref (am 26), .ref (am 27), .ref (am 28), .ref (am 29), .ref (am 30), .ref (am 31), .ref (am 32), .ref (am 33), .ref (am 34), .int zss, .int zsy, .int zpy, .int zfs, .int zls, .int (nI an), .ref (am 41), .ref (am 42), .ref (am 43), .ref (am 44), .ref (am 45), .ref (am 46), .ref (am 47), .ref (am 48), .ref (am 49), .ref (am 50), .int (nI zw), .ref (am 52), .ref (am 53)]))] H := hP.sub [0] rfl
  refine vp_callSi (va_Run.run (va_runV (As := [.int x]) (rest := []) ⟨hx, hb, hml, hown, hts⟩ (c_X12_isAsking l dC dI cy am tn zsz zfr zbe zha zva fk fp sn pn qn zss zsy zpy zfs zls an zw x (by first | assumption | omega)) (cwV 1 hts gX12_vote_X12_isAsking rfl rfl rfl (by decide +kernel) ⟨Nat.le_of_ble_eq_true rfl, Nat.le_of_ble_eq_true rfl⟩) ⟨fun a U g mk q => by obtain ⟨q0, qP, qK⟩ := q; exact ⟨q0, qP, va_K.moved (u := U) (U := U.calling g mk a) (Vm.Alike.refl U.vm) qK⟩, va_recv hK hPc (ci := 12) (q0 := 0) rfl rfl, fun U hU hW => ⟨rfl, by rw [hU]; exact hPc, va_K.moved hW.alike hK⟩⟩ rfl rfl hl.1 rfl (lv_room (Nat.le_of_ble_eq_true rfl)) dX12_vote_2 ⟨Nat.le_of_ble_eq_true rfl, Nat.le_of_ble_eq_true rfl⟩)) (fun r_1 hr_1 => ?_)
  refine bw_ifeqB (tgt := 32) hx hb dX12_vote_5 (by decide) hr_1 (fun c_2 => ?_) (fun c_2 => ?_)
  · skip
    refine lv_bipush (v := (-2)) hx hb dX12_vote_32 (by decide) ?_
    subst hQ
    have hP9 : va_P (dC, dI) vwCl [(am 0, .inr (12, [.ref (am 1), .ref (am 2), .ref (am 3), .ref (am 4), .int (nI tn), .int (nI zsz), .int (nI zfr), .int (nI zbe), .int zha, .int zva, .int fk, .int fp, .ref (am 13), .int (nI sn), .ref (am 15), .ref (am 16), .ref (am 17), .ref (am 18), .ref (am 19), .int (nI pn), .int (nI qn), .ref (am 22), .ref (am 23), .ref (am 24), .ref (am 25), .ref (am 26), .ref (am 27), .ref (am 28), .ref (am 29), .ref (am 30), .ref (am 31), .ref (am 32), .ref (am 33), .ref (am 34), .int zss, .int zsy, .int zpy, .int zfs, .int zls, .int (nI an), .ref (am 41), .ref (am 42), .ref (am 43), .ref (am 44), .ref (am 45), .ref (am 46), .ref (am 47), .ref (am 48), .ref (am 49), .ref (am 50), .int (nI zw), .ref (am 52), .ref (am 53)])), (am 44, .inl (cy 0, 40, .inl ast)), (am 45, .inl (cy 0, 40, .inl ayes)), (am 46, .inl (cy 0, 40, .inl ano))] H := hP.sub [0, 1, 2, 3] rfl
    have hD9 : va_D A [(am 0, .inr (12, [.ref (am 1), .ref (am 2), .ref (am 3), .ref (am 4), .int (nI tn), .int (nI zsz), .int (nI zfr), .int (nI zbe), .int zha, .int zva, .int fk, .int fp, .ref (am 13), .int (nI sn), .ref (am 15), .ref (am 16), .ref (am 17), .ref (am 18), .ref (am 19), .int (nI pn), .int (nI qn), .ref (am 22), .ref (am 23), .ref (am 24), .ref (am 25), .ref (am 26), .ref (am 27), .ref (am 28), .ref (am 29), .ref (am 30), .ref (am 31), .ref (am 32), .ref (am 33), .ref (am 34), .int zss, .int zsy, .int zpy, .int zfs, .int zls, .int (nI an), .ref (am 41), .ref (am 42), .ref (am 43), .ref (am 44), .ref (am 45), .ref (am 46), .ref (am 47), .ref (am 48), .ref (am 49), .ref (am 50), .int (nI zw), .ref (am 52), .ref (am 53)])), (am 44, .inl (cy 0, 40, .inl ast)), (am 45, .inl (cy 0, 40, .inl ayes)), (am 46, .inl (cy 0, 40, .inl ano))] := hD.sub [0, 1, 2, 3] (by decide) rfl
    have hpost : ((¬ ((0 ≤ x.toInt ∧ x.toInt < ((an : Nat) : Int)) ∧ (0 ≤ y1.toInt ∧ y1.toInt ≤ 99) ∧ (0 ≤ n1.toInt ∧ n1.toInt ≤ 99))) → ((-2) : Int32) = -2 ∧ ayes = ayes ∧ ano = ano) ∧ ((((0 ≤ x.toInt ∧ x.toInt < ((an : Nat) : Int)) ∧ (0 ≤ y1.toInt ∧ y1.toInt ≤ 99) ∧ (0 ≤ n1.toInt ∧ n1.toInt ≤ 99)) ∧ (ast (x.toInt.toNat)).toInt ≠ 0) → ((-2) : Int32) = -4 ∧ ayes = ayes ∧ ano = ano) ∧ ((((0 ≤ x.toInt ∧ x.toInt < ((an : Nat) : Int)) ∧ (0 ≤ y1.toInt ∧ y1.toInt ≤ 99) ∧ (0 ≤ n1.toInt ∧ n1.toInt ≤ 99)) ∧ (ast (x.toInt.toNat)).toInt = 0) → ((-2) : Int32) = 1 ∧ ayes = upd ayes (x.toInt.toNat) y1 ∧ ano = upd ano (x.toInt.toNat) n1) := by
      refine ⟨fun h9 => ?_, fun h9 => ?_, fun h9 => ?_⟩ <;> first | (exfalso; omega) | (refine ⟨?_, ?_, ?_⟩ <;> first | assumption | rfl)
    exact W.iret (v := (-2)) hx hb hr (fun t9 ht hW => ⟨⟨(-2), (ayes, ano), rfl, hpost, by rw [ht]; exact hP9, va_K.moved hW.alike hK, hD9⟩, hS.F ht⟩) hS.2.2 dX12_vote_34
  · skip
    refine lv_iload_n hx hb dX12_vote_8 rfl (lv_at hl 2 rfl) ?_
    refine lv_i2l hx hb dX12_vote_9 rfl ?_
    refine bw_nmL (a := y1.toInt) (tI_i2l rfl) (fun w_3 ew_3 tw_3 => ?_)
    refine lv_lconst (v := 0) hx hb dX12_vote_10 (by decide) ?_
    refine lv_ldc2 hx hb hown hL0 dX12_vote_11 ?_
    refine vp_callSi (va_Run.run (va_runS (As := [.long w_3, .long 0, .long 99]) (rest := []) ⟨hx, hb, hml, hown, hts⟩ (c_X12_in l dC dI cy w_3 0 99 y1.toInt 0 99 (tw_3) (rfl) (rfl)) (va_cwS 3 hts gX12_vote_X12_in rfl rfl rfl (by decide +kernel) ⟨Nat.le_of_ble_eq_true rfl, Nat.le_of_ble_eq_true rfl⟩) ⟨fun a U g mk q => q, fun U hU hW => ⟨rfl, trivial⟩⟩ rfl rfl hl.1 rfl (lv_room (Nat.le_of_ble_eq_true rfl)) dX12_vote_14 ⟨Nat.le_of_ble_eq_true rfl, Nat.le_of_ble_eq_true rfl⟩)) (fun r_4 hr_4 => ?_)
    refine bw_ifeqB (tgt := 32) hx hb dX12_vote_17 (by decide) hr_4 (fun c_5 => ?_) (fun c_5 => ?_)
    · skip
      refine lv_bipush (v := (-2)) hx hb dX12_vote_32 (by decide) ?_
      subst hQ
      have hP9 : va_P (dC, dI) vwCl [(am 0, .inr (12, [.ref (am 1), .ref (am 2), .ref (am 3), .ref (am 4), .int (nI tn), .int (nI zsz), .int (nI zfr), .int (nI zbe), .int zha, .int zva, .int fk, .int fp, .ref (am 13), .int (nI sn), .ref (am 15), .ref (am 16), .ref (am 17), .ref (am 18), .ref (am 19), .int (nI pn), .int (nI qn), .ref (am 22), .ref (am 23), .ref (am 24), .ref (am 25), .ref (am 26), .ref (am 27), .ref (am 28), .ref (am 29), .ref (am 30), .ref (am 31), .ref (am 32), .ref (am 33), .ref (am 34), .int zss, .int zsy, .int zpy, .int zfs, .int zls, .int (nI an), .ref (am 41), .ref (am 42), .ref (am 43), .ref (am 44), .ref (am 45), .ref (am 46), .ref (am 47), .ref (am 48), .ref (am 49), .ref (am 50), .int (nI zw), .ref (am 52), .ref (am 53)])), (am 44, .inl (cy 0, 40, .inl ast)), (am 45, .inl (cy 0, 40, .inl ayes)), (am 46, .inl (cy 0, 40, .inl ano))] H := hP.sub [0, 1, 2, 3] rfl
      have hD9 : va_D A [(am 0, .inr (12, [.ref (am 1), .ref (am 2), .ref (am 3), .ref (am 4), .int (nI tn), .int (nI zsz), .int (nI zfr), .int (nI zbe), .int zha, .int zva, .int fk, .int fp, .ref (am 13), .int (nI sn), .ref (am 15), .ref (am 16), .ref (am 17), .ref (am 18), .ref (am 19), .int (nI pn), .int (nI qn), .ref (am 22), .ref (am 23), .ref (am 24), .ref (am 25), .ref (am 26), .ref (am 27), .ref (am 28), .ref (am 29), .ref (am 30), .ref (am 31), .ref (am 32), .ref (am 33), .ref (am 34), .int zss, .int zsy, .int zpy, .int zfs, .int zls, .int (nI an), .ref (am 41), .ref (am 42), .ref (am 43), .ref (am 44), .ref (am 45), .ref (am 46), .ref (am 47), .ref (am 48), .ref (am 49), .ref (am 50), .int (nI zw), .ref (am 52), .ref (am 53)])), (am 44, .inl (cy 0, 40, .inl ast)), (am 45, .inl (cy 0, 40, .inl ayes)), (am 46, .inl (cy 0, 40, .inl ano))] := hD.sub [0, 1, 2, 3] (by decide) rfl
      have hpost : ((¬ ((0 ≤ x.toInt ∧ x.toInt < ((an : Nat) : Int)) ∧ (0 ≤ y1.toInt ∧ y1.toInt ≤ 99) ∧ (0 ≤ n1.toInt ∧ n1.toInt ≤ 99))) → ((-2) : Int32) = -2 ∧ ayes = ayes ∧ ano = ano) ∧ ((((0 ≤ x.toInt ∧ x.toInt < ((an : Nat) : Int)) ∧ (0 ≤ y1.toInt ∧ y1.toInt ≤ 99) ∧ (0 ≤ n1.toInt ∧ n1.toInt ≤ 99)) ∧ (ast (x.toInt.toNat)).toInt ≠ 0) → ((-2) : Int32) = -4 ∧ ayes = ayes ∧ ano = ano) ∧ ((((0 ≤ x.toInt ∧ x.toInt < ((an : Nat) : Int)) ∧ (0 ≤ y1.toInt ∧ y1.toInt ≤ 99) ∧ (0 ≤ n1.toInt ∧ n1.toInt ≤ 99)) ∧ (ast (x.toInt.toNat)).toInt = 0) → ((-2) : Int32) = 1 ∧ ayes = upd ayes (x.toInt.toNat) y1 ∧ ano = upd ano (x.toInt.toNat) n1) := by
        refine ⟨fun h9 => ?_, fun h9 => ?_, fun h9 => ?_⟩ <;> first | (exfalso; omega) | (refine ⟨?_, ?_, ?_⟩ <;> first | assumption | rfl)
      exact W.iret (v := (-2)) hx hb hr (fun t9 ht hW => ⟨⟨(-2), (ayes, ano), rfl, hpost, by rw [ht]; exact hP9, va_K.moved hW.alike hK, hD9⟩, hS.F ht⟩) hS.2.2 dX12_vote_34
    · skip
      refine lv_iload_n hx hb dX12_vote_20 rfl (lv_at hl 3 rfl) ?_
      refine lv_i2l hx hb dX12_vote_21 rfl ?_
      refine bw_nmL (a := n1.toInt) (tI_i2l rfl) (fun w_6 ew_6 tw_6 => ?_)
      refine lv_lconst (v := 0) hx hb dX12_vote_22 (by decide) ?_
      refine lv_ldc2 hx hb hown hL0 dX12_vote_23 ?_
      refine vp_callSi (va_Run.run (va_runS (As := [.long w_6, .long 0, .long 99]) (rest := []) ⟨hx, hb, hml, hown, hts⟩ (c_X12_in l dC dI cy w_6 0 99 n1.toInt 0 99 (tw_6) (rfl) (rfl)) (va_cwS 3 hts gX12_vote_X12_in rfl rfl rfl (by decide +kernel) ⟨Nat.le_of_ble_eq_true rfl, Nat.le_of_ble_eq_true rfl⟩) ⟨fun a U g mk q => q, fun U hU hW => ⟨rfl, trivial⟩⟩ rfl rfl hl.1 rfl (lv_room (Nat.le_of_ble_eq_true rfl)) dX12_vote_26 ⟨Nat.le_of_ble_eq_true rfl, Nat.le_of_ble_eq_true rfl⟩)) (fun r_7 hr_7 => ?_)
      refine bw_ifneB (tgt := 35) hx hb dX12_vote_29 (by decide) hr_7 (fun c_8 => ?_) (fun c_8 => ?_)
      · skip
        refine lv_aload_n hx hb dX12_vote_35 rfl (lv_at hl 0 rfl) ?_
        refine va_get (D := (dC, dI)) (ci := 12) (v := .ref (am 44)) (C := RX12) (T := TX12) (N := 53) hx hb hts hiX12 hown hK hP 0 rfl rfl 43 (by decide) hL1 (fun _ h9 => h9) rfl dX12_vote_36 ?_
        refine lv_iload_n hx hb dX12_vote_39 rfl (lv_at hl 1 rfl) ?_
        refine bw_iald hx hb hK hP 1 0 rfl rfl (j := (x.toInt).toNat) (by omega) (by omega) dX12_vote_40 ?_
        refine bw_if_eq (tgt := 47) (a := (ast ((x.toInt).toNat)).toInt) hx hb dX12_vote_41 (by decide) rfl (fun c_9 => ?_) (fun c_9 => ?_)
        · skip
          refine lv_aload_n hx hb dX12_vote_47 rfl (lv_at hl 0 rfl) ?_
          refine va_get (D := (dC, dI)) (ci := 12) (v := .ref (am 45)) (C := RX12) (T := TX12) (N := 53) hx hb hts hiX12 hown hK hP 0 rfl rfl 44 (by decide) hL2 (fun _ h9 => h9) rfl dX12_vote_48 ?_
          refine lv_iload_n hx hb dX12_vote_51 rfl (lv_at hl 1 rfl) ?_
          refine lv_iload_n hx hb dX12_vote_52 rfl (lv_at hl 2 rfl) ?_
          refine bw_iast hx hb hK hP hD hS 2 0 rfl rfl (j := (x.toInt).toNat) (by omega) (by omega) dX12_vote_53 (fun H locs hP hD hS => ?_)
          have hP : va_P (dC, dI) vwCl [(am 0, .inr (12, [.ref (am 1), .ref (am 2), .ref (am 3), .ref (am 4), .int (nI tn), .int (nI zsz), .int (nI zfr), .int (nI zbe), .int zha, .int zva, .int fk, .int fp, .ref (am 13), .int (nI sn), .ref (am 15), .ref (am 16), .ref (am 17), .ref (am 18), .ref (am 19), .int (nI pn), .int (nI qn), .ref (am 22), .ref (am 23), .ref (am 24), .ref (am 25), .ref (am 26), .ref (am 27), .ref (am 28), .ref (am 29), .ref (am 30), .ref (am 31), .ref (am 32), .ref (am 33), .ref (am 34), .int zss, .int zsy, .int zpy, .int zfs, .int zls, .int (nI an), .ref (am 41), .ref (am 42), .ref (am 43), .ref (am 44), .ref (am 45), .ref (am 46), .ref (am 47), .ref (am 48), .ref (am 49), .ref (am 50), .int (nI zw), .ref (am 52), .ref (am 53)])), (am 44, .inl (cy 0, 40, .inl ast)), (am 45, .inl (cy 0, 40, .inl (upd ayes ((x.toInt).toNat) y1))), (am 46, .inl (cy 0, 40, .inl ano))] H := hP
          have hD : va_D A [(am 0, .inr (12, [.ref (am 1), .ref (am 2), .ref (am 3), .ref (am 4), .int (nI tn), .int (nI zsz), .int (nI zfr), .int (nI zbe), .int zha, .int zva, .int fk, .int fp, .ref (am 13), .int (nI sn), .ref (am 15), .ref (am 16), .ref (am 17), .ref (am 18), .ref (am 19), .int (nI pn), .int (nI qn), .ref (am 22), .ref (am 23), .ref (am 24), .ref (am 25), .ref (am 26), .ref (am 27), .ref (am 28), .ref (am 29), .ref (am 30), .ref (am 31), .ref (am 32), .ref (am 33), .ref (am 34), .int zss, .int zsy, .int zpy, .int zfs, .int zls, .int (nI an), .ref (am 41), .ref (am 42), .ref (am 43), .ref (am 44), .ref (am 45), .ref (am 46), .ref (am 47), .ref (am 48), .ref (am 49), .ref (am 50), .int (nI zw), .ref (am 52), .ref (am 53)])), (am 44, .inl (cy 0, 40, .inl ast)), (am 45, .inl (cy 0, 40, .inl (upd ayes ((x.toInt).toNat) y1))), (am 46, .inl (cy 0, 40, .inl ano))] := hD
          refine lv_aload_n hx hb dX12_vote_54 rfl (lv_at hl 0 rfl) ?_
          refine va_get (D := (dC, dI)) (ci := 12) (v := .ref (am 46)) (C := RX12) (T := TX12) (N := 53) hx hb hts hiX12 hown hK hP 0 rfl rfl 45 (by decide) hL3 (fun _ h9 => h9) rfl dX12_vote_55 ?_
          refine lv_iload_n hx hb dX12_vote_58 rfl (lv_at hl 1 rfl) ?_
          refine lv_iload_n hx hb dX12_vote_59 rfl (lv_at hl 3 rfl) ?_
          refine bw_iast hx hb hK hP hD hS 3 0 rfl rfl (j := (x.toInt).toNat) (by omega) (by omega) dX12_vote_60 (fun H locs hP hD hS => ?_)
          have hP : va_P (dC, dI) vwCl [(am 0, .inr (12, [.ref (am 1), .ref (am 2), .ref (am 3), .ref (am 4), .int (nI tn), .int (nI zsz), .int (nI zfr), .int (nI zbe), .int zha, .int zva, .int fk, .int fp, .ref (am 13), .int (nI sn), .ref (am 15), .ref (am 16), .ref (am 17), .ref (am 18), .ref (am 19), .int (nI pn), .int (nI qn), .ref (am 22), .ref (am 23), .ref (am 24), .ref (am 25), .ref (am 26), .ref (am 27), .ref (am 28), .ref (am 29), .ref (am 30), .ref (am 31), .ref (am 32), .ref (am 33), .ref (am 34), .int zss, .int zsy, .int zpy, .int zfs, .int zls, .int (nI an), .ref (am 41), .ref (am 42), .ref (am 43), .ref (am 44), .ref (am 45), .ref (am 46), .ref (am 47), .ref (am 48), .ref (am 49), .ref (am 50), .int (nI zw), .ref (am 52), .ref (am 53)])), (am 44, .inl (cy 0, 40, .inl ast)), (am 45, .inl (cy 0, 40, .inl (upd ayes ((x.toInt).toNat) y1))), (am 46, .inl (cy 0, 40, .inl (upd ano ((x.toInt).toNat) n1)))] H := hP
          have hD : va_D A [(am 0, .inr (12, [.ref (am 1), .ref (am 2), .ref (am 3), .ref (am 4), .int (nI tn), .int (nI zsz), .int (nI zfr), .int (nI zbe), .int zha, .int zva, .int fk, .int fp, .ref (am 13), .int (nI sn), .ref (am 15), .ref (am 16), .ref (am 17), .ref (am 18), .ref (am 19), .int (nI pn), .int (nI qn), .ref (am 22), .ref (am 23), .ref (am 24), .ref (am 25), .ref (am 26), .ref (am 27), .ref (am 28), .ref (am 29), .ref (am 30), .ref (am 31), .ref (am 32), .ref (am 33), .ref (am 34), .int zss, .int zsy, .int zpy, .int zfs, .int zls, .int (nI an), .ref (am 41), .ref (am 42), .ref (am 43), .ref (am 44), .ref (am 45), .ref (am 46), .ref (am 47), .ref (am 48), .ref (am 49), .ref (am 50), .int (nI zw), .ref (am 52), .ref (am 53)])), (am 44, .inl (cy 0, 40, .inl ast)), (am 45, .inl (cy 0, 40, .inl (upd ayes ((x.toInt).toNat) y1))), (am 46, .inl (cy 0, 40, .inl (upd ano ((x.toInt).toNat) n1)))] := hD
          refine lv_iconst (v := 1) hx hb dX12_vote_61 (by decide) ?_
          subst hQ
          have hP9 : va_P (dC, dI) vwCl [(am 0, .inr (12, [.ref (am 1), .ref (am 2), .ref (am 3), .ref (am 4), .int (nI tn), .int (nI zsz), .int (nI zfr), .int (nI zbe), .int zha, .int zva, .int fk, .int fp, .ref (am 13), .int (nI sn), .ref (am 15), .ref (am 16), .ref (am 17), .ref (am 18), .ref (am 19), .int (nI pn), .int (nI qn), .ref (am 22), .ref (am 23), .ref (am 24), .ref (am 25), .ref (am 26), .ref (am 27), .ref (am 28), .ref (am 29), .ref (am 30), .ref (am 31), .ref (am 32), .ref (am 33), .ref (am 34), .int zss, .int zsy, .int zpy, .int zfs, .int zls, .int (nI an), .ref (am 41), .ref (am 42), .ref (am 43), .ref (am 44), .ref (am 45), .ref (am 46), .ref (am 47), .ref (am 48), .ref (am 49), .ref (am 50), .int (nI zw), .ref (am 52), .ref (am 53)])), (am 44, .inl (cy 0, 40, .inl ast)), (am 45, .inl (cy 0, 40, .inl (upd ayes ((x.toInt).toNat) y1))), (am 46, .inl (cy 0, 40, .inl (upd ano ((x.toInt).toNat) n1)))] H := hP.sub [0, 1, 2, 3] rfl
          have hD9 : va_D A [(am 0, .inr (12, [.ref (am 1), .ref (am 2), .ref (am 3), .ref (am 4), .int (nI tn), .int (nI zsz), .int (nI zfr), .int (nI zbe), .int zha, .int zva, .int fk, .int fp, .ref (am 13), .int (nI sn), .ref (am 15), .ref (am 16), .ref (am 17), .ref (am 18), .ref (am 19), .int (nI pn), .int (nI qn), .ref (am 22), .ref (am 23), .ref (am 24), .ref (am 25), .ref (am 26), .ref (am 27), .ref (am 28), .ref (am 29), .ref (am 30), .ref (am 31), .ref (am 32), .ref (am 33), .ref (am 34), .int zss, .int zsy, .int zpy, .int zfs, .int zls, .int (nI an), .ref (am 41), .ref (am 42), .ref (am 43), .ref (am 44), .ref (am 45), .ref (am 46), .ref (am 47), .ref (am 48), .ref (am 49), .ref (am 50), .int (nI zw), .ref (am 52), .ref (am 53)])), (am 44, .inl (cy 0, 40, .inl ast)), (am 45, .inl (cy 0, 40, .inl (upd ayes ((x.toInt).toNat) y1))), (am 46, .inl (cy 0, 40, .inl (upd ano ((x.toInt).toNat) n1)))] := hD.sub [0, 1, 2, 3] (by decide) rfl
          have hpost : ((¬ ((0 ≤ x.toInt ∧ x.toInt < ((an : Nat) : Int)) ∧ (0 ≤ y1.toInt ∧ y1.toInt ≤ 99) ∧ (0 ≤ n1.toInt ∧ n1.toInt ≤ 99))) → (1 : Int32) = -2 ∧ (upd ayes ((x.toInt).toNat) y1) = ayes ∧ (upd ano ((x.toInt).toNat) n1) = ano) ∧ ((((0 ≤ x.toInt ∧ x.toInt < ((an : Nat) : Int)) ∧ (0 ≤ y1.toInt ∧ y1.toInt ≤ 99) ∧ (0 ≤ n1.toInt ∧ n1.toInt ≤ 99)) ∧ (ast (x.toInt.toNat)).toInt ≠ 0) → (1 : Int32) = -4 ∧ (upd ayes ((x.toInt).toNat) y1) = ayes ∧ (upd ano ((x.toInt).toNat) n1) = ano) ∧ ((((0 ≤ x.toInt ∧ x.toInt < ((an : Nat) : Int)) ∧ (0 ≤ y1.toInt ∧ y1.toInt ≤ 99) ∧ (0 ≤ n1.toInt ∧ n1.toInt ≤ 99)) ∧ (ast (x.toInt.toNat)).toInt = 0) → (1 : Int32) = 1 ∧ (upd ayes ((x.toInt).toNat) y1) = upd ayes (x.toInt.toNat) y1 ∧ (upd ano ((x.toInt).toNat) n1) = upd ano (x.toInt.toNat) n1) := by
            refine ⟨fun h9 => ?_, fun h9 => ?_, fun h9 => ?_⟩ <;> first | (exfalso; omega) | (refine ⟨?_, ?_, ?_⟩ <;> first | assumption | rfl)
          exact W.iret (v := 1) hx hb hr (fun t9 ht hW => ⟨⟨1, (upd ayes ((x.toInt).toNat) y1, upd ano ((x.toInt).toNat) n1), rfl, hpost, by rw [ht]; exact hP9, va_K.moved hW.alike hK, hD9⟩, hS.F ht⟩) hS.2.2 dX12_vote_62
        · skip
          refine lv_bipush (v := (-4)) hx hb dX12_vote_44 (by decide) ?_
          subst hQ
          have hP9 : va_P (dC, dI) vwCl [(am 0, .inr (12, [.ref (am 1), .ref (am 2), .ref (am 3), .ref (am 4), .int (nI tn), .int (nI zsz), .int (nI zfr), .int (nI zbe), .int zha, .int zva, .int fk, .int fp, .ref (am 13), .int (nI sn), .ref (am 15), .ref (am 16), .ref (am 17), .ref (am 18), .ref (am 19), .int (nI pn), .int (nI qn), .ref (am 22), .ref (am 23), .ref (am 24), .ref (am 25), .ref (am 26), .ref (am 27), .ref (am 28), .ref (am 29), .ref (am 30), .ref (am 31), .ref (am 32), .ref (am 33), .ref (am 34), .int zss, .int zsy, .int zpy, .int zfs, .int zls, .int (nI an), .ref (am 41), .ref (am 42), .ref (am 43), .ref (am 44), .ref (am 45), .ref (am 46), .ref (am 47), .ref (am 48), .ref (am 49), .ref (am 50), .int (nI zw), .ref (am 52), .ref (am 53)])), (am 44, .inl (cy 0, 40, .inl ast)), (am 45, .inl (cy 0, 40, .inl ayes)), (am 46, .inl (cy 0, 40, .inl ano))] H := hP.sub [0, 1, 2, 3] rfl
          have hD9 : va_D A [(am 0, .inr (12, [.ref (am 1), .ref (am 2), .ref (am 3), .ref (am 4), .int (nI tn), .int (nI zsz), .int (nI zfr), .int (nI zbe), .int zha, .int zva, .int fk, .int fp, .ref (am 13), .int (nI sn), .ref (am 15), .ref (am 16), .ref (am 17), .ref (am 18), .ref (am 19), .int (nI pn), .int (nI qn), .ref (am 22), .ref (am 23), .ref (am 24), .ref (am 25), .ref (am 26), .ref (am 27), .ref (am 28), .ref (am 29), .ref (am 30), .ref (am 31), .ref (am 32), .ref (am 33), .ref (am 34), .int zss, .int zsy, .int zpy, .int zfs, .int zls, .int (nI an), .ref (am 41), .ref (am 42), .ref (am 43), .ref (am 44), .ref (am 45), .ref (am 46), .ref (am 47), .ref (am 48), .ref (am 49), .ref (am 50), .int (nI zw), .ref (am 52), .ref (am 53)])), (am 44, .inl (cy 0, 40, .inl ast)), (am 45, .inl (cy 0, 40, .inl ayes)), (am 46, .inl (cy 0, 40, .inl ano))] := hD.sub [0, 1, 2, 3] (by decide) rfl
          have hpost : ((¬ ((0 ≤ x.toInt ∧ x.toInt < ((an : Nat) : Int)) ∧ (0 ≤ y1.toInt ∧ y1.toInt ≤ 99) ∧ (0 ≤ n1.toInt ∧ n1.toInt ≤ 99))) → ((-4) : Int32) = -2 ∧ ayes = ayes ∧ ano = ano) ∧ ((((0 ≤ x.toInt ∧ x.toInt < ((an : Nat) : Int)) ∧ (0 ≤ y1.toInt ∧ y1.toInt ≤ 99) ∧ (0 ≤ n1.toInt ∧ n1.toInt ≤ 99)) ∧ (ast (x.toInt.toNat)).toInt ≠ 0) → ((-4) : Int32) = -4 ∧ ayes = ayes ∧ ano = ano) ∧ ((((0 ≤ x.toInt ∧ x.toInt < ((an : Nat) : Int)) ∧ (0 ≤ y1.toInt ∧ y1.toInt ≤ 99) ∧ (0 ≤ n1.toInt ∧ n1.toInt ≤ 99)) ∧ (ast (x.toInt.toNat)).toInt = 0) → ((-4) : Int32) = 1 ∧ ayes = upd ayes (x.toInt.toNat) y1 ∧ ano = upd ano (x.toInt.toNat) n1) := by
            refine ⟨fun h9 => ?_, fun h9 => ?_, fun h9 => ?_⟩ <;> first | (exfalso; omega) | (refine ⟨?_, ?_, ?_⟩ <;> first | assumption | rfl)
          exact W.iret (v := (-4)) hx hb hr (fun t9 ht hW => ⟨⟨(-4), (ayes, ano), rfl, hpost, by rw [ht]; exact hP9, va_K.moved hW.alike hK, hD9⟩, hS.F ht⟩) hS.2.2 dX12_vote_46
      · skip
        refine lv_bipush (v := (-2)) hx hb dX12_vote_32 (by decide) ?_
        subst hQ
        have hP9 : va_P (dC, dI) vwCl [(am 0, .inr (12, [.ref (am 1), .ref (am 2), .ref (am 3), .ref (am 4), .int (nI tn), .int (nI zsz), .int (nI zfr), .int (nI zbe), .int zha, .int zva, .int fk, .int fp, .ref (am 13), .int (nI sn), .ref (am 15), .ref (am 16), .ref (am 17), .ref (am 18), .ref (am 19), .int (nI pn), .int (nI qn), .ref (am 22), .ref (am 23), .ref (am 24), .ref (am 25), .ref (am 26), .ref (am 27), .ref (am 28), .ref (am 29), .ref (am 30), .ref (am 31), .ref (am 32), .ref (am 33), .ref (am 34), .int zss, .int zsy, .int zpy, .int zfs, .int zls, .int (nI an), .ref (am 41), .ref (am 42), .ref (am 43), .ref (am 44), .ref (am 45), .ref (am 46), .ref (am 47), .ref (am 48), .ref (am 49), .ref (am 50), .int (nI zw), .ref (am 52), .ref (am 53)])), (am 44, .inl (cy 0, 40, .inl ast)), (am 45, .inl (cy 0, 40, .inl ayes)), (am 46, .inl (cy 0, 40, .inl ano))] H := hP.sub [0, 1, 2, 3] rfl
        have hD9 : va_D A [(am 0, .inr (12, [.ref (am 1), .ref (am 2), .ref (am 3), .ref (am 4), .int (nI tn), .int (nI zsz), .int (nI zfr), .int (nI zbe), .int zha, .int zva, .int fk, .int fp, .ref (am 13), .int (nI sn), .ref (am 15), .ref (am 16), .ref (am 17), .ref (am 18), .ref (am 19), .int (nI pn), .int (nI qn), .ref (am 22), .ref (am 23), .ref (am 24), .ref (am 25), .ref (am 26), .ref (am 27), .ref (am 28), .ref (am 29), .ref (am 30), .ref (am 31), .ref (am 32), .ref (am 33), .ref (am 34), .int zss, .int zsy, .int zpy, .int zfs, .int zls, .int (nI an), .ref (am 41), .ref (am 42), .ref (am 43), .ref (am 44), .ref (am 45), .ref (am 46), .ref (am 47), .ref (am 48), .ref (am 49), .ref (am 50), .int (nI zw), .ref (am 52), .ref (am 53)])), (am 44, .inl (cy 0, 40, .inl ast)), (am 45, .inl (cy 0, 40, .inl ayes)), (am 46, .inl (cy 0, 40, .inl ano))] := hD.sub [0, 1, 2, 3] (by decide) rfl
        have hpost : ((¬ ((0 ≤ x.toInt ∧ x.toInt < ((an : Nat) : Int)) ∧ (0 ≤ y1.toInt ∧ y1.toInt ≤ 99) ∧ (0 ≤ n1.toInt ∧ n1.toInt ≤ 99))) → ((-2) : Int32) = -2 ∧ ayes = ayes ∧ ano = ano) ∧ ((((0 ≤ x.toInt ∧ x.toInt < ((an : Nat) : Int)) ∧ (0 ≤ y1.toInt ∧ y1.toInt ≤ 99) ∧ (0 ≤ n1.toInt ∧ n1.toInt ≤ 99)) ∧ (ast (x.toInt.toNat)).toInt ≠ 0) → ((-2) : Int32) = -4 ∧ ayes = ayes ∧ ano = ano) ∧ ((((0 ≤ x.toInt ∧ x.toInt < ((an : Nat) : Int)) ∧ (0 ≤ y1.toInt ∧ y1.toInt ≤ 99) ∧ (0 ≤ n1.toInt ∧ n1.toInt ≤ 99)) ∧ (ast (x.toInt.toNat)).toInt = 0) → ((-2) : Int32) = 1 ∧ ayes = upd ayes (x.toInt.toNat) y1 ∧ ano = upd ano (x.toInt.toNat) n1) := by
          refine ⟨fun h9 => ?_, fun h9 => ?_, fun h9 => ?_⟩ <;> first | (exfalso; omega) | (refine ⟨?_, ?_, ?_⟩ <;> first | assumption | rfl)
        exact W.iret (v := (-2)) hx hb hr (fun t9 ht hW => ⟨⟨(-2), (ayes, ano), rfl, hpost, by rw [ht]; exact hP9, va_K.moved hW.alike hK, hD9⟩, hS.F ht⟩) hS.2.2 dX12_vote_34

set_option maxHeartbeats 4000000 in
set_option maxRecDepth 100000 in
theorem c_X12_isPlaque (l : Launch) (dC : Nat → ClassId) (dI : Nat → Nat → Nat) (cy : Nat → ClassId) (am : Nat → Nat) (tn : Nat) (zsz : Nat) (zfr : Nat) (zbe : Nat) (zha : Int32) (zva : Int32) (fk : Int32) (fp : Int32) (sn : Nat) (pn : Nat) (qn : Nat) (zss : Int32) (zsy : Int32) (zpy : Int32) (zfs : Int32) (zls : Int32) (an : Nat) (zw : Nat) (ast : Nat → Int32) (x : Int32) (han : an ≤ 40) : Met l yX12_isPlaque wsX12_isPlaque ({ frames := 2, cells := 0, slots := 0, locals := 46 }) (va_Pc [.ref (am 0), .int x] (fun U => va_P (dC, dI) vwCl [(am 0, .inr (12, [.ref (am 1), .ref (am 2), .ref (am 3), .ref (am 4), .int (nI tn), .int (nI zsz), .int (nI zfr), .int (nI zbe), .int zha, .int zva, .int fk, .int fp, .ref (am 13), .int (nI sn), .ref (am 15), .ref (am 16), .ref (am 17), .ref (am 18), .ref (am 19), .int (nI pn), .int (nI qn), .ref (am 22), .ref (am 23), .ref (am 24), .ref (am 25), .ref (am 26), .ref (am 27), .ref (am 28), .ref (am 29), .ref (am 30), .ref (am 31), .ref (am 32), .ref (am 33), .ref (am 34), .int zss, .int zsy, .int zpy, .int zfs, .int zls, .int (nI an), .ref (am 41), .ref (am 42), .ref (am 43), .ref (am 44), .ref (am 45), .ref (am 46), .ref (am 47), .ref (am 48), .ref (am 49), .ref (am 50), .int (nI zw), .ref (am 52), .ref (am 53)])), (am 44, .inl (cy 0, 40, .inl ast))] U.heap ∧ va_K (dC, dI) vwCl (tyL cy) U)) (vp_Si (fun r => r = if (0 ≤ x.toInt ∧ x.toInt < ((an : Nat) : Int)) ∧ ((ast (x.toInt.toNat)).toInt = 3 ∨ (ast (x.toInt.toNat)).toInt = 4) then 1 else 0)) 0 0 (fun _ => False) := by
  refine Met.ofW (cc := cX12_isPlaque) (maxL := 2) (ret := (some .boolean)) (by decide) rfl ?_
  intro pp ee ss mm args below meth cc0 s₁ B hml hv
  obtain ⟨rfl, hP, hK⟩ := hv
  have hx := B.exec
  have hb := B.bytes
  have hr := B.returns
  have hts := atoms_spec (ws := wsX12_isPlaque) B.pre
  have hown : ss.vm.findClass RX12 = some mm.cls := findClass_of_methodNamed B.named
  have hlocks := B.notSynchronized
  have hL0 := hts (.fieldLink RX12 190 "HereLivedModel" "state" "[I") (by decide +kernel)
  have hiX12 : ∀ w ∈ wsX120, w ∈ wsX12_isPlaque := by decide +kernel
  have hl := lv_entry ([.ref (am 0), .int x]) (n := 2) (Nat.le_of_ble_eq_true rfl)
  rw [lg_entry_eq]
  generalize (lg_sl ([.ref (am 0), .int x]) ++ List.replicate (2 - (lg_sl ([.ref (am 0), .int x])).length) Slot.unset).toArray = ls at hl ⊢
  have hl : lv_has ls 2 [(0, .ref (am 0)), (1, .int x)] := hl
  refine bw_Q (fun Q hQ => ?_)
  change W pp l ee { frames := 2, cells := 0, slots := 0, locals := 46 } ss mm _ below meth cc0 ss.heap [] 0 0 Q (F0 mm 0 ls [])
  refine lv_aload_n hx hb dX12_isPlaque_0 rfl (lv_at hl 0 rfl) ?_
  refine lv_iload_n hx hb dX12_isPlaque_1 rfl (lv_at hl 1 rfl) ?_
  have hPc : va_P (dC, dI) vwCl [(am 0, .inr (12, [.ref (am 1), .ref (am 2), .ref (am 3), .ref (am 4), .int (nI tn), .int (nI zsz), .int (nI zfr), .int (nI zbe), .int zha, .int zva, .int fk, .int fp, .ref (am 13), .int (nI sn), .ref (am 15), .ref (am 16), .ref (am 17), .ref (am 18), .ref (am 19), .int (nI pn), .int (nI qn), .ref (am 22), .ref (am 23), .ref (am 24), .ref (am 25), .ref (am 26), .ref (am 27), .ref (am 28), .ref (am 29), .ref (am 30), .ref (am 31), .ref (am 32), .ref (am 33), .ref (am 34), .int zss, .int zsy, .int zpy, .int zfs, .int zls, .int (nI an), .ref (am 41), .ref (am 42), .ref (am 43), .ref (am 44), .ref (am 45), .ref (am 46), .ref (am 47), .ref (am 48), .ref (am 49), .ref (am 50), .int (nI zw), .ref (am 52), .ref (am 53)]))] ss.heap := hP.sub [0] rfl
  refine vp_callSi (va_Run.run (va_runV (As := [.int x]) (rest := []) ⟨hx, hb, hml, hown, hts⟩ (c_X12_isAsking l dC dI cy am tn zsz zfr zbe zha zva fk fp sn pn qn zss zsy zpy zfs zls an zw x (by first | assumption | omega)) (cwV 1 hts gX12_isPlaque_X12_isAsking rfl rfl rfl (by decide +kernel) ⟨Nat.le_of_ble_eq_true rfl, Nat.le_of_ble_eq_true rfl⟩) ⟨fun a U g mk q => by obtain ⟨q0, qP, qK⟩ := q; exact ⟨q0, qP, va_K.moved (u := U) (U := U.calling g mk a) (Vm.Alike.refl U.vm) qK⟩, va_recv hK hPc (ci := 12) (q0 := 0) rfl rfl, fun U hU hW => ⟨rfl, by rw [hU]; exact hPc, va_K.moved hW.alike hK⟩⟩ rfl rfl hl.1 rfl (lv_room (Nat.le_of_ble_eq_true rfl)) dX12_isPlaque_2 ⟨Nat.le_of_ble_eq_true rfl, Nat.le_of_ble_eq_true rfl⟩)) (fun r_1 hr_1 => ?_)
  refine bw_ifeqB (tgt := 32) hx hb dX12_isPlaque_5 (by decide) hr_1 (fun c_2 => ?_) (fun c_2 => ?_)
  · skip
    refine lv_iconst (v := 0) hx hb dX12_isPlaque_32 (by decide) ?_
    subst hQ
    have hpost : (0 : Int32) = if (0 ≤ x.toInt ∧ x.toInt < ((an : Nat) : Int)) ∧ ((ast (x.toInt.toNat)).toInt = 3 ∨ (ast (x.toInt.toNat)).toInt = 4) then 1 else 0 := by
      first | rw [if_pos (by omega)] | rw [if_neg (by omega)]
    exact W.zret (v := 0) hx hb hr (by rfl) (fun t9 ht hW => ⟨_, rfl, hpost, by rw [ht]⟩) (fun q h => by cases h) dX12_isPlaque_33
  · skip
    refine lv_aload_n hx hb dX12_isPlaque_8 rfl (lv_at hl 0 rfl) ?_
    refine va_get (D := (dC, dI)) (ci := 12) (v := .ref (am 44)) (C := RX12) (T := TX12) (N := 53) hx hb hts hiX12 hown hK hP 0 rfl rfl 43 (by decide) hL0 (fun _ h9 => h9) rfl dX12_isPlaque_9 ?_
    refine lv_iload_n hx hb dX12_isPlaque_12 rfl (lv_at hl 1 rfl) ?_
    refine bw_iald hx hb hK hP 1 0 rfl rfl (j := (x.toInt).toNat) (by omega) (by omega) dX12_isPlaque_13 ?_
    refine lv_iconst (v := 3) hx hb dX12_isPlaque_14 (by decide) ?_
    refine bw_icmp_eq (tgt := 28) (a := (ast ((x.toInt).toNat)).toInt) (b := 3) hx hb dX12_isPlaque_15 (by decide) rfl rfl (fun c_3 => ?_) (fun c_3 => ?_)
    · skip
      refine lv_iconst (v := 1) hx hb dX12_isPlaque_28 (by decide) ?_
      refine lv_goto (tgt := 33) hx hb dX12_isPlaque_29 (by decide) ?_
      subst hQ
      have hpost : (1 : Int32) = if (0 ≤ x.toInt ∧ x.toInt < ((an : Nat) : Int)) ∧ ((ast (x.toInt.toNat)).toInt = 3 ∨ (ast (x.toInt.toNat)).toInt = 4) then 1 else 0 := by
        first | rw [if_pos (by omega)] | rw [if_neg (by omega)]
      exact W.zret (v := 1) hx hb hr (by rfl) (fun t9 ht hW => ⟨_, rfl, hpost, by rw [ht]⟩) (fun q h => by cases h) dX12_isPlaque_33
    · skip
      refine lv_aload_n hx hb dX12_isPlaque_18 rfl (lv_at hl 0 rfl) ?_
      refine va_get (D := (dC, dI)) (ci := 12) (v := .ref (am 44)) (C := RX12) (T := TX12) (N := 53) hx hb hts hiX12 hown hK hP 0 rfl rfl 43 (by decide) hL0 (fun _ h9 => h9) rfl dX12_isPlaque_19 ?_
      refine lv_iload_n hx hb dX12_isPlaque_22 rfl (lv_at hl 1 rfl) ?_
      refine bw_iald hx hb hK hP 1 0 rfl rfl (j := (x.toInt).toNat) (by omega) (by omega) dX12_isPlaque_23 ?_
      refine lv_iconst (v := 4) hx hb dX12_isPlaque_24 (by decide) ?_
      refine bw_icmp_ne (tgt := 32) (a := (ast ((x.toInt).toNat)).toInt) (b := 4) hx hb dX12_isPlaque_25 (by decide) rfl rfl (fun c_4 => ?_) (fun c_4 => ?_)
      · skip
        refine lv_iconst (v := 0) hx hb dX12_isPlaque_32 (by decide) ?_
        subst hQ
        have hpost : (0 : Int32) = if (0 ≤ x.toInt ∧ x.toInt < ((an : Nat) : Int)) ∧ ((ast (x.toInt.toNat)).toInt = 3 ∨ (ast (x.toInt.toNat)).toInt = 4) then 1 else 0 := by
          first | rw [if_pos (by omega)] | rw [if_neg (by omega)]
        exact W.zret (v := 0) hx hb hr (by rfl) (fun t9 ht hW => ⟨_, rfl, hpost, by rw [ht]⟩) (fun q h => by cases h) dX12_isPlaque_33
      · skip
        refine lv_iconst (v := 1) hx hb dX12_isPlaque_28 (by decide) ?_
        refine lv_goto (tgt := 33) hx hb dX12_isPlaque_29 (by decide) ?_
        subst hQ
        have hpost : (1 : Int32) = if (0 ≤ x.toInt ∧ x.toInt < ((an : Nat) : Int)) ∧ ((ast (x.toInt.toNat)).toInt = 3 ∨ (ast (x.toInt.toNat)).toInt = 4) then 1 else 0 := by
          first | rw [if_pos (by omega)] | rw [if_neg (by omega)]
        exact W.zret (v := 1) hx hb hr (by rfl) (fun t9 ht hW => ⟨_, rfl, hpost, by rw [ht]⟩) (fun q h => by cases h) dX12_isPlaque_33

set_option maxHeartbeats 4000000 in
set_option maxRecDepth 100000 in
theorem c_X12_line (l : Launch) (dC : Nat → ClassId) (dI : Nat → Nat → Nat) (cy : Nat → ClassId) (am : Nat → Nat) (tn : Nat) (zsz : Nat) (zfr : Nat) (zbe : Nat) (zha : Int32) (zva : Int32) (fk : Int32) (fp : Int32) (sn : Nat) (pn : Nat) (qn : Nat) (zss : Int32) (zsy : Int32) (zpy : Int32) (zfs : Int32) (zls : Int32) (an : Nat) (zw : Nat) (ast : Nat → Int32) (aln : Nat → Int32) (alw : Nat → Int32) (x : Int32) (y : Int32) (han : an ≤ 40) (haln : ∀ k, k < an → (aln k).toInt ≤ 8) (halm : ∀ k, k < an → -1 ≤ (aln k).toInt) : Met l yX12_line wsX12_line ({ frames := 3, cells := 0, slots := 0, locals := 67 }) (va_Pc [.ref (am 0), .int x, .int y] (fun U => va_P (dC, dI) vwCl [(am 0, .inr (12, [.ref (am 1), .ref (am 2), .ref (am 3), .ref (am 4), .int (nI tn), .int (nI zsz), .int (nI zfr), .int (nI zbe), .int zha, .int zva, .int fk, .int fp, .ref (am 13), .int (nI sn), .ref (am 15), .ref (am 16), .ref (am 17), .ref (am 18), .ref (am 19), .int (nI pn), .int (nI qn), .ref (am 22), .ref (am 23), .ref (am 24), .ref (am 25), .ref (am 26), .ref (am 27), .ref (am 28), .ref (am 29), .ref (am 30), .ref (am 31), .ref (am 32), .ref (am 33), .ref (am 34), .int zss, .int zsy, .int zpy, .int zfs, .int zls, .int (nI an), .ref (am 41), .ref (am 42), .ref (am 43), .ref (am 44), .ref (am 45), .ref (am 46), .ref (am 47), .ref (am 48), .ref (am 49), .ref (am 50), .int (nI zw), .ref (am 52), .ref (am 53)])), (am 44, .inl (cy 0, 40, .inl ast)), (am 48, .inl (cy 0, 40, .inl aln)), (am 49, .inl (cy 0, 320, .inl alw))] U.heap ∧ va_K (dC, dI) vwCl (tyL cy) U)) (vp_Si (fun r => ((¬ ((0 ≤ x.toInt ∧ x.toInt < ((an : Nat) : Int)) ∧ ((ast (x.toInt.toNat)).toInt = 3 ∨ (ast (x.toInt.toNat)).toInt = 4))) → r = -2) ∧ ((((0 ≤ x.toInt ∧ x.toInt < ((an : Nat) : Int)) ∧ ((ast (x.toInt.toNat)).toInt = 3 ∨ (ast (x.toInt.toNat)).toInt = 4)) ∧ (0 ≤ y.toInt ∧ y.toInt < (aln (x.toInt.toNat)).toInt)) → r = alw ((x.toInt.toNat) * 8 + y.toInt.toNat)) ∧ ((((0 ≤ x.toInt ∧ x.toInt < ((an : Nat) : Int)) ∧ ((ast (x.toInt.toNat)).toInt = 3 ∨ (ast (x.toInt.toNat)).toInt = 4)) ∧ ¬ (0 ≤ y.toInt ∧ y.toInt < (aln (x.toInt.toNat)).toInt)) → r = -1))) 0 0 (fun _ => False) := by
  refine Met.ofW (cc := cX12_line) (maxL := 3) (ret := (some .int)) (by decide) rfl ?_
  intro pp ee ss mm args below meth cc0 s₁ B hml hv
  obtain ⟨rfl, hP, hK⟩ := hv
  have hx := B.exec
  have hb := B.bytes
  have hr := B.returns
  have hts := atoms_spec (ws := wsX12_line) B.pre
  have hown : ss.vm.findClass RX12 = some mm.cls := findClass_of_methodNamed B.named
  have hlocks := B.notSynchronized
  have hL0 := hts (.fieldLink RX12 200 "HereLivedModel" "lineMany" "[I") (by decide +kernel)
  have hL1 := hts (.fieldLink RX12 203 "HereLivedModel" "lineWords" "[I") (by decide +kernel)
  have hiX12 : ∀ w ∈ wsX120, w ∈ wsX12_line := by decide +kernel
  have hl := lv_entry ([.ref (am 0), .int x, .int y]) (n := 3) (Nat.le_of_ble_eq_true rfl)
  rw [lg_entry_eq]
  generalize (lg_sl ([.ref (am 0), .int x, .int y]) ++ List.replicate (3 - (lg_sl ([.ref (am 0), .int x, .int y])).length) Slot.unset).toArray = ls at hl ⊢
  have hl : lv_has ls 3 [(0, .ref (am 0)), (1, .int x), (2, .int y)] := hl
  refine bw_Q (fun Q hQ => ?_)
  change W pp l ee { frames := 3, cells := 0, slots := 0, locals := 67 } ss mm _ below meth cc0 ss.heap [] 0 0 Q (F0 mm 0 ls [])
  refine lv_aload_n hx hb dX12_line_0 rfl (lv_at hl 0 rfl) ?_
  refine lv_iload_n hx hb dX12_line_1 rfl (lv_at hl 1 rfl) ?_
  have hPc : va_P (dC, dI) vwCl [(am 0, .inr (12, [.ref (am 1), .ref (am 2), .ref (am 3), .ref (am 4), .int (nI tn), .int (nI zsz), .int (nI zfr), .int (nI zbe), .int zha, .int zva, .int fk, .int fp, .ref (am 13), .int (nI sn), .ref (am 15), .ref (am 16), .ref (am 17), .ref (am 18), .ref (am 19), .int (nI pn), .int (nI qn), .ref (am 22), .ref (am 23), .ref (am 24), .ref (am 25), .ref (am 26), .ref (am 27), .ref (am 28), .ref (am 29), .ref (am 30), .ref (am 31), .ref (am 32), .ref (am 33), .ref (am 34), .int zss, .int zsy, .int zpy, .int zfs, .int zls, .int (nI an), .ref (am 41), .ref (am 42), .ref (am 43), .ref (am 44), .ref (am 45), .ref (am 46), .ref (am 47), .ref (am 48), .ref (am 49), .ref (am 50), .int (nI zw), .ref (am 52), .ref (am 53)])), (am 44, .inl (cy 0, 40, .inl ast))] ss.heap := hP.sub [0, 1] rfl
  refine vp_callSi (va_Run.run (va_runV (As := [.int x]) (rest := []) ⟨hx, hb, hml, hown, hts⟩ (c_X12_isPlaque l dC dI cy am tn zsz zfr zbe zha zva fk fp sn pn qn zss zsy zpy zfs zls an zw ast x (by first | assumption | omega)) (cwV 1 hts gX12_line_X12_isPlaque rfl rfl rfl (by decide +kernel) ⟨Nat.le_of_ble_eq_true rfl, Nat.le_of_ble_eq_true rfl⟩) ⟨fun a U g mk q => by obtain ⟨q0, qP, qK⟩ := q; exact ⟨q0, qP, va_K.moved (u := U) (U := U.calling g mk a) (Vm.Alike.refl U.vm) qK⟩, va_recv hK hPc (ci := 12) (q0 := 0) rfl rfl, fun U hU hW => ⟨rfl, by rw [hU]; exact hPc, va_K.moved hW.alike hK⟩⟩ rfl rfl hl.1 rfl (lv_room (Nat.le_of_ble_eq_true rfl)) dX12_line_2 ⟨Nat.le_of_ble_eq_true rfl, Nat.le_of_ble_eq_true rfl⟩)) (fun r_1 hr_1 => ?_)
  refine bw_ifneB (tgt := 13) hx hb dX12_line_5 (by decide) hr_1 (fun c_2 => ?_) (fun c_2 => ?_)
  · skip
    have q9 := haln x.toInt.toNat (by omega)
    have q8 := halm x.toInt.toNat (by omega)
    refine lv_iload_n hx hb dX12_line_13 rfl (lv_at hl 2 rfl) ?_
    refine lv_i2l hx hb dX12_line_14 rfl ?_
    refine bw_nmL (a := y.toInt) (tI_i2l rfl) (fun w_3 ew_3 tw_3 => ?_)
    refine lv_lconst (v := 0) hx hb dX12_line_15 (by decide) ?_
    refine lv_aload_n hx hb dX12_line_16 rfl (lv_at hl 0 rfl) ?_
    refine va_get (D := (dC, dI)) (ci := 12) (v := .ref (am 48)) (C := RX12) (T := TX12) (N := 53) hx hb hts hiX12 hown hK hP 0 rfl rfl 47 (by decide) hL0 (fun _ h9 => h9) rfl dX12_line_17 ?_
    refine lv_iload_n hx hb dX12_line_20 rfl (lv_at hl 1 rfl) ?_
    refine bw_iald hx hb hK hP 2 0 rfl rfl (j := (x.toInt).toNat) (by omega) (by omega) dX12_line_21 ?_
    refine lv_i2l hx hb dX12_line_22 rfl ?_
    refine bw_nmL (a := (aln ((x.toInt).toNat)).toInt) (tI_i2l rfl) (fun w_4 ew_4 tw_4 => ?_)
    refine lv_lconst (v := 1) hx hb dX12_line_23 (by decide) ?_
    refine lv_lsub hx hb dX12_line_24 ?_
    refine bw_nmL (a := ((aln ((x.toInt).toNat)).toInt - 1)) (tL_sub tw_4 rfl (by omega) (by omega)) (fun w_5 ew_5 tw_5 => ?_)
    refine vp_callSi (va_Run.run (va_runS (As := [.long w_3, .long 0, .long w_5]) (rest := []) ⟨hx, hb, hml, hown, hts⟩ (c_X12_in l dC dI cy w_3 0 w_5 y.toInt 0 ((aln ((x.toInt).toNat)).toInt - 1) (tw_3) (rfl) (tw_5)) (va_cwS 3 hts gX12_line_X12_in rfl rfl rfl (by decide +kernel) ⟨Nat.le_of_ble_eq_true rfl, Nat.le_of_ble_eq_true rfl⟩) ⟨fun a U g mk q => q, fun U hU hW => ⟨rfl, trivial⟩⟩ rfl rfl hl.1 rfl (lv_room (Nat.le_of_ble_eq_true rfl)) dX12_line_25 ⟨Nat.le_of_ble_eq_true rfl, Nat.le_of_ble_eq_true rfl⟩)) (fun r_6 hr_6 => ?_)
    refine bw_ifeqB (tgt := 45) hx hb dX12_line_28 (by decide) hr_6 (fun c_7 => ?_) (fun c_7 => ?_)
    · skip
      refine lv_iconst (v := (-1)) hx hb dX12_line_45 (by decide) ?_
      subst hQ
      have hpost : ((¬ ((0 ≤ x.toInt ∧ x.toInt < ((an : Nat) : Int)) ∧ ((ast (x.toInt.toNat)).toInt = 3 ∨ (ast (x.toInt.toNat)).toInt = 4))) → ((-1) : Int32) = -2) ∧ ((((0 ≤ x.toInt ∧ x.toInt < ((an : Nat) : Int)) ∧ ((ast (x.toInt.toNat)).toInt = 3 ∨ (ast (x.toInt.toNat)).toInt = 4)) ∧ (0 ≤ y.toInt ∧ y.toInt < (aln (x.toInt.toNat)).toInt)) → ((-1) : Int32) = alw ((x.toInt.toNat) * 8 + y.toInt.toNat)) ∧ ((((0 ≤ x.toInt ∧ x.toInt < ((an : Nat) : Int)) ∧ ((ast (x.toInt.toNat)).toInt = 3 ∨ (ast (x.toInt.toNat)).toInt = 4)) ∧ ¬ (0 ≤ y.toInt ∧ y.toInt < (aln (x.toInt.toNat)).toInt)) → ((-1) : Int32) = -1) := by
        refine ⟨fun h9 => ?_, fun h9 => ?_, fun h9 => ?_⟩ <;> first | (exfalso; omega) | (first | assumption | rfl)
      exact W.iret (v := (-1)) hx hb hr (fun t9 ht hW => ⟨_, rfl, hpost, by rw [ht]⟩) (fun q h => by cases h) dX12_line_46
    · skip
      refine lv_aload_n hx hb dX12_line_31 rfl (lv_at hl 0 rfl) ?_
      refine va_get (D := (dC, dI)) (ci := 12) (v := .ref (am 49)) (C := RX12) (T := TX12) (N := 53) hx hb hts hiX12 hown hK hP 0 rfl rfl 48 (by decide) hL1 (fun _ h9 => h9) rfl dX12_line_32 ?_
      refine lv_bipush (v := 8) hx hb dX12_line_35 (by decide) ?_
      refine lv_iload_n hx hb dX12_line_37 rfl (lv_at hl 1 rfl) ?_
      refine bw_re (show x = nI x.toInt.toNat from nI_back (by omega)) ?_
      refine lv_imul hx hb dX12_line_38 ?_
      refine bw_re (show 8 * (nI x.toInt.toNat) = nI (8 * x.toInt.toNat) from pk_mul (8) (x.toInt.toNat)) ?_
      refine lv_iload_n hx hb dX12_line_39 rfl (lv_at hl 2 rfl) ?_
      refine bw_re (show y = nI y.toInt.toNat from nI_back (by omega)) ?_
      refine lv_iadd hx hb dX12_line_40 ?_
      refine bw_re (show (nI (8 * x.toInt.toNat)) + (nI y.toInt.toNat) = nI (8 * x.toInt.toNat + y.toInt.toNat) from nI_add (8 * x.toInt.toNat) (y.toInt.toNat)) ?_
      refine bw_iald hx hb hK hP 3 0 rfl rfl (j := (x.toInt.toNat * 8 + y.toInt.toNat)) ((nI_toInt (by omega)).trans (by omega)) (by omega) dX12_line_41 ?_
      refine lv_goto (tgt := 46) hx hb dX12_line_42 (by decide) ?_
      subst hQ
      have hpost : ((¬ ((0 ≤ x.toInt ∧ x.toInt < ((an : Nat) : Int)) ∧ ((ast (x.toInt.toNat)).toInt = 3 ∨ (ast (x.toInt.toNat)).toInt = 4))) → (alw (x.toInt.toNat * 8 + y.toInt.toNat)) = -2) ∧ ((((0 ≤ x.toInt ∧ x.toInt < ((an : Nat) : Int)) ∧ ((ast (x.toInt.toNat)).toInt = 3 ∨ (ast (x.toInt.toNat)).toInt = 4)) ∧ (0 ≤ y.toInt ∧ y.toInt < (aln (x.toInt.toNat)).toInt)) → (alw (x.toInt.toNat * 8 + y.toInt.toNat)) = alw ((x.toInt.toNat) * 8 + y.toInt.toNat)) ∧ ((((0 ≤ x.toInt ∧ x.toInt < ((an : Nat) : Int)) ∧ ((ast (x.toInt.toNat)).toInt = 3 ∨ (ast (x.toInt.toNat)).toInt = 4)) ∧ ¬ (0 ≤ y.toInt ∧ y.toInt < (aln (x.toInt.toNat)).toInt)) → (alw (x.toInt.toNat * 8 + y.toInt.toNat)) = -1) := by
        refine ⟨fun h9 => ?_, fun h9 => ?_, fun h9 => ?_⟩ <;> first | (exfalso; omega) | (first | assumption | rfl)
      exact W.iret (v := alw (x.toInt.toNat * 8 + y.toInt.toNat)) hx hb hr (fun t9 ht hW => ⟨_, rfl, hpost, by rw [ht]⟩) (fun q h => by cases h) dX12_line_46
  · skip
    refine lv_bipush (v := (-2)) hx hb dX12_line_8 (by decide) ?_
    refine lv_goto (tgt := 46) hx hb dX12_line_10 (by decide) ?_
    subst hQ
    have hpost : ((¬ ((0 ≤ x.toInt ∧ x.toInt < ((an : Nat) : Int)) ∧ ((ast (x.toInt.toNat)).toInt = 3 ∨ (ast (x.toInt.toNat)).toInt = 4))) → ((-2) : Int32) = -2) ∧ ((((0 ≤ x.toInt ∧ x.toInt < ((an : Nat) : Int)) ∧ ((ast (x.toInt.toNat)).toInt = 3 ∨ (ast (x.toInt.toNat)).toInt = 4)) ∧ (0 ≤ y.toInt ∧ y.toInt < (aln (x.toInt.toNat)).toInt)) → ((-2) : Int32) = alw ((x.toInt.toNat) * 8 + y.toInt.toNat)) ∧ ((((0 ≤ x.toInt ∧ x.toInt < ((an : Nat) : Int)) ∧ ((ast (x.toInt.toNat)).toInt = 3 ∨ (ast (x.toInt.toNat)).toInt = 4)) ∧ ¬ (0 ≤ y.toInt ∧ y.toInt < (aln (x.toInt.toNat)).toInt)) → ((-2) : Int32) = -1) := by
      refine ⟨fun h9 => ?_, fun h9 => ?_, fun h9 => ?_⟩ <;> first | (exfalso; omega) | (first | assumption | rfl)
    exact W.iret (v := (-2)) hx hb hr (fun t9 ht hW => ⟨_, rfl, hpost, by rw [ht]⟩) (fun q h => by cases h) dX12_line_46

set_option maxHeartbeats 4000000 in
set_option maxRecDepth 100000 in
theorem c_X12_wide (l : Launch) (dC : Nat → ClassId) (dI : Nat → Nat → Nat) (cy : Nat → ClassId) (am : Nat → Nat) (tn : Nat) (zsz : Nat) (zfr : Nat) (zbe : Nat) (zha : Int32) (zva : Int32) (fk : Int32) (fp : Int32) (sn : Nat) (pn : Nat) (qn : Nat) (zss : Int32) (zsy : Int32) (zpy : Int32) (zfs : Int32) (zls : Int32) (an : Nat) (zw : Nat) (ast : Nat → Int32) (aln : Nat → Int32) (alx : Nat → Int32) (x : Int32) (y : Int32) (han : an ≤ 40) (haln : ∀ k, k < an → (aln k).toInt ≤ 8) (halm : ∀ k, k < an → -1 ≤ (aln k).toInt) : Met l yX12_wide wsX12_wide ({ frames := 3, cells := 0, slots := 0, locals := 67 }) (va_Pc [.ref (am 0), .int x, .int y] (fun U => va_P (dC, dI) vwCl [(am 0, .inr (12, [.ref (am 1), .ref (am 2), .ref (am 3), .ref (am 4), .int (nI tn), .int (nI zsz), .int (nI zfr), .int (nI zbe), .int zha, .int zva, .int fk, .int fp, .ref (am 13), .int (nI sn), .ref (am 15), .ref (am 16), .ref (am 17), .ref (am 18), .ref (am 19), .int (nI pn), .int (nI qn), .ref (am 22), .ref (am 23), .ref (am 24), .ref (am 25), .ref (am 26), .ref (am 27), .ref (am 28), .ref (am 29), .ref (am 30), .ref (am 31), .ref (am 32), .ref (am 33), .ref (am 34), .int zss, .int zsy, .int zpy, .int zfs, .int zls, .int (nI an), .ref (am 41), .ref (am 42), .ref (am 43), .ref (am 44), .ref (am 45), .ref (am 46), .ref (am 47), .ref (am 48), .ref (am 49), .ref (am 50), .int (nI zw), .ref (am 52), .ref (am 53)])), (am 44, .inl (cy 0, 40, .inl ast)), (am 48, .inl (cy 0, 40, .inl aln)), (am 50, .inl (cy 0, 320, .inl alx))] U.heap ∧ va_K (dC, dI) vwCl (tyL cy) U)) (vp_Si (fun r => ((¬ ((0 ≤ x.toInt ∧ x.toInt < ((an : Nat) : Int)) ∧ ((ast (x.toInt.toNat)).toInt = 3 ∨ (ast (x.toInt.toNat)).toInt = 4))) → r = -2) ∧ ((((0 ≤ x.toInt ∧ x.toInt < ((an : Nat) : Int)) ∧ ((ast (x.toInt.toNat)).toInt = 3 ∨ (ast (x.toInt.toNat)).toInt = 4)) ∧ (0 ≤ y.toInt ∧ y.toInt < (aln (x.toInt.toNat)).toInt)) → r = alx ((x.toInt.toNat) * 8 + y.toInt.toNat)) ∧ ((((0 ≤ x.toInt ∧ x.toInt < ((an : Nat) : Int)) ∧ ((ast (x.toInt.toNat)).toInt = 3 ∨ (ast (x.toInt.toNat)).toInt = 4)) ∧ ¬ (0 ≤ y.toInt ∧ y.toInt < (aln (x.toInt.toNat)).toInt)) → r = -1))) 0 0 (fun _ => False) := by
  refine Met.ofW (cc := cX12_wide) (maxL := 3) (ret := (some .int)) (by decide) rfl ?_
  intro pp ee ss mm args below meth cc0 s₁ B hml hv
  obtain ⟨rfl, hP, hK⟩ := hv
  have hx := B.exec
  have hb := B.bytes
  have hr := B.returns
  have hts := atoms_spec (ws := wsX12_wide) B.pre
  have hown : ss.vm.findClass RX12 = some mm.cls := findClass_of_methodNamed B.named
  have hlocks := B.notSynchronized
  have hL0 := hts (.fieldLink RX12 200 "HereLivedModel" "lineMany" "[I") (by decide +kernel)
  have hL1 := hts (.fieldLink RX12 206 "HereLivedModel" "lineWidth" "[I") (by decide +kernel)
  have hiX12 : ∀ w ∈ wsX120, w ∈ wsX12_wide := by decide +kernel
  have hl := lv_entry ([.ref (am 0), .int x, .int y]) (n := 3) (Nat.le_of_ble_eq_true rfl)
  rw [lg_entry_eq]
  generalize (lg_sl ([.ref (am 0), .int x, .int y]) ++ List.replicate (3 - (lg_sl ([.ref (am 0), .int x, .int y])).length) Slot.unset).toArray = ls at hl ⊢
  have hl : lv_has ls 3 [(0, .ref (am 0)), (1, .int x), (2, .int y)] := hl
  refine bw_Q (fun Q hQ => ?_)
  change W pp l ee { frames := 3, cells := 0, slots := 0, locals := 67 } ss mm _ below meth cc0 ss.heap [] 0 0 Q (F0 mm 0 ls [])
  refine lv_aload_n hx hb dX12_wide_0 rfl (lv_at hl 0 rfl) ?_
  refine lv_iload_n hx hb dX12_wide_1 rfl (lv_at hl 1 rfl) ?_
  have hPc : va_P (dC, dI) vwCl [(am 0, .inr (12, [.ref (am 1), .ref (am 2), .ref (am 3), .ref (am 4), .int (nI tn), .int (nI zsz), .int (nI zfr), .int (nI zbe), .int zha, .int zva, .int fk, .int fp, .ref (am 13), .int (nI sn), .ref (am 15), .ref (am 16), .ref (am 17), .ref (am 18), .ref (am 19), .int (nI pn), .int (nI qn), .ref (am 22), .ref (am 23), .ref (am 24), .ref (am 25), .ref (am 26), .ref (am 27), .ref (am 28), .ref (am 29), .ref (am 30), .ref (am 31), .ref (am 32), .ref (am 33), .ref (am 34), .int zss, .int zsy, .int zpy, .int zfs, .int zls, .int (nI an), .ref (am 41), .ref (am 42), .ref (am 43), .ref (am 44), .ref (am 45), .ref (am 46), .ref (am 47), .ref (am 48), .ref (am 49), .ref (am 50), .int (nI zw), .ref (am 52), .ref (am 53)])), (am 44, .inl (cy 0, 40, .inl ast))] ss.heap := hP.sub [0, 1] rfl
  refine vp_callSi (va_Run.run (va_runV (As := [.int x]) (rest := []) ⟨hx, hb, hml, hown, hts⟩ (c_X12_isPlaque l dC dI cy am tn zsz zfr zbe zha zva fk fp sn pn qn zss zsy zpy zfs zls an zw ast x (by first | assumption | omega)) (cwV 1 hts gX12_wide_X12_isPlaque rfl rfl rfl (by decide +kernel) ⟨Nat.le_of_ble_eq_true rfl, Nat.le_of_ble_eq_true rfl⟩) ⟨fun a U g mk q => by obtain ⟨q0, qP, qK⟩ := q; exact ⟨q0, qP, va_K.moved (u := U) (U := U.calling g mk a) (Vm.Alike.refl U.vm) qK⟩, va_recv hK hPc (ci := 12) (q0 := 0) rfl rfl, fun U hU hW => ⟨rfl, by rw [hU]; exact hPc, va_K.moved hW.alike hK⟩⟩ rfl rfl hl.1 rfl (lv_room (Nat.le_of_ble_eq_true rfl)) dX12_wide_2 ⟨Nat.le_of_ble_eq_true rfl, Nat.le_of_ble_eq_true rfl⟩)) (fun r_1 hr_1 => ?_)
  refine bw_ifneB (tgt := 13) hx hb dX12_wide_5 (by decide) hr_1 (fun c_2 => ?_) (fun c_2 => ?_)
  · skip
    have q9 := haln x.toInt.toNat (by omega)
    have q8 := halm x.toInt.toNat (by omega)
    refine lv_iload_n hx hb dX12_wide_13 rfl (lv_at hl 2 rfl) ?_
    refine lv_i2l hx hb dX12_wide_14 rfl ?_
    refine bw_nmL (a := y.toInt) (tI_i2l rfl) (fun w_3 ew_3 tw_3 => ?_)
    refine lv_lconst (v := 0) hx hb dX12_wide_15 (by decide) ?_
    refine lv_aload_n hx hb dX12_wide_16 rfl (lv_at hl 0 rfl) ?_
    refine va_get (D := (dC, dI)) (ci := 12) (v := .ref (am 48)) (C := RX12) (T := TX12) (N := 53) hx hb hts hiX12 hown hK hP 0 rfl rfl 47 (by decide) hL0 (fun _ h9 => h9) rfl dX12_wide_17 ?_
    refine lv_iload_n hx hb dX12_wide_20 rfl (lv_at hl 1 rfl) ?_
    refine bw_iald hx hb hK hP 2 0 rfl rfl (j := (x.toInt).toNat) (by omega) (by omega) dX12_wide_21 ?_
    refine lv_i2l hx hb dX12_wide_22 rfl ?_
    refine bw_nmL (a := (aln ((x.toInt).toNat)).toInt) (tI_i2l rfl) (fun w_4 ew_4 tw_4 => ?_)
    refine lv_lconst (v := 1) hx hb dX12_wide_23 (by decide) ?_
    refine lv_lsub hx hb dX12_wide_24 ?_
    refine bw_nmL (a := ((aln ((x.toInt).toNat)).toInt - 1)) (tL_sub tw_4 rfl (by omega) (by omega)) (fun w_5 ew_5 tw_5 => ?_)
    refine vp_callSi (va_Run.run (va_runS (As := [.long w_3, .long 0, .long w_5]) (rest := []) ⟨hx, hb, hml, hown, hts⟩ (c_X12_in l dC dI cy w_3 0 w_5 y.toInt 0 ((aln ((x.toInt).toNat)).toInt - 1) (tw_3) (rfl) (tw_5)) (va_cwS 3 hts gX12_wide_X12_in rfl rfl rfl (by decide +kernel) ⟨Nat.le_of_ble_eq_true rfl, Nat.le_of_ble_eq_true rfl⟩) ⟨fun a U g mk q => q, fun U hU hW => ⟨rfl, trivial⟩⟩ rfl rfl hl.1 rfl (lv_room (Nat.le_of_ble_eq_true rfl)) dX12_wide_25 ⟨Nat.le_of_ble_eq_true rfl, Nat.le_of_ble_eq_true rfl⟩)) (fun r_6 hr_6 => ?_)
    refine bw_ifeqB (tgt := 45) hx hb dX12_wide_28 (by decide) hr_6 (fun c_7 => ?_) (fun c_7 => ?_)
    · skip
      refine lv_iconst (v := (-1)) hx hb dX12_wide_45 (by decide) ?_
      subst hQ
      have hpost : ((¬ ((0 ≤ x.toInt ∧ x.toInt < ((an : Nat) : Int)) ∧ ((ast (x.toInt.toNat)).toInt = 3 ∨ (ast (x.toInt.toNat)).toInt = 4))) → ((-1) : Int32) = -2) ∧ ((((0 ≤ x.toInt ∧ x.toInt < ((an : Nat) : Int)) ∧ ((ast (x.toInt.toNat)).toInt = 3 ∨ (ast (x.toInt.toNat)).toInt = 4)) ∧ (0 ≤ y.toInt ∧ y.toInt < (aln (x.toInt.toNat)).toInt)) → ((-1) : Int32) = alx ((x.toInt.toNat) * 8 + y.toInt.toNat)) ∧ ((((0 ≤ x.toInt ∧ x.toInt < ((an : Nat) : Int)) ∧ ((ast (x.toInt.toNat)).toInt = 3 ∨ (ast (x.toInt.toNat)).toInt = 4)) ∧ ¬ (0 ≤ y.toInt ∧ y.toInt < (aln (x.toInt.toNat)).toInt)) → ((-1) : Int32) = -1) := by
        refine ⟨fun h9 => ?_, fun h9 => ?_, fun h9 => ?_⟩ <;> first | (exfalso; omega) | (first | assumption | rfl)
      exact W.iret (v := (-1)) hx hb hr (fun t9 ht hW => ⟨_, rfl, hpost, by rw [ht]⟩) (fun q h => by cases h) dX12_wide_46
    · skip
      refine lv_aload_n hx hb dX12_wide_31 rfl (lv_at hl 0 rfl) ?_
      refine va_get (D := (dC, dI)) (ci := 12) (v := .ref (am 50)) (C := RX12) (T := TX12) (N := 53) hx hb hts hiX12 hown hK hP 0 rfl rfl 49 (by decide) hL1 (fun _ h9 => h9) rfl dX12_wide_32 ?_
      refine lv_bipush (v := 8) hx hb dX12_wide_35 (by decide) ?_
      refine lv_iload_n hx hb dX12_wide_37 rfl (lv_at hl 1 rfl) ?_
      refine bw_re (show x = nI x.toInt.toNat from nI_back (by omega)) ?_
      refine lv_imul hx hb dX12_wide_38 ?_
      refine bw_re (show 8 * (nI x.toInt.toNat) = nI (8 * x.toInt.toNat) from pk_mul (8) (x.toInt.toNat)) ?_
      refine lv_iload_n hx hb dX12_wide_39 rfl (lv_at hl 2 rfl) ?_
      refine bw_re (show y = nI y.toInt.toNat from nI_back (by omega)) ?_
      refine lv_iadd hx hb dX12_wide_40 ?_
      refine bw_re (show (nI (8 * x.toInt.toNat)) + (nI y.toInt.toNat) = nI (8 * x.toInt.toNat + y.toInt.toNat) from nI_add (8 * x.toInt.toNat) (y.toInt.toNat)) ?_
      refine bw_iald hx hb hK hP 3 0 rfl rfl (j := (x.toInt.toNat * 8 + y.toInt.toNat)) ((nI_toInt (by omega)).trans (by omega)) (by omega) dX12_wide_41 ?_
      refine lv_goto (tgt := 46) hx hb dX12_wide_42 (by decide) ?_
      subst hQ
      have hpost : ((¬ ((0 ≤ x.toInt ∧ x.toInt < ((an : Nat) : Int)) ∧ ((ast (x.toInt.toNat)).toInt = 3 ∨ (ast (x.toInt.toNat)).toInt = 4))) → (alx (x.toInt.toNat * 8 + y.toInt.toNat)) = -2) ∧ ((((0 ≤ x.toInt ∧ x.toInt < ((an : Nat) : Int)) ∧ ((ast (x.toInt.toNat)).toInt = 3 ∨ (ast (x.toInt.toNat)).toInt = 4)) ∧ (0 ≤ y.toInt ∧ y.toInt < (aln (x.toInt.toNat)).toInt)) → (alx (x.toInt.toNat * 8 + y.toInt.toNat)) = alx ((x.toInt.toNat) * 8 + y.toInt.toNat)) ∧ ((((0 ≤ x.toInt ∧ x.toInt < ((an : Nat) : Int)) ∧ ((ast (x.toInt.toNat)).toInt = 3 ∨ (ast (x.toInt.toNat)).toInt = 4)) ∧ ¬ (0 ≤ y.toInt ∧ y.toInt < (aln (x.toInt.toNat)).toInt)) → (alx (x.toInt.toNat * 8 + y.toInt.toNat)) = -1) := by
        refine ⟨fun h9 => ?_, fun h9 => ?_, fun h9 => ?_⟩ <;> first | (exfalso; omega) | (first | assumption | rfl)
      exact W.iret (v := alx (x.toInt.toNat * 8 + y.toInt.toNat)) hx hb hr (fun t9 ht hW => ⟨_, rfl, hpost, by rw [ht]⟩) (fun q h => by cases h) dX12_wide_46
  · skip
    refine lv_bipush (v := (-2)) hx hb dX12_wide_8 (by decide) ?_
    refine lv_goto (tgt := 46) hx hb dX12_wide_10 (by decide) ?_
    subst hQ
    have hpost : ((¬ ((0 ≤ x.toInt ∧ x.toInt < ((an : Nat) : Int)) ∧ ((ast (x.toInt.toNat)).toInt = 3 ∨ (ast (x.toInt.toNat)).toInt = 4))) → ((-2) : Int32) = -2) ∧ ((((0 ≤ x.toInt ∧ x.toInt < ((an : Nat) : Int)) ∧ ((ast (x.toInt.toNat)).toInt = 3 ∨ (ast (x.toInt.toNat)).toInt = 4)) ∧ (0 ≤ y.toInt ∧ y.toInt < (aln (x.toInt.toNat)).toInt)) → ((-2) : Int32) = alx ((x.toInt.toNat) * 8 + y.toInt.toNat)) ∧ ((((0 ≤ x.toInt ∧ x.toInt < ((an : Nat) : Int)) ∧ ((ast (x.toInt.toNat)).toInt = 3 ∨ (ast (x.toInt.toNat)).toInt = 4)) ∧ ¬ (0 ≤ y.toInt ∧ y.toInt < (aln (x.toInt.toNat)).toInt)) → ((-2) : Int32) = -1) := by
      refine ⟨fun h9 => ?_, fun h9 => ?_, fun h9 => ?_⟩ <;> first | (exfalso; omega) | (first | assumption | rfl)
    exact W.iret (v := (-2)) hx hb hr (fun t9 ht hW => ⟨_, rfl, hpost, by rw [ht]⟩) (fun q h => by cases h) dX12_wide_46
